set_option maxRecDepth 20000 in
theorem db_X8_close_0 : (decode cX8_close 0 = .ok (.aload_n 0, 1)) ∧ (decode cX8_close 1 = .ok (.iload_n 1, 1)) ∧ (decode cX8_close 2 = .ok (.invokevirtual 50, 3)) ∧ (decode cX8_close 5 = .ok (.ifCond .ne 5, 3)) ∧ (decode cX8_close 10 = .ok (.aload_n 0, 1)) ∧ (decode cX8_close 11 = .ok (.getfield 7, 3)) ∧ (decode cX8_close 14 = .ok (.iload_n 1, 1)) ∧ (decode cX8_close 15 = .ok (.iconst 2, 1)) := by decide +kernel
theorem dX8_close_0 : decode cX8_close 0 = .ok (.aload_n 0, 1) := db_X8_close_0.1
theorem dX8_close_1 : decode cX8_close 1 = .ok (.iload_n 1, 1) := db_X8_close_0.2.1
set_option maxRecDepth 20000 in
theorem ggX8_close_X8_isCase : GoodIn wsX8_close wsX8_isCase := goodIn_r _ [6, 1, 7, 8, 5, 9, 13, 14, 15, 16, 17, 18, 19, 20, 21, 22, 23] rfl (by decide +kernel)
set_option maxRecDepth 20000 in
theorem gX8_close_X8_isCase : GoodIn wsX8_close (wsV RX8 50 RX8 yX8_isCase wsX8_isCase) := goodIn_app (goodIn_r _ [2, 3, 4, 5] rfl (by decide +kernel)) ggX8_close_X8_isCase
theorem dX8_close_2 : decode cX8_close 2 = .ok (.invokevirtual 50, 3) := db_X8_close_0.2.2.1
theorem dX8_close_5 : decode cX8_close 5 = .ok (.ifCond .ne 5, 3) := db_X8_close_0.2.2.2.1
theorem dX8_close_10 : decode cX8_close 10 = .ok (.aload_n 0, 1) := db_X8_close_0.2.2.2.2.1
theorem dX8_close_11 : decode cX8_close 11 = .ok (.getfield 7, 3) := db_X8_close_0.2.2.2.2.2.1
theorem dX8_close_14 : decode cX8_close 14 = .ok (.iload_n 1, 1) := db_X8_close_0.2.2.2.2.2.2.1
theorem dX8_close_15 : decode cX8_close 15 = .ok (.iconst 2, 1) := db_X8_close_0.2.2.2.2.2.2.2
set_option maxRecDepth 20000 in
theorem ggX8_close_X8_at : GoodIn wsX8_close wsX8_at := goodIn_r _ [12] rfl (by decide +kernel)
set_option maxRecDepth 20000 in
theorem gX8_close_X8_at : GoodIn wsX8_close (va_wsS RX8 46 yX8_at wsX8_at) := goodIn_app (goodIn_r _ [10, 11, 5] rfl (by decide +kernel)) ggX8_close_X8_at
set_option maxRecDepth 20000 in
theorem db_X8_close_16 : (decode cX8_close 16 = .ok (.invokestatic 46, 3)) ∧ (decode cX8_close 19 = .ok (.iaload, 1)) ∧ (decode cX8_close 20 = .ok (.ifCond .eq 6, 3)) ∧ (decode cX8_close 26 = .ok (.aload_n 0, 1)) ∧ (decode cX8_close 27 = .ok (.getfield 7, 3)) ∧ (decode cX8_close 30 = .ok (.iload_n 1, 1)) ∧ (decode cX8_close 31 = .ok (.iconst 2, 1)) ∧ (decode cX8_close 32 = .ok (.invokestatic 46, 3)) := by decide +kernel
theorem dX8_close_16 : decode cX8_close 16 = .ok (.invokestatic 46, 3) := db_X8_close_16.1
theorem dX8_close_19 : decode cX8_close 19 = .ok (.iaload, 1) := db_X8_close_16.2.1
theorem dX8_close_20 : decode cX8_close 20 = .ok (.ifCond .eq 6, 3) := db_X8_close_16.2.2.1
theorem dX8_close_26 : decode cX8_close 26 = .ok (.aload_n 0, 1) := db_X8_close_16.2.2.2.1
theorem dX8_close_27 : decode cX8_close 27 = .ok (.getfield 7, 3) := db_X8_close_16.2.2.2.2.1
theorem dX8_close_30 : decode cX8_close 30 = .ok (.iload_n 1, 1) := db_X8_close_16.2.2.2.2.2.1
theorem dX8_close_31 : decode cX8_close 31 = .ok (.iconst 2, 1) := db_X8_close_16.2.2.2.2.2.2.1
theorem dX8_close_32 : decode cX8_close 32 = .ok (.invokestatic 46, 3) := db_X8_close_16.2.2.2.2.2.2.2
set_option maxRecDepth 20000 in
theorem db_X8_close_35 : (decode cX8_close 35 = .ok (.iconst 2, 1)) ∧ (decode cX8_close 36 = .ok (.iastore, 1)) ∧ (decode cX8_close 37 = .ok (.iconst 1, 1)) ∧ (decode cX8_close 38 = .ok (.ireturn, 1)) ∧ (decode cX8_close 23 = .ok (.bipush (-4), 2)) ∧ (decode cX8_close 25 = .ok (.ireturn, 1)) ∧ (decode cX8_close 8 = .ok (.iconst (-1), 1)) ∧ (decode cX8_close 9 = .ok (.ireturn, 1)) := by decide +kernel
theorem dX8_close_35 : decode cX8_close 35 = .ok (.iconst 2, 1) := db_X8_close_35.1
theorem dX8_close_36 : decode cX8_close 36 = .ok (.iastore, 1) := db_X8_close_35.2.1
theorem dX8_close_37 : decode cX8_close 37 = .ok (.iconst 1, 1) := db_X8_close_35.2.2.1
theorem dX8_close_38 : decode cX8_close 38 = .ok (.ireturn, 1) := db_X8_close_35.2.2.2.1
theorem dX8_close_23 : decode cX8_close 23 = .ok (.bipush (-4), 2) := db_X8_close_35.2.2.2.2.1
theorem dX8_close_25 : decode cX8_close 25 = .ok (.ireturn, 1) := db_X8_close_35.2.2.2.2.2.1
theorem dX8_close_8 : decode cX8_close 8 = .ok (.iconst (-1), 1) := db_X8_close_35.2.2.2.2.2.2.1
theorem dX8_close_9 : decode cX8_close 9 = .ok (.ireturn, 1) := db_X8_close_35.2.2.2.2.2.2.2
set_option maxRecDepth 20000 in
theorem db_X8_weight_0 : (decode cX8_weight 0 = .ok (.aload_n 0, 1)) ∧ (decode cX8_weight 1 = .ok (.iload_n 1, 1)) ∧ (decode cX8_weight 2 = .ok (.invokevirtual 50, 3)) ∧ (decode cX8_weight 5 = .ok (.ifCond .eq 13, 3)) ∧ (decode cX8_weight 8 = .ok (.iload_n 2, 1)) ∧ (decode cX8_weight 9 = .ok (.iconst 1, 1)) ∧ (decode cX8_weight 10 = .ok (.bipush 9, 2)) ∧ (decode cX8_weight 12 = .ok (.invokestatic 35, 3)) := by decide +kernel
theorem dX8_weight_0 : decode cX8_weight 0 = .ok (.aload_n 0, 1) := db_X8_weight_0.1
theorem dX8_weight_1 : decode cX8_weight 1 = .ok (.iload_n 1, 1) := db_X8_weight_0.2.1
set_option maxRecDepth 20000 in
theorem ggX8_weight_X8_isCase : GoodIn wsX8_weight wsX8_isCase := goodIn_r _ [6, 1, 7, 8, 5, 9, 13, 14, 15, 16, 17, 18, 19, 20, 21, 22, 23] rfl (by decide +kernel)
set_option maxRecDepth 20000 in
theorem gX8_weight_X8_isCase : GoodIn wsX8_weight (wsV RX8 50 RX8 yX8_isCase wsX8_isCase) := goodIn_app (goodIn_r _ [2, 3, 4, 5] rfl (by decide +kernel)) ggX8_weight_X8_isCase
theorem dX8_weight_2 : decode cX8_weight 2 = .ok (.invokevirtual 50, 3) := db_X8_weight_0.2.2.1
theorem dX8_weight_5 : decode cX8_weight 5 = .ok (.ifCond .eq 13, 3) := db_X8_weight_0.2.2.2.1
theorem dX8_weight_8 : decode cX8_weight 8 = .ok (.iload_n 2, 1) := db_X8_weight_0.2.2.2.2.1
theorem dX8_weight_9 : decode cX8_weight 9 = .ok (.iconst 1, 1) := db_X8_weight_0.2.2.2.2.2.1
theorem dX8_weight_10 : decode cX8_weight 10 = .ok (.bipush 9, 2) := db_X8_weight_0.2.2.2.2.2.2.1
set_option maxRecDepth 20000 in
theorem ggX8_weight_X8_in : GoodIn wsX8_weight wsX8_in := goodIn_r _ [9] rfl (by decide +kernel)
set_option maxRecDepth 20000 in
theorem gX8_weight_X8_in : GoodIn wsX8_weight (va_wsS RX8 35 yX8_in wsX8_in) := goodIn_app (goodIn_r _ [7, 8, 5] rfl (by decide +kernel)) ggX8_weight_X8_in
theorem dX8_weight_12 : decode cX8_weight 12 = .ok (.invokestatic 35, 3) := db_X8_weight_0.2.2.2.2.2.2.2
set_option maxRecDepth 20000 in
theorem db_X8_weight_15 : (decode cX8_weight 15 = .ok (.ifCond .ne 5, 3)) ∧ (decode cX8_weight 20 = .ok (.aload_n 0, 1)) ∧ (decode cX8_weight 21 = .ok (.getfield 7, 3)) ∧ (decode cX8_weight 24 = .ok (.iload_n 1, 1)) ∧ (decode cX8_weight 25 = .ok (.iconst 5, 1)) ∧ (decode cX8_weight 26 = .ok (.invokestatic 46, 3)) ∧ (decode cX8_weight 29 = .ok (.iaload, 1)) ∧ (decode cX8_weight 30 = .ok (.istore_n 3, 1)) := by decide +kernel
theorem dX8_weight_15 : decode cX8_weight 15 = .ok (.ifCond .ne 5, 3) := db_X8_weight_15.1
theorem dX8_weight_20 : decode cX8_weight 20 = .ok (.aload_n 0, 1) := db_X8_weight_15.2.1
theorem dX8_weight_21 : decode cX8_weight 21 = .ok (.getfield 7, 3) := db_X8_weight_15.2.2.1
theorem dX8_weight_24 : decode cX8_weight 24 = .ok (.iload_n 1, 1) := db_X8_weight_15.2.2.2.1
theorem dX8_weight_25 : decode cX8_weight 25 = .ok (.iconst 5, 1) := db_X8_weight_15.2.2.2.2.1
set_option maxRecDepth 20000 in
theorem ggX8_weight_X8_at : GoodIn wsX8_weight wsX8_at := goodIn_r _ [12] rfl (by decide +kernel)
set_option maxRecDepth 20000 in
theorem gX8_weight_X8_at : GoodIn wsX8_weight (va_wsS RX8 46 yX8_at wsX8_at) := goodIn_app (goodIn_r _ [10, 11, 5] rfl (by decide +kernel)) ggX8_weight_X8_at
theorem dX8_weight_26 : decode cX8_weight 26 = .ok (.invokestatic 46, 3) := db_X8_weight_15.2.2.2.2.2.1
theorem dX8_weight_29 : decode cX8_weight 29 = .ok (.iaload, 1) := db_X8_weight_15.2.2.2.2.2.2.1
theorem dX8_weight_30 : decode cX8_weight 30 = .ok (.istore_n 3, 1) := db_X8_weight_15.2.2.2.2.2.2.2
set_option maxRecDepth 20000 in
theorem db_X8_weight_31 : (decode cX8_weight 31 = .ok (.aload_n 0, 1)) ∧ (decode cX8_weight 32 = .ok (.getfield 7, 3)) ∧ (decode cX8_weight 35 = .ok (.iload_n 1, 1)) ∧ (decode cX8_weight 36 = .ok (.iconst 5, 1)) ∧ (decode cX8_weight 37 = .ok (.invokestatic 46, 3)) ∧ (decode cX8_weight 40 = .ok (.iload_n 2, 1)) ∧ (decode cX8_weight 41 = .ok (.iastore, 1)) ∧ (decode cX8_weight 42 = .ok (.iload_n 3, 1)) := by decide +kernel
theorem dX8_weight_31 : decode cX8_weight 31 = .ok (.aload_n 0, 1) := db_X8_weight_31.1
theorem dX8_weight_32 : decode cX8_weight 32 = .ok (.getfield 7, 3) := db_X8_weight_31.2.1
theorem dX8_weight_35 : decode cX8_weight 35 = .ok (.iload_n 1, 1) := db_X8_weight_31.2.2.1
theorem dX8_weight_36 : decode cX8_weight 36 = .ok (.iconst 5, 1) := db_X8_weight_31.2.2.2.1
theorem dX8_weight_37 : decode cX8_weight 37 = .ok (.invokestatic 46, 3) := db_X8_weight_31.2.2.2.2.1
theorem dX8_weight_40 : decode cX8_weight 40 = .ok (.iload_n 2, 1) := db_X8_weight_31.2.2.2.2.2.1
theorem dX8_weight_41 : decode cX8_weight 41 = .ok (.iastore, 1) := db_X8_weight_31.2.2.2.2.2.2.1
theorem dX8_weight_42 : decode cX8_weight 42 = .ok (.iload_n 3, 1) := db_X8_weight_31.2.2.2.2.2.2.2
set_option maxRecDepth 20000 in
theorem db_X8_weight_43 : (decode cX8_weight 43 = .ok (.ireturn, 1)) ∧ (decode cX8_weight 18 = .ok (.iconst (-1), 1)) ∧ (decode cX8_weight 19 = .ok (.ireturn, 1)) := by decide +kernel
theorem dX8_weight_43 : decode cX8_weight 43 = .ok (.ireturn, 1) := db_X8_weight_43.1
theorem dX8_weight_18 : decode cX8_weight 18 = .ok (.iconst (-1), 1) := db_X8_weight_43.2.1
theorem dX8_weight_19 : decode cX8_weight 19 = .ok (.ireturn, 1) := db_X8_weight_43.2.2
set_option maxRecDepth 20000 in
theorem db_X8_strike_0 : (decode cX8_strike 0 = .ok (.aload_n 0, 1)) ∧ (decode cX8_strike 1 = .ok (.iload_n 1, 1)) ∧ (decode cX8_strike 2 = .ok (.invokevirtual 50, 3)) ∧ (decode cX8_strike 5 = .ok (.ifCond .ne 5, 3)) ∧ (decode cX8_strike 10 = .ok (.aload_n 0, 1)) ∧ (decode cX8_strike 11 = .ok (.getfield 7, 3)) ∧ (decode cX8_strike 14 = .ok (.iload_n 1, 1)) ∧ (decode cX8_strike 15 = .ok (.bipush 6, 2)) := by decide +kernel
theorem dX8_strike_0 : decode cX8_strike 0 = .ok (.aload_n 0, 1) := db_X8_strike_0.1
theorem dX8_strike_1 : decode cX8_strike 1 = .ok (.iload_n 1, 1) := db_X8_strike_0.2.1
set_option maxRecDepth 20000 in
theorem ggX8_strike_X8_isCase : GoodIn wsX8_strike wsX8_isCase := goodIn_r _ [6, 1, 7, 8, 5, 9, 13, 14, 15, 16, 17, 18, 19, 20, 21, 22, 23] rfl (by decide +kernel)
set_option maxRecDepth 20000 in
theorem gX8_strike_X8_isCase : GoodIn wsX8_strike (wsV RX8 50 RX8 yX8_isCase wsX8_isCase) := goodIn_app (goodIn_r _ [2, 3, 4, 5] rfl (by decide +kernel)) ggX8_strike_X8_isCase
theorem dX8_strike_2 : decode cX8_strike 2 = .ok (.invokevirtual 50, 3) := db_X8_strike_0.2.2.1
theorem dX8_strike_5 : decode cX8_strike 5 = .ok (.ifCond .ne 5, 3) := db_X8_strike_0.2.2.2.1
theorem dX8_strike_10 : decode cX8_strike 10 = .ok (.aload_n 0, 1) := db_X8_strike_0.2.2.2.2.1
theorem dX8_strike_11 : decode cX8_strike 11 = .ok (.getfield 7, 3) := db_X8_strike_0.2.2.2.2.2.1
theorem dX8_strike_14 : decode cX8_strike 14 = .ok (.iload_n 1, 1) := db_X8_strike_0.2.2.2.2.2.2.1
theorem dX8_strike_15 : decode cX8_strike 15 = .ok (.bipush 6, 2) := db_X8_strike_0.2.2.2.2.2.2.2
set_option maxRecDepth 20000 in
theorem ggX8_strike_X8_at : GoodIn wsX8_strike wsX8_at := goodIn_r _ [12] rfl (by decide +kernel)
set_option maxRecDepth 20000 in
theorem gX8_strike_X8_at : GoodIn wsX8_strike (va_wsS RX8 46 yX8_at wsX8_at) := goodIn_app (goodIn_r _ [10, 11, 5] rfl (by decide +kernel)) ggX8_strike_X8_at
set_option maxRecDepth 20000 in
theorem db_X8_strike_17 : (decode cX8_strike 17 = .ok (.invokestatic 46, 3)) ∧ (decode cX8_strike 20 = .ok (.iaload, 1)) ∧ (decode cX8_strike 21 = .ok (.ifCond .ne 6, 3)) ∧ (decode cX8_strike 27 = .ok (.aload_n 0, 1)) ∧ (decode cX8_strike 28 = .ok (.getfield 7, 3)) ∧ (decode cX8_strike 31 = .ok (.iload_n 1, 1)) ∧ (decode cX8_strike 32 = .ok (.bipush 6, 2)) ∧ (decode cX8_strike 34 = .ok (.invokestatic 46, 3)) := by decide +kernel
theorem dX8_strike_17 : decode cX8_strike 17 = .ok (.invokestatic 46, 3) := db_X8_strike_17.1
theorem dX8_strike_20 : decode cX8_strike 20 = .ok (.iaload, 1) := db_X8_strike_17.2.1
theorem dX8_strike_21 : decode cX8_strike 21 = .ok (.ifCond .ne 6, 3) := db_X8_strike_17.2.2.1
theorem dX8_strike_27 : decode cX8_strike 27 = .ok (.aload_n 0, 1) := db_X8_strike_17.2.2.2.1
theorem dX8_strike_28 : decode cX8_strike 28 = .ok (.getfield 7, 3) := db_X8_strike_17.2.2.2.2.1
theorem dX8_strike_31 : decode cX8_strike 31 = .ok (.iload_n 1, 1) := db_X8_strike_17.2.2.2.2.2.1
theorem dX8_strike_32 : decode cX8_strike 32 = .ok (.bipush 6, 2) := db_X8_strike_17.2.2.2.2.2.2.1
theorem dX8_strike_34 : decode cX8_strike 34 = .ok (.invokestatic 46, 3) := db_X8_strike_17.2.2.2.2.2.2.2
set_option maxRecDepth 20000 in
theorem db_X8_strike_37 : (decode cX8_strike 37 = .ok (.dup2, 1)) ∧ (decode cX8_strike 38 = .ok (.iaload, 1)) ∧ (decode cX8_strike 39 = .ok (.iconst 1, 1)) ∧ (decode cX8_strike 40 = .ok (.isub, 1)) ∧ (decode cX8_strike 41 = .ok (.iastore, 1)) ∧ (decode cX8_strike 42 = .ok (.aload_n 0, 1)) ∧ (decode cX8_strike 43 = .ok (.getfield 7, 3)) ∧ (decode cX8_strike 46 = .ok (.iload_n 1, 1)) := by decide +kernel
theorem dX8_strike_37 : decode cX8_strike 37 = .ok (.dup2, 1) := db_X8_strike_37.1
theorem dX8_strike_38 : decode cX8_strike 38 = .ok (.iaload, 1) := db_X8_strike_37.2.1
theorem dX8_strike_39 : decode cX8_strike 39 = .ok (.iconst 1, 1) := db_X8_strike_37.2.2.1
theorem dX8_strike_40 : decode cX8_strike 40 = .ok (.isub, 1) := db_X8_strike_37.2.2.2.1
theorem dX8_strike_41 : decode cX8_strike 41 = .ok (.iastore, 1) := db_X8_strike_37.2.2.2.2.1
theorem dX8_strike_42 : decode cX8_strike 42 = .ok (.aload_n 0, 1) := db_X8_strike_37.2.2.2.2.2.1
theorem dX8_strike_43 : decode cX8_strike 43 = .ok (.getfield 7, 3) := db_X8_strike_37.2.2.2.2.2.2.1
theorem dX8_strike_46 : decode cX8_strike 46 = .ok (.iload_n 1, 1) := db_X8_strike_37.2.2.2.2.2.2.2
set_option maxRecDepth 20000 in
theorem db_X8_strike_47 : (decode cX8_strike 47 = .ok (.bipush 6, 2)) ∧ (decode cX8_strike 49 = .ok (.invokestatic 46, 3)) ∧ (decode cX8_strike 52 = .ok (.iaload, 1)) ∧ (decode cX8_strike 53 = .ok (.ireturn, 1)) ∧ (decode cX8_strike 24 = .ok (.bipush (-5), 2)) ∧ (decode cX8_strike 26 = .ok (.ireturn, 1)) ∧ (decode cX8_strike 8 = .ok (.iconst (-1), 1)) ∧ (decode cX8_strike 9 = .ok (.ireturn, 1)) := by decide +kernel
theorem dX8_strike_47 : decode cX8_strike 47 = .ok (.bipush 6, 2) := db_X8_strike_47.1
theorem dX8_strike_49 : decode cX8_strike 49 = .ok (.invokestatic 46, 3) := db_X8_strike_47.2.1
theorem dX8_strike_52 : decode cX8_strike 52 = .ok (.iaload, 1) := db_X8_strike_47.2.2.1
theorem dX8_strike_53 : decode cX8_strike 53 = .ok (.ireturn, 1) := db_X8_strike_47.2.2.2.1
theorem dX8_strike_24 : decode cX8_strike 24 = .ok (.bipush (-5), 2) := db_X8_strike_47.2.2.2.2.1
theorem dX8_strike_26 : decode cX8_strike 26 = .ok (.ireturn, 1) := db_X8_strike_47.2.2.2.2.2.1
theorem dX8_strike_8 : decode cX8_strike 8 = .ok (.iconst (-1), 1) := db_X8_strike_47.2.2.2.2.2.2.1
theorem dX8_strike_9 : decode cX8_strike 9 = .ok (.ireturn, 1) := db_X8_strike_47.2.2.2.2.2.2.2
set_option maxRecDepth 20000 in
theorem db_X8_log_0 : (decode cX8_log 0 = .ok (.aload_n 0, 1)) ∧ (decode cX8_log 1 = .ok (.iload_n 1, 1)) ∧ (decode cX8_log 2 = .ok (.invokevirtual 50, 3)) ∧ (decode cX8_log 5 = .ok (.ifCond .eq 31, 3)) ∧ (decode cX8_log 8 = .ok (.iload_n 2, 1)) ∧ (decode cX8_log 9 = .ok (.invokestatic 60, 3)) ∧ (decode cX8_log 12 = .ok (.ifCond .eq 24, 3)) ∧ (decode cX8_log 15 = .ok (.iload_n 3, 1)) := by decide +kernel
theorem dX8_log_0 : decode cX8_log 0 = .ok (.aload_n 0, 1) := db_X8_log_0.1
theorem dX8_log_1 : decode cX8_log 1 = .ok (.iload_n 1, 1) := db_X8_log_0.2.1
set_option maxRecDepth 20000 in
theorem ggX8_log_X8_isCase : GoodIn wsX8_log wsX8_isCase := goodIn_r _ [6, 1, 7, 8, 5, 9, 13, 14, 15, 16, 17, 18, 19, 20, 21, 22, 23] rfl (by decide +kernel)
set_option maxRecDepth 20000 in
theorem gX8_log_X8_isCase : GoodIn wsX8_log (wsV RX8 50 RX8 yX8_isCase wsX8_isCase) := goodIn_app (goodIn_r _ [2, 3, 4, 5] rfl (by decide +kernel)) ggX8_log_X8_isCase
theorem dX8_log_2 : decode cX8_log 2 = .ok (.invokevirtual 50, 3) := db_X8_log_0.2.2.1
theorem dX8_log_5 : decode cX8_log 5 = .ok (.ifCond .eq 31, 3) := db_X8_log_0.2.2.2.1
theorem dX8_log_8 : decode cX8_log 8 = .ok (.iload_n 2, 1) := db_X8_log_0.2.2.2.2.1
set_option maxRecDepth 20000 in
theorem ggX8_log_X8_isSide : GoodIn wsX8_log wsX8_isSide := goodIn_r _ [12, 7, 8, 5, 9] rfl (by decide +kernel)
set_option maxRecDepth 20000 in
theorem gX8_log_X8_isSide : GoodIn wsX8_log (va_wsS RX8 60 yX8_isSide wsX8_isSide) := goodIn_app (goodIn_r _ [10, 11, 5] rfl (by decide +kernel)) ggX8_log_X8_isSide
theorem dX8_log_9 : decode cX8_log 9 = .ok (.invokestatic 60, 3) := db_X8_log_0.2.2.2.2.2.1
theorem dX8_log_12 : decode cX8_log 12 = .ok (.ifCond .eq 24, 3) := db_X8_log_0.2.2.2.2.2.2.1
theorem dX8_log_15 : decode cX8_log 15 = .ok (.iload_n 3, 1) := db_X8_log_0.2.2.2.2.2.2.2
set_option maxRecDepth 20000 in
theorem db_X8_log_16 : (decode cX8_log 16 = .ok (.iconst 0, 1)) ∧ (decode cX8_log 17 = .ok (.bipush 23, 2)) ∧ (decode cX8_log 19 = .ok (.invokestatic 35, 3)) ∧ (decode cX8_log 22 = .ok (.ifCond .eq 14, 3)) ∧ (decode cX8_log 25 = .ok (.iload 4, 2)) ∧ (decode cX8_log 27 = .ok (.iconst 0, 1)) ∧ (decode cX8_log 28 = .ok (.bipush 7, 2)) ∧ (decode cX8_log 30 = .ok (.invokestatic 35, 3)) := by decide +kernel
theorem dX8_log_16 : decode cX8_log 16 = .ok (.iconst 0, 1) := db_X8_log_16.1
theorem dX8_log_17 : decode cX8_log 17 = .ok (.bipush 23, 2) := db_X8_log_16.2.1
set_option maxRecDepth 20000 in
theorem ggX8_log_X8_in : GoodIn wsX8_log wsX8_in := goodIn_r _ [9] rfl (by decide +kernel)
set_option maxRecDepth 20000 in
theorem gX8_log_X8_in : GoodIn wsX8_log (va_wsS RX8 35 yX8_in wsX8_in) := goodIn_app (goodIn_r _ [7, 8, 5] rfl (by decide +kernel)) ggX8_log_X8_in
theorem dX8_log_19 : decode cX8_log 19 = .ok (.invokestatic 35, 3) := db_X8_log_16.2.2.1
theorem dX8_log_22 : decode cX8_log 22 = .ok (.ifCond .eq 14, 3) := db_X8_log_16.2.2.2.1
theorem dX8_log_25 : decode cX8_log 25 = .ok (.iload 4, 2) := db_X8_log_16.2.2.2.2.1
theorem dX8_log_27 : decode cX8_log 27 = .ok (.iconst 0, 1) := db_X8_log_16.2.2.2.2.2.1
theorem dX8_log_28 : decode cX8_log 28 = .ok (.bipush 7, 2) := db_X8_log_16.2.2.2.2.2.2.1
theorem dX8_log_30 : decode cX8_log 30 = .ok (.invokestatic 35, 3) := db_X8_log_16.2.2.2.2.2.2.2
set_option maxRecDepth 20000 in
theorem db_X8_log_33 : (decode cX8_log 33 = .ok (.ifCond .ne 5, 3)) ∧ (decode cX8_log 38 = .ok (.sipush 308, 3)) ∧ (decode cX8_log 41 = .ok (.bipush 24, 2)) ∧ (decode cX8_log 43 = .ok (.iconst 2, 1)) ∧ (decode cX8_log 44 = .ok (.iload_n 1, 1)) ∧ (decode cX8_log 45 = .ok (.imul, 1)) ∧ (decode cX8_log 46 = .ok (.iload_n 2, 1)) ∧ (decode cX8_log 47 = .ok (.iadd, 1)) := by decide +kernel
theorem dX8_log_33 : decode cX8_log 33 = .ok (.ifCond .ne 5, 3) := db_X8_log_33.1
theorem dX8_log_38 : decode cX8_log 38 = .ok (.sipush 308, 3) := db_X8_log_33.2.1
theorem dX8_log_41 : decode cX8_log 41 = .ok (.bipush 24, 2) := db_X8_log_33.2.2.1
theorem dX8_log_43 : decode cX8_log 43 = .ok (.iconst 2, 1) := db_X8_log_33.2.2.2.1
theorem dX8_log_44 : decode cX8_log 44 = .ok (.iload_n 1, 1) := db_X8_log_33.2.2.2.2.1
theorem dX8_log_45 : decode cX8_log 45 = .ok (.imul, 1) := db_X8_log_33.2.2.2.2.2.1
theorem dX8_log_46 : decode cX8_log 46 = .ok (.iload_n 2, 1) := db_X8_log_33.2.2.2.2.2.2.1
theorem dX8_log_47 : decode cX8_log 47 = .ok (.iadd, 1) := db_X8_log_33.2.2.2.2.2.2.2
set_option maxRecDepth 20000 in
theorem db_X8_log_48 : (decode cX8_log 48 = .ok (.imul, 1)) ∧ (decode cX8_log 49 = .ok (.iadd, 1)) ∧ (decode cX8_log 50 = .ok (.iload_n 3, 1)) ∧ (decode cX8_log 51 = .ok (.iadd, 1)) ∧ (decode cX8_log 52 = .ok (.istore 5, 2)) ∧ (decode cX8_log 54 = .ok (.aload_n 0, 1)) ∧ (decode cX8_log 55 = .ok (.getfield 7, 3)) ∧ (decode cX8_log 58 = .ok (.iload 5, 2)) := by decide +kernel
theorem dX8_log_48 : decode cX8_log 48 = .ok (.imul, 1) := db_X8_log_48.1
theorem dX8_log_49 : decode cX8_log 49 = .ok (.iadd, 1) := db_X8_log_48.2.1
theorem dX8_log_50 : decode cX8_log 50 = .ok (.iload_n 3, 1) := db_X8_log_48.2.2.1
theorem dX8_log_51 : decode cX8_log 51 = .ok (.iadd, 1) := db_X8_log_48.2.2.2.1
theorem dX8_log_52 : decode cX8_log 52 = .ok (.istore 5, 2) := db_X8_log_48.2.2.2.2.1
theorem dX8_log_54 : decode cX8_log 54 = .ok (.aload_n 0, 1) := db_X8_log_48.2.2.2.2.2.1
theorem dX8_log_55 : decode cX8_log 55 = .ok (.getfield 7, 3) := db_X8_log_48.2.2.2.2.2.2.1
theorem dX8_log_58 : decode cX8_log 58 = .ok (.iload 5, 2) := db_X8_log_48.2.2.2.2.2.2.2
set_option maxRecDepth 20000 in
theorem db_X8_log_60 : (decode cX8_log 60 = .ok (.iaload, 1)) ∧ (decode cX8_log 61 = .ok (.istore 6, 2)) ∧ (decode cX8_log 63 = .ok (.aload_n 0, 1)) ∧ (decode cX8_log 64 = .ok (.getfield 7, 3)) ∧ (decode cX8_log 67 = .ok (.iload 5, 2)) ∧ (decode cX8_log 69 = .ok (.iload 4, 2)) ∧ (decode cX8_log 71 = .ok (.iastore, 1)) ∧ (decode cX8_log 72 = .ok (.iload 6, 2)) := by decide +kernel
theorem dX8_log_60 : decode cX8_log 60 = .ok (.iaload, 1) := db_X8_log_60.1
theorem dX8_log_61 : decode cX8_log 61 = .ok (.istore 6, 2) := db_X8_log_60.2.1
theorem dX8_log_63 : decode cX8_log 63 = .ok (.aload_n 0, 1) := db_X8_log_60.2.2.1
theorem dX8_log_64 : decode cX8_log 64 = .ok (.getfield 7, 3) := db_X8_log_60.2.2.2.1
theorem dX8_log_67 : decode cX8_log 67 = .ok (.iload 5, 2) := db_X8_log_60.2.2.2.2.1
theorem dX8_log_69 : decode cX8_log 69 = .ok (.iload 4, 2) := db_X8_log_60.2.2.2.2.2.1
theorem dX8_log_71 : decode cX8_log 71 = .ok (.iastore, 1) := db_X8_log_60.2.2.2.2.2.2.1
theorem dX8_log_72 : decode cX8_log 72 = .ok (.iload 6, 2) := db_X8_log_60.2.2.2.2.2.2.2
set_option maxRecDepth 20000 in
theorem db_X8_log_74 : (decode cX8_log 74 = .ok (.ireturn, 1)) ∧ (decode cX8_log 36 = .ok (.iconst (-1), 1)) ∧ (decode cX8_log 37 = .ok (.ireturn, 1)) := by decide +kernel
theorem dX8_log_74 : decode cX8_log 74 = .ok (.ireturn, 1) := db_X8_log_74.1
theorem dX8_log_36 : decode cX8_log 36 = .ok (.iconst (-1), 1) := db_X8_log_74.2.1
theorem dX8_log_37 : decode cX8_log 37 = .ok (.ireturn, 1) := db_X8_log_74.2.2
set_option maxRecDepth 20000 in
theorem db_X8_kin_0 : (decode cX8_kin 0 = .ok (.aload_n 0, 1)) ∧ (decode cX8_kin 1 = .ok (.iload_n 1, 1)) ∧ (decode cX8_kin 2 = .ok (.invokevirtual 39, 3)) ∧ (decode cX8_kin 5 = .ok (.ifCond .eq 11, 3)) ∧ (decode cX8_kin 8 = .ok (.aload_n 0, 1)) ∧ (decode cX8_kin 9 = .ok (.iload_n 2, 1)) ∧ (decode cX8_kin 10 = .ok (.invokevirtual 43, 3)) ∧ (decode cX8_kin 13 = .ok (.ifCond .ne 5, 3)) := by decide +kernel
theorem dX8_kin_0 : decode cX8_kin 0 = .ok (.aload_n 0, 1) := db_X8_kin_0.1
theorem dX8_kin_1 : decode cX8_kin 1 = .ok (.iload_n 1, 1) := db_X8_kin_0.2.1
set_option maxRecDepth 20000 in
theorem ggX8_kin_X8_isMediator : GoodIn wsX8_kin wsX8_isMediator := goodIn_r _ [6, 1, 7, 8, 5, 9, 14, 15, 16, 17, 18, 19, 20, 21, 22, 23, 24] rfl (by decide +kernel)
set_option maxRecDepth 20000 in
theorem gX8_kin_X8_isMediator : GoodIn wsX8_kin (wsV RX8 39 RX8 yX8_isMediator wsX8_isMediator) := goodIn_app (goodIn_r _ [2, 3, 4, 5] rfl (by decide +kernel)) ggX8_kin_X8_isMediator
theorem dX8_kin_2 : decode cX8_kin 2 = .ok (.invokevirtual 39, 3) := db_X8_kin_0.2.2.1
theorem dX8_kin_5 : decode cX8_kin 5 = .ok (.ifCond .eq 11, 3) := db_X8_kin_0.2.2.2.1
theorem dX8_kin_8 : decode cX8_kin 8 = .ok (.aload_n 0, 1) := db_X8_kin_0.2.2.2.2.1
theorem dX8_kin_9 : decode cX8_kin 9 = .ok (.iload_n 2, 1) := db_X8_kin_0.2.2.2.2.2.1
set_option maxRecDepth 20000 in
theorem ggX8_kin_X8_isParty : GoodIn wsX8_kin wsX8_isParty := goodIn_r _ [13, 1, 7, 8, 5, 9, 14, 15, 16, 17, 18, 19, 20, 21, 22, 23, 24] rfl (by decide +kernel)
set_option maxRecDepth 20000 in
theorem gX8_kin_X8_isParty : GoodIn wsX8_kin (wsV RX8 43 RX8 yX8_isParty wsX8_isParty) := goodIn_app (goodIn_r _ [10, 11, 12, 5] rfl (by decide +kernel)) ggX8_kin_X8_isParty
theorem dX8_kin_10 : decode cX8_kin 10 = .ok (.invokevirtual 43, 3) := db_X8_kin_0.2.2.2.2.2.2.1
theorem dX8_kin_13 : decode cX8_kin 13 = .ok (.ifCond .ne 5, 3) := db_X8_kin_0.2.2.2.2.2.2.2
set_option maxRecDepth 20000 in
theorem db_X8_kin_18 : (decode cX8_kin 18 = .ok (.aload_n 0, 1)) ∧ (decode cX8_kin 19 = .ok (.getfield 7, 3)) ∧ (decode cX8_kin 22 = .ok (.bipush 28, 2)) ∧ (decode cX8_kin 24 = .ok (.iload_n 1, 1)) ∧ (decode cX8_kin 25 = .ok (.iadd, 1)) ∧ (decode cX8_kin 26 = .ok (.iaload, 1)) ∧ (decode cX8_kin 27 = .ok (.iload_n 2, 1)) ∧ (decode cX8_kin 28 = .ok (.ishr, 1)) := by decide +kernel
theorem dX8_kin_18 : decode cX8_kin 18 = .ok (.aload_n 0, 1) := db_X8_kin_18.1
theorem dX8_kin_19 : decode cX8_kin 19 = .ok (.getfield 7, 3) := db_X8_kin_18.2.1
theorem dX8_kin_22 : decode cX8_kin 22 = .ok (.bipush 28, 2) := db_X8_kin_18.2.2.1
theorem dX8_kin_24 : decode cX8_kin 24 = .ok (.iload_n 1, 1) := db_X8_kin_18.2.2.2.1
theorem dX8_kin_25 : decode cX8_kin 25 = .ok (.iadd, 1) := db_X8_kin_18.2.2.2.2.1
theorem dX8_kin_26 : decode cX8_kin 26 = .ok (.iaload, 1) := db_X8_kin_18.2.2.2.2.2.1
theorem dX8_kin_27 : decode cX8_kin 27 = .ok (.iload_n 2, 1) := db_X8_kin_18.2.2.2.2.2.2.1
theorem dX8_kin_28 : decode cX8_kin 28 = .ok (.ishr, 1) := db_X8_kin_18.2.2.2.2.2.2.2
set_option maxRecDepth 20000 in
theorem db_X8_kin_29 : (decode cX8_kin 29 = .ok (.iconst 1, 1)) ∧ (decode cX8_kin 30 = .ok (.iand, 1)) ∧ (decode cX8_kin 31 = .ok (.iconst 1, 1)) ∧ (decode cX8_kin 32 = .ok (.if_icmp .ne 7, 3)) ∧ (decode cX8_kin 39 = .ok (.iconst 0, 1)) ∧ (decode cX8_kin 40 = .ok (.istore 4, 2)) ∧ (decode cX8_kin 42 = .ok (.aload_n 0, 1)) ∧ (decode cX8_kin 43 = .ok (.getfield 7, 3)) := by decide +kernel
theorem dX8_kin_29 : decode cX8_kin 29 = .ok (.iconst 1, 1) := db_X8_kin_29.1
theorem dX8_kin_30 : decode cX8_kin 30 = .ok (.iand, 1) := db_X8_kin_29.2.1
theorem dX8_kin_31 : decode cX8_kin 31 = .ok (.iconst 1, 1) := db_X8_kin_29.2.2.1
theorem dX8_kin_32 : decode cX8_kin 32 = .ok (.if_icmp .ne 7, 3) := db_X8_kin_29.2.2.2.1
theorem dX8_kin_39 : decode cX8_kin 39 = .ok (.iconst 0, 1) := db_X8_kin_29.2.2.2.2.1
theorem dX8_kin_40 : decode cX8_kin 40 = .ok (.istore 4, 2) := db_X8_kin_29.2.2.2.2.2.1
theorem dX8_kin_42 : decode cX8_kin 42 = .ok (.aload_n 0, 1) := db_X8_kin_29.2.2.2.2.2.2.1
theorem dX8_kin_43 : decode cX8_kin 43 = .ok (.getfield 7, 3) := db_X8_kin_29.2.2.2.2.2.2.2
set_option maxRecDepth 20000 in
theorem db_X8_kin_46 : (decode cX8_kin 46 = .ok (.bipush 28, 2)) ∧ (decode cX8_kin 48 = .ok (.iload_n 1, 1)) ∧ (decode cX8_kin 49 = .ok (.iadd, 1)) ∧ (decode cX8_kin 50 = .ok (.iload_n 3, 1)) ∧ (decode cX8_kin 51 = .ok (.ifCond .eq 19, 3)) ∧ (decode cX8_kin 70 = .ok (.aload_n 0, 1)) ∧ (decode cX8_kin 71 = .ok (.getfield 7, 3)) ∧ (decode cX8_kin 74 = .ok (.bipush 28, 2)) := by decide +kernel
theorem dX8_kin_46 : decode cX8_kin 46 = .ok (.bipush 28, 2) := db_X8_kin_46.1
theorem dX8_kin_48 : decode cX8_kin 48 = .ok (.iload_n 1, 1) := db_X8_kin_46.2.1
theorem dX8_kin_49 : decode cX8_kin 49 = .ok (.iadd, 1) := db_X8_kin_46.2.2.1
theorem dX8_kin_50 : decode cX8_kin 50 = .ok (.iload_n 3, 1) := db_X8_kin_46.2.2.2.1
theorem dX8_kin_51 : decode cX8_kin 51 = .ok (.ifCond .eq 19, 3) := db_X8_kin_46.2.2.2.2.1
theorem dX8_kin_70 : decode cX8_kin 70 = .ok (.aload_n 0, 1) := db_X8_kin_46.2.2.2.2.2.1
theorem dX8_kin_71 : decode cX8_kin 71 = .ok (.getfield 7, 3) := db_X8_kin_46.2.2.2.2.2.2.1
theorem dX8_kin_74 : decode cX8_kin 74 = .ok (.bipush 28, 2) := db_X8_kin_46.2.2.2.2.2.2.2
set_option maxRecDepth 20000 in
theorem db_X8_kin_76 : (decode cX8_kin 76 = .ok (.iload_n 1, 1)) ∧ (decode cX8_kin 77 = .ok (.iadd, 1)) ∧ (decode cX8_kin 78 = .ok (.iaload, 1)) ∧ (decode cX8_kin 79 = .ok (.iconst 1, 1)) ∧ (decode cX8_kin 80 = .ok (.iload_n 2, 1)) ∧ (decode cX8_kin 81 = .ok (.ishl, 1)) ∧ (decode cX8_kin 82 = .ok (.iconst (-1), 1)) ∧ (decode cX8_kin 83 = .ok (.ixor, 1)) := by decide +kernel
theorem dX8_kin_76 : decode cX8_kin 76 = .ok (.iload_n 1, 1) := db_X8_kin_76.1
theorem dX8_kin_77 : decode cX8_kin 77 = .ok (.iadd, 1) := db_X8_kin_76.2.1
theorem dX8_kin_78 : decode cX8_kin 78 = .ok (.iaload, 1) := db_X8_kin_76.2.2.1
theorem dX8_kin_79 : decode cX8_kin 79 = .ok (.iconst 1, 1) := db_X8_kin_76.2.2.2.1
theorem dX8_kin_80 : decode cX8_kin 80 = .ok (.iload_n 2, 1) := db_X8_kin_76.2.2.2.2.1
theorem dX8_kin_81 : decode cX8_kin 81 = .ok (.ishl, 1) := db_X8_kin_76.2.2.2.2.2.1
theorem dX8_kin_82 : decode cX8_kin 82 = .ok (.iconst (-1), 1) := db_X8_kin_76.2.2.2.2.2.2.1
theorem dX8_kin_83 : decode cX8_kin 83 = .ok (.ixor, 1) := db_X8_kin_76.2.2.2.2.2.2.2
set_option maxRecDepth 20000 in
theorem db_X8_kin_84 : (decode cX8_kin 84 = .ok (.iand, 1)) ∧ (decode cX8_kin 85 = .ok (.iastore, 1)) ∧ (decode cX8_kin 86 = .ok (.iload 4, 2)) ∧ (decode cX8_kin 88 = .ok (.iload_n 3, 1)) ∧ (decode cX8_kin 89 = .ok (.if_icmp .ne 7, 3)) ∧ (decode cX8_kin 92 = .ok (.iconst 0, 1)) ∧ (decode cX8_kin 93 = .ok (.goto 4, 3)) ∧ (decode cX8_kin 97 = .ok (.ireturn, 1)) := by decide +kernel
theorem dX8_kin_84 : decode cX8_kin 84 = .ok (.iand, 1) := db_X8_kin_84.1
theorem dX8_kin_85 : decode cX8_kin 85 = .ok (.iastore, 1) := db_X8_kin_84.2.1
theorem dX8_kin_86 : decode cX8_kin 86 = .ok (.iload 4, 2) := db_X8_kin_84.2.2.1
theorem dX8_kin_88 : decode cX8_kin 88 = .ok (.iload_n 3, 1) := db_X8_kin_84.2.2.2.1
theorem dX8_kin_89 : decode cX8_kin 89 = .ok (.if_icmp .ne 7, 3) := db_X8_kin_84.2.2.2.2.1
theorem dX8_kin_92 : decode cX8_kin 92 = .ok (.iconst 0, 1) := db_X8_kin_84.2.2.2.2.2.1
theorem dX8_kin_93 : decode cX8_kin 93 = .ok (.goto 4, 3) := db_X8_kin_84.2.2.2.2.2.2.1
theorem dX8_kin_97 : decode cX8_kin 97 = .ok (.ireturn, 1) := db_X8_kin_84.2.2.2.2.2.2.2
set_option maxRecDepth 20000 in
theorem db_X8_kin_35 : (decode cX8_kin 35 = .ok (.iconst 1, 1)) ∧ (decode cX8_kin 36 = .ok (.goto 4, 3)) ∧ (decode cX8_kin 96 = .ok (.iconst 1, 1)) ∧ (decode cX8_kin 16 = .ok (.iconst (-1), 1)) ∧ (decode cX8_kin 17 = .ok (.ireturn, 1)) ∧ (decode cX8_kin 54 = .ok (.aload_n 0, 1)) ∧ (decode cX8_kin 55 = .ok (.getfield 7, 3)) ∧ (decode cX8_kin 58 = .ok (.bipush 28, 2)) := by decide +kernel
theorem dX8_kin_35 : decode cX8_kin 35 = .ok (.iconst 1, 1) := db_X8_kin_35.1
theorem dX8_kin_36 : decode cX8_kin 36 = .ok (.goto 4, 3) := db_X8_kin_35.2.1
theorem dX8_kin_96 : decode cX8_kin 96 = .ok (.iconst 1, 1) := db_X8_kin_35.2.2.1
theorem dX8_kin_16 : decode cX8_kin 16 = .ok (.iconst (-1), 1) := db_X8_kin_35.2.2.2.1
theorem dX8_kin_17 : decode cX8_kin 17 = .ok (.ireturn, 1) := db_X8_kin_35.2.2.2.2.1
theorem dX8_kin_54 : decode cX8_kin 54 = .ok (.aload_n 0, 1) := db_X8_kin_35.2.2.2.2.2.1
theorem dX8_kin_55 : decode cX8_kin 55 = .ok (.getfield 7, 3) := db_X8_kin_35.2.2.2.2.2.2.1
theorem dX8_kin_58 : decode cX8_kin 58 = .ok (.bipush 28, 2) := db_X8_kin_35.2.2.2.2.2.2.2
set_option maxRecDepth 20000 in
theorem db_X8_kin_60 : (decode cX8_kin 60 = .ok (.iload_n 1, 1)) ∧ (decode cX8_kin 61 = .ok (.iadd, 1)) ∧ (decode cX8_kin 62 = .ok (.iaload, 1)) ∧ (decode cX8_kin 63 = .ok (.iconst 1, 1)) ∧ (decode cX8_kin 64 = .ok (.iload_n 2, 1)) ∧ (decode cX8_kin 65 = .ok (.ishl, 1)) ∧ (decode cX8_kin 66 = .ok (.ior, 1)) ∧ (decode cX8_kin 67 = .ok (.goto 18, 3)) := by decide +kernel
theorem dX8_kin_60 : decode cX8_kin 60 = .ok (.iload_n 1, 1) := db_X8_kin_60.1
theorem dX8_kin_61 : decode cX8_kin 61 = .ok (.iadd, 1) := db_X8_kin_60.2.1
theorem dX8_kin_62 : decode cX8_kin 62 = .ok (.iaload, 1) := db_X8_kin_60.2.2.1
theorem dX8_kin_63 : decode cX8_kin 63 = .ok (.iconst 1, 1) := db_X8_kin_60.2.2.2.1
theorem dX8_kin_64 : decode cX8_kin 64 = .ok (.iload_n 2, 1) := db_X8_kin_60.2.2.2.2.1
theorem dX8_kin_65 : decode cX8_kin 65 = .ok (.ishl, 1) := db_X8_kin_60.2.2.2.2.2.1
theorem dX8_kin_66 : decode cX8_kin 66 = .ok (.ior, 1) := db_X8_kin_60.2.2.2.2.2.2.1
theorem dX8_kin_67 : decode cX8_kin 67 = .ok (.goto 18, 3) := db_X8_kin_60.2.2.2.2.2.2.2
set_option maxRecDepth 20000 in
theorem db_X8_mediator_0 : (decode cX8_mediator 0 = .ok (.iload_n 1, 1)) ∧ (decode cX8_mediator 1 = .ok (.iconst 0, 1)) ∧ (decode cX8_mediator 2 = .ok (.bipush 9, 2)) ∧ (decode cX8_mediator 4 = .ok (.invokestatic 35, 3)) ∧ (decode cX8_mediator 7 = .ok (.ifCond .eq 13, 3)) ∧ (decode cX8_mediator 10 = .ok (.iload_n 2, 1)) ∧ (decode cX8_mediator 11 = .ok (.iconst 1, 1)) ∧ (decode cX8_mediator 12 = .ok (.bipush 7, 2)) := by decide +kernel
theorem dX8_mediator_0 : decode cX8_mediator 0 = .ok (.iload_n 1, 1) := db_X8_mediator_0.1
theorem dX8_mediator_1 : decode cX8_mediator 1 = .ok (.iconst 0, 1) := db_X8_mediator_0.2.1
theorem dX8_mediator_2 : decode cX8_mediator 2 = .ok (.bipush 9, 2) := db_X8_mediator_0.2.2.1
set_option maxRecDepth 20000 in
theorem ggX8_mediator_X8_in : GoodIn wsX8_mediator wsX8_in := goodIn_r _ [5] rfl (by decide +kernel)
set_option maxRecDepth 20000 in
theorem gX8_mediator_X8_in : GoodIn wsX8_mediator (va_wsS RX8 35 yX8_in wsX8_in) := goodIn_app (goodIn_r _ [2, 3, 4] rfl (by decide +kernel)) ggX8_mediator_X8_in
theorem dX8_mediator_4 : decode cX8_mediator 4 = .ok (.invokestatic 35, 3) := db_X8_mediator_0.2.2.2.1
theorem dX8_mediator_7 : decode cX8_mediator 7 = .ok (.ifCond .eq 13, 3) := db_X8_mediator_0.2.2.2.2.1
theorem dX8_mediator_10 : decode cX8_mediator 10 = .ok (.iload_n 2, 1) := db_X8_mediator_0.2.2.2.2.2.1
theorem dX8_mediator_11 : decode cX8_mediator 11 = .ok (.iconst 1, 1) := db_X8_mediator_0.2.2.2.2.2.2.1
theorem dX8_mediator_12 : decode cX8_mediator 12 = .ok (.bipush 7, 2) := db_X8_mediator_0.2.2.2.2.2.2.2
set_option maxRecDepth 20000 in
theorem db_X8_mediator_14 : (decode cX8_mediator 14 = .ok (.invokestatic 35, 3)) ∧ (decode cX8_mediator 17 = .ok (.ifCond .ne 5, 3)) ∧ (decode cX8_mediator 22 = .ok (.aload_n 0, 1)) ∧ (decode cX8_mediator 23 = .ok (.getfield 7, 3)) ∧ (decode cX8_mediator 26 = .ok (.iconst 1, 1)) ∧ (decode cX8_mediator 27 = .ok (.iaload, 1)) ∧ (decode cX8_mediator 28 = .ok (.iconst 4, 1)) ∧ (decode cX8_mediator 29 = .ok (.if_icmp .ne 6, 3)) := by decide +kernel
theorem dX8_mediator_14 : decode cX8_mediator 14 = .ok (.invokestatic 35, 3) := db_X8_mediator_14.1
theorem dX8_mediator_17 : decode cX8_mediator 17 = .ok (.ifCond .ne 5, 3) := db_X8_mediator_14.2.1
theorem dX8_mediator_22 : decode cX8_mediator 22 = .ok (.aload_n 0, 1) := db_X8_mediator_14.2.2.1
theorem dX8_mediator_23 : decode cX8_mediator 23 = .ok (.getfield 7, 3) := db_X8_mediator_14.2.2.2.1
theorem dX8_mediator_26 : decode cX8_mediator 26 = .ok (.iconst 1, 1) := db_X8_mediator_14.2.2.2.2.1
theorem dX8_mediator_27 : decode cX8_mediator 27 = .ok (.iaload, 1) := db_X8_mediator_14.2.2.2.2.2.1
theorem dX8_mediator_28 : decode cX8_mediator 28 = .ok (.iconst 4, 1) := db_X8_mediator_14.2.2.2.2.2.2.1
theorem dX8_mediator_29 : decode cX8_mediator 29 = .ok (.if_icmp .ne 6, 3) := db_X8_mediator_14.2.2.2.2.2.2.2
set_option maxRecDepth 20000 in
theorem db_X8_mediator_35 : (decode cX8_mediator 35 = .ok (.aload_n 0, 1)) ∧ (decode cX8_mediator 36 = .ok (.getfield 7, 3)) ∧ (decode cX8_mediator 39 = .ok (.iconst 1, 1)) ∧ (decode cX8_mediator 40 = .ok (.iaload, 1)) ∧ (decode cX8_mediator 41 = .ok (.istore_n 3, 1)) ∧ (decode cX8_mediator 42 = .ok (.aload_n 0, 1)) ∧ (decode cX8_mediator 43 = .ok (.getfield 7, 3)) ∧ (decode cX8_mediator 46 = .ok (.bipush 20, 2)) := by decide +kernel
theorem dX8_mediator_35 : decode cX8_mediator 35 = .ok (.aload_n 0, 1) := db_X8_mediator_35.1
theorem dX8_mediator_36 : decode cX8_mediator 36 = .ok (.getfield 7, 3) := db_X8_mediator_35.2.1
theorem dX8_mediator_39 : decode cX8_mediator 39 = .ok (.iconst 1, 1) := db_X8_mediator_35.2.2.1
theorem dX8_mediator_40 : decode cX8_mediator 40 = .ok (.iaload, 1) := db_X8_mediator_35.2.2.2.1
theorem dX8_mediator_41 : decode cX8_mediator 41 = .ok (.istore_n 3, 1) := db_X8_mediator_35.2.2.2.2.1
theorem dX8_mediator_42 : decode cX8_mediator 42 = .ok (.aload_n 0, 1) := db_X8_mediator_35.2.2.2.2.2.1
theorem dX8_mediator_43 : decode cX8_mediator 43 = .ok (.getfield 7, 3) := db_X8_mediator_35.2.2.2.2.2.2.1
theorem dX8_mediator_46 : decode cX8_mediator 46 = .ok (.bipush 20, 2) := db_X8_mediator_35.2.2.2.2.2.2.2
set_option maxRecDepth 20000 in
theorem db_X8_mediator_48 : (decode cX8_mediator 48 = .ok (.iconst 2, 1)) ∧ (decode cX8_mediator 49 = .ok (.iload_n 3, 1)) ∧ (decode cX8_mediator 50 = .ok (.imul, 1)) ∧ (decode cX8_mediator 51 = .ok (.iadd, 1)) ∧ (decode cX8_mediator 52 = .ok (.iload_n 1, 1)) ∧ (decode cX8_mediator 53 = .ok (.iastore, 1)) ∧ (decode cX8_mediator 54 = .ok (.aload_n 0, 1)) ∧ (decode cX8_mediator 55 = .ok (.getfield 7, 3)) := by decide +kernel
theorem dX8_mediator_48 : decode cX8_mediator 48 = .ok (.iconst 2, 1) := db_X8_mediator_48.1
theorem dX8_mediator_49 : decode cX8_mediator 49 = .ok (.iload_n 3, 1) := db_X8_mediator_48.2.1
theorem dX8_mediator_50 : decode cX8_mediator 50 = .ok (.imul, 1) := db_X8_mediator_48.2.2.1
theorem dX8_mediator_51 : decode cX8_mediator 51 = .ok (.iadd, 1) := db_X8_mediator_48.2.2.2.1
theorem dX8_mediator_52 : decode cX8_mediator 52 = .ok (.iload_n 1, 1) := db_X8_mediator_48.2.2.2.2.1
theorem dX8_mediator_53 : decode cX8_mediator 53 = .ok (.iastore, 1) := db_X8_mediator_48.2.2.2.2.2.1
theorem dX8_mediator_54 : decode cX8_mediator 54 = .ok (.aload_n 0, 1) := db_X8_mediator_48.2.2.2.2.2.2.1
theorem dX8_mediator_55 : decode cX8_mediator 55 = .ok (.getfield 7, 3) := db_X8_mediator_48.2.2.2.2.2.2.2
set_option maxRecDepth 20000 in
theorem db_X8_mediator_58 : (decode cX8_mediator 58 = .ok (.bipush 20, 2)) ∧ (decode cX8_mediator 60 = .ok (.iconst 2, 1)) ∧ (decode cX8_mediator 61 = .ok (.iload_n 3, 1)) ∧ (decode cX8_mediator 62 = .ok (.imul, 1)) ∧ (decode cX8_mediator 63 = .ok (.iadd, 1)) ∧ (decode cX8_mediator 64 = .ok (.iconst 1, 1)) ∧ (decode cX8_mediator 65 = .ok (.iadd, 1)) ∧ (decode cX8_mediator 66 = .ok (.iload_n 2, 1)) := by decide +kernel
theorem dX8_mediator_58 : decode cX8_mediator 58 = .ok (.bipush 20, 2) := db_X8_mediator_58.1
theorem dX8_mediator_60 : decode cX8_mediator 60 = .ok (.iconst 2, 1) := db_X8_mediator_58.2.1
theorem dX8_mediator_61 : decode cX8_mediator 61 = .ok (.iload_n 3, 1) := db_X8_mediator_58.2.2.1
theorem dX8_mediator_62 : decode cX8_mediator 62 = .ok (.imul, 1) := db_X8_mediator_58.2.2.2.1
theorem dX8_mediator_63 : decode cX8_mediator 63 = .ok (.iadd, 1) := db_X8_mediator_58.2.2.2.2.1
theorem dX8_mediator_64 : decode cX8_mediator 64 = .ok (.iconst 1, 1) := db_X8_mediator_58.2.2.2.2.2.1
theorem dX8_mediator_65 : decode cX8_mediator 65 = .ok (.iadd, 1) := db_X8_mediator_58.2.2.2.2.2.2.1
theorem dX8_mediator_66 : decode cX8_mediator 66 = .ok (.iload_n 2, 1) := db_X8_mediator_58.2.2.2.2.2.2.2
set_option maxRecDepth 20000 in
theorem db_X8_mediator_67 : (decode cX8_mediator 67 = .ok (.iastore, 1)) ∧ (decode cX8_mediator 68 = .ok (.aload_n 0, 1)) ∧ (decode cX8_mediator 69 = .ok (.getfield 7, 3)) ∧ (decode cX8_mediator 72 = .ok (.bipush 28, 2)) ∧ (decode cX8_mediator 74 = .ok (.iload_n 3, 1)) ∧ (decode cX8_mediator 75 = .ok (.iadd, 1)) ∧ (decode cX8_mediator 76 = .ok (.iconst 0, 1)) ∧ (decode cX8_mediator 77 = .ok (.iastore, 1)) := by decide +kernel
theorem dX8_mediator_67 : decode cX8_mediator 67 = .ok (.iastore, 1) := db_X8_mediator_67.1
theorem dX8_mediator_68 : decode cX8_mediator 68 = .ok (.aload_n 0, 1) := db_X8_mediator_67.2.1
theorem dX8_mediator_69 : decode cX8_mediator 69 = .ok (.getfield 7, 3) := db_X8_mediator_67.2.2.1
theorem dX8_mediator_72 : decode cX8_mediator 72 = .ok (.bipush 28, 2) := db_X8_mediator_67.2.2.2.1
theorem dX8_mediator_74 : decode cX8_mediator 74 = .ok (.iload_n 3, 1) := db_X8_mediator_67.2.2.2.2.1
theorem dX8_mediator_75 : decode cX8_mediator 75 = .ok (.iadd, 1) := db_X8_mediator_67.2.2.2.2.2.1
theorem dX8_mediator_76 : decode cX8_mediator 76 = .ok (.iconst 0, 1) := db_X8_mediator_67.2.2.2.2.2.2.1
theorem dX8_mediator_77 : decode cX8_mediator 77 = .ok (.iastore, 1) := db_X8_mediator_67.2.2.2.2.2.2.2
set_option maxRecDepth 20000 in
theorem db_X8_mediator_78 : (decode cX8_mediator 78 = .ok (.aload_n 0, 1)) ∧ (decode cX8_mediator 79 = .ok (.getfield 7, 3)) ∧ (decode cX8_mediator 82 = .ok (.iconst 1, 1)) ∧ (decode cX8_mediator 83 = .ok (.dup2, 1)) ∧ (decode cX8_mediator 84 = .ok (.iaload, 1)) ∧ (decode cX8_mediator 85 = .ok (.iconst 1, 1)) ∧ (decode cX8_mediator 86 = .ok (.iadd, 1)) ∧ (decode cX8_mediator 87 = .ok (.iastore, 1)) := by decide +kernel
theorem dX8_mediator_78 : decode cX8_mediator 78 = .ok (.aload_n 0, 1) := db_X8_mediator_78.1
theorem dX8_mediator_79 : decode cX8_mediator 79 = .ok (.getfield 7, 3) := db_X8_mediator_78.2.1
theorem dX8_mediator_82 : decode cX8_mediator 82 = .ok (.iconst 1, 1) := db_X8_mediator_78.2.2.1
theorem dX8_mediator_83 : decode cX8_mediator 83 = .ok (.dup2, 1) := db_X8_mediator_78.2.2.2.1
theorem dX8_mediator_84 : decode cX8_mediator 84 = .ok (.iaload, 1) := db_X8_mediator_78.2.2.2.2.1
theorem dX8_mediator_85 : decode cX8_mediator 85 = .ok (.iconst 1, 1) := db_X8_mediator_78.2.2.2.2.2.1
theorem dX8_mediator_86 : decode cX8_mediator 86 = .ok (.iadd, 1) := db_X8_mediator_78.2.2.2.2.2.2.1
theorem dX8_mediator_87 : decode cX8_mediator 87 = .ok (.iastore, 1) := db_X8_mediator_78.2.2.2.2.2.2.2
set_option maxRecDepth 20000 in
theorem db_X8_mediator_88 : (decode cX8_mediator 88 = .ok (.iload_n 3, 1)) ∧ (decode cX8_mediator 89 = .ok (.ireturn, 1)) ∧ (decode cX8_mediator 32 = .ok (.bipush (-2), 2)) ∧ (decode cX8_mediator 34 = .ok (.ireturn, 1)) ∧ (decode cX8_mediator 20 = .ok (.iconst (-1), 1)) ∧ (decode cX8_mediator 21 = .ok (.ireturn, 1)) := by decide +kernel
theorem dX8_mediator_88 : decode cX8_mediator 88 = .ok (.iload_n 3, 1) := db_X8_mediator_88.1
theorem dX8_mediator_89 : decode cX8_mediator 89 = .ok (.ireturn, 1) := db_X8_mediator_88.2.1
theorem dX8_mediator_32 : decode cX8_mediator 32 = .ok (.bipush (-2), 2) := db_X8_mediator_88.2.2.1
theorem dX8_mediator_34 : decode cX8_mediator 34 = .ok (.ireturn, 1) := db_X8_mediator_88.2.2.2.1
theorem dX8_mediator_20 : decode cX8_mediator 20 = .ok (.iconst (-1), 1) := db_X8_mediator_88.2.2.2.2.1
theorem dX8_mediator_21 : decode cX8_mediator 21 = .ok (.ireturn, 1) := db_X8_mediator_88.2.2.2.2.2
set_option maxRecDepth 20000 in
theorem db_X8_term_0 : (decode cX8_term 0 = .ok (.aload_n 0, 1)) ∧ (decode cX8_term 1 = .ok (.iload_n 1, 1)) ∧ (decode cX8_term 2 = .ok (.invokevirtual 50, 3)) ∧ (decode cX8_term 5 = .ok (.ifCond .eq 43, 3)) ∧ (decode cX8_term 8 = .ok (.iload_n 2, 1)) ∧ (decode cX8_term 9 = .ok (.invokestatic 60, 3)) ∧ (decode cX8_term 12 = .ok (.ifCond .eq 36, 3)) ∧ (decode cX8_term 15 = .ok (.iload 4, 2)) := by decide +kernel
theorem dX8_term_0 : decode cX8_term 0 = .ok (.aload_n 0, 1) := db_X8_term_0.1
theorem dX8_term_1 : decode cX8_term 1 = .ok (.iload_n 1, 1) := db_X8_term_0.2.1
set_option maxRecDepth 20000 in
theorem ggX8_term_X8_isCase : GoodIn wsX8_term wsX8_isCase := goodIn_r _ [6, 1, 7, 8, 5, 9, 19, 20, 21, 22, 23, 24, 25, 26, 27, 28, 29] rfl (by decide +kernel)
set_option maxRecDepth 20000 in
theorem gX8_term_X8_isCase : GoodIn wsX8_term (wsV RX8 50 RX8 yX8_isCase wsX8_isCase) := goodIn_app (goodIn_r _ [2, 3, 4, 5] rfl (by decide +kernel)) ggX8_term_X8_isCase
theorem dX8_term_2 : decode cX8_term 2 = .ok (.invokevirtual 50, 3) := db_X8_term_0.2.2.1
theorem dX8_term_5 : decode cX8_term 5 = .ok (.ifCond .eq 43, 3) := db_X8_term_0.2.2.2.1
theorem dX8_term_8 : decode cX8_term 8 = .ok (.iload_n 2, 1) := db_X8_term_0.2.2.2.2.1
set_option maxRecDepth 20000 in
theorem ggX8_term_X8_isSide : GoodIn wsX8_term wsX8_isSide := goodIn_r _ [12, 7, 8, 5, 9] rfl (by decide +kernel)
set_option maxRecDepth 20000 in
theorem gX8_term_X8_isSide : GoodIn wsX8_term (va_wsS RX8 60 yX8_isSide wsX8_isSide) := goodIn_app (goodIn_r _ [10, 11, 5] rfl (by decide +kernel)) ggX8_term_X8_isSide
theorem dX8_term_9 : decode cX8_term 9 = .ok (.invokestatic 60, 3) := db_X8_term_0.2.2.2.2.2.1
theorem dX8_term_12 : decode cX8_term 12 = .ok (.ifCond .eq 36, 3) := db_X8_term_0.2.2.2.2.2.2.1
theorem dX8_term_15 : decode cX8_term 15 = .ok (.iload 4, 2) := db_X8_term_0.2.2.2.2.2.2.2
set_option maxRecDepth 20000 in
theorem db_X8_term_17 : (decode cX8_term 17 = .ok (.iconst 0, 1)) ∧ (decode cX8_term 18 = .ok (.iconst 5, 1)) ∧ (decode cX8_term 19 = .ok (.invokestatic 35, 3)) ∧ (decode cX8_term 22 = .ok (.ifCond .eq 26, 3)) ∧ (decode cX8_term 25 = .ok (.iload 5, 2)) ∧ (decode cX8_term 27 = .ok (.iconst 0, 1)) ∧ (decode cX8_term 28 = .ok (.bipush 23, 2)) ∧ (decode cX8_term 30 = .ok (.invokestatic 35, 3)) := by decide +kernel
theorem dX8_term_17 : decode cX8_term 17 = .ok (.iconst 0, 1) := db_X8_term_17.1
theorem dX8_term_18 : decode cX8_term 18 = .ok (.iconst 5, 1) := db_X8_term_17.2.1
set_option maxRecDepth 20000 in
theorem ggX8_term_X8_in : GoodIn wsX8_term wsX8_in := goodIn_r _ [9] rfl (by decide +kernel)
set_option maxRecDepth 20000 in
theorem gX8_term_X8_in : GoodIn wsX8_term (va_wsS RX8 35 yX8_in wsX8_in) := goodIn_app (goodIn_r _ [7, 8, 5] rfl (by decide +kernel)) ggX8_term_X8_in
theorem dX8_term_19 : decode cX8_term 19 = .ok (.invokestatic 35, 3) := db_X8_term_17.2.2.1
theorem dX8_term_22 : decode cX8_term 22 = .ok (.ifCond .eq 26, 3) := db_X8_term_17.2.2.2.1
theorem dX8_term_25 : decode cX8_term 25 = .ok (.iload 5, 2) := db_X8_term_17.2.2.2.2.1
theorem dX8_term_27 : decode cX8_term 27 = .ok (.iconst 0, 1) := db_X8_term_17.2.2.2.2.2.1
theorem dX8_term_28 : decode cX8_term 28 = .ok (.bipush 23, 2) := db_X8_term_17.2.2.2.2.2.2.1
theorem dX8_term_30 : decode cX8_term 30 = .ok (.invokestatic 35, 3) := db_X8_term_17.2.2.2.2.2.2.2
set_option maxRecDepth 20000 in
theorem db_X8_term_33 : (decode cX8_term 33 = .ok (.ifCond .eq 15, 3)) ∧ (decode cX8_term 36 = .ok (.iload 6, 2)) ∧ (decode cX8_term 38 = .ok (.iload 5, 2)) ∧ (decode cX8_term 40 = .ok (.bipush 23, 2)) ∧ (decode cX8_term 42 = .ok (.invokestatic 35, 3)) ∧ (decode cX8_term 45 = .ok (.ifCond .ne 5, 3)) ∧ (decode cX8_term 50 = .ok (.aload_n 0, 1)) ∧ (decode cX8_term 51 = .ok (.getfield 7, 3)) := by decide +kernel
theorem dX8_term_33 : decode cX8_term 33 = .ok (.ifCond .eq 15, 3) := db_X8_term_33.1
theorem dX8_term_36 : decode cX8_term 36 = .ok (.iload 6, 2) := db_X8_term_33.2.1
theorem dX8_term_38 : decode cX8_term 38 = .ok (.iload 5, 2) := db_X8_term_33.2.2.1
theorem dX8_term_40 : decode cX8_term 40 = .ok (.bipush 23, 2) := db_X8_term_33.2.2.2.1
theorem dX8_term_42 : decode cX8_term 42 = .ok (.invokestatic 35, 3) := db_X8_term_33.2.2.2.2.1
theorem dX8_term_45 : decode cX8_term 45 = .ok (.ifCond .ne 5, 3) := db_X8_term_33.2.2.2.2.2.1
theorem dX8_term_50 : decode cX8_term 50 = .ok (.aload_n 0, 1) := db_X8_term_33.2.2.2.2.2.2.1
theorem dX8_term_51 : decode cX8_term 51 = .ok (.getfield 7, 3) := db_X8_term_33.2.2.2.2.2.2.2
set_option maxRecDepth 20000 in
theorem db_X8_term_54 : (decode cX8_term 54 = .ok (.iload_n 1, 1)) ∧ (decode cX8_term 55 = .ok (.iconst 2, 1)) ∧ (decode cX8_term 56 = .ok (.invokestatic 46, 3)) ∧ (decode cX8_term 59 = .ok (.iaload, 1)) ∧ (decode cX8_term 60 = .ok (.iconst 1, 1)) ∧ (decode cX8_term 61 = .ok (.if_icmp .eq 6, 3)) ∧ (decode cX8_term 67 = .ok (.aload_n 0, 1)) ∧ (decode cX8_term 68 = .ok (.getfield 7, 3)) := by decide +kernel
theorem dX8_term_54 : decode cX8_term 54 = .ok (.iload_n 1, 1) := db_X8_term_54.1
theorem dX8_term_55 : decode cX8_term 55 = .ok (.iconst 2, 1) := db_X8_term_54.2.1
set_option maxRecDepth 20000 in
theorem ggX8_term_X8_at : GoodIn wsX8_term wsX8_at := goodIn_r _ [15] rfl (by decide +kernel)
set_option maxRecDepth 20000 in
theorem gX8_term_X8_at : GoodIn wsX8_term (va_wsS RX8 46 yX8_at wsX8_at) := goodIn_app (goodIn_r _ [13, 14, 5] rfl (by decide +kernel)) ggX8_term_X8_at
theorem dX8_term_56 : decode cX8_term 56 = .ok (.invokestatic 46, 3) := db_X8_term_54.2.2.1
theorem dX8_term_59 : decode cX8_term 59 = .ok (.iaload, 1) := db_X8_term_54.2.2.2.1
theorem dX8_term_60 : decode cX8_term 60 = .ok (.iconst 1, 1) := db_X8_term_54.2.2.2.2.1
theorem dX8_term_61 : decode cX8_term 61 = .ok (.if_icmp .eq 6, 3) := db_X8_term_54.2.2.2.2.2.1
theorem dX8_term_67 : decode cX8_term 67 = .ok (.aload_n 0, 1) := db_X8_term_54.2.2.2.2.2.2.1
theorem dX8_term_68 : decode cX8_term 68 = .ok (.getfield 7, 3) := db_X8_term_54.2.2.2.2.2.2.2
set_option maxRecDepth 20000 in
theorem db_X8_term_71 : (decode cX8_term 71 = .ok (.iload_n 1, 1)) ∧ (decode cX8_term 72 = .ok (.bipush 6, 2)) ∧ (decode cX8_term 74 = .ok (.invokestatic 46, 3)) ∧ (decode cX8_term 77 = .ok (.iaload, 1)) ∧ (decode cX8_term 78 = .ok (.iconst 5, 1)) ∧ (decode cX8_term 79 = .ok (.if_icmp .ne 6, 3)) ∧ (decode cX8_term 85 = .ok (.iload_n 1, 1)) ∧ (decode cX8_term 86 = .ok (.aload_n 0, 1)) := by decide +kernel
theorem dX8_term_71 : decode cX8_term 71 = .ok (.iload_n 1, 1) := db_X8_term_71.1
theorem dX8_term_72 : decode cX8_term 72 = .ok (.bipush 6, 2) := db_X8_term_71.2.1
theorem dX8_term_74 : decode cX8_term 74 = .ok (.invokestatic 46, 3) := db_X8_term_71.2.2.1
theorem dX8_term_77 : decode cX8_term 77 = .ok (.iaload, 1) := db_X8_term_71.2.2.2.1
theorem dX8_term_78 : decode cX8_term 78 = .ok (.iconst 5, 1) := db_X8_term_71.2.2.2.2.1
theorem dX8_term_79 : decode cX8_term 79 = .ok (.if_icmp .ne 6, 3) := db_X8_term_71.2.2.2.2.2.1
theorem dX8_term_85 : decode cX8_term 85 = .ok (.iload_n 1, 1) := db_X8_term_71.2.2.2.2.2.2.1
theorem dX8_term_86 : decode cX8_term 86 = .ok (.aload_n 0, 1) := db_X8_term_71.2.2.2.2.2.2.2
set_option maxRecDepth 20000 in
theorem db_X8_term_87 : (decode cX8_term 87 = .ok (.getfield 7, 3)) ∧ (decode cX8_term 90 = .ok (.iload_n 1, 1)) ∧ (decode cX8_term 91 = .ok (.bipush 6, 2)) ∧ (decode cX8_term 93 = .ok (.invokestatic 46, 3)) ∧ (decode cX8_term 96 = .ok (.iaload, 1)) ∧ (decode cX8_term 97 = .ok (.invokestatic 98, 3)) ∧ (decode cX8_term 100 = .ok (.istore 7, 2)) ∧ (decode cX8_term 102 = .ok (.aload_n 0, 1)) := by decide +kernel
theorem dX8_term_87 : decode cX8_term 87 = .ok (.getfield 7, 3) := db_X8_term_87.1
theorem dX8_term_90 : decode cX8_term 90 = .ok (.iload_n 1, 1) := db_X8_term_87.2.1
theorem dX8_term_91 : decode cX8_term 91 = .ok (.bipush 6, 2) := db_X8_term_87.2.2.1
theorem dX8_term_93 : decode cX8_term 93 = .ok (.invokestatic 46, 3) := db_X8_term_87.2.2.2.1
theorem dX8_term_96 : decode cX8_term 96 = .ok (.iaload, 1) := db_X8_term_87.2.2.2.2.1
set_option maxRecDepth 20000 in
theorem ggX8_term_X8_termAt : GoodIn wsX8_term wsX8_termAt := goodIn_r _ [18] rfl (by decide +kernel)
set_option maxRecDepth 20000 in
theorem gX8_term_X8_termAt : GoodIn wsX8_term (va_wsS RX8 98 yX8_termAt wsX8_termAt) := goodIn_app (goodIn_r _ [16, 17, 5] rfl (by decide +kernel)) ggX8_term_X8_termAt
theorem dX8_term_97 : decode cX8_term 97 = .ok (.invokestatic 98, 3) := db_X8_term_87.2.2.2.2.2.1
theorem dX8_term_100 : decode cX8_term 100 = .ok (.istore 7, 2) := db_X8_term_87.2.2.2.2.2.2.1
theorem dX8_term_102 : decode cX8_term 102 = .ok (.aload_n 0, 1) := db_X8_term_87.2.2.2.2.2.2.2
set_option maxRecDepth 20000 in
theorem db_X8_term_103 : (decode cX8_term 103 = .ok (.getfield 7, 3)) ∧ (decode cX8_term 106 = .ok (.iload 7, 2)) ∧ (decode cX8_term 108 = .ok (.iload_n 2, 1)) ∧ (decode cX8_term 109 = .ok (.iastore, 1)) ∧ (decode cX8_term 110 = .ok (.aload_n 0, 1)) ∧ (decode cX8_term 111 = .ok (.getfield 7, 3)) ∧ (decode cX8_term 114 = .ok (.iload 7, 2)) ∧ (decode cX8_term 116 = .ok (.iconst 1, 1)) := by decide +kernel
theorem dX8_term_103 : decode cX8_term 103 = .ok (.getfield 7, 3) := db_X8_term_103.1
theorem dX8_term_106 : decode cX8_term 106 = .ok (.iload 7, 2) := db_X8_term_103.2.1
theorem dX8_term_108 : decode cX8_term 108 = .ok (.iload_n 2, 1) := db_X8_term_103.2.2.1
theorem dX8_term_109 : decode cX8_term 109 = .ok (.iastore, 1) := db_X8_term_103.2.2.2.1
theorem dX8_term_110 : decode cX8_term 110 = .ok (.aload_n 0, 1) := db_X8_term_103.2.2.2.2.1
theorem dX8_term_111 : decode cX8_term 111 = .ok (.getfield 7, 3) := db_X8_term_103.2.2.2.2.2.1
theorem dX8_term_114 : decode cX8_term 114 = .ok (.iload 7, 2) := db_X8_term_103.2.2.2.2.2.2.1
theorem dX8_term_116 : decode cX8_term 116 = .ok (.iconst 1, 1) := db_X8_term_103.2.2.2.2.2.2.2
set_option maxRecDepth 20000 in
theorem db_X8_term_117 : (decode cX8_term 117 = .ok (.iadd, 1)) ∧ (decode cX8_term 118 = .ok (.iload_n 3, 1)) ∧ (decode cX8_term 119 = .ok (.ifCond .eq 7, 3)) ∧ (decode cX8_term 126 = .ok (.iconst 0, 1)) ∧ (decode cX8_term 127 = .ok (.iastore, 1)) ∧ (decode cX8_term 128 = .ok (.aload_n 0, 1)) ∧ (decode cX8_term 129 = .ok (.getfield 7, 3)) ∧ (decode cX8_term 132 = .ok (.iload 7, 2)) := by decide +kernel
theorem dX8_term_117 : decode cX8_term 117 = .ok (.iadd, 1) := db_X8_term_117.1
theorem dX8_term_118 : decode cX8_term 118 = .ok (.iload_n 3, 1) := db_X8_term_117.2.1
theorem dX8_term_119 : decode cX8_term 119 = .ok (.ifCond .eq 7, 3) := db_X8_term_117.2.2.1
theorem dX8_term_126 : decode cX8_term 126 = .ok (.iconst 0, 1) := db_X8_term_117.2.2.2.1
theorem dX8_term_127 : decode cX8_term 127 = .ok (.iastore, 1) := db_X8_term_117.2.2.2.2.1
theorem dX8_term_128 : decode cX8_term 128 = .ok (.aload_n 0, 1) := db_X8_term_117.2.2.2.2.2.1
theorem dX8_term_129 : decode cX8_term 129 = .ok (.getfield 7, 3) := db_X8_term_117.2.2.2.2.2.2.1
theorem dX8_term_132 : decode cX8_term 132 = .ok (.iload 7, 2) := db_X8_term_117.2.2.2.2.2.2.2
set_option maxRecDepth 20000 in
theorem db_X8_term_134 : (decode cX8_term 134 = .ok (.iconst 2, 1)) ∧ (decode cX8_term 135 = .ok (.iadd, 1)) ∧ (decode cX8_term 136 = .ok (.iload 4, 2)) ∧ (decode cX8_term 138 = .ok (.iastore, 1)) ∧ (decode cX8_term 139 = .ok (.aload_n 0, 1)) ∧ (decode cX8_term 140 = .ok (.getfield 7, 3)) ∧ (decode cX8_term 143 = .ok (.iload 7, 2)) ∧ (decode cX8_term 145 = .ok (.iconst 3, 1)) := by decide +kernel
theorem dX8_term_134 : decode cX8_term 134 = .ok (.iconst 2, 1) := db_X8_term_134.1
theorem dX8_term_135 : decode cX8_term 135 = .ok (.iadd, 1) := db_X8_term_134.2.1
theorem dX8_term_136 : decode cX8_term 136 = .ok (.iload 4, 2) := db_X8_term_134.2.2.1
theorem dX8_term_138 : decode cX8_term 138 = .ok (.iastore, 1) := db_X8_term_134.2.2.2.1
theorem dX8_term_139 : decode cX8_term 139 = .ok (.aload_n 0, 1) := db_X8_term_134.2.2.2.2.1
theorem dX8_term_140 : decode cX8_term 140 = .ok (.getfield 7, 3) := db_X8_term_134.2.2.2.2.2.1
theorem dX8_term_143 : decode cX8_term 143 = .ok (.iload 7, 2) := db_X8_term_134.2.2.2.2.2.2.1
theorem dX8_term_145 : decode cX8_term 145 = .ok (.iconst 3, 1) := db_X8_term_134.2.2.2.2.2.2.2
set_option maxRecDepth 20000 in
theorem db_X8_term_146 : (decode cX8_term 146 = .ok (.iadd, 1)) ∧ (decode cX8_term 147 = .ok (.iload 5, 2)) ∧ (decode cX8_term 149 = .ok (.iastore, 1)) ∧ (decode cX8_term 150 = .ok (.aload_n 0, 1)) ∧ (decode cX8_term 151 = .ok (.getfield 7, 3)) ∧ (decode cX8_term 154 = .ok (.iload 7, 2)) ∧ (decode cX8_term 156 = .ok (.iconst 4, 1)) ∧ (decode cX8_term 157 = .ok (.iadd, 1)) := by decide +kernel
theorem dX8_term_146 : decode cX8_term 146 = .ok (.iadd, 1) := db_X8_term_146.1
theorem dX8_term_147 : decode cX8_term 147 = .ok (.iload 5, 2) := db_X8_term_146.2.1
theorem dX8_term_149 : decode cX8_term 149 = .ok (.iastore, 1) := db_X8_term_146.2.2.1
theorem dX8_term_150 : decode cX8_term 150 = .ok (.aload_n 0, 1) := db_X8_term_146.2.2.2.1
theorem dX8_term_151 : decode cX8_term 151 = .ok (.getfield 7, 3) := db_X8_term_146.2.2.2.2.1
theorem dX8_term_154 : decode cX8_term 154 = .ok (.iload 7, 2) := db_X8_term_146.2.2.2.2.2.1
theorem dX8_term_156 : decode cX8_term 156 = .ok (.iconst 4, 1) := db_X8_term_146.2.2.2.2.2.2.1
theorem dX8_term_157 : decode cX8_term 157 = .ok (.iadd, 1) := db_X8_term_146.2.2.2.2.2.2.2
set_option maxRecDepth 20000 in
theorem db_X8_term_158 : (decode cX8_term 158 = .ok (.iload 6, 2)) ∧ (decode cX8_term 160 = .ok (.iastore, 1)) ∧ (decode cX8_term 161 = .ok (.aload_n 0, 1)) ∧ (decode cX8_term 162 = .ok (.getfield 7, 3)) ∧ (decode cX8_term 165 = .ok (.iload_n 1, 1)) ∧ (decode cX8_term 166 = .ok (.bipush 6, 2)) ∧ (decode cX8_term 168 = .ok (.invokestatic 46, 3)) ∧ (decode cX8_term 171 = .ok (.dup2, 1)) := by decide +kernel
theorem dX8_term_158 : decode cX8_term 158 = .ok (.iload 6, 2) := db_X8_term_158.1
theorem dX8_term_160 : decode cX8_term 160 = .ok (.iastore, 1) := db_X8_term_158.2.1
theorem dX8_term_161 : decode cX8_term 161 = .ok (.aload_n 0, 1) := db_X8_term_158.2.2.1
theorem dX8_term_162 : decode cX8_term 162 = .ok (.getfield 7, 3) := db_X8_term_158.2.2.2.1
theorem dX8_term_165 : decode cX8_term 165 = .ok (.iload_n 1, 1) := db_X8_term_158.2.2.2.2.1
theorem dX8_term_166 : decode cX8_term 166 = .ok (.bipush 6, 2) := db_X8_term_158.2.2.2.2.2.1
theorem dX8_term_168 : decode cX8_term 168 = .ok (.invokestatic 46, 3) := db_X8_term_158.2.2.2.2.2.2.1
theorem dX8_term_171 : decode cX8_term 171 = .ok (.dup2, 1) := db_X8_term_158.2.2.2.2.2.2.2
set_option maxRecDepth 20000 in
theorem db_X8_term_172 : (decode cX8_term 172 = .ok (.iaload, 1)) ∧ (decode cX8_term 173 = .ok (.iconst 1, 1)) ∧ (decode cX8_term 174 = .ok (.iadd, 1)) ∧ (decode cX8_term 175 = .ok (.iastore, 1)) ∧ (decode cX8_term 176 = .ok (.aload_n 0, 1)) ∧ (decode cX8_term 177 = .ok (.getfield 7, 3)) ∧ (decode cX8_term 180 = .ok (.iload_n 1, 1)) ∧ (decode cX8_term 181 = .ok (.bipush 6, 2)) := by decide +kernel
theorem dX8_term_172 : decode cX8_term 172 = .ok (.iaload, 1) := db_X8_term_172.1
theorem dX8_term_173 : decode cX8_term 173 = .ok (.iconst 1, 1) := db_X8_term_172.2.1
theorem dX8_term_174 : decode cX8_term 174 = .ok (.iadd, 1) := db_X8_term_172.2.2.1
theorem dX8_term_175 : decode cX8_term 175 = .ok (.iastore, 1) := db_X8_term_172.2.2.2.1
theorem dX8_term_176 : decode cX8_term 176 = .ok (.aload_n 0, 1) := db_X8_term_172.2.2.2.2.1
theorem dX8_term_177 : decode cX8_term 177 = .ok (.getfield 7, 3) := db_X8_term_172.2.2.2.2.2.1
theorem dX8_term_180 : decode cX8_term 180 = .ok (.iload_n 1, 1) := db_X8_term_172.2.2.2.2.2.2.1
theorem dX8_term_181 : decode cX8_term 181 = .ok (.bipush 6, 2) := db_X8_term_172.2.2.2.2.2.2.2
set_option maxRecDepth 20000 in
theorem db_X8_term_183 : (decode cX8_term 183 = .ok (.invokestatic 46, 3)) ∧ (decode cX8_term 186 = .ok (.iaload, 1)) ∧ (decode cX8_term 187 = .ok (.iconst 1, 1)) ∧ (decode cX8_term 188 = .ok (.isub, 1)) ∧ (decode cX8_term 189 = .ok (.ireturn, 1)) ∧ (decode cX8_term 82 = .ok (.bipush (-2), 2)) ∧ (decode cX8_term 84 = .ok (.ireturn, 1)) ∧ (decode cX8_term 64 = .ok (.bipush (-4), 2)) := by decide +kernel
theorem dX8_term_183 : decode cX8_term 183 = .ok (.invokestatic 46, 3) := db_X8_term_183.1
theorem dX8_term_186 : decode cX8_term 186 = .ok (.iaload, 1) := db_X8_term_183.2.1
theorem dX8_term_187 : decode cX8_term 187 = .ok (.iconst 1, 1) := db_X8_term_183.2.2.1
theorem dX8_term_188 : decode cX8_term 188 = .ok (.isub, 1) := db_X8_term_183.2.2.2.1
theorem dX8_term_189 : decode cX8_term 189 = .ok (.ireturn, 1) := db_X8_term_183.2.2.2.2.1
theorem dX8_term_82 : decode cX8_term 82 = .ok (.bipush (-2), 2) := db_X8_term_183.2.2.2.2.2.1
theorem dX8_term_84 : decode cX8_term 84 = .ok (.ireturn, 1) := db_X8_term_183.2.2.2.2.2.2.1
theorem dX8_term_64 : decode cX8_term 64 = .ok (.bipush (-4), 2) := db_X8_term_183.2.2.2.2.2.2.2
set_option maxRecDepth 20000 in
theorem db_X8_term_66 : (decode cX8_term 66 = .ok (.ireturn, 1)) ∧ (decode cX8_term 48 = .ok (.iconst (-1), 1)) ∧ (decode cX8_term 49 = .ok (.ireturn, 1)) ∧ (decode cX8_term 122 = .ok (.iconst 1, 1)) ∧ (decode cX8_term 123 = .ok (.goto 4, 3)) := by decide +kernel
theorem dX8_term_66 : decode cX8_term 66 = .ok (.ireturn, 1) := db_X8_term_66.1
theorem dX8_term_48 : decode cX8_term 48 = .ok (.iconst (-1), 1) := db_X8_term_66.2.1
theorem dX8_term_49 : decode cX8_term 49 = .ok (.ireturn, 1) := db_X8_term_66.2.2.1
theorem dX8_term_122 : decode cX8_term 122 = .ok (.iconst 1, 1) := db_X8_term_66.2.2.2.1
theorem dX8_term_123 : decode cX8_term 123 = .ok (.goto 4, 3) := db_X8_term_66.2.2.2.2
set_option maxRecDepth 20000 in
theorem db_X8_offer_0 : (decode cX8_offer 0 = .ok (.aload_n 0, 1)) ∧ (decode cX8_offer 1 = .ok (.iload_n 1, 1)) ∧ (decode cX8_offer 2 = .ok (.invokevirtual 50, 3)) ∧ (decode cX8_offer 5 = .ok (.ifCond .eq 20, 3)) ∧ (decode cX8_offer 8 = .ok (.iload_n 2, 1)) ∧ (decode cX8_offer 9 = .ok (.invokestatic 60, 3)) ∧ (decode cX8_offer 12 = .ok (.ifCond .eq 13, 3)) ∧ (decode cX8_offer 15 = .ok (.iload_n 3, 1)) := by decide +kernel
theorem dX8_offer_0 : decode cX8_offer 0 = .ok (.aload_n 0, 1) := db_X8_offer_0.1
theorem dX8_offer_1 : decode cX8_offer 1 = .ok (.iload_n 1, 1) := db_X8_offer_0.2.1
set_option maxRecDepth 20000 in
theorem ggX8_offer_X8_isCase : GoodIn wsX8_offer wsX8_isCase := goodIn_r _ [6, 1, 7, 8, 5, 9, 16, 17, 18, 19, 20, 21, 22, 23, 24, 25, 26] rfl (by decide +kernel)
set_option maxRecDepth 20000 in
theorem gX8_offer_X8_isCase : GoodIn wsX8_offer (wsV RX8 50 RX8 yX8_isCase wsX8_isCase) := goodIn_app (goodIn_r _ [2, 3, 4, 5] rfl (by decide +kernel)) ggX8_offer_X8_isCase
theorem dX8_offer_2 : decode cX8_offer 2 = .ok (.invokevirtual 50, 3) := db_X8_offer_0.2.2.1
theorem dX8_offer_5 : decode cX8_offer 5 = .ok (.ifCond .eq 20, 3) := db_X8_offer_0.2.2.2.1
theorem dX8_offer_8 : decode cX8_offer 8 = .ok (.iload_n 2, 1) := db_X8_offer_0.2.2.2.2.1
set_option maxRecDepth 20000 in
theorem ggX8_offer_X8_isSide : GoodIn wsX8_offer wsX8_isSide := goodIn_r _ [12, 7, 8, 5, 9] rfl (by decide +kernel)
set_option maxRecDepth 20000 in
theorem gX8_offer_X8_isSide : GoodIn wsX8_offer (va_wsS RX8 60 yX8_isSide wsX8_isSide) := goodIn_app (goodIn_r _ [10, 11, 5] rfl (by decide +kernel)) ggX8_offer_X8_isSide
theorem dX8_offer_9 : decode cX8_offer 9 = .ok (.invokestatic 60, 3) := db_X8_offer_0.2.2.2.2.2.1
theorem dX8_offer_12 : decode cX8_offer 12 = .ok (.ifCond .eq 13, 3) := db_X8_offer_0.2.2.2.2.2.2.1
theorem dX8_offer_15 : decode cX8_offer 15 = .ok (.iload_n 3, 1) := db_X8_offer_0.2.2.2.2.2.2.2
set_option maxRecDepth 20000 in
theorem db_X8_offer_16 : (decode cX8_offer 16 = .ok (.iconst 0, 1)) ∧ (decode cX8_offer 17 = .ok (.bipush 100, 2)) ∧ (decode cX8_offer 19 = .ok (.invokestatic 35, 3)) ∧ (decode cX8_offer 22 = .ok (.ifCond .ne 5, 3)) ∧ (decode cX8_offer 27 = .ok (.aload_n 0, 1)) ∧ (decode cX8_offer 28 = .ok (.getfield 7, 3)) ∧ (decode cX8_offer 31 = .ok (.iload_n 1, 1)) ∧ (decode cX8_offer 32 = .ok (.iconst 2, 1)) := by decide +kernel
theorem dX8_offer_16 : decode cX8_offer 16 = .ok (.iconst 0, 1) := db_X8_offer_16.1
theorem dX8_offer_17 : decode cX8_offer 17 = .ok (.bipush 100, 2) := db_X8_offer_16.2.1
set_option maxRecDepth 20000 in
theorem ggX8_offer_X8_in : GoodIn wsX8_offer wsX8_in := goodIn_r _ [9] rfl (by decide +kernel)
set_option maxRecDepth 20000 in
theorem gX8_offer_X8_in : GoodIn wsX8_offer (va_wsS RX8 35 yX8_in wsX8_in) := goodIn_app (goodIn_r _ [7, 8, 5] rfl (by decide +kernel)) ggX8_offer_X8_in
theorem dX8_offer_19 : decode cX8_offer 19 = .ok (.invokestatic 35, 3) := db_X8_offer_16.2.2.1
theorem dX8_offer_22 : decode cX8_offer 22 = .ok (.ifCond .ne 5, 3) := db_X8_offer_16.2.2.2.1
theorem dX8_offer_27 : decode cX8_offer 27 = .ok (.aload_n 0, 1) := db_X8_offer_16.2.2.2.2.1
theorem dX8_offer_28 : decode cX8_offer 28 = .ok (.getfield 7, 3) := db_X8_offer_16.2.2.2.2.2.1
theorem dX8_offer_31 : decode cX8_offer 31 = .ok (.iload_n 1, 1) := db_X8_offer_16.2.2.2.2.2.2.1
theorem dX8_offer_32 : decode cX8_offer 32 = .ok (.iconst 2, 1) := db_X8_offer_16.2.2.2.2.2.2.2
set_option maxRecDepth 20000 in
theorem ggX8_offer_X8_at : GoodIn wsX8_offer wsX8_at := goodIn_r _ [15] rfl (by decide +kernel)
set_option maxRecDepth 20000 in
theorem gX8_offer_X8_at : GoodIn wsX8_offer (va_wsS RX8 46 yX8_at wsX8_at) := goodIn_app (goodIn_r _ [13, 14, 5] rfl (by decide +kernel)) ggX8_offer_X8_at
set_option maxRecDepth 20000 in
theorem db_X8_offer_33 : (decode cX8_offer 33 = .ok (.invokestatic 46, 3)) ∧ (decode cX8_offer 36 = .ok (.iaload, 1)) ∧ (decode cX8_offer 37 = .ok (.ifCond .eq 6, 3)) ∧ (decode cX8_offer 43 = .ok (.aload_n 0, 1)) ∧ (decode cX8_offer 44 = .ok (.getfield 7, 3)) ∧ (decode cX8_offer 47 = .ok (.bipush 74, 2)) ∧ (decode cX8_offer 49 = .ok (.iconst 2, 1)) ∧ (decode cX8_offer 50 = .ok (.iload_n 1, 1)) := by decide +kernel
theorem dX8_offer_33 : decode cX8_offer 33 = .ok (.invokestatic 46, 3) := db_X8_offer_33.1
theorem dX8_offer_36 : decode cX8_offer 36 = .ok (.iaload, 1) := db_X8_offer_33.2.1
theorem dX8_offer_37 : decode cX8_offer 37 = .ok (.ifCond .eq 6, 3) := db_X8_offer_33.2.2.1
theorem dX8_offer_43 : decode cX8_offer 43 = .ok (.aload_n 0, 1) := db_X8_offer_33.2.2.2.1
theorem dX8_offer_44 : decode cX8_offer 44 = .ok (.getfield 7, 3) := db_X8_offer_33.2.2.2.2.1
theorem dX8_offer_47 : decode cX8_offer 47 = .ok (.bipush 74, 2) := db_X8_offer_33.2.2.2.2.2.1
theorem dX8_offer_49 : decode cX8_offer 49 = .ok (.iconst 2, 1) := db_X8_offer_33.2.2.2.2.2.2.1
theorem dX8_offer_50 : decode cX8_offer 50 = .ok (.iload_n 1, 1) := db_X8_offer_33.2.2.2.2.2.2.2
set_option maxRecDepth 20000 in
theorem db_X8_offer_51 : (decode cX8_offer 51 = .ok (.imul, 1)) ∧ (decode cX8_offer 52 = .ok (.iadd, 1)) ∧ (decode cX8_offer 53 = .ok (.iload_n 2, 1)) ∧ (decode cX8_offer 54 = .ok (.iadd, 1)) ∧ (decode cX8_offer 55 = .ok (.iaload, 1)) ∧ (decode cX8_offer 56 = .ok (.ifCond .lt 6, 3)) ∧ (decode cX8_offer 62 = .ok (.aload_n 0, 1)) ∧ (decode cX8_offer 63 = .ok (.getfield 7, 3)) := by decide +kernel
theorem dX8_offer_51 : decode cX8_offer 51 = .ok (.imul, 1) := db_X8_offer_51.1
theorem dX8_offer_52 : decode cX8_offer 52 = .ok (.iadd, 1) := db_X8_offer_51.2.1
theorem dX8_offer_53 : decode cX8_offer 53 = .ok (.iload_n 2, 1) := db_X8_offer_51.2.2.1
theorem dX8_offer_54 : decode cX8_offer 54 = .ok (.iadd, 1) := db_X8_offer_51.2.2.2.1
theorem dX8_offer_55 : decode cX8_offer 55 = .ok (.iaload, 1) := db_X8_offer_51.2.2.2.2.1
theorem dX8_offer_56 : decode cX8_offer 56 = .ok (.ifCond .lt 6, 3) := db_X8_offer_51.2.2.2.2.2.1
theorem dX8_offer_62 : decode cX8_offer 62 = .ok (.aload_n 0, 1) := db_X8_offer_51.2.2.2.2.2.2.1
theorem dX8_offer_63 : decode cX8_offer 63 = .ok (.getfield 7, 3) := db_X8_offer_51.2.2.2.2.2.2.2
set_option maxRecDepth 20000 in
theorem db_X8_offer_66 : (decode cX8_offer 66 = .ok (.iload_n 1, 1)) ∧ (decode cX8_offer 67 = .ok (.iconst 4, 1)) ∧ (decode cX8_offer 68 = .ok (.invokestatic 46, 3)) ∧ (decode cX8_offer 71 = .ok (.iaload, 1)) ∧ (decode cX8_offer 72 = .ok (.istore 4, 2)) ∧ (decode cX8_offer 74 = .ok (.iload 4, 2)) ∧ (decode cX8_offer 76 = .ok (.iconst 5, 1)) ∧ (decode cX8_offer 77 = .ok (.if_icmp .ne 6, 3)) := by decide +kernel
theorem dX8_offer_66 : decode cX8_offer 66 = .ok (.iload_n 1, 1) := db_X8_offer_66.1
theorem dX8_offer_67 : decode cX8_offer 67 = .ok (.iconst 4, 1) := db_X8_offer_66.2.1
theorem dX8_offer_68 : decode cX8_offer 68 = .ok (.invokestatic 46, 3) := db_X8_offer_66.2.2.1
theorem dX8_offer_71 : decode cX8_offer 71 = .ok (.iaload, 1) := db_X8_offer_66.2.2.2.1
theorem dX8_offer_72 : decode cX8_offer 72 = .ok (.istore 4, 2) := db_X8_offer_66.2.2.2.2.1
theorem dX8_offer_74 : decode cX8_offer 74 = .ok (.iload 4, 2) := db_X8_offer_66.2.2.2.2.2.1
theorem dX8_offer_76 : decode cX8_offer 76 = .ok (.iconst 5, 1) := db_X8_offer_66.2.2.2.2.2.2.1
theorem dX8_offer_77 : decode cX8_offer 77 = .ok (.if_icmp .ne 6, 3) := db_X8_offer_66.2.2.2.2.2.2.2
set_option maxRecDepth 20000 in
theorem db_X8_offer_83 : (decode cX8_offer 83 = .ok (.aload_n 0, 1)) ∧ (decode cX8_offer 84 = .ok (.getfield 7, 3)) ∧ (decode cX8_offer 87 = .ok (.bipush 74, 2)) ∧ (decode cX8_offer 89 = .ok (.iconst 2, 1)) ∧ (decode cX8_offer 90 = .ok (.iload_n 1, 1)) ∧ (decode cX8_offer 91 = .ok (.imul, 1)) ∧ (decode cX8_offer 92 = .ok (.iadd, 1)) ∧ (decode cX8_offer 93 = .ok (.iload_n 2, 1)) := by decide +kernel
theorem dX8_offer_83 : decode cX8_offer 83 = .ok (.aload_n 0, 1) := db_X8_offer_83.1
theorem dX8_offer_84 : decode cX8_offer 84 = .ok (.getfield 7, 3) := db_X8_offer_83.2.1
theorem dX8_offer_87 : decode cX8_offer 87 = .ok (.bipush 74, 2) := db_X8_offer_83.2.2.1
theorem dX8_offer_89 : decode cX8_offer 89 = .ok (.iconst 2, 1) := db_X8_offer_83.2.2.2.1
theorem dX8_offer_90 : decode cX8_offer 90 = .ok (.iload_n 1, 1) := db_X8_offer_83.2.2.2.2.1
theorem dX8_offer_91 : decode cX8_offer 91 = .ok (.imul, 1) := db_X8_offer_83.2.2.2.2.2.1
theorem dX8_offer_92 : decode cX8_offer 92 = .ok (.iadd, 1) := db_X8_offer_83.2.2.2.2.2.2.1
theorem dX8_offer_93 : decode cX8_offer 93 = .ok (.iload_n 2, 1) := db_X8_offer_83.2.2.2.2.2.2.2
set_option maxRecDepth 20000 in
theorem db_X8_offer_94 : (decode cX8_offer 94 = .ok (.iadd, 1)) ∧ (decode cX8_offer 95 = .ok (.iload_n 3, 1)) ∧ (decode cX8_offer 96 = .ok (.iastore, 1)) ∧ (decode cX8_offer 97 = .ok (.aload_n 0, 1)) ∧ (decode cX8_offer 98 = .ok (.getfield 7, 3)) ∧ (decode cX8_offer 101 = .ok (.bipush 74, 2)) ∧ (decode cX8_offer 103 = .ok (.iconst 2, 1)) ∧ (decode cX8_offer 104 = .ok (.iload_n 1, 1)) := by decide +kernel
theorem dX8_offer_94 : decode cX8_offer 94 = .ok (.iadd, 1) := db_X8_offer_94.1
theorem dX8_offer_95 : decode cX8_offer 95 = .ok (.iload_n 3, 1) := db_X8_offer_94.2.1
theorem dX8_offer_96 : decode cX8_offer 96 = .ok (.iastore, 1) := db_X8_offer_94.2.2.1
theorem dX8_offer_97 : decode cX8_offer 97 = .ok (.aload_n 0, 1) := db_X8_offer_94.2.2.2.1
theorem dX8_offer_98 : decode cX8_offer 98 = .ok (.getfield 7, 3) := db_X8_offer_94.2.2.2.2.1
theorem dX8_offer_101 : decode cX8_offer 101 = .ok (.bipush 74, 2) := db_X8_offer_94.2.2.2.2.2.1
theorem dX8_offer_103 : decode cX8_offer 103 = .ok (.iconst 2, 1) := db_X8_offer_94.2.2.2.2.2.2.1
theorem dX8_offer_104 : decode cX8_offer 104 = .ok (.iload_n 1, 1) := db_X8_offer_94.2.2.2.2.2.2.2
set_option maxRecDepth 20000 in
theorem db_X8_offer_105 : (decode cX8_offer 105 = .ok (.imul, 1)) ∧ (decode cX8_offer 106 = .ok (.iadd, 1)) ∧ (decode cX8_offer 107 = .ok (.iconst 1, 1)) ∧ (decode cX8_offer 108 = .ok (.iadd, 1)) ∧ (decode cX8_offer 109 = .ok (.iload_n 2, 1)) ∧ (decode cX8_offer 110 = .ok (.isub, 1)) ∧ (decode cX8_offer 111 = .ok (.iaload, 1)) ∧ (decode cX8_offer 112 = .ok (.ifCond .ge 5, 3)) := by decide +kernel
theorem dX8_offer_105 : decode cX8_offer 105 = .ok (.imul, 1) := db_X8_offer_105.1
theorem dX8_offer_106 : decode cX8_offer 106 = .ok (.iadd, 1) := db_X8_offer_105.2.1
theorem dX8_offer_107 : decode cX8_offer 107 = .ok (.iconst 1, 1) := db_X8_offer_105.2.2.1
theorem dX8_offer_108 : decode cX8_offer 108 = .ok (.iadd, 1) := db_X8_offer_105.2.2.2.1
theorem dX8_offer_109 : decode cX8_offer 109 = .ok (.iload_n 2, 1) := db_X8_offer_105.2.2.2.2.1
theorem dX8_offer_110 : decode cX8_offer 110 = .ok (.isub, 1) := db_X8_offer_105.2.2.2.2.2.1
theorem dX8_offer_111 : decode cX8_offer 111 = .ok (.iaload, 1) := db_X8_offer_105.2.2.2.2.2.2.1
theorem dX8_offer_112 : decode cX8_offer 112 = .ok (.ifCond .ge 5, 3) := db_X8_offer_105.2.2.2.2.2.2.2
set_option maxRecDepth 20000 in
theorem db_X8_offer_117 : (decode cX8_offer 117 = .ok (.aload_n 0, 1)) ∧ (decode cX8_offer 118 = .ok (.getfield 7, 3)) ∧ (decode cX8_offer 121 = .ok (.bipush 74, 2)) ∧ (decode cX8_offer 123 = .ok (.iconst 2, 1)) ∧ (decode cX8_offer 124 = .ok (.iload_n 1, 1)) ∧ (decode cX8_offer 125 = .ok (.imul, 1)) ∧ (decode cX8_offer 126 = .ok (.iadd, 1)) ∧ (decode cX8_offer 127 = .ok (.iaload, 1)) := by decide +kernel
theorem dX8_offer_117 : decode cX8_offer 117 = .ok (.aload_n 0, 1) := db_X8_offer_117.1
theorem dX8_offer_118 : decode cX8_offer 118 = .ok (.getfield 7, 3) := db_X8_offer_117.2.1
theorem dX8_offer_121 : decode cX8_offer 121 = .ok (.bipush 74, 2) := db_X8_offer_117.2.2.1
theorem dX8_offer_123 : decode cX8_offer 123 = .ok (.iconst 2, 1) := db_X8_offer_117.2.2.2.1
theorem dX8_offer_124 : decode cX8_offer 124 = .ok (.iload_n 1, 1) := db_X8_offer_117.2.2.2.2.1
theorem dX8_offer_125 : decode cX8_offer 125 = .ok (.imul, 1) := db_X8_offer_117.2.2.2.2.2.1
theorem dX8_offer_126 : decode cX8_offer 126 = .ok (.iadd, 1) := db_X8_offer_117.2.2.2.2.2.2.1
theorem dX8_offer_127 : decode cX8_offer 127 = .ok (.iaload, 1) := db_X8_offer_117.2.2.2.2.2.2.2
set_option maxRecDepth 20000 in
theorem db_X8_offer_128 : (decode cX8_offer 128 = .ok (.istore 5, 2)) ∧ (decode cX8_offer 130 = .ok (.aload_n 0, 1)) ∧ (decode cX8_offer 131 = .ok (.getfield 7, 3)) ∧ (decode cX8_offer 134 = .ok (.bipush 74, 2)) ∧ (decode cX8_offer 136 = .ok (.iconst 2, 1)) ∧ (decode cX8_offer 137 = .ok (.iload_n 1, 1)) ∧ (decode cX8_offer 138 = .ok (.imul, 1)) ∧ (decode cX8_offer 139 = .ok (.iadd, 1)) := by decide +kernel
theorem dX8_offer_128 : decode cX8_offer 128 = .ok (.istore 5, 2) := db_X8_offer_128.1
theorem dX8_offer_130 : decode cX8_offer 130 = .ok (.aload_n 0, 1) := db_X8_offer_128.2.1
theorem dX8_offer_131 : decode cX8_offer 131 = .ok (.getfield 7, 3) := db_X8_offer_128.2.2.1
theorem dX8_offer_134 : decode cX8_offer 134 = .ok (.bipush 74, 2) := db_X8_offer_128.2.2.2.1
theorem dX8_offer_136 : decode cX8_offer 136 = .ok (.iconst 2, 1) := db_X8_offer_128.2.2.2.2.1
theorem dX8_offer_137 : decode cX8_offer 137 = .ok (.iload_n 1, 1) := db_X8_offer_128.2.2.2.2.2.1
theorem dX8_offer_138 : decode cX8_offer 138 = .ok (.imul, 1) := db_X8_offer_128.2.2.2.2.2.2.1
theorem dX8_offer_139 : decode cX8_offer 139 = .ok (.iadd, 1) := db_X8_offer_128.2.2.2.2.2.2.2
set_option maxRecDepth 20000 in
theorem db_X8_offer_140 : (decode cX8_offer 140 = .ok (.iconst 1, 1)) ∧ (decode cX8_offer 141 = .ok (.iadd, 1)) ∧ (decode cX8_offer 142 = .ok (.iaload, 1)) ∧ (decode cX8_offer 143 = .ok (.istore 6, 2)) ∧ (decode cX8_offer 145 = .ok (.aload_n 0, 1)) ∧ (decode cX8_offer 146 = .ok (.getfield 7, 3)) ∧ (decode cX8_offer 149 = .ok (.bipush 86, 2)) ∧ (decode cX8_offer 151 = .ok (.bipush 10, 2)) := by decide +kernel
theorem dX8_offer_140 : decode cX8_offer 140 = .ok (.iconst 1, 1) := db_X8_offer_140.1
theorem dX8_offer_141 : decode cX8_offer 141 = .ok (.iadd, 1) := db_X8_offer_140.2.1
theorem dX8_offer_142 : decode cX8_offer 142 = .ok (.iaload, 1) := db_X8_offer_140.2.2.1
theorem dX8_offer_143 : decode cX8_offer 143 = .ok (.istore 6, 2) := db_X8_offer_140.2.2.2.1
theorem dX8_offer_145 : decode cX8_offer 145 = .ok (.aload_n 0, 1) := db_X8_offer_140.2.2.2.2.1
theorem dX8_offer_146 : decode cX8_offer 146 = .ok (.getfield 7, 3) := db_X8_offer_140.2.2.2.2.2.1
theorem dX8_offer_149 : decode cX8_offer 149 = .ok (.bipush 86, 2) := db_X8_offer_140.2.2.2.2.2.2.1
theorem dX8_offer_151 : decode cX8_offer 151 = .ok (.bipush 10, 2) := db_X8_offer_140.2.2.2.2.2.2.2
set_option maxRecDepth 20000 in
theorem db_X8_offer_153 : (decode cX8_offer 153 = .ok (.iload_n 1, 1)) ∧ (decode cX8_offer 154 = .ok (.imul, 1)) ∧ (decode cX8_offer 155 = .ok (.iadd, 1)) ∧ (decode cX8_offer 156 = .ok (.iconst 2, 1)) ∧ (decode cX8_offer 157 = .ok (.iload 4, 2)) ∧ (decode cX8_offer 159 = .ok (.imul, 1)) ∧ (decode cX8_offer 160 = .ok (.iadd, 1)) ∧ (decode cX8_offer 161 = .ok (.iload 5, 2)) := by decide +kernel
theorem dX8_offer_153 : decode cX8_offer 153 = .ok (.iload_n 1, 1) := db_X8_offer_153.1
theorem dX8_offer_154 : decode cX8_offer 154 = .ok (.imul, 1) := db_X8_offer_153.2.1
theorem dX8_offer_155 : decode cX8_offer 155 = .ok (.iadd, 1) := db_X8_offer_153.2.2.1
theorem dX8_offer_156 : decode cX8_offer 156 = .ok (.iconst 2, 1) := db_X8_offer_153.2.2.2.1
theorem dX8_offer_157 : decode cX8_offer 157 = .ok (.iload 4, 2) := db_X8_offer_153.2.2.2.2.1
theorem dX8_offer_159 : decode cX8_offer 159 = .ok (.imul, 1) := db_X8_offer_153.2.2.2.2.2.1
theorem dX8_offer_160 : decode cX8_offer 160 = .ok (.iadd, 1) := db_X8_offer_153.2.2.2.2.2.2.1
theorem dX8_offer_161 : decode cX8_offer 161 = .ok (.iload 5, 2) := db_X8_offer_153.2.2.2.2.2.2.2
set_option maxRecDepth 20000 in
theorem db_X8_offer_163 : (decode cX8_offer 163 = .ok (.iastore, 1)) ∧ (decode cX8_offer 164 = .ok (.aload_n 0, 1)) ∧ (decode cX8_offer 165 = .ok (.getfield 7, 3)) ∧ (decode cX8_offer 168 = .ok (.bipush 86, 2)) ∧ (decode cX8_offer 170 = .ok (.bipush 10, 2)) ∧ (decode cX8_offer 172 = .ok (.iload_n 1, 1)) ∧ (decode cX8_offer 173 = .ok (.imul, 1)) ∧ (decode cX8_offer 174 = .ok (.iadd, 1)) := by decide +kernel
theorem dX8_offer_163 : decode cX8_offer 163 = .ok (.iastore, 1) := db_X8_offer_163.1
theorem dX8_offer_164 : decode cX8_offer 164 = .ok (.aload_n 0, 1) := db_X8_offer_163.2.1
theorem dX8_offer_165 : decode cX8_offer 165 = .ok (.getfield 7, 3) := db_X8_offer_163.2.2.1
theorem dX8_offer_168 : decode cX8_offer 168 = .ok (.bipush 86, 2) := db_X8_offer_163.2.2.2.1
theorem dX8_offer_170 : decode cX8_offer 170 = .ok (.bipush 10, 2) := db_X8_offer_163.2.2.2.2.1
theorem dX8_offer_172 : decode cX8_offer 172 = .ok (.iload_n 1, 1) := db_X8_offer_163.2.2.2.2.2.1
theorem dX8_offer_173 : decode cX8_offer 173 = .ok (.imul, 1) := db_X8_offer_163.2.2.2.2.2.2.1
theorem dX8_offer_174 : decode cX8_offer 174 = .ok (.iadd, 1) := db_X8_offer_163.2.2.2.2.2.2.2
set_option maxRecDepth 20000 in
theorem db_X8_offer_175 : (decode cX8_offer 175 = .ok (.iconst 2, 1)) ∧ (decode cX8_offer 176 = .ok (.iload 4, 2)) ∧ (decode cX8_offer 178 = .ok (.imul, 1)) ∧ (decode cX8_offer 179 = .ok (.iadd, 1)) ∧ (decode cX8_offer 180 = .ok (.iconst 1, 1)) ∧ (decode cX8_offer 181 = .ok (.iadd, 1)) ∧ (decode cX8_offer 182 = .ok (.iload 6, 2)) ∧ (decode cX8_offer 184 = .ok (.iastore, 1)) := by decide +kernel
theorem dX8_offer_175 : decode cX8_offer 175 = .ok (.iconst 2, 1) := db_X8_offer_175.1
theorem dX8_offer_176 : decode cX8_offer 176 = .ok (.iload 4, 2) := db_X8_offer_175.2.1
theorem dX8_offer_178 : decode cX8_offer 178 = .ok (.imul, 1) := db_X8_offer_175.2.2.1
theorem dX8_offer_179 : decode cX8_offer 179 = .ok (.iadd, 1) := db_X8_offer_175.2.2.2.1
theorem dX8_offer_180 : decode cX8_offer 180 = .ok (.iconst 1, 1) := db_X8_offer_175.2.2.2.2.1
theorem dX8_offer_181 : decode cX8_offer 181 = .ok (.iadd, 1) := db_X8_offer_175.2.2.2.2.2.1
theorem dX8_offer_182 : decode cX8_offer 182 = .ok (.iload 6, 2) := db_X8_offer_175.2.2.2.2.2.2.1
theorem dX8_offer_184 : decode cX8_offer 184 = .ok (.iastore, 1) := db_X8_offer_175.2.2.2.2.2.2.2
set_option maxRecDepth 20000 in
theorem db_X8_offer_185 : (decode cX8_offer 185 = .ok (.aload_n 0, 1)) ∧ (decode cX8_offer 186 = .ok (.getfield 7, 3)) ∧ (decode cX8_offer 189 = .ok (.iload_n 1, 1)) ∧ (decode cX8_offer 190 = .ok (.iconst 4, 1)) ∧ (decode cX8_offer 191 = .ok (.invokestatic 46, 3)) ∧ (decode cX8_offer 194 = .ok (.dup2, 1)) ∧ (decode cX8_offer 195 = .ok (.iaload, 1)) ∧ (decode cX8_offer 196 = .ok (.iconst 1, 1)) := by decide +kernel
theorem dX8_offer_185 : decode cX8_offer 185 = .ok (.aload_n 0, 1) := db_X8_offer_185.1
theorem dX8_offer_186 : decode cX8_offer 186 = .ok (.getfield 7, 3) := db_X8_offer_185.2.1
theorem dX8_offer_189 : decode cX8_offer 189 = .ok (.iload_n 1, 1) := db_X8_offer_185.2.2.1
theorem dX8_offer_190 : decode cX8_offer 190 = .ok (.iconst 4, 1) := db_X8_offer_185.2.2.2.1
theorem dX8_offer_191 : decode cX8_offer 191 = .ok (.invokestatic 46, 3) := db_X8_offer_185.2.2.2.2.1
theorem dX8_offer_194 : decode cX8_offer 194 = .ok (.dup2, 1) := db_X8_offer_185.2.2.2.2.2.1
theorem dX8_offer_195 : decode cX8_offer 195 = .ok (.iaload, 1) := db_X8_offer_185.2.2.2.2.2.2.1
theorem dX8_offer_196 : decode cX8_offer 196 = .ok (.iconst 1, 1) := db_X8_offer_185.2.2.2.2.2.2.2
set_option maxRecDepth 20000 in
theorem db_X8_offer_197 : (decode cX8_offer 197 = .ok (.iadd, 1)) ∧ (decode cX8_offer 198 = .ok (.iastore, 1)) ∧ (decode cX8_offer 199 = .ok (.aload_n 0, 1)) ∧ (decode cX8_offer 200 = .ok (.getfield 7, 3)) ∧ (decode cX8_offer 203 = .ok (.bipush 74, 2)) ∧ (decode cX8_offer 205 = .ok (.iconst 2, 1)) ∧ (decode cX8_offer 206 = .ok (.iload_n 1, 1)) ∧ (decode cX8_offer 207 = .ok (.imul, 1)) := by decide +kernel
theorem dX8_offer_197 : decode cX8_offer 197 = .ok (.iadd, 1) := db_X8_offer_197.1
theorem dX8_offer_198 : decode cX8_offer 198 = .ok (.iastore, 1) := db_X8_offer_197.2.1
theorem dX8_offer_199 : decode cX8_offer 199 = .ok (.aload_n 0, 1) := db_X8_offer_197.2.2.1
theorem dX8_offer_200 : decode cX8_offer 200 = .ok (.getfield 7, 3) := db_X8_offer_197.2.2.2.1
theorem dX8_offer_203 : decode cX8_offer 203 = .ok (.bipush 74, 2) := db_X8_offer_197.2.2.2.2.1
theorem dX8_offer_205 : decode cX8_offer 205 = .ok (.iconst 2, 1) := db_X8_offer_197.2.2.2.2.2.1
theorem dX8_offer_206 : decode cX8_offer 206 = .ok (.iload_n 1, 1) := db_X8_offer_197.2.2.2.2.2.2.1
theorem dX8_offer_207 : decode cX8_offer 207 = .ok (.imul, 1) := db_X8_offer_197.2.2.2.2.2.2.2
set_option maxRecDepth 20000 in
theorem db_X8_offer_208 : (decode cX8_offer 208 = .ok (.iadd, 1)) ∧ (decode cX8_offer 209 = .ok (.bipush (-5), 2)) ∧ (decode cX8_offer 211 = .ok (.iastore, 1)) ∧ (decode cX8_offer 212 = .ok (.aload_n 0, 1)) ∧ (decode cX8_offer 213 = .ok (.getfield 7, 3)) ∧ (decode cX8_offer 216 = .ok (.bipush 74, 2)) ∧ (decode cX8_offer 218 = .ok (.iconst 2, 1)) ∧ (decode cX8_offer 219 = .ok (.iload_n 1, 1)) := by decide +kernel
theorem dX8_offer_208 : decode cX8_offer 208 = .ok (.iadd, 1) := db_X8_offer_208.1
theorem dX8_offer_209 : decode cX8_offer 209 = .ok (.bipush (-5), 2) := db_X8_offer_208.2.1
theorem dX8_offer_211 : decode cX8_offer 211 = .ok (.iastore, 1) := db_X8_offer_208.2.2.1
theorem dX8_offer_212 : decode cX8_offer 212 = .ok (.aload_n 0, 1) := db_X8_offer_208.2.2.2.1
theorem dX8_offer_213 : decode cX8_offer 213 = .ok (.getfield 7, 3) := db_X8_offer_208.2.2.2.2.1
theorem dX8_offer_216 : decode cX8_offer 216 = .ok (.bipush 74, 2) := db_X8_offer_208.2.2.2.2.2.1
theorem dX8_offer_218 : decode cX8_offer 218 = .ok (.iconst 2, 1) := db_X8_offer_208.2.2.2.2.2.2.1
theorem dX8_offer_219 : decode cX8_offer 219 = .ok (.iload_n 1, 1) := db_X8_offer_208.2.2.2.2.2.2.2
set_option maxRecDepth 20000 in
theorem db_X8_offer_220 : (decode cX8_offer 220 = .ok (.imul, 1)) ∧ (decode cX8_offer 221 = .ok (.iadd, 1)) ∧ (decode cX8_offer 222 = .ok (.iconst 1, 1)) ∧ (decode cX8_offer 223 = .ok (.iadd, 1)) ∧ (decode cX8_offer 224 = .ok (.bipush (-5), 2)) ∧ (decode cX8_offer 226 = .ok (.iastore, 1)) ∧ (decode cX8_offer 227 = .ok (.iload 6, 2)) ∧ (decode cX8_offer 229 = .ok (.iload 5, 2)) := by decide +kernel
theorem dX8_offer_220 : decode cX8_offer 220 = .ok (.imul, 1) := db_X8_offer_220.1
theorem dX8_offer_221 : decode cX8_offer 221 = .ok (.iadd, 1) := db_X8_offer_220.2.1
theorem dX8_offer_222 : decode cX8_offer 222 = .ok (.iconst 1, 1) := db_X8_offer_220.2.2.1
theorem dX8_offer_223 : decode cX8_offer 223 = .ok (.iadd, 1) := db_X8_offer_220.2.2.2.1
theorem dX8_offer_224 : decode cX8_offer 224 = .ok (.bipush (-5), 2) := db_X8_offer_220.2.2.2.2.1
theorem dX8_offer_226 : decode cX8_offer 226 = .ok (.iastore, 1) := db_X8_offer_220.2.2.2.2.2.1
theorem dX8_offer_227 : decode cX8_offer 227 = .ok (.iload 6, 2) := db_X8_offer_220.2.2.2.2.2.2.1
theorem dX8_offer_229 : decode cX8_offer 229 = .ok (.iload 5, 2) := db_X8_offer_220.2.2.2.2.2.2.2
set_option maxRecDepth 20000 in
theorem db_X8_offer_231 : (decode cX8_offer 231 = .ok (.if_icmp .ge 5, 3)) ∧ (decode cX8_offer 236 = .ok (.aload_n 0, 1)) ∧ (decode cX8_offer 237 = .ok (.getfield 7, 3)) ∧ (decode cX8_offer 240 = .ok (.iload_n 1, 1)) ∧ (decode cX8_offer 241 = .ok (.iconst 2, 1)) ∧ (decode cX8_offer 242 = .ok (.invokestatic 46, 3)) ∧ (decode cX8_offer 245 = .ok (.iconst 1, 1)) ∧ (decode cX8_offer 246 = .ok (.iastore, 1)) := by decide +kernel
theorem dX8_offer_231 : decode cX8_offer 231 = .ok (.if_icmp .ge 5, 3) := db_X8_offer_231.1
theorem dX8_offer_236 : decode cX8_offer 236 = .ok (.aload_n 0, 1) := db_X8_offer_231.2.1
theorem dX8_offer_237 : decode cX8_offer 237 = .ok (.getfield 7, 3) := db_X8_offer_231.2.2.1
theorem dX8_offer_240 : decode cX8_offer 240 = .ok (.iload_n 1, 1) := db_X8_offer_231.2.2.2.1
theorem dX8_offer_241 : decode cX8_offer 241 = .ok (.iconst 2, 1) := db_X8_offer_231.2.2.2.2.1
theorem dX8_offer_242 : decode cX8_offer 242 = .ok (.invokestatic 46, 3) := db_X8_offer_231.2.2.2.2.2.1
theorem dX8_offer_245 : decode cX8_offer 245 = .ok (.iconst 1, 1) := db_X8_offer_231.2.2.2.2.2.2.1
theorem dX8_offer_246 : decode cX8_offer 246 = .ok (.iastore, 1) := db_X8_offer_231.2.2.2.2.2.2.2
set_option maxRecDepth 20000 in
theorem db_X8_offer_247 : (decode cX8_offer 247 = .ok (.aload_n 0, 1)) ∧ (decode cX8_offer 248 = .ok (.getfield 7, 3)) ∧ (decode cX8_offer 251 = .ok (.iload_n 1, 1)) ∧ (decode cX8_offer 252 = .ok (.iconst 3, 1)) ∧ (decode cX8_offer 253 = .ok (.invokestatic 46, 3)) ∧ (decode cX8_offer 256 = .ok (.iload 5, 2)) ∧ (decode cX8_offer 258 = .ok (.iload 6, 2)) ∧ (decode cX8_offer 260 = .ok (.iadd, 1)) := by decide +kernel
theorem dX8_offer_247 : decode cX8_offer 247 = .ok (.aload_n 0, 1) := db_X8_offer_247.1
theorem dX8_offer_248 : decode cX8_offer 248 = .ok (.getfield 7, 3) := db_X8_offer_247.2.1
theorem dX8_offer_251 : decode cX8_offer 251 = .ok (.iload_n 1, 1) := db_X8_offer_247.2.2.1
theorem dX8_offer_252 : decode cX8_offer 252 = .ok (.iconst 3, 1) := db_X8_offer_247.2.2.2.1
theorem dX8_offer_253 : decode cX8_offer 253 = .ok (.invokestatic 46, 3) := db_X8_offer_247.2.2.2.2.1
theorem dX8_offer_256 : decode cX8_offer 256 = .ok (.iload 5, 2) := db_X8_offer_247.2.2.2.2.2.1
theorem dX8_offer_258 : decode cX8_offer 258 = .ok (.iload 6, 2) := db_X8_offer_247.2.2.2.2.2.2.1
theorem dX8_offer_260 : decode cX8_offer 260 = .ok (.iadd, 1) := db_X8_offer_247.2.2.2.2.2.2.2
set_option maxRecDepth 20000 in
theorem db_X8_offer_261 : (decode cX8_offer 261 = .ok (.iconst 2, 1)) ∧ (decode cX8_offer 262 = .ok (.idiv, 1)) ∧ (decode cX8_offer 263 = .ok (.iastore, 1)) ∧ (decode cX8_offer 264 = .ok (.iconst 1, 1)) ∧ (decode cX8_offer 265 = .ok (.ireturn, 1)) ∧ (decode cX8_offer 234 = .ok (.iconst 2, 1)) ∧ (decode cX8_offer 235 = .ok (.ireturn, 1)) ∧ (decode cX8_offer 115 = .ok (.iconst 0, 1)) := by decide +kernel
theorem dX8_offer_261 : decode cX8_offer 261 = .ok (.iconst 2, 1) := db_X8_offer_261.1
theorem dX8_offer_262 : decode cX8_offer 262 = .ok (.idiv, 1) := db_X8_offer_261.2.1
theorem dX8_offer_263 : decode cX8_offer 263 = .ok (.iastore, 1) := db_X8_offer_261.2.2.1
theorem dX8_offer_264 : decode cX8_offer 264 = .ok (.iconst 1, 1) := db_X8_offer_261.2.2.2.1
theorem dX8_offer_265 : decode cX8_offer 265 = .ok (.ireturn, 1) := db_X8_offer_261.2.2.2.2.1
theorem dX8_offer_234 : decode cX8_offer 234 = .ok (.iconst 2, 1) := db_X8_offer_261.2.2.2.2.2.1
theorem dX8_offer_235 : decode cX8_offer 235 = .ok (.ireturn, 1) := db_X8_offer_261.2.2.2.2.2.2.1
theorem dX8_offer_115 : decode cX8_offer 115 = .ok (.iconst 0, 1) := db_X8_offer_261.2.2.2.2.2.2.2
set_option maxRecDepth 20000 in
theorem db_X8_offer_116 : (decode cX8_offer 116 = .ok (.ireturn, 1)) ∧ (decode cX8_offer 80 = .ok (.bipush (-2), 2)) ∧ (decode cX8_offer 82 = .ok (.ireturn, 1)) ∧ (decode cX8_offer 59 = .ok (.bipush (-3), 2)) ∧ (decode cX8_offer 61 = .ok (.ireturn, 1)) ∧ (decode cX8_offer 40 = .ok (.bipush (-4), 2)) ∧ (decode cX8_offer 42 = .ok (.ireturn, 1)) ∧ (decode cX8_offer 25 = .ok (.iconst (-1), 1)) := by decide +kernel
theorem dX8_offer_116 : decode cX8_offer 116 = .ok (.ireturn, 1) := db_X8_offer_116.1
theorem dX8_offer_80 : decode cX8_offer 80 = .ok (.bipush (-2), 2) := db_X8_offer_116.2.1
theorem dX8_offer_82 : decode cX8_offer 82 = .ok (.ireturn, 1) := db_X8_offer_116.2.2.1
theorem dX8_offer_59 : decode cX8_offer 59 = .ok (.bipush (-3), 2) := db_X8_offer_116.2.2.2.1
theorem dX8_offer_61 : decode cX8_offer 61 = .ok (.ireturn, 1) := db_X8_offer_116.2.2.2.2.1
theorem dX8_offer_40 : decode cX8_offer 40 = .ok (.bipush (-4), 2) := db_X8_offer_116.2.2.2.2.2.1
theorem dX8_offer_42 : decode cX8_offer 42 = .ok (.ireturn, 1) := db_X8_offer_116.2.2.2.2.2.2.1
theorem dX8_offer_25 : decode cX8_offer 25 = .ok (.iconst (-1), 1) := db_X8_offer_116.2.2.2.2.2.2.2
theorem dX8_offer_26 : decode cX8_offer 26 = .ok (.ireturn, 1) := by decide +kernel
/-- a store, place by place -/
theorem up2 {v : Nat → Nat → Int32} {k0 j0 : Nat} {x : Int32} (k j : Nat) : upr v k0 (upd (v k0) j0 x) k j = if k = k0 ∧ j = j0 then x else v k j := by
  by_cases h : k = k0
  · subst h
    rw [upr_s]
    by_cases h2 : j = j0
    · subst h2
      rw [pk_us, if_pos ⟨rfl, rfl⟩]
    · rw [pk_un h2, if_neg (fun q => h2 q.2)]
  · rw [upr_n h, if_neg (fun q => h q.1)]
theorem up1 {v : Nat → Nat → Int32} {j0 : Nat} {x : Int32} (n : Nat) : upr v 1 (upd (v 1) j0 x) 1 n = if n = j0 then x else v 1 n := by
  rw [upr_s]
  rfl
/-- bit y of x, as the machine asks for it -/
def btx (x y : Int32) : Int32 := (x >>> (y &&& 31)) &&& 1

set_option maxHeartbeats 4000000 in
set_option maxRecDepth 100000 in
theorem e_X8_close (l : Launch) (dC : Nat → ClassId) (dI : Nat → Nat → Nat) (cy : Nat → ClassId) (sz : Nat) (ad : Nat → Nat) (v : Nat → Nat → Int32) (hv : Ir v) (x0 : Int32) : Met l yX8_close wsX8_close ({ frames := 2, cells := 0, slots := 0, locals := 128 }) (va_Pc [.ref (ad 0), .int x0] (ex_Pre dC dI cy sz (wm ad cy v))) (va_Qi (fun (r : Int32) (u : Nat → Nat → Int32) => Ir u ∧ (¬ (0 ≤ x0.toInt ∧ x0.toInt < (v 1 2).toInt) → r = -1 ∧ u = v) ∧ ((0 ≤ x0.toInt ∧ x0.toInt < (v 1 2).toInt) ∧ (v 1 (34 + 7 * x0.toNatClampNeg)).toInt ≠ 0 → r = -4 ∧ u = v) ∧ ((0 ≤ x0.toInt ∧ x0.toInt < (v 1 2).toInt) ∧ (v 1 (34 + 7 * x0.toNatClampNeg)).toInt = 0 → r = 1 ∧ (∀ n : Nat, u 1 n = if n = 34 + 7 * x0.toNatClampNeg then 2 else v 1 n) ∧ (∀ k : Nat, k ≠ 1 → u k = v k))) (fun u t => ex_Pst dC dI (va_A (wm ad cy v) sz) (wm ad cy u) t) (va_A (wm ad cy v) sz)) 0 0 (va_A (wm ad cy v) sz) := by
  refine Met.ofW (cc := cX8_close) (maxL := 2) (ret := (some .int)) (by decide) rfl ?_
  intro p e s m args below meth c s₁ B hml hv
  obtain ⟨rfl, hsz, hE, hP, hK, hD0⟩ := hv
  have hx := B.exec
  have hb := B.bytes
  have hr := B.returns
  have hts := atoms_spec (ws := wsX8_close) B.pre
  have hown : s.vm.findClass RX8 = some m.cls := findClass_of_methodNamed B.named
  have hlocks := B.notSynchronized
  subst hsz
  have hD := hD0.self (sz := s.heap.size)
  generalize hAe : va_A (wm ad cy v) s.heap.size = A at hD ⊢
  have hA : ∀ q : Nat, s.heap.size ≤ q → A q := fun q h => by rw [← hAe]; exact Or.inr h
  have hS : va_S A s.heap s.heap [] := va_S.rf
  have hP : va_P (dC, dI) vwCl (wm ad cy v) s.heap := hP
  have hl := lv_entry ([.ref (ad 0), .int x0]) (n := 2) (Nat.le_of_ble_eq_true rfl)
  rw [lg_entry_eq]
  generalize (lg_sl ([.ref (ad 0), .int x0]) ++ List.replicate (2 - (lg_sl ([.ref (ad 0), .int x0])).length) Slot.unset).toArray = ls at hl ⊢
  have hl : lv_has ls 2 [(0, .ref (ad 0)), (1, .int x0)] := hl
  refine lv_aload_n hx hb dX8_close_0 rfl (lv_at hl 0 rfl) ?_
  refine lv_iload_n hx hb dX8_close_1 rfl (lv_at hl 1 rfl) ?_
  refine yw_i (w1 := fun (u : Nat → Nat → Int32) => wm ad cy u) hD hS hA (va_runV (As := [.int x0]) (rest := []) ⟨hx, hb, hml, hown, hts⟩ (q_X8_isCase l dC dI cy _ ad v hv x0) (cwV 1 hts gX8_close_X8_isCase rfl rfl rfl hd_V_X8_isCase_1 ⟨Nat.le_of_ble_eq_true rfl, Nat.le_of_ble_eq_true rfl⟩) (yw_preV hE hK hP hD (ci := 8) (q := (RX8, TX8, 11)) (q0 := 0) rfl (wm_at (by decide) rc_0)) rfl rfl hl.1 rfl (lv_room (Nat.le_of_ble_eq_true rfl)) dX8_close_2 ⟨Nat.le_of_ble_eq_true rfl, Nat.le_of_ble_eq_true rfl⟩) (fun r_1 v_1 H locs hw_1 hP hD hS => ?_)
  obtain ⟨-, hu_1, hw_1⟩ := hw_1
  replace hu_1 := hu_1.symm
  subst hu_1
  rcases hw_1 with ⟨rfl, ha_2⟩ | ⟨rfl, ha_2⟩
  · have hb_2 := hv 1 2 6 (by decide)
    have hj_2 : 0 ≤ x0.toInt ∧ x0.toInt ≤ 5 := ⟨by omega, by omega⟩
    refine lv_if_ne (tgt := 10) hx hb dX8_close_5 (by decide) (fun _ => ?_) (fun c9 => absurd c9 (by decide))
    refine lv_aload_n hx hb dX8_close_10 rfl (lv_at hl 0 rfl) ?_
    refine va_get (D := (dC, dI)) (ci := 8) (v := .ref (ad 1)) (C := RX8) (T := TX8) (N := 11) hx hb hts iwX8_close_X8 hown hK hP (0) (wm_at (by decide) rc_0) rfl 0 (by decide) (hts (.fieldLink RX8 7 "QuietStairsModel" "s" "[I") fwX8_close_1) (fun _ h9 => h9) rfl dX8_close_11 ?_
    refine lv_iload_n hx hb dX8_close_14 rfl (lv_at hl 1 rfl) ?_
    refine lv_iconst (v := 2) hx hb dX8_close_15 (by decide) ?_
    refine yc_p hP hS (va_runS (As := [.int x0, .int 2]) (rest := [.ref (ad 1)]) ⟨hx, hb, hml, hown, hts⟩ (c_X8_at l x0 2) (cwS 2 hts gX8_close_X8_at rfl rfl rfl hd_S_X8_at_2 ⟨Nat.le_of_ble_eq_true rfl, Nat.le_of_ble_eq_true rfl⟩) ex_preP rfl rfl hl.1 rfl (lv_room (Nat.le_of_ble_eq_true rfl)) dX8_close_16 ⟨Nat.le_of_ble_eq_true rfl, Nat.le_of_ble_eq_true rfl⟩) (fun r_3 H locs hw_3 hP hS => ?_)
    have k_2 : (2 : Int32).toInt = 2 := by decide
    have tr_3 : r_3.toInt = 32 + 7 * x0.toInt + (2 : Int32).toInt := t_at hw_3 ⟨by omega, by omega⟩ ⟨by omega, by omega⟩
    have zn_x0 : (x0.toNatClampNeg : Int) = x0.toInt := t_nn (by omega)
    have nr_3 : r_3.toNatClampNeg = 34 + 7 * x0.toNatClampNeg := by have z1 := t_nn (x := r_3) (by omega); omega
    refine va_iald hx hb hK hP (1) 0 (wm_at (by decide) rc_1) rfl (vp_in_iff.mpr ⟨by omega, by omega⟩) dX8_close_19 ?_
    refine lv_topi (fun x_4 ex_4 => ?_)
    rw [nr_3] at ex_4
    have qx_4 : x_4.toInt = (v 1 (34 + 7 * x0.toNatClampNeg)).toInt := congrArg Int32.toInt ex_4
    have k_0 : (0 : Int32).toInt = 0 := by decide
    refine lv_if_eq (tgt := 26) hx hb dX8_close_20 (by decide) (fun c_5 => ?_) (fun c_5 => ?_)
    · have tc_5 : x_4.toInt = (0 : Int32).toInt := by rw [c_5]
      refine lv_aload_n hx hb dX8_close_26 rfl (lv_at hl 0 rfl) ?_
      refine va_get (D := (dC, dI)) (ci := 8) (v := .ref (ad 1)) (C := RX8) (T := TX8) (N := 11) hx hb hts iwX8_close_X8 hown hK hP (0) (wm_at (by decide) rc_0) rfl 0 (by decide) (hts (.fieldLink RX8 7 "QuietStairsModel" "s" "[I") fwX8_close_1) (fun _ h9 => h9) rfl dX8_close_27 ?_
      refine lv_iload_n hx hb dX8_close_30 rfl (lv_at hl 1 rfl) ?_
      refine lv_iconst (v := 2) hx hb dX8_close_31 (by decide) ?_
      refine yc_p hP hS (va_runS (As := [.int x0, .int 2]) (rest := [.ref (ad 1)]) ⟨hx, hb, hml, hown, hts⟩ (c_X8_at l x0 2) (cwS 2 hts gX8_close_X8_at rfl rfl rfl hd_S_X8_at_2 ⟨Nat.le_of_ble_eq_true rfl, Nat.le_of_ble_eq_true rfl⟩) ex_preP rfl rfl hl.1 rfl (lv_room (Nat.le_of_ble_eq_true rfl)) dX8_close_32 ⟨Nat.le_of_ble_eq_true rfl, Nat.le_of_ble_eq_true rfl⟩) (fun r_6 H locs hw_6 hP hS => ?_)
      obtain rfl : r_3 = r_6 := hw_3.trans hw_6.symm
      refine lv_iconst (v := 2) hx hb dX8_close_35 (by decide) ?_
      refine va_iast hx hb hK hP hD hS (1) 0 (wm_at (by decide) rc_1) rfl (vp_in_iff.mpr ⟨by omega, by omega⟩) dX8_close_36 (fun H locs hP hD hS => ?_)
      obtain ⟨v_7, ev_7⟩ : ∃ u : Nat → Nat → Int32, u = upr v 1 (upd (v 1) (r_3.toNatClampNeg) 2) := ⟨_, rfl⟩
      have hP : va_P (dC, dI) vwCl (wm ad cy v_7) H := by rw [ev_7, ← wm_put (e := _) rc_1]; exact hP
      have hD : va_D A (wm ad cy v_7) := by rw [ev_7, ← wm_put (e := _) rc_1]; exact hD
      have hv : Ir v_7 := by rw [ev_7]; exact hv.put (k := 1) (fun h q => by rw [show br 1 _ = _ from (bx_2 (i := x0.toInt) (s := 2) (by omega) ⟨by omega, by omega⟩ (by omega))] at q; cases q)
      rw [nr_3] at ev_7
      refine lv_iconst (v := 1) hx hb dX8_close_37 (by decide) ?_
      have hpost : (¬ (0 ≤ x0.toInt ∧ x0.toInt < (v 1 2).toInt) → (1 : Int32) = -1 ∧ v_7 = v) ∧ ((0 ≤ x0.toInt ∧ x0.toInt < (v 1 2).toInt) ∧ (v 1 (34 + 7 * x0.toNatClampNeg)).toInt ≠ 0 → (1 : Int32) = -4 ∧ v_7 = v) ∧ ((0 ≤ x0.toInt ∧ x0.toInt < (v 1 2).toInt) ∧ (v 1 (34 + 7 * x0.toNatClampNeg)).toInt = 0 → (1 : Int32) = 1 ∧ (∀ n : Nat, v_7 1 n = if n = 34 + 7 * x0.toNatClampNeg then 2 else v 1 n) ∧ (∀ k : Nat, k ≠ 1 → v_7 k = v k)) := by
        refine ⟨fun hq => ?_, fun hq => ?_, fun hq => ?_⟩
        · exfalso; omega
        · exfalso; omega
        · exact ⟨rfl, fun n => by rw [ev_7, up1], fun k hk => by rw [ev_7, upr_n hk]⟩
      exact W.iret (v := 1) hx hb hr (fun t ht hW => ⟨⟨1, v_7, rfl, ⟨hv, hpost⟩, by rw [ht]; exact hP, hD⟩, hS.F ht⟩) hS.2.2 dX8_close_38
    · have tc_5 : x_4.toInt ≠ (0 : Int32).toInt := fun q => absurd (Int32.toInt_inj.mp q) c_5
      refine lv_bipush (v := (-4)) hx hb dX8_close_23 (by decide) ?_
      have hpost : (¬ (0 ≤ x0.toInt ∧ x0.toInt < (v 1 2).toInt) → ((-4) : Int32) = -1 ∧ v = v) ∧ ((0 ≤ x0.toInt ∧ x0.toInt < (v 1 2).toInt) ∧ (v 1 (34 + 7 * x0.toNatClampNeg)).toInt ≠ 0 → ((-4) : Int32) = -4 ∧ v = v) ∧ ((0 ≤ x0.toInt ∧ x0.toInt < (v 1 2).toInt) ∧ (v 1 (34 + 7 * x0.toNatClampNeg)).toInt = 0 → ((-4) : Int32) = 1 ∧ (∀ n : Nat, v 1 n = if n = 34 + 7 * x0.toNatClampNeg then 2 else v 1 n) ∧ (∀ k : Nat, k ≠ 1 → v k = v k)) := by
        refine ⟨fun hq => ?_, fun hq => ?_, fun hq => ?_⟩
        · exfalso; omega
        · exact ⟨rfl, rfl⟩
        · exfalso; omega
      exact W.iret (v := (-4)) hx hb hr (fun t ht hW => ⟨⟨(-4), v, rfl, ⟨hv, hpost⟩, by rw [ht]; exact hP, hD⟩, hS.F ht⟩) hS.2.2 dX8_close_25
  · refine lv_if_ne (tgt := 10) hx hb dX8_close_5 (by decide) (fun c9 => absurd c9 (by decide)) (fun _ => ?_)
    refine lv_iconst (v := (-1)) hx hb dX8_close_8 (by decide) ?_
    have hpost : (¬ (0 ≤ x0.toInt ∧ x0.toInt < (v 1 2).toInt) → ((-1) : Int32) = -1 ∧ v = v) ∧ ((0 ≤ x0.toInt ∧ x0.toInt < (v 1 2).toInt) ∧ (v 1 (34 + 7 * x0.toNatClampNeg)).toInt ≠ 0 → ((-1) : Int32) = -4 ∧ v = v) ∧ ((0 ≤ x0.toInt ∧ x0.toInt < (v 1 2).toInt) ∧ (v 1 (34 + 7 * x0.toNatClampNeg)).toInt = 0 → ((-1) : Int32) = 1 ∧ (∀ n : Nat, v 1 n = if n = 34 + 7 * x0.toNatClampNeg then 2 else v 1 n) ∧ (∀ k : Nat, k ≠ 1 → v k = v k)) := by
      refine ⟨fun hq => ?_, fun hq => ?_, fun hq => ?_⟩
      · exact ⟨rfl, rfl⟩
      · exfalso; omega
      · exfalso; omega
    exact W.iret (v := (-1)) hx hb hr (fun t ht hW => ⟨⟨(-1), v, rfl, ⟨hv, hpost⟩, by rw [ht]; exact hP, hD⟩, hS.F ht⟩) hS.2.2 dX8_close_9

set_option maxHeartbeats 4000000 in
set_option maxRecDepth 100000 in
theorem e_X8_weight (l : Launch) (dC : Nat → ClassId) (dI : Nat → Nat → Nat) (cy : Nat → ClassId) (sz : Nat) (ad : Nat → Nat) (v : Nat → Nat → Int32) (hv : Ir v) (x0 x1 : Int32) : Met l yX8_weight wsX8_weight ({ frames := 2, cells := 0, slots := 0, locals := 128 }) (va_Pc [.ref (ad 0), .int x0, .int x1] (ex_Pre dC dI cy sz (wm ad cy v))) (va_Qi (fun (r : Int32) (u : Nat → Nat → Int32) => Ir u ∧ (¬ ((0 ≤ x0.toInt ∧ x0.toInt < (v 1 2).toInt) ∧ 1 ≤ x1.toInt ∧ x1.toInt ≤ 9) → r = -1 ∧ u = v) ∧ ((0 ≤ x0.toInt ∧ x0.toInt < (v 1 2).toInt) ∧ 1 ≤ x1.toInt ∧ x1.toInt ≤ 9 → r = v 1 (37 + 7 * x0.toNatClampNeg) ∧ (∀ n : Nat, u 1 n = if n = 37 + 7 * x0.toNatClampNeg then x1 else v 1 n) ∧ (∀ k : Nat, k ≠ 1 → u k = v k))) (fun u t => ex_Pst dC dI (va_A (wm ad cy v) sz) (wm ad cy u) t) (va_A (wm ad cy v) sz)) 0 0 (va_A (wm ad cy v) sz) := by
  refine Met.ofW (cc := cX8_weight) (maxL := 4) (ret := (some .int)) (by decide) rfl ?_
  intro p e s m args below meth c s₁ B hml hv
  obtain ⟨rfl, hsz, hE, hP, hK, hD0⟩ := hv
  have hx := B.exec
  have hb := B.bytes
  have hr := B.returns
  have hts := atoms_spec (ws := wsX8_weight) B.pre
  have hown : s.vm.findClass RX8 = some m.cls := findClass_of_methodNamed B.named
  have hlocks := B.notSynchronized
  subst hsz
  have hD := hD0.self (sz := s.heap.size)
  generalize hAe : va_A (wm ad cy v) s.heap.size = A at hD ⊢
  have hA : ∀ q : Nat, s.heap.size ≤ q → A q := fun q h => by rw [← hAe]; exact Or.inr h
  have hS : va_S A s.heap s.heap [] := va_S.rf
  have hP : va_P (dC, dI) vwCl (wm ad cy v) s.heap := hP
  have hl := lv_entry ([.ref (ad 0), .int x0, .int x1]) (n := 4) (Nat.le_of_ble_eq_true rfl)
  rw [lg_entry_eq]
  generalize (lg_sl ([.ref (ad 0), .int x0, .int x1]) ++ List.replicate (4 - (lg_sl ([.ref (ad 0), .int x0, .int x1])).length) Slot.unset).toArray = ls at hl ⊢
  have hl : lv_has ls 4 [(0, .ref (ad 0)), (1, .int x0), (2, .int x1)] := hl
  refine lv_aload_n hx hb dX8_weight_0 rfl (lv_at hl 0 rfl) ?_
  refine lv_iload_n hx hb dX8_weight_1 rfl (lv_at hl 1 rfl) ?_
  refine yw_i (w1 := fun (u : Nat → Nat → Int32) => wm ad cy u) hD hS hA (va_runV (As := [.int x0]) (rest := []) ⟨hx, hb, hml, hown, hts⟩ (q_X8_isCase l dC dI cy _ ad v hv x0) (cwV 1 hts gX8_weight_X8_isCase rfl rfl rfl hd_V_X8_isCase_1 ⟨Nat.le_of_ble_eq_true rfl, Nat.le_of_ble_eq_true rfl⟩) (yw_preV hE hK hP hD (ci := 8) (q := (RX8, TX8, 11)) (q0 := 0) rfl (wm_at (by decide) rc_0)) rfl rfl hl.1 rfl (lv_room (Nat.le_of_ble_eq_true rfl)) dX8_weight_2 ⟨Nat.le_of_ble_eq_true rfl, Nat.le_of_ble_eq_true rfl⟩) (fun r_1 v_1 H locs hw_1 hP hD hS => ?_)
  obtain ⟨-, hu_1, hw_1⟩ := hw_1
  replace hu_1 := hu_1.symm
  subst hu_1
  rcases hw_1 with ⟨rfl, ha_2⟩ | ⟨rfl, ha_2⟩
  · have hb_2 := hv 1 2 6 (by decide)
    have hj_2 : 0 ≤ x0.toInt ∧ x0.toInt ≤ 5 := ⟨by omega, by omega⟩
    refine lv_if_eq (tgt := 18) hx hb dX8_weight_5 (by decide) (fun c9 => absurd c9 (by decide)) (fun _ => ?_)
    refine lv_iload_n hx hb dX8_weight_8 rfl (lv_at hl 2 rfl) ?_
    refine lv_iconst (v := 1) hx hb dX8_weight_9 (by decide) ?_
    refine lv_bipush (v := 9) hx hb dX8_weight_10 (by decide) ?_
    refine yc_p hP hS (va_runS (As := [.int x1, .int 1, .int 9]) (rest := []) ⟨hx, hb, hml, hown, hts⟩ (c_X8_in l x1 1 9) (cwS 3 hts gX8_weight_X8_in rfl rfl rfl hd_S_X8_in_3 ⟨Nat.le_of_ble_eq_true rfl, Nat.le_of_ble_eq_true rfl⟩) ex_preP rfl rfl hl.1 rfl (lv_room (Nat.le_of_ble_eq_true rfl)) dX8_weight_12 ⟨Nat.le_of_ble_eq_true rfl, Nat.le_of_ble_eq_true rfl⟩) (fun r_3 H locs hw_3 hP hS => ?_)
    rcases wi_ca hw_3 with ⟨rfl, hc_4⟩ | ⟨rfl, hc_4⟩
    · have k_1 : (1 : Int32).toInt = 1 := by decide
      have k_9 : (9 : Int32).toInt = 9 := by decide
      have tc_4 := wi_tl hc_4
      refine lv_if_ne (tgt := 20) hx hb dX8_weight_15 (by decide) (fun _ => ?_) (fun c9 => absurd c9 (by decide))
      refine lv_aload_n hx hb dX8_weight_20 rfl (lv_at hl 0 rfl) ?_
      refine va_get (D := (dC, dI)) (ci := 8) (v := .ref (ad 1)) (C := RX8) (T := TX8) (N := 11) hx hb hts iwX8_weight_X8 hown hK hP (0) (wm_at (by decide) rc_0) rfl 0 (by decide) (hts (.fieldLink RX8 7 "QuietStairsModel" "s" "[I") fwX8_weight_1) (fun _ h9 => h9) rfl dX8_weight_21 ?_
      refine lv_iload_n hx hb dX8_weight_24 rfl (lv_at hl 1 rfl) ?_
      refine lv_iconst (v := 5) hx hb dX8_weight_25 (by decide) ?_
      refine yc_p hP hS (va_runS (As := [.int x0, .int 5]) (rest := [.ref (ad 1)]) ⟨hx, hb, hml, hown, hts⟩ (c_X8_at l x0 5) (cwS 2 hts gX8_weight_X8_at rfl rfl rfl hd_S_X8_at_2 ⟨Nat.le_of_ble_eq_true rfl, Nat.le_of_ble_eq_true rfl⟩) ex_preP rfl rfl hl.1 rfl (lv_room (Nat.le_of_ble_eq_true rfl)) dX8_weight_26 ⟨Nat.le_of_ble_eq_true rfl, Nat.le_of_ble_eq_true rfl⟩) (fun r_5 H locs hw_5 hP hS => ?_)
      have k_5 : (5 : Int32).toInt = 5 := by decide
      have tr_5 : r_5.toInt = 32 + 7 * x0.toInt + (5 : Int32).toInt := t_at hw_5 ⟨by omega, by omega⟩ ⟨by omega, by omega⟩
      have zn_x0 : (x0.toNatClampNeg : Int) = x0.toInt := t_nn (by omega)
      have nr_5 : r_5.toNatClampNeg = 37 + 7 * x0.toNatClampNeg := by have z1 := t_nn (x := r_5) (by omega); omega
      refine va_iald hx hb hK hP (1) 0 (wm_at (by decide) rc_1) rfl (vp_in_iff.mpr ⟨by omega, by omega⟩) dX8_weight_29 ?_
      refine lv_topi (fun x_6 ex_6 => ?_)
      rw [nr_5] at ex_6
      have qx_6 : x_6.toInt = (v 1 (37 + 7 * x0.toNatClampNeg)).toInt := congrArg Int32.toInt ex_6
      refine lv_istore_n (lv' := [(3, .int x_6), (0, .ref (ad 0)), (1, .int x0), (2, .int x1)]) hx hb dX8_weight_30 rfl hl (by decide) rfl (fun ls hl => ?_)
      refine lv_aload_n hx hb dX8_weight_31 rfl (lv_at hl 1 rfl) ?_
      refine va_get (D := (dC, dI)) (ci := 8) (v := .ref (ad 1)) (C := RX8) (T := TX8) (N := 11) hx hb hts iwX8_weight_X8 hown hK hP (0) (wm_at (by decide) rc_0) rfl 0 (by decide) (hts (.fieldLink RX8 7 "QuietStairsModel" "s" "[I") fwX8_weight_1) (fun _ h9 => h9) rfl dX8_weight_32 ?_
      refine lv_iload_n hx hb dX8_weight_35 rfl (lv_at hl 2 rfl) ?_
      refine lv_iconst (v := 5) hx hb dX8_weight_36 (by decide) ?_
      refine yc_p hP hS (va_runS (As := [.int x0, .int 5]) (rest := [.ref (ad 1)]) ⟨hx, hb, hml, hown, hts⟩ (c_X8_at l x0 5) (cwS 2 hts gX8_weight_X8_at rfl rfl rfl hd_S_X8_at_2 ⟨Nat.le_of_ble_eq_true rfl, Nat.le_of_ble_eq_true rfl⟩) ex_preP rfl rfl hl.1 rfl (lv_room (Nat.le_of_ble_eq_true rfl)) dX8_weight_37 ⟨Nat.le_of_ble_eq_true rfl, Nat.le_of_ble_eq_true rfl⟩) (fun r_7 H locs hw_7 hP hS => ?_)
      obtain rfl : r_5 = r_7 := hw_5.trans hw_7.symm
      refine lv_iload_n hx hb dX8_weight_40 rfl (lv_at hl 3 rfl) ?_
      refine va_iast hx hb hK hP hD hS (1) 0 (wm_at (by decide) rc_1) rfl (vp_in_iff.mpr ⟨by omega, by omega⟩) dX8_weight_41 (fun H locs hP hD hS => ?_)
      obtain ⟨v_8, ev_8⟩ : ∃ u : Nat → Nat → Int32, u = upr v 1 (upd (v 1) (r_5.toNatClampNeg) x1) := ⟨_, rfl⟩
      have hP : va_P (dC, dI) vwCl (wm ad cy v_8) H := by rw [ev_8, ← wm_put (e := _) rc_1]; exact hP
      have hD : va_D A (wm ad cy v_8) := by rw [ev_8, ← wm_put (e := _) rc_1]; exact hD
      have hv : Ir v_8 := by rw [ev_8]; exact hv.put (k := 1) (fun h q => by rw [show br 1 _ = _ from (bx_2 (i := x0.toInt) (s := 5) (by omega) ⟨by omega, by omega⟩ (by omega))] at q; cases q)
      rw [nr_5] at ev_8
      refine lv_iload_n hx hb dX8_weight_42 rfl (lv_at hl 0 rfl) ?_
      have hpost : (¬ ((0 ≤ x0.toInt ∧ x0.toInt < (v 1 2).toInt) ∧ 1 ≤ x1.toInt ∧ x1.toInt ≤ 9) → x_6 = -1 ∧ v_8 = v) ∧ ((0 ≤ x0.toInt ∧ x0.toInt < (v 1 2).toInt) ∧ 1 ≤ x1.toInt ∧ x1.toInt ≤ 9 → x_6 = v 1 (37 + 7 * x0.toNatClampNeg) ∧ (∀ n : Nat, v_8 1 n = if n = 37 + 7 * x0.toNatClampNeg then x1 else v 1 n) ∧ (∀ k : Nat, k ≠ 1 → v_8 k = v k)) := by
        refine ⟨fun hq => ?_, fun hq => ?_⟩
        · exfalso; omega
        · exact ⟨by rw [ex_6], fun n => by rw [ev_8, up1], fun k hk => by rw [ev_8, upr_n hk]⟩
      exact W.iret (v := x_6) hx hb hr (fun t ht hW => ⟨⟨x_6, v_8, rfl, ⟨hv, hpost⟩, by rw [ht]; exact hP, hD⟩, hS.F ht⟩) hS.2.2 dX8_weight_43
    · have k_1 : (1 : Int32).toInt = 1 := by decide
      have k_9 : (9 : Int32).toInt = 9 := by decide
      have tc_4 : ¬ ((1 : Int32).toInt ≤ x1.toInt ∧ x1.toInt ≤ (9 : Int32).toInt) := fun q => hc_4 ⟨Int32.le_iff_toInt_le.mpr q.1, Int32.le_iff_toInt_le.mpr q.2⟩
      refine lv_if_ne (tgt := 20) hx hb dX8_weight_15 (by decide) (fun c9 => absurd c9 (by decide)) (fun _ => ?_)
      refine lv_iconst (v := (-1)) hx hb dX8_weight_18 (by decide) ?_
      have hpost : (¬ ((0 ≤ x0.toInt ∧ x0.toInt < (v 1 2).toInt) ∧ 1 ≤ x1.toInt ∧ x1.toInt ≤ 9) → ((-1) : Int32) = -1 ∧ v = v) ∧ ((0 ≤ x0.toInt ∧ x0.toInt < (v 1 2).toInt) ∧ 1 ≤ x1.toInt ∧ x1.toInt ≤ 9 → ((-1) : Int32) = v 1 (37 + 7 * x0.toNatClampNeg) ∧ (∀ n : Nat, v 1 n = if n = 37 + 7 * x0.toNatClampNeg then x1 else v 1 n) ∧ (∀ k : Nat, k ≠ 1 → v k = v k)) := by
        refine ⟨fun hq => ?_, fun hq => ?_⟩
        · exact ⟨rfl, rfl⟩
        · exfalso; omega
      exact W.iret (v := (-1)) hx hb hr (fun t ht hW => ⟨⟨(-1), v, rfl, ⟨hv, hpost⟩, by rw [ht]; exact hP, hD⟩, hS.F ht⟩) hS.2.2 dX8_weight_19
  · refine lv_if_eq (tgt := 18) hx hb dX8_weight_5 (by decide) (fun _ => ?_) (fun c9 => absurd c9 (by decide))
    refine lv_iconst (v := (-1)) hx hb dX8_weight_18 (by decide) ?_
    have hpost : (¬ ((0 ≤ x0.toInt ∧ x0.toInt < (v 1 2).toInt) ∧ 1 ≤ x1.toInt ∧ x1.toInt ≤ 9) → ((-1) : Int32) = -1 ∧ v = v) ∧ ((0 ≤ x0.toInt ∧ x0.toInt < (v 1 2).toInt) ∧ 1 ≤ x1.toInt ∧ x1.toInt ≤ 9 → ((-1) : Int32) = v 1 (37 + 7 * x0.toNatClampNeg) ∧ (∀ n : Nat, v 1 n = if n = 37 + 7 * x0.toNatClampNeg then x1 else v 1 n) ∧ (∀ k : Nat, k ≠ 1 → v k = v k)) := by
      refine ⟨fun hq => ?_, fun hq => ?_⟩
      · exact ⟨rfl, rfl⟩
      · exfalso; omega
    exact W.iret (v := (-1)) hx hb hr (fun t ht hW => ⟨⟨(-1), v, rfl, ⟨hv, hpost⟩, by rw [ht]; exact hP, hD⟩, hS.F ht⟩) hS.2.2 dX8_weight_19

set_option maxHeartbeats 4000000 in
set_option maxRecDepth 100000 in
theorem e_X8_strike (l : Launch) (dC : Nat → ClassId) (dI : Nat → Nat → Nat) (cy : Nat → ClassId) (sz : Nat) (ad : Nat → Nat) (v : Nat → Nat → Int32) (hv : Ir v) (x0 : Int32) : Met l yX8_strike wsX8_strike ({ frames := 2, cells := 0, slots := 0, locals := 128 }) (va_Pc [.ref (ad 0), .int x0] (ex_Pre dC dI cy sz (wm ad cy v))) (va_Qi (fun (r : Int32) (u : Nat → Nat → Int32) => Ir u ∧ (¬ (0 ≤ x0.toInt ∧ x0.toInt < (v 1 2).toInt) → r = -1 ∧ u = v) ∧ ((0 ≤ x0.toInt ∧ x0.toInt < (v 1 2).toInt) ∧ (v 1 (38 + 7 * x0.toNatClampNeg)).toInt = 0 → r = -5 ∧ u = v) ∧ ((0 ≤ x0.toInt ∧ x0.toInt < (v 1 2).toInt) ∧ (v 1 (38 + 7 * x0.toNatClampNeg)).toInt ≠ 0 → r = v 1 (38 + 7 * x0.toNatClampNeg) - 1 ∧ (∀ n : Nat, u 1 n = if n = 38 + 7 * x0.toNatClampNeg then v 1 (38 + 7 * x0.toNatClampNeg) - 1 else v 1 n) ∧ (∀ k : Nat, k ≠ 1 → u k = v k))) (fun u t => ex_Pst dC dI (va_A (wm ad cy v) sz) (wm ad cy u) t) (va_A (wm ad cy v) sz)) 0 0 (va_A (wm ad cy v) sz) := by
  refine Met.ofW (cc := cX8_strike) (maxL := 2) (ret := (some .int)) (by decide) rfl ?_
  intro p e s m args below meth c s₁ B hml hv
  obtain ⟨rfl, hsz, hE, hP, hK, hD0⟩ := hv
  have hx := B.exec
  have hb := B.bytes
  have hr := B.returns
  have hts := atoms_spec (ws := wsX8_strike) B.pre
  have hown : s.vm.findClass RX8 = some m.cls := findClass_of_methodNamed B.named
  have hlocks := B.notSynchronized
  subst hsz
  have hD := hD0.self (sz := s.heap.size)
  generalize hAe : va_A (wm ad cy v) s.heap.size = A at hD ⊢
  have hA : ∀ q : Nat, s.heap.size ≤ q → A q := fun q h => by rw [← hAe]; exact Or.inr h
  have hS : va_S A s.heap s.heap [] := va_S.rf
  have hP : va_P (dC, dI) vwCl (wm ad cy v) s.heap := hP
  have hl := lv_entry ([.ref (ad 0), .int x0]) (n := 2) (Nat.le_of_ble_eq_true rfl)
  rw [lg_entry_eq]
  generalize (lg_sl ([.ref (ad 0), .int x0]) ++ List.replicate (2 - (lg_sl ([.ref (ad 0), .int x0])).length) Slot.unset).toArray = ls at hl ⊢
  have hl : lv_has ls 2 [(0, .ref (ad 0)), (1, .int x0)] := hl
  refine lv_aload_n hx hb dX8_strike_0 rfl (lv_at hl 0 rfl) ?_
  refine lv_iload_n hx hb dX8_strike_1 rfl (lv_at hl 1 rfl) ?_
  refine yw_i (w1 := fun (u : Nat → Nat → Int32) => wm ad cy u) hD hS hA (va_runV (As := [.int x0]) (rest := []) ⟨hx, hb, hml, hown, hts⟩ (q_X8_isCase l dC dI cy _ ad v hv x0) (cwV 1 hts gX8_strike_X8_isCase rfl rfl rfl hd_V_X8_isCase_1 ⟨Nat.le_of_ble_eq_true rfl, Nat.le_of_ble_eq_true rfl⟩) (yw_preV hE hK hP hD (ci := 8) (q := (RX8, TX8, 11)) (q0 := 0) rfl (wm_at (by decide) rc_0)) rfl rfl hl.1 rfl (lv_room (Nat.le_of_ble_eq_true rfl)) dX8_strike_2 ⟨Nat.le_of_ble_eq_true rfl, Nat.le_of_ble_eq_true rfl⟩) (fun r_1 v_1 H locs hw_1 hP hD hS => ?_)
  obtain ⟨-, hu_1, hw_1⟩ := hw_1
  replace hu_1 := hu_1.symm
  subst hu_1
  rcases hw_1 with ⟨rfl, ha_2⟩ | ⟨rfl, ha_2⟩
  · have hb_2 := hv 1 2 6 (by decide)
    have hj_2 : 0 ≤ x0.toInt ∧ x0.toInt ≤ 5 := ⟨by omega, by omega⟩
    refine lv_if_ne (tgt := 10) hx hb dX8_strike_5 (by decide) (fun _ => ?_) (fun c9 => absurd c9 (by decide))
    refine lv_aload_n hx hb dX8_strike_10 rfl (lv_at hl 0 rfl) ?_
    refine va_get (D := (dC, dI)) (ci := 8) (v := .ref (ad 1)) (C := RX8) (T := TX8) (N := 11) hx hb hts iwX8_strike_X8 hown hK hP (0) (wm_at (by decide) rc_0) rfl 0 (by decide) (hts (.fieldLink RX8 7 "QuietStairsModel" "s" "[I") fwX8_strike_1) (fun _ h9 => h9) rfl dX8_strike_11 ?_
    refine lv_iload_n hx hb dX8_strike_14 rfl (lv_at hl 1 rfl) ?_
    refine lv_bipush (v := 6) hx hb dX8_strike_15 (by decide) ?_
    refine yc_p hP hS (va_runS (As := [.int x0, .int 6]) (rest := [.ref (ad 1)]) ⟨hx, hb, hml, hown, hts⟩ (c_X8_at l x0 6) (cwS 2 hts gX8_strike_X8_at rfl rfl rfl hd_S_X8_at_2 ⟨Nat.le_of_ble_eq_true rfl, Nat.le_of_ble_eq_true rfl⟩) ex_preP rfl rfl hl.1 rfl (lv_room (Nat.le_of_ble_eq_true rfl)) dX8_strike_17 ⟨Nat.le_of_ble_eq_true rfl, Nat.le_of_ble_eq_true rfl⟩) (fun r_3 H locs hw_3 hP hS => ?_)
    have k_6 : (6 : Int32).toInt = 6 := by decide
    have tr_3 : r_3.toInt = 32 + 7 * x0.toInt + (6 : Int32).toInt := t_at hw_3 ⟨by omega, by omega⟩ ⟨by omega, by omega⟩
    have zn_x0 : (x0.toNatClampNeg : Int) = x0.toInt := t_nn (by omega)
    have nr_3 : r_3.toNatClampNeg = 38 + 7 * x0.toNatClampNeg := by have z1 := t_nn (x := r_3) (by omega); omega
    refine va_iald hx hb hK hP (1) 0 (wm_at (by decide) rc_1) rfl (vp_in_iff.mpr ⟨by omega, by omega⟩) dX8_strike_20 ?_
    refine lv_topi (fun x_4 ex_4 => ?_)
    have bzx_4 : 0 ≤ x_4.toInt ∧ x_4.toInt ≤ 5 := by rw [ex_4]; exact hv 1 _ 5 (bx_4 (i := x0.toInt) (s := 6) (by omega) ⟨by omega, by omega⟩ (by omega))
    rw [nr_3] at ex_4
    have qx_4 : x_4.toInt = (v 1 (38 + 7 * x0.toNatClampNeg)).toInt := congrArg Int32.toInt ex_4
    have k_0 : (0 : Int32).toInt = 0 := by decide
    refine lv_if_ne (tgt := 27) hx hb dX8_strike_21 (by decide) (fun c_5 => ?_) (fun c_5 => ?_)
    · have tc_5 : x_4.toInt ≠ (0 : Int32).toInt := fun q => absurd (Int32.toInt_inj.mp q) c_5
      refine lv_aload_n hx hb dX8_strike_27 rfl (lv_at hl 0 rfl) ?_
      refine va_get (D := (dC, dI)) (ci := 8) (v := .ref (ad 1)) (C := RX8) (T := TX8) (N := 11) hx hb hts iwX8_strike_X8 hown hK hP (0) (wm_at (by decide) rc_0) rfl 0 (by decide) (hts (.fieldLink RX8 7 "QuietStairsModel" "s" "[I") fwX8_strike_1) (fun _ h9 => h9) rfl dX8_strike_28 ?_
      refine lv_iload_n hx hb dX8_strike_31 rfl (lv_at hl 1 rfl) ?_
      refine lv_bipush (v := 6) hx hb dX8_strike_32 (by decide) ?_
      refine yc_p hP hS (va_runS (As := [.int x0, .int 6]) (rest := [.ref (ad 1)]) ⟨hx, hb, hml, hown, hts⟩ (c_X8_at l x0 6) (cwS 2 hts gX8_strike_X8_at rfl rfl rfl hd_S_X8_at_2 ⟨Nat.le_of_ble_eq_true rfl, Nat.le_of_ble_eq_true rfl⟩) ex_preP rfl rfl hl.1 rfl (lv_room (Nat.le_of_ble_eq_true rfl)) dX8_strike_34 ⟨Nat.le_of_ble_eq_true rfl, Nat.le_of_ble_eq_true rfl⟩) (fun r_6 H locs hw_6 hP hS => ?_)
      obtain rfl : r_3 = r_6 := hw_3.trans hw_6.symm
      refine lv_dup2_11 hx hb dX8_strike_37 rfl rfl ?_
      refine va_iald hx hb hK hP (1) 0 (wm_at (by decide) rc_1) rfl (vp_in_iff.mpr ⟨by omega, by omega⟩) dX8_strike_38 ?_
      refine lv_topi (fun x_7 ex_7 => ?_)
      have bzx_7 : 0 ≤ x_7.toInt ∧ x_7.toInt ≤ 5 := by rw [ex_7]; exact hv 1 _ 5 (bx_4 (i := x0.toInt) (s := 6) (by omega) ⟨by omega, by omega⟩ (by omega))
      rw [nr_3] at ex_7
      obtain rfl : x_4 = x_7 := (ex_7.trans ex_4.symm).symm
      refine lv_iconst (v := 1) hx hb dX8_strike_39 (by decide) ?_
      refine lv_isub hx hb dX8_strike_40 ?_
      refine lv_topi (fun x_8 ex_8 => ?_)
      have k_1 : (1 : Int32).toInt = 1 := by decide
      have tx_8 : x_8.toInt = x_4.toInt - (1 : Int32).toInt := by rw [ex_8]; exact t_sub ⟨by omega, by omega⟩
      refine va_iast hx hb hK hP hD hS (1) 0 (wm_at (by decide) rc_1) rfl (vp_in_iff.mpr ⟨by omega, by omega⟩) dX8_strike_41 (fun H locs hP hD hS => ?_)
      obtain ⟨v_9, ev_9⟩ : ∃ u : Nat → Nat → Int32, u = upr v 1 (upd (v 1) (r_3.toNatClampNeg) x_8) := ⟨_, rfl⟩
      have hP : va_P (dC, dI) vwCl (wm ad cy v_9) H := by rw [ev_9, ← wm_put (e := _) rc_1]; exact hP
      have hD : va_D A (wm ad cy v_9) := by rw [ev_9, ← wm_put (e := _) rc_1]; exact hD
      have hv : Ir v_9 := by rw [ev_9]; exact hv.put (k := 1) (fun h q => by rw [show br 1 _ = _ from (bx_4 (i := x0.toInt) (s := 6) (by omega) ⟨by omega, by omega⟩ (by omega))] at q; cases q; exact ⟨by omega, by omega⟩)
      rw [nr_3] at ev_9
      refine lv_aload_n hx hb dX8_strike_42 rfl (lv_at hl 0 rfl) ?_
      refine va_get (D := (dC, dI)) (ci := 8) (v := .ref (ad 1)) (C := RX8) (T := TX8) (N := 11) hx hb hts iwX8_strike_X8 hown hK hP (0) (wm_at (by decide) rc_0) rfl 0 (by decide) (hts (.fieldLink RX8 7 "QuietStairsModel" "s" "[I") fwX8_strike_1) (fun _ h9 => h9) rfl dX8_strike_43 ?_
      refine lv_iload_n hx hb dX8_strike_46 rfl (lv_at hl 1 rfl) ?_
      refine lv_bipush (v := 6) hx hb dX8_strike_47 (by decide) ?_
      refine yc_p hP hS (va_runS (As := [.int x0, .int 6]) (rest := [.ref (ad 1)]) ⟨hx, hb, hml, hown, hts⟩ (c_X8_at l x0 6) (cwS 2 hts gX8_strike_X8_at rfl rfl rfl hd_S_X8_at_2 ⟨Nat.le_of_ble_eq_true rfl, Nat.le_of_ble_eq_true rfl⟩) ex_preP rfl rfl hl.1 rfl (lv_room (Nat.le_of_ble_eq_true rfl)) dX8_strike_49 ⟨Nat.le_of_ble_eq_true rfl, Nat.le_of_ble_eq_true rfl⟩) (fun r_10 H locs hw_10 hP hS => ?_)
      obtain rfl : r_3 = r_10 := hw_3.trans hw_10.symm
      refine va_iald hx hb hK hP (1) 0 (wm_at (by decide) rc_1) rfl (vp_in_iff.mpr ⟨by omega, by omega⟩) dX8_strike_52 ?_
      refine lv_topi (fun x_11 ex_11 => ?_)
      have bzx_11 : 0 ≤ x_11.toInt ∧ x_11.toInt ≤ 5 := by rw [ex_11]; exact hv 1 _ 5 (bx_4 (i := x0.toInt) (s := 6) (by omega) ⟨by omega, by omega⟩ (by omega))
      rw [nr_3] at ex_11
      rw [ev_9, upr_s, pk_us] at ex_11
      obtain rfl : x_8 = x_11 := ex_11.symm
      have hpost : (¬ (0 ≤ x0.toInt ∧ x0.toInt < (v 1 2).toInt) → x_8 = -1 ∧ v_9 = v) ∧ ((0 ≤ x0.toInt ∧ x0.toInt < (v 1 2).toInt) ∧ (v 1 (38 + 7 * x0.toNatClampNeg)).toInt = 0 → x_8 = -5 ∧ v_9 = v) ∧ ((0 ≤ x0.toInt ∧ x0.toInt < (v 1 2).toInt) ∧ (v 1 (38 + 7 * x0.toNatClampNeg)).toInt ≠ 0 → x_8 = v 1 (38 + 7 * x0.toNatClampNeg) - 1 ∧ (∀ n : Nat, v_9 1 n = if n = 38 + 7 * x0.toNatClampNeg then v 1 (38 + 7 * x0.toNatClampNeg) - 1 else v 1 n) ∧ (∀ k : Nat, k ≠ 1 → v_9 k = v k)) := by
        refine ⟨fun hq => ?_, fun hq => ?_, fun hq => ?_⟩
        · exfalso; omega
        · exfalso; omega
        · exact ⟨by rw [ex_8, ex_4], fun n => by rw [ev_9, up1, ex_8, ex_4], fun k hk => by rw [ev_9, upr_n hk]⟩
      exact W.iret (v := x_8) hx hb hr (fun t ht hW => ⟨⟨x_8, v_9, rfl, ⟨hv, hpost⟩, by rw [ht]; exact hP, hD⟩, hS.F ht⟩) hS.2.2 dX8_strike_53
    · have tc_5 : x_4.toInt = (0 : Int32).toInt := by rw [c_5]
      refine lv_bipush (v := (-5)) hx hb dX8_strike_24 (by decide) ?_
      have hpost : (¬ (0 ≤ x0.toInt ∧ x0.toInt < (v 1 2).toInt) → ((-5) : Int32) = -1 ∧ v = v) ∧ ((0 ≤ x0.toInt ∧ x0.toInt < (v 1 2).toInt) ∧ (v 1 (38 + 7 * x0.toNatClampNeg)).toInt = 0 → ((-5) : Int32) = -5 ∧ v = v) ∧ ((0 ≤ x0.toInt ∧ x0.toInt < (v 1 2).toInt) ∧ (v 1 (38 + 7 * x0.toNatClampNeg)).toInt ≠ 0 → ((-5) : Int32) = v 1 (38 + 7 * x0.toNatClampNeg) - 1 ∧ (∀ n : Nat, v 1 n = if n = 38 + 7 * x0.toNatClampNeg then v 1 (38 + 7 * x0.toNatClampNeg) - 1 else v 1 n) ∧ (∀ k : Nat, k ≠ 1 → v k = v k)) := by
        refine ⟨fun hq => ?_, fun hq => ?_, fun hq => ?_⟩
        · exfalso; omega
        · exact ⟨rfl, rfl⟩
        · exfalso; omega
      exact W.iret (v := (-5)) hx hb hr (fun t ht hW => ⟨⟨(-5), v, rfl, ⟨hv, hpost⟩, by rw [ht]; exact hP, hD⟩, hS.F ht⟩) hS.2.2 dX8_strike_26
  · refine lv_if_ne (tgt := 10) hx hb dX8_strike_5 (by decide) (fun c9 => absurd c9 (by decide)) (fun _ => ?_)
    refine lv_iconst (v := (-1)) hx hb dX8_strike_8 (by decide) ?_
    have hpost : (¬ (0 ≤ x0.toInt ∧ x0.toInt < (v 1 2).toInt) → ((-1) : Int32) = -1 ∧ v = v) ∧ ((0 ≤ x0.toInt ∧ x0.toInt < (v 1 2).toInt) ∧ (v 1 (38 + 7 * x0.toNatClampNeg)).toInt = 0 → ((-1) : Int32) = -5 ∧ v = v) ∧ ((0 ≤ x0.toInt ∧ x0.toInt < (v 1 2).toInt) ∧ (v 1 (38 + 7 * x0.toNatClampNeg)).toInt ≠ 0 → ((-1) : Int32) = v 1 (38 + 7 * x0.toNatClampNeg) - 1 ∧ (∀ n : Nat, v 1 n = if n = 38 + 7 * x0.toNatClampNeg then v 1 (38 + 7 * x0.toNatClampNeg) - 1 else v 1 n) ∧ (∀ k : Nat, k ≠ 1 → v k = v k)) := by
      refine ⟨fun hq => ?_, fun hq => ?_, fun hq => ?_⟩
      · exact ⟨rfl, rfl⟩
      · exfalso; omega
      · exfalso; omega
    exact W.iret (v := (-1)) hx hb hr (fun t ht hW => ⟨⟨(-1), v, rfl, ⟨hv, hpost⟩, by rw [ht]; exact hP, hD⟩, hS.F ht⟩) hS.2.2 dX8_strike_9

set_option maxHeartbeats 4000000 in
set_option maxRecDepth 100000 in
theorem e_X8_log (l : Launch) (dC : Nat → ClassId) (dI : Nat → Nat → Nat) (cy : Nat → ClassId) (sz : Nat) (ad : Nat → Nat) (v : Nat → Nat → Int32) (hv : Ir v) (x0 x1 x2 x3 : Int32) : Met l yX8_log wsX8_log ({ frames := 2, cells := 0, slots := 0, locals := 128 }) (va_Pc [.ref (ad 0), .int x0, .int x1, .int x2, .int x3] (ex_Pre dC dI cy sz (wm ad cy v))) (va_Qi (fun (r : Int32) (u : Nat → Nat → Int32) => Ir u ∧ (¬ ((0 ≤ x0.toInt ∧ x0.toInt < (v 1 2).toInt) ∧ (0 ≤ x1.toInt ∧ x1.toInt ≤ 1) ∧ (0 ≤ x2.toInt ∧ x2.toInt ≤ 23) ∧ 0 ≤ x3.toInt ∧ x3.toInt ≤ 7) → r = -1 ∧ u = v) ∧ ((0 ≤ x0.toInt ∧ x0.toInt < (v 1 2).toInt) ∧ (0 ≤ x1.toInt ∧ x1.toInt ≤ 1) ∧ (0 ≤ x2.toInt ∧ x2.toInt ≤ 23) ∧ 0 ≤ x3.toInt ∧ x3.toInt ≤ 7 → r = v 1 (308 + 48 * x0.toNatClampNeg + 24 * x1.toNatClampNeg + x2.toNatClampNeg) ∧ (∀ n : Nat, u 1 n = if n = 308 + 48 * x0.toNatClampNeg + 24 * x1.toNatClampNeg + x2.toNatClampNeg then x3 else v 1 n) ∧ (∀ k : Nat, k ≠ 1 → u k = v k))) (fun u t => ex_Pst dC dI (va_A (wm ad cy v) sz) (wm ad cy u) t) (va_A (wm ad cy v) sz)) 0 0 (va_A (wm ad cy v) sz) := by
  refine Met.ofW (cc := cX8_log) (maxL := 7) (ret := (some .int)) (by decide) rfl ?_
  intro p e s m args below meth c s₁ B hml hv
  obtain ⟨rfl, hsz, hE, hP, hK, hD0⟩ := hv
  have hx := B.exec
  have hb := B.bytes
  have hr := B.returns
  have hts := atoms_spec (ws := wsX8_log) B.pre
  have hown : s.vm.findClass RX8 = some m.cls := findClass_of_methodNamed B.named
  have hlocks := B.notSynchronized
  subst hsz
  have hD := hD0.self (sz := s.heap.size)
  generalize hAe : va_A (wm ad cy v) s.heap.size = A at hD ⊢
  have hA : ∀ q : Nat, s.heap.size ≤ q → A q := fun q h => by rw [← hAe]; exact Or.inr h
  have hS : va_S A s.heap s.heap [] := va_S.rf
  have hP : va_P (dC, dI) vwCl (wm ad cy v) s.heap := hP
  have hl := lv_entry ([.ref (ad 0), .int x0, .int x1, .int x2, .int x3]) (n := 7) (Nat.le_of_ble_eq_true rfl)
  rw [lg_entry_eq]
  generalize (lg_sl ([.ref (ad 0), .int x0, .int x1, .int x2, .int x3]) ++ List.replicate (7 - (lg_sl ([.ref (ad 0), .int x0, .int x1, .int x2, .int x3])).length) Slot.unset).toArray = ls at hl ⊢
  have hl : lv_has ls 7 [(0, .ref (ad 0)), (1, .int x0), (2, .int x1), (3, .int x2), (4, .int x3)] := hl
  refine lv_aload_n hx hb dX8_log_0 rfl (lv_at hl 0 rfl) ?_
  refine lv_iload_n hx hb dX8_log_1 rfl (lv_at hl 1 rfl) ?_
  refine yw_i (w1 := fun (u : Nat → Nat → Int32) => wm ad cy u) hD hS hA (va_runV (As := [.int x0]) (rest := []) ⟨hx, hb, hml, hown, hts⟩ (q_X8_isCase l dC dI cy _ ad v hv x0) (cwV 1 hts gX8_log_X8_isCase rfl rfl rfl hd_V_X8_isCase_1 ⟨Nat.le_of_ble_eq_true rfl, Nat.le_of_ble_eq_true rfl⟩) (yw_preV hE hK hP hD (ci := 8) (q := (RX8, TX8, 11)) (q0 := 0) rfl (wm_at (by decide) rc_0)) rfl rfl hl.1 rfl (lv_room (Nat.le_of_ble_eq_true rfl)) dX8_log_2 ⟨Nat.le_of_ble_eq_true rfl, Nat.le_of_ble_eq_true rfl⟩) (fun r_1 v_1 H locs hw_1 hP hD hS => ?_)
  obtain ⟨-, hu_1, hw_1⟩ := hw_1
  replace hu_1 := hu_1.symm
  subst hu_1
  rcases hw_1 with ⟨rfl, ha_2⟩ | ⟨rfl, ha_2⟩
  · have hb_2 := hv 1 2 6 (by decide)
    have hj_2 : 0 ≤ x0.toInt ∧ x0.toInt ≤ 5 := ⟨by omega, by omega⟩
    refine lv_if_eq (tgt := 36) hx hb dX8_log_5 (by decide) (fun c9 => absurd c9 (by decide)) (fun _ => ?_)
    refine lv_iload_n hx hb dX8_log_8 rfl (lv_at hl 2 rfl) ?_
    refine yc_p hP hS (va_runS (As := [.int x1]) (rest := []) ⟨hx, hb, hml, hown, hts⟩ (c_X8_isSide l x1) (cwS 1 hts gX8_log_X8_isSide rfl rfl rfl hd_S_X8_isSide_1 ⟨Nat.le_of_ble_eq_true rfl, Nat.le_of_ble_eq_true rfl⟩) ex_preP rfl rfl hl.1 rfl (lv_room (Nat.le_of_ble_eq_true rfl)) dX8_log_9 ⟨Nat.le_of_ble_eq_true rfl, Nat.le_of_ble_eq_true rfl⟩) (fun r_3 H locs hw_3 hP hS => ?_)
    rcases wi_ca hw_3 with ⟨rfl, hc_4⟩ | ⟨rfl, hc_4⟩
    · have k_0 : (0 : Int32).toInt = 0 := by decide
      have k_1 : (1 : Int32).toInt = 1 := by decide
      have tc_4 := wi_tl hc_4
      refine lv_if_eq (tgt := 36) hx hb dX8_log_12 (by decide) (fun c9 => absurd c9 (by decide)) (fun _ => ?_)
      refine lv_iload_n hx hb dX8_log_15 rfl (lv_at hl 3 rfl) ?_
      refine lv_iconst (v := 0) hx hb dX8_log_16 (by decide) ?_
      refine lv_bipush (v := 23) hx hb dX8_log_17 (by decide) ?_
      refine yc_p hP hS (va_runS (As := [.int x2, .int 0, .int 23]) (rest := []) ⟨hx, hb, hml, hown, hts⟩ (c_X8_in l x2 0 23) (cwS 3 hts gX8_log_X8_in rfl rfl rfl hd_S_X8_in_3 ⟨Nat.le_of_ble_eq_true rfl, Nat.le_of_ble_eq_true rfl⟩) ex_preP rfl rfl hl.1 rfl (lv_room (Nat.le_of_ble_eq_true rfl)) dX8_log_19 ⟨Nat.le_of_ble_eq_true rfl, Nat.le_of_ble_eq_true rfl⟩) (fun r_5 H locs hw_5 hP hS => ?_)
      rcases wi_ca hw_5 with ⟨rfl, hc_6⟩ | ⟨rfl, hc_6⟩
      · have k_23 : (23 : Int32).toInt = 23 := by decide
        have tc_6 := wi_tl hc_6
        refine lv_if_eq (tgt := 36) hx hb dX8_log_22 (by decide) (fun c9 => absurd c9 (by decide)) (fun _ => ?_)
        refine lv_iload hx hb dX8_log_25 (lv_at hl 4 rfl) ?_
        refine lv_iconst (v := 0) hx hb dX8_log_27 (by decide) ?_
        refine lv_bipush (v := 7) hx hb dX8_log_28 (by decide) ?_
        refine yc_p hP hS (va_runS (As := [.int x3, .int 0, .int 7]) (rest := []) ⟨hx, hb, hml, hown, hts⟩ (c_X8_in l x3 0 7) (cwS 3 hts gX8_log_X8_in rfl rfl rfl hd_S_X8_in_3 ⟨Nat.le_of_ble_eq_true rfl, Nat.le_of_ble_eq_true rfl⟩) ex_preP rfl rfl hl.1 rfl (lv_room (Nat.le_of_ble_eq_true rfl)) dX8_log_30 ⟨Nat.le_of_ble_eq_true rfl, Nat.le_of_ble_eq_true rfl⟩) (fun r_7 H locs hw_7 hP hS => ?_)
        rcases wi_ca hw_7 with ⟨rfl, hc_8⟩ | ⟨rfl, hc_8⟩
        · have k_7 : (7 : Int32).toInt = 7 := by decide
          have tc_8 := wi_tl hc_8
          refine lv_if_ne (tgt := 38) hx hb dX8_log_33 (by decide) (fun _ => ?_) (fun c9 => absurd c9 (by decide))
          refine lv_sipush (v := 308) hx hb dX8_log_38 (by decide) ?_
          refine lv_bipush (v := 24) hx hb dX8_log_41 (by decide) ?_
          refine lv_iconst (v := 2) hx hb dX8_log_43 (by decide) ?_
          refine lv_iload_n hx hb dX8_log_44 rfl (lv_at hl 1 rfl) ?_
          refine lv_imul hx hb dX8_log_45 ?_
          refine lv_topi (fun x_9 ex_9 => ?_)
          have k_2 : (2 : Int32).toInt = 2 := by decide
          have tx_9 : x_9.toInt = 2 * x0.toInt := by rw [ex_9, t_mul (by rw [k_2]; omega), k_2]
          refine lv_iload_n hx hb dX8_log_46 rfl (lv_at hl 2 rfl) ?_
          refine lv_iadd hx hb dX8_log_47 ?_
          refine lv_topi (fun x_10 ex_10 => ?_)
          have tx_10 : x_10.toInt = x_9.toInt + x1.toInt := by rw [ex_10]; exact t_add ⟨by omega, by omega⟩
          refine lv_imul hx hb dX8_log_48 ?_
          refine lv_topi (fun x_11 ex_11 => ?_)
          have k_24 : (24 : Int32).toInt = 24 := by decide
          have tx_11 : x_11.toInt = 24 * x_10.toInt := by rw [ex_11, t_mul (by rw [k_24]; omega), k_24]
          refine lv_iadd hx hb dX8_log_49 ?_
          refine lv_topi (fun x_12 ex_12 => ?_)
          have k_308 : (308 : Int32).toInt = 308 := by decide
          have tx_12 : x_12.toInt = (308 : Int32).toInt + x_11.toInt := by rw [ex_12]; exact t_add ⟨by omega, by omega⟩
          refine lv_iload_n hx hb dX8_log_50 rfl (lv_at hl 3 rfl) ?_
          refine lv_iadd hx hb dX8_log_51 ?_
          refine lv_topi (fun x_13 ex_13 => ?_)
          have tx_13 : x_13.toInt = x_12.toInt + x2.toInt := by rw [ex_13]; exact t_add ⟨by omega, by omega⟩
          refine lv_istore (lv' := [(5, .int x_13), (0, .ref (ad 0)), (1, .int x0), (2, .int x1), (3, .int x2), (4, .int x3)]) hx hb dX8_log_52 hl (by decide) rfl (fun ls hl => ?_)
          refine lv_aload_n hx hb dX8_log_54 rfl (lv_at hl 1 rfl) ?_
          refine va_get (D := (dC, dI)) (ci := 8) (v := .ref (ad 1)) (C := RX8) (T := TX8) (N := 11) hx hb hts iwX8_log_X8 hown hK hP (0) (wm_at (by decide) rc_0) rfl 0 (by decide) (hts (.fieldLink RX8 7 "QuietStairsModel" "s" "[I") fwX8_log_1) (fun _ h9 => h9) rfl dX8_log_55 ?_
          refine lv_iload hx hb dX8_log_58 (lv_at hl 0 rfl) ?_
          have zn_x0 : (x0.toNatClampNeg : Int) = x0.toInt := t_nn (by omega)
          have zn_x1 : (x1.toNatClampNeg : Int) = x1.toInt := t_nn (by omega)
          have zn_x2 : (x2.toNatClampNeg : Int) = x2.toInt := t_nn (by omega)
          have nx_13 : x_13.toNatClampNeg = 308 + 48 * x0.toNatClampNeg + 24 * x1.toNatClampNeg + x2.toNatClampNeg := by have z1 := t_nn (x := x_13) (by omega); omega
          refine va_iald hx hb hK hP (1) 0 (wm_at (by decide) rc_1) rfl (vp_in_iff.mpr ⟨by omega, by omega⟩) dX8_log_60 ?_
          refine lv_topi (fun x_14 ex_14 => ?_)
          rw [nx_13] at ex_14
          have qx_14 : x_14.toInt = (v 1 (308 + 48 * x0.toNatClampNeg + 24 * x1.toNatClampNeg + x2.toNatClampNeg)).toInt := congrArg Int32.toInt ex_14
          refine lv_istore (lv' := [(6, .int x_14), (5, .int x_13), (0, .ref (ad 0)), (1, .int x0), (2, .int x1), (3, .int x2), (4, .int x3)]) hx hb dX8_log_61 hl (by decide) rfl (fun ls hl => ?_)
          refine lv_aload_n hx hb dX8_log_63 rfl (lv_at hl 2 rfl) ?_
          refine va_get (D := (dC, dI)) (ci := 8) (v := .ref (ad 1)) (C := RX8) (T := TX8) (N := 11) hx hb hts iwX8_log_X8 hown hK hP (0) (wm_at (by decide) rc_0) rfl 0 (by decide) (hts (.fieldLink RX8 7 "QuietStairsModel" "s" "[I") fwX8_log_1) (fun _ h9 => h9) rfl dX8_log_64 ?_
          refine lv_iload hx hb dX8_log_67 (lv_at hl 1 rfl) ?_
          refine lv_iload hx hb dX8_log_69 (lv_at hl 6 rfl) ?_
          refine va_iast hx hb hK hP hD hS (1) 0 (wm_at (by decide) rc_1) rfl (vp_in_iff.mpr ⟨by omega, by omega⟩) dX8_log_71 (fun H locs hP hD hS => ?_)
          obtain ⟨v_15, ev_15⟩ : ∃ u : Nat → Nat → Int32, u = upr v 1 (upd (v 1) (x_13.toNatClampNeg) x3) := ⟨_, rfl⟩
          have hP : va_P (dC, dI) vwCl (wm ad cy v_15) H := by rw [ev_15, ← wm_put (e := _) rc_1]; exact hP
          have hD : va_D A (wm ad cy v_15) := by rw [ev_15, ← wm_put (e := _) rc_1]; exact hD
          have hv : Ir v_15 := by rw [ev_15]; exact hv.put (k := 1) (fun h q => by rw [show br 1 _ = _ from (bx_n (by omega))] at q; cases q)
          rw [nx_13] at ev_15
          refine lv_iload hx hb dX8_log_72 (lv_at hl 0 rfl) ?_
          have hpost : (¬ ((0 ≤ x0.toInt ∧ x0.toInt < (v 1 2).toInt) ∧ (0 ≤ x1.toInt ∧ x1.toInt ≤ 1) ∧ (0 ≤ x2.toInt ∧ x2.toInt ≤ 23) ∧ 0 ≤ x3.toInt ∧ x3.toInt ≤ 7) → x_14 = -1 ∧ v_15 = v) ∧ ((0 ≤ x0.toInt ∧ x0.toInt < (v 1 2).toInt) ∧ (0 ≤ x1.toInt ∧ x1.toInt ≤ 1) ∧ (0 ≤ x2.toInt ∧ x2.toInt ≤ 23) ∧ 0 ≤ x3.toInt ∧ x3.toInt ≤ 7 → x_14 = v 1 (308 + 48 * x0.toNatClampNeg + 24 * x1.toNatClampNeg + x2.toNatClampNeg) ∧ (∀ n : Nat, v_15 1 n = if n = 308 + 48 * x0.toNatClampNeg + 24 * x1.toNatClampNeg + x2.toNatClampNeg then x3 else v 1 n) ∧ (∀ k : Nat, k ≠ 1 → v_15 k = v k)) := by
            refine ⟨fun hq => ?_, fun hq => ?_⟩
            · exfalso; omega
            · exact ⟨by rw [ex_14], fun n => by rw [ev_15, up1], fun k hk => by rw [ev_15, upr_n hk]⟩
          exact W.iret (v := x_14) hx hb hr (fun t ht hW => ⟨⟨x_14, v_15, rfl, ⟨hv, hpost⟩, by rw [ht]; exact hP, hD⟩, hS.F ht⟩) hS.2.2 dX8_log_74
        · have k_7 : (7 : Int32).toInt = 7 := by decide
          have tc_8 : ¬ ((0 : Int32).toInt ≤ x3.toInt ∧ x3.toInt ≤ (7 : Int32).toInt) := fun q => hc_8 ⟨Int32.le_iff_toInt_le.mpr q.1, Int32.le_iff_toInt_le.mpr q.2⟩
          refine lv_if_ne (tgt := 38) hx hb dX8_log_33 (by decide) (fun c9 => absurd c9 (by decide)) (fun _ => ?_)
          refine lv_iconst (v := (-1)) hx hb dX8_log_36 (by decide) ?_
          have hpost : (¬ ((0 ≤ x0.toInt ∧ x0.toInt < (v 1 2).toInt) ∧ (0 ≤ x1.toInt ∧ x1.toInt ≤ 1) ∧ (0 ≤ x2.toInt ∧ x2.toInt ≤ 23) ∧ 0 ≤ x3.toInt ∧ x3.toInt ≤ 7) → ((-1) : Int32) = -1 ∧ v = v) ∧ ((0 ≤ x0.toInt ∧ x0.toInt < (v 1 2).toInt) ∧ (0 ≤ x1.toInt ∧ x1.toInt ≤ 1) ∧ (0 ≤ x2.toInt ∧ x2.toInt ≤ 23) ∧ 0 ≤ x3.toInt ∧ x3.toInt ≤ 7 → ((-1) : Int32) = v 1 (308 + 48 * x0.toNatClampNeg + 24 * x1.toNatClampNeg + x2.toNatClampNeg) ∧ (∀ n : Nat, v 1 n = if n = 308 + 48 * x0.toNatClampNeg + 24 * x1.toNatClampNeg + x2.toNatClampNeg then x3 else v 1 n) ∧ (∀ k : Nat, k ≠ 1 → v k = v k)) := by
            refine ⟨fun hq => ?_, fun hq => ?_⟩
            · exact ⟨rfl, rfl⟩
            · exfalso; omega
          exact W.iret (v := (-1)) hx hb hr (fun t ht hW => ⟨⟨(-1), v, rfl, ⟨hv, hpost⟩, by rw [ht]; exact hP, hD⟩, hS.F ht⟩) hS.2.2 dX8_log_37
      · have k_23 : (23 : Int32).toInt = 23 := by decide
        have tc_6 : ¬ ((0 : Int32).toInt ≤ x2.toInt ∧ x2.toInt ≤ (23 : Int32).toInt) := fun q => hc_6 ⟨Int32.le_iff_toInt_le.mpr q.1, Int32.le_iff_toInt_le.mpr q.2⟩
        refine lv_if_eq (tgt := 36) hx hb dX8_log_22 (by decide) (fun _ => ?_) (fun c9 => absurd c9 (by decide))
        refine lv_iconst (v := (-1)) hx hb dX8_log_36 (by decide) ?_
        have hpost : (¬ ((0 ≤ x0.toInt ∧ x0.toInt < (v 1 2).toInt) ∧ (0 ≤ x1.toInt ∧ x1.toInt ≤ 1) ∧ (0 ≤ x2.toInt ∧ x2.toInt ≤ 23) ∧ 0 ≤ x3.toInt ∧ x3.toInt ≤ 7) → ((-1) : Int32) = -1 ∧ v = v) ∧ ((0 ≤ x0.toInt ∧ x0.toInt < (v 1 2).toInt) ∧ (0 ≤ x1.toInt ∧ x1.toInt ≤ 1) ∧ (0 ≤ x2.toInt ∧ x2.toInt ≤ 23) ∧ 0 ≤ x3.toInt ∧ x3.toInt ≤ 7 → ((-1) : Int32) = v 1 (308 + 48 * x0.toNatClampNeg + 24 * x1.toNatClampNeg + x2.toNatClampNeg) ∧ (∀ n : Nat, v 1 n = if n = 308 + 48 * x0.toNatClampNeg + 24 * x1.toNatClampNeg + x2.toNatClampNeg then x3 else v 1 n) ∧ (∀ k : Nat, k ≠ 1 → v k = v k)) := by
          refine ⟨fun hq => ?_, fun hq => ?_⟩
          · exact ⟨rfl, rfl⟩
          · exfalso; omega
        exact W.iret (v := (-1)) hx hb hr (fun t ht hW => ⟨⟨(-1), v, rfl, ⟨hv, hpost⟩, by rw [ht]; exact hP, hD⟩, hS.F ht⟩) hS.2.2 dX8_log_37
    · have k_0 : (0 : Int32).toInt = 0 := by decide
      have k_1 : (1 : Int32).toInt = 1 := by decide
      have tc_4 : ¬ ((0 : Int32).toInt ≤ x1.toInt ∧ x1.toInt ≤ (1 : Int32).toInt) := fun q => hc_4 ⟨Int32.le_iff_toInt_le.mpr q.1, Int32.le_iff_toInt_le.mpr q.2⟩
      refine lv_if_eq (tgt := 36) hx hb dX8_log_12 (by decide) (fun _ => ?_) (fun c9 => absurd c9 (by decide))
      refine lv_iconst (v := (-1)) hx hb dX8_log_36 (by decide) ?_
      have hpost : (¬ ((0 ≤ x0.toInt ∧ x0.toInt < (v 1 2).toInt) ∧ (0 ≤ x1.toInt ∧ x1.toInt ≤ 1) ∧ (0 ≤ x2.toInt ∧ x2.toInt ≤ 23) ∧ 0 ≤ x3.toInt ∧ x3.toInt ≤ 7) → ((-1) : Int32) = -1 ∧ v = v) ∧ ((0 ≤ x0.toInt ∧ x0.toInt < (v 1 2).toInt) ∧ (0 ≤ x1.toInt ∧ x1.toInt ≤ 1) ∧ (0 ≤ x2.toInt ∧ x2.toInt ≤ 23) ∧ 0 ≤ x3.toInt ∧ x3.toInt ≤ 7 → ((-1) : Int32) = v 1 (308 + 48 * x0.toNatClampNeg + 24 * x1.toNatClampNeg + x2.toNatClampNeg) ∧ (∀ n : Nat, v 1 n = if n = 308 + 48 * x0.toNatClampNeg + 24 * x1.toNatClampNeg + x2.toNatClampNeg then x3 else v 1 n) ∧ (∀ k : Nat, k ≠ 1 → v k = v k)) := by
        refine ⟨fun hq => ?_, fun hq => ?_⟩
        · exact ⟨rfl, rfl⟩
        · exfalso; omega
      exact W.iret (v := (-1)) hx hb hr (fun t ht hW => ⟨⟨(-1), v, rfl, ⟨hv, hpost⟩, by rw [ht]; exact hP, hD⟩, hS.F ht⟩) hS.2.2 dX8_log_37
  · refine lv_if_eq (tgt := 36) hx hb dX8_log_5 (by decide) (fun _ => ?_) (fun c9 => absurd c9 (by decide))
    refine lv_iconst (v := (-1)) hx hb dX8_log_36 (by decide) ?_
    have hpost : (¬ ((0 ≤ x0.toInt ∧ x0.toInt < (v 1 2).toInt) ∧ (0 ≤ x1.toInt ∧ x1.toInt ≤ 1) ∧ (0 ≤ x2.toInt ∧ x2.toInt ≤ 23) ∧ 0 ≤ x3.toInt ∧ x3.toInt ≤ 7) → ((-1) : Int32) = -1 ∧ v = v) ∧ ((0 ≤ x0.toInt ∧ x0.toInt < (v 1 2).toInt) ∧ (0 ≤ x1.toInt ∧ x1.toInt ≤ 1) ∧ (0 ≤ x2.toInt ∧ x2.toInt ≤ 23) ∧ 0 ≤ x3.toInt ∧ x3.toInt ≤ 7 → ((-1) : Int32) = v 1 (308 + 48 * x0.toNatClampNeg + 24 * x1.toNatClampNeg + x2.toNatClampNeg) ∧ (∀ n : Nat, v 1 n = if n = 308 + 48 * x0.toNatClampNeg + 24 * x1.toNatClampNeg + x2.toNatClampNeg then x3 else v 1 n) ∧ (∀ k : Nat, k ≠ 1 → v k = v k)) := by
      refine ⟨fun hq => ?_, fun hq => ?_⟩
      · exact ⟨rfl, rfl⟩
      · exfalso; omega
    exact W.iret (v := (-1)) hx hb hr (fun t ht hW => ⟨⟨(-1), v, rfl, ⟨hv, hpost⟩, by rw [ht]; exact hP, hD⟩, hS.F ht⟩) hS.2.2 dX8_log_37

set_option maxHeartbeats 4000000 in
set_option maxRecDepth 100000 in
theorem e_X8_kin_0 (l : Launch) (dC : Nat → ClassId) (dI : Nat → Nat → Nat) (cy : Nat → ClassId) (sz : Nat) (ad : Nat → Nat) (v : Nat → Nat → Int32) (hv : Ir v) (x0 x1 : Int32) : Met l yX8_kin wsX8_kin ({ frames := 2, cells := 0, slots := 0, locals := 128 }) (va_Pc [.ref (ad 0), .int x0, .int x1, .int 0] (ex_Pre dC dI cy sz (wm ad cy v))) (va_Qi (fun (r : Int32) (u : Nat → Nat → Int32) => Ir u ∧ (¬ ((0 ≤ x0.toInt ∧ x0.toInt < (v 1 1).toInt) ∧ 0 ≤ x1.toInt ∧ x1.toInt < (v 1 0).toInt) → r = -1 ∧ u = v) ∧ (((0 ≤ x0.toInt ∧ x0.toInt < (v 1 1).toInt) ∧ 0 ≤ x1.toInt ∧ x1.toInt < (v 1 0).toInt) ∧ (btx (v 1 (28 + x0.toNatClampNeg)) x1).toInt = 1 → r = 1 ∧ (∀ n : Nat, u 1 n = if n = 28 + x0.toNatClampNeg then v 1 (28 + x0.toNatClampNeg) &&& ((1 <<< (x1 &&& 31)) ^^^ -1) else v 1 n) ∧ (∀ k : Nat, k ≠ 1 → u k = v k)) ∧ (((0 ≤ x0.toInt ∧ x0.toInt < (v 1 1).toInt) ∧ 0 ≤ x1.toInt ∧ x1.toInt < (v 1 0).toInt) ∧ (btx (v 1 (28 + x0.toNatClampNeg)) x1).toInt ≠ 1 → r = 0 ∧ (∀ n : Nat, u 1 n = if n = 28 + x0.toNatClampNeg then v 1 (28 + x0.toNatClampNeg) &&& ((1 <<< (x1 &&& 31)) ^^^ -1) else v 1 n) ∧ (∀ k : Nat, k ≠ 1 → u k = v k))) (fun u t => ex_Pst dC dI (va_A (wm ad cy v) sz) (wm ad cy u) t) (va_A (wm ad cy v) sz)) 0 0 (va_A (wm ad cy v) sz) := by
  refine Met.ofW (cc := cX8_kin) (maxL := 5) (ret := (some .int)) (by decide) rfl ?_
  intro p e s m args below meth c s₁ B hml hv
  obtain ⟨rfl, hsz, hE, hP, hK, hD0⟩ := hv
  have hx := B.exec
  have hb := B.bytes
  have hr := B.returns
  have hts := atoms_spec (ws := wsX8_kin) B.pre
  have hown : s.vm.findClass RX8 = some m.cls := findClass_of_methodNamed B.named
  have hlocks := B.notSynchronized
  subst hsz
  have hD := hD0.self (sz := s.heap.size)
  generalize hAe : va_A (wm ad cy v) s.heap.size = A at hD ⊢
  have hA : ∀ q : Nat, s.heap.size ≤ q → A q := fun q h => by rw [← hAe]; exact Or.inr h
  have hS : va_S A s.heap s.heap [] := va_S.rf
  have hP : va_P (dC, dI) vwCl (wm ad cy v) s.heap := hP
  have hl := lv_entry ([.ref (ad 0), .int x0, .int x1, .int 0]) (n := 5) (Nat.le_of_ble_eq_true rfl)
  rw [lg_entry_eq]
  generalize (lg_sl ([.ref (ad 0), .int x0, .int x1, .int 0]) ++ List.replicate (5 - (lg_sl ([.ref (ad 0), .int x0, .int x1, .int 0])).length) Slot.unset).toArray = ls at hl ⊢
  have hl : lv_has ls 5 [(0, .ref (ad 0)), (1, .int x0), (2, .int x1), (3, .int 0)] := hl
  refine lv_aload_n hx hb dX8_kin_0 rfl (lv_at hl 0 rfl) ?_
  refine lv_iload_n hx hb dX8_kin_1 rfl (lv_at hl 1 rfl) ?_
  refine yw_i (w1 := fun (u : Nat → Nat → Int32) => wm ad cy u) hD hS hA (va_runV (As := [.int x0]) (rest := []) ⟨hx, hb, hml, hown, hts⟩ (q_X8_isMediator l dC dI cy _ ad v hv x0) (cwV 1 hts gX8_kin_X8_isMediator rfl rfl rfl hd_V_X8_isMediator_1 ⟨Nat.le_of_ble_eq_true rfl, Nat.le_of_ble_eq_true rfl⟩) (yw_preV hE hK hP hD (ci := 8) (q := (RX8, TX8, 11)) (q0 := 0) rfl (wm_at (by decide) rc_0)) rfl rfl hl.1 rfl (lv_room (Nat.le_of_ble_eq_true rfl)) dX8_kin_2 ⟨Nat.le_of_ble_eq_true rfl, Nat.le_of_ble_eq_true rfl⟩) (fun r_1 v_1 H locs hw_1 hP hD hS => ?_)
  obtain ⟨-, hu_1, hw_1⟩ := hw_1
  replace hu_1 := hu_1.symm
  subst hu_1
  rcases hw_1 with ⟨rfl, ha_2⟩ | ⟨rfl, ha_2⟩
  · have hb_2 := hv 1 1 4 (by decide)
    have hj_2 : 0 ≤ x0.toInt ∧ x0.toInt ≤ 3 := ⟨by omega, by omega⟩
    refine lv_if_eq (tgt := 16) hx hb dX8_kin_5 (by decide) (fun c9 => absurd c9 (by decide)) (fun _ => ?_)
    refine lv_aload_n hx hb dX8_kin_8 rfl (lv_at hl 0 rfl) ?_
    refine lv_iload_n hx hb dX8_kin_9 rfl (lv_at hl 2 rfl) ?_
    refine yw_i (w1 := fun (u : Nat → Nat → Int32) => wm ad cy u) hD hS hA (va_runV (As := [.int x1]) (rest := []) ⟨hx, hb, hml, hown, hts⟩ (q_X8_isParty l dC dI cy _ ad v hv x1) (cwV 1 hts gX8_kin_X8_isParty rfl rfl rfl hd_V_X8_isParty_1 ⟨Nat.le_of_ble_eq_true rfl, Nat.le_of_ble_eq_true rfl⟩) (yw_preV hE hK hP hD (ci := 8) (q := (RX8, TX8, 11)) (q0 := 0) rfl (wm_at (by decide) rc_0)) rfl rfl hl.1 rfl (lv_room (Nat.le_of_ble_eq_true rfl)) dX8_kin_10 ⟨Nat.le_of_ble_eq_true rfl, Nat.le_of_ble_eq_true rfl⟩) (fun r_3 v_3 H locs hw_3 hP hD hS => ?_)
    obtain ⟨-, hu_3, hw_3⟩ := hw_3
    replace hu_3 := hu_3.symm
    subst hu_3
    rcases hw_3 with ⟨rfl, ha_4⟩ | ⟨rfl, ha_4⟩
    · have hb_4 := hv 1 0 8 (by decide)
      have hj_4 : 0 ≤ x1.toInt ∧ x1.toInt ≤ 7 := ⟨by omega, by omega⟩
      refine lv_if_ne (tgt := 18) hx hb dX8_kin_13 (by decide) (fun _ => ?_) (fun c9 => absurd c9 (by decide))
      refine lv_aload_n hx hb dX8_kin_18 rfl (lv_at hl 0 rfl) ?_
      refine va_get (D := (dC, dI)) (ci := 8) (v := .ref (ad 1)) (C := RX8) (T := TX8) (N := 11) hx hb hts iwX8_kin_X8 hown hK hP (0) (wm_at (by decide) rc_0) rfl 0 (by decide) (hts (.fieldLink RX8 7 "QuietStairsModel" "s" "[I") fwX8_kin_1) (fun _ h9 => h9) rfl dX8_kin_19 ?_
      refine lv_bipush (v := 28) hx hb dX8_kin_22 (by decide) ?_
      refine lv_iload_n hx hb dX8_kin_24 rfl (lv_at hl 1 rfl) ?_
      refine lv_iadd hx hb dX8_kin_25 ?_
      refine lv_topi (fun x_5 ex_5 => ?_)
      have k_28 : (28 : Int32).toInt = 28 := by decide
      have tx_5 : x_5.toInt = (28 : Int32).toInt + x0.toInt := by rw [ex_5]; exact t_add ⟨by omega, by omega⟩
      have zn_x0 : (x0.toNatClampNeg : Int) = x0.toInt := t_nn (by omega)
      have nx_5 : x_5.toNatClampNeg = 28 + x0.toNatClampNeg := by have z1 := t_nn (x := x_5) (by omega); omega
      refine va_iald hx hb hK hP (1) 0 (wm_at (by decide) rc_1) rfl (vp_in_iff.mpr ⟨by omega, by omega⟩) dX8_kin_26 ?_
      refine lv_topi (fun x_6 ex_6 => ?_)
      rw [nx_5] at ex_6
      have qx_6 : x_6.toInt = (v 1 (28 + x0.toNatClampNeg)).toInt := congrArg Int32.toInt ex_6
      refine lv_iload_n hx hb dX8_kin_27 rfl (lv_at hl 2 rfl) ?_
      refine lv_ishr hx hb dX8_kin_28 ?_
      refine lv_topi (fun x_7 ex_7 => ?_)
      refine lv_iconst (v := 1) hx hb dX8_kin_29 (by decide) ?_
      refine lv_iand hx hb dX8_kin_30 ?_
      refine lv_topi (fun x_8 ex_8 => ?_)
      have qx_8 : x_8.toInt = (btx (v 1 (28 + x0.toNatClampNeg)) x1).toInt := by unfold btx; rw [ex_8, ex_7, ex_6]
      refine lv_iconst (v := 1) hx hb dX8_kin_31 (by decide) ?_
      have k_1 : (1 : Int32).toInt = 1 := by decide
      refine lv_icmp_ne (tgt := 39) hx hb dX8_kin_32 (by decide) (fun c_9 => ?_) (fun c_9 => ?_)
      · have tc_9 : x_8.toInt ≠ (1 : Int32).toInt := fun q => absurd (Int32.toInt_inj.mp q) c_9
        refine lv_iconst (v := 0) hx hb dX8_kin_39 (by decide) ?_
        refine lv_istore (lv' := [(4, .int 0), (0, .ref (ad 0)), (1, .int x0), (2, .int x1), (3, .int 0)]) hx hb dX8_kin_40 hl (by decide) rfl (fun ls hl => ?_)
        refine lv_aload_n hx hb dX8_kin_42 rfl (lv_at hl 1 rfl) ?_
        refine va_get (D := (dC, dI)) (ci := 8) (v := .ref (ad 1)) (C := RX8) (T := TX8) (N := 11) hx hb hts iwX8_kin_X8 hown hK hP (0) (wm_at (by decide) rc_0) rfl 0 (by decide) (hts (.fieldLink RX8 7 "QuietStairsModel" "s" "[I") fwX8_kin_1) (fun _ h9 => h9) rfl dX8_kin_43 ?_
        refine lv_bipush (v := 28) hx hb dX8_kin_46 (by decide) ?_
        refine lv_iload_n hx hb dX8_kin_48 rfl (lv_at hl 2 rfl) ?_
        refine lv_iadd hx hb dX8_kin_49 ?_
        refine lv_topi (fun x_10 ex_10 => ?_)
        obtain rfl : x_5 = x_10 := ex_5.trans ex_10.symm
        refine lv_iload_n hx hb dX8_kin_50 rfl (lv_at hl 4 rfl) ?_
        refine lv_if_eq (tgt := 70) hx hb dX8_kin_51 (by decide) (fun _ => ?_) (fun c9 => absurd c9 (by decide))
        refine lv_aload_n hx hb dX8_kin_70 rfl (lv_at hl 1 rfl) ?_
        refine va_get (D := (dC, dI)) (ci := 8) (v := .ref (ad 1)) (C := RX8) (T := TX8) (N := 11) hx hb hts iwX8_kin_X8 hown hK hP (0) (wm_at (by decide) rc_0) rfl 0 (by decide) (hts (.fieldLink RX8 7 "QuietStairsModel" "s" "[I") fwX8_kin_1) (fun _ h9 => h9) rfl dX8_kin_71 ?_
        refine lv_bipush (v := 28) hx hb dX8_kin_74 (by decide) ?_
        refine lv_iload_n hx hb dX8_kin_76 rfl (lv_at hl 2 rfl) ?_
        refine lv_iadd hx hb dX8_kin_77 ?_
        refine lv_topi (fun x_11 ex_11 => ?_)
        obtain rfl : x_5 = x_11 := ex_5.trans ex_11.symm
        refine va_iald hx hb hK hP (1) 0 (wm_at (by decide) rc_1) rfl (vp_in_iff.mpr ⟨by omega, by omega⟩) dX8_kin_78 ?_
        refine lv_topi (fun x_12 ex_12 => ?_)
        rw [nx_5] at ex_12
        obtain rfl : x_6 = x_12 := (ex_12.trans ex_6.symm).symm
        refine lv_iconst (v := 1) hx hb dX8_kin_79 (by decide) ?_
        refine lv_iload_n hx hb dX8_kin_80 rfl (lv_at hl 3 rfl) ?_
        refine lv_ishl hx hb dX8_kin_81 ?_
        refine lv_topi (fun x_13 ex_13 => ?_)
        refine lv_iconst (v := (-1)) hx hb dX8_kin_82 (by decide) ?_
        refine lv_ixor hx hb dX8_kin_83 ?_
        refine lv_topi (fun x_14 ex_14 => ?_)
        refine lv_iand hx hb dX8_kin_84 ?_
        refine lv_topi (fun x_15 ex_15 => ?_)
        refine va_iast hx hb hK hP hD hS (1) 0 (wm_at (by decide) rc_1) rfl (vp_in_iff.mpr ⟨by omega, by omega⟩) dX8_kin_85 (fun H locs hP hD hS => ?_)
        obtain ⟨v_16, ev_16⟩ : ∃ u : Nat → Nat → Int32, u = upr v 1 (upd (v 1) (x_5.toNatClampNeg) x_15) := ⟨_, rfl⟩
        have hP : va_P (dC, dI) vwCl (wm ad cy v_16) H := by rw [ev_16, ← wm_put (e := _) rc_1]; exact hP
        have hD : va_D A (wm ad cy v_16) := by rw [ev_16, ← wm_put (e := _) rc_1]; exact hD
        have hv : Ir v_16 := by rw [ev_16]; exact hv.put (k := 1) (fun h q => by rw [show br 1 _ = _ from (bx_n (by omega))] at q; cases q)
        rw [nx_5] at ev_16
        refine lv_iload hx hb dX8_kin_86 (lv_at hl 0 rfl) ?_
        refine lv_iload_n hx hb dX8_kin_88 rfl (lv_at hl 4 rfl) ?_
        refine lv_icmp_ne (tgt := 96) hx hb dX8_kin_89 (by decide) (fun c9 => absurd c9 (by decide)) (fun _ => ?_)
        refine lv_iconst (v := 0) hx hb dX8_kin_92 (by decide) ?_
        refine lv_goto (tgt := 97) hx hb dX8_kin_93 (by decide) ?_
        have hpost : (¬ ((0 ≤ x0.toInt ∧ x0.toInt < (v 1 1).toInt) ∧ 0 ≤ x1.toInt ∧ x1.toInt < (v 1 0).toInt) → (0 : Int32) = -1 ∧ v_16 = v) ∧ (((0 ≤ x0.toInt ∧ x0.toInt < (v 1 1).toInt) ∧ 0 ≤ x1.toInt ∧ x1.toInt < (v 1 0).toInt) ∧ (btx (v 1 (28 + x0.toNatClampNeg)) x1).toInt = 1 → (0 : Int32) = 1 ∧ (∀ n : Nat, v_16 1 n = if n = 28 + x0.toNatClampNeg then v 1 (28 + x0.toNatClampNeg) &&& ((1 <<< (x1 &&& 31)) ^^^ -1) else v 1 n) ∧ (∀ k : Nat, k ≠ 1 → v_16 k = v k)) ∧ (((0 ≤ x0.toInt ∧ x0.toInt < (v 1 1).toInt) ∧ 0 ≤ x1.toInt ∧ x1.toInt < (v 1 0).toInt) ∧ (btx (v 1 (28 + x0.toNatClampNeg)) x1).toInt ≠ 1 → (0 : Int32) = 0 ∧ (∀ n : Nat, v_16 1 n = if n = 28 + x0.toNatClampNeg then v 1 (28 + x0.toNatClampNeg) &&& ((1 <<< (x1 &&& 31)) ^^^ -1) else v 1 n) ∧ (∀ k : Nat, k ≠ 1 → v_16 k = v k)) := by
          refine ⟨fun hq => ?_, fun hq => ?_, fun hq => ?_⟩
          · exfalso; omega
          · exfalso; omega
          · exact ⟨rfl, fun n => by rw [ev_16, up1, ex_15, ex_6, ex_14, ex_13], fun k hk => by rw [ev_16, upr_n hk]⟩
        exact W.iret (v := 0) hx hb hr (fun t ht hW => ⟨⟨0, v_16, rfl, ⟨hv, hpost⟩, by rw [ht]; exact hP, hD⟩, hS.F ht⟩) hS.2.2 dX8_kin_97
      · have tc_9 : x_8.toInt = (1 : Int32).toInt := by rw [c_9]
        refine lv_iconst (v := 1) hx hb dX8_kin_35 (by decide) ?_
        refine lv_goto (tgt := 40) hx hb dX8_kin_36 (by decide) ?_
        refine lv_istore (lv' := [(4, .int 1), (0, .ref (ad 0)), (1, .int x0), (2, .int x1), (3, .int 0)]) hx hb dX8_kin_40 hl (by decide) rfl (fun ls hl => ?_)
        refine lv_aload_n hx hb dX8_kin_42 rfl (lv_at hl 1 rfl) ?_
        refine va_get (D := (dC, dI)) (ci := 8) (v := .ref (ad 1)) (C := RX8) (T := TX8) (N := 11) hx hb hts iwX8_kin_X8 hown hK hP (0) (wm_at (by decide) rc_0) rfl 0 (by decide) (hts (.fieldLink RX8 7 "QuietStairsModel" "s" "[I") fwX8_kin_1) (fun _ h9 => h9) rfl dX8_kin_43 ?_
        refine lv_bipush (v := 28) hx hb dX8_kin_46 (by decide) ?_
        refine lv_iload_n hx hb dX8_kin_48 rfl (lv_at hl 2 rfl) ?_
        refine lv_iadd hx hb dX8_kin_49 ?_
        refine lv_topi (fun x_10 ex_10 => ?_)
        obtain rfl : x_5 = x_10 := ex_5.trans ex_10.symm
        refine lv_iload_n hx hb dX8_kin_50 rfl (lv_at hl 4 rfl) ?_
        refine lv_if_eq (tgt := 70) hx hb dX8_kin_51 (by decide) (fun _ => ?_) (fun c9 => absurd c9 (by decide))
        refine lv_aload_n hx hb dX8_kin_70 rfl (lv_at hl 1 rfl) ?_
        refine va_get (D := (dC, dI)) (ci := 8) (v := .ref (ad 1)) (C := RX8) (T := TX8) (N := 11) hx hb hts iwX8_kin_X8 hown hK hP (0) (wm_at (by decide) rc_0) rfl 0 (by decide) (hts (.fieldLink RX8 7 "QuietStairsModel" "s" "[I") fwX8_kin_1) (fun _ h9 => h9) rfl dX8_kin_71 ?_
        refine lv_bipush (v := 28) hx hb dX8_kin_74 (by decide) ?_
        refine lv_iload_n hx hb dX8_kin_76 rfl (lv_at hl 2 rfl) ?_
        refine lv_iadd hx hb dX8_kin_77 ?_
        refine lv_topi (fun x_11 ex_11 => ?_)
        obtain rfl : x_5 = x_11 := ex_5.trans ex_11.symm
        refine va_iald hx hb hK hP (1) 0 (wm_at (by decide) rc_1) rfl (vp_in_iff.mpr ⟨by omega, by omega⟩) dX8_kin_78 ?_
        refine lv_topi (fun x_12 ex_12 => ?_)
        rw [nx_5] at ex_12
        obtain rfl : x_6 = x_12 := (ex_12.trans ex_6.symm).symm
        refine lv_iconst (v := 1) hx hb dX8_kin_79 (by decide) ?_
        refine lv_iload_n hx hb dX8_kin_80 rfl (lv_at hl 3 rfl) ?_
        refine lv_ishl hx hb dX8_kin_81 ?_
        refine lv_topi (fun x_13 ex_13 => ?_)
        refine lv_iconst (v := (-1)) hx hb dX8_kin_82 (by decide) ?_
        refine lv_ixor hx hb dX8_kin_83 ?_
        refine lv_topi (fun x_14 ex_14 => ?_)
        refine lv_iand hx hb dX8_kin_84 ?_
        refine lv_topi (fun x_15 ex_15 => ?_)
        refine va_iast hx hb hK hP hD hS (1) 0 (wm_at (by decide) rc_1) rfl (vp_in_iff.mpr ⟨by omega, by omega⟩) dX8_kin_85 (fun H locs hP hD hS => ?_)
        obtain ⟨v_16, ev_16⟩ : ∃ u : Nat → Nat → Int32, u = upr v 1 (upd (v 1) (x_5.toNatClampNeg) x_15) := ⟨_, rfl⟩
        have hP : va_P (dC, dI) vwCl (wm ad cy v_16) H := by rw [ev_16, ← wm_put (e := _) rc_1]; exact hP
        have hD : va_D A (wm ad cy v_16) := by rw [ev_16, ← wm_put (e := _) rc_1]; exact hD
        have hv : Ir v_16 := by rw [ev_16]; exact hv.put (k := 1) (fun h q => by rw [show br 1 _ = _ from (bx_n (by omega))] at q; cases q)
        rw [nx_5] at ev_16
        refine lv_iload hx hb dX8_kin_86 (lv_at hl 0 rfl) ?_
        refine lv_iload_n hx hb dX8_kin_88 rfl (lv_at hl 4 rfl) ?_
        refine lv_icmp_ne (tgt := 96) hx hb dX8_kin_89 (by decide) (fun _ => ?_) (fun c9 => absurd c9 (by decide))
        refine lv_iconst (v := 1) hx hb dX8_kin_96 (by decide) ?_
        have hpost : (¬ ((0 ≤ x0.toInt ∧ x0.toInt < (v 1 1).toInt) ∧ 0 ≤ x1.toInt ∧ x1.toInt < (v 1 0).toInt) → (1 : Int32) = -1 ∧ v_16 = v) ∧ (((0 ≤ x0.toInt ∧ x0.toInt < (v 1 1).toInt) ∧ 0 ≤ x1.toInt ∧ x1.toInt < (v 1 0).toInt) ∧ (btx (v 1 (28 + x0.toNatClampNeg)) x1).toInt = 1 → (1 : Int32) = 1 ∧ (∀ n : Nat, v_16 1 n = if n = 28 + x0.toNatClampNeg then v 1 (28 + x0.toNatClampNeg) &&& ((1 <<< (x1 &&& 31)) ^^^ -1) else v 1 n) ∧ (∀ k : Nat, k ≠ 1 → v_16 k = v k)) ∧ (((0 ≤ x0.toInt ∧ x0.toInt < (v 1 1).toInt) ∧ 0 ≤ x1.toInt ∧ x1.toInt < (v 1 0).toInt) ∧ (btx (v 1 (28 + x0.toNatClampNeg)) x1).toInt ≠ 1 → (1 : Int32) = 0 ∧ (∀ n : Nat, v_16 1 n = if n = 28 + x0.toNatClampNeg then v 1 (28 + x0.toNatClampNeg) &&& ((1 <<< (x1 &&& 31)) ^^^ -1) else v 1 n) ∧ (∀ k : Nat, k ≠ 1 → v_16 k = v k)) := by
          refine ⟨fun hq => ?_, fun hq => ?_, fun hq => ?_⟩
          · exfalso; omega
          · exact ⟨rfl, fun n => by rw [ev_16, up1, ex_15, ex_6, ex_14, ex_13], fun k hk => by rw [ev_16, upr_n hk]⟩
          · exfalso; omega
        exact W.iret (v := 1) hx hb hr (fun t ht hW => ⟨⟨1, v_16, rfl, ⟨hv, hpost⟩, by rw [ht]; exact hP, hD⟩, hS.F ht⟩) hS.2.2 dX8_kin_97
    · refine lv_if_ne (tgt := 18) hx hb dX8_kin_13 (by decide) (fun c9 => absurd c9 (by decide)) (fun _ => ?_)
      refine lv_iconst (v := (-1)) hx hb dX8_kin_16 (by decide) ?_
      have hpost : (¬ ((0 ≤ x0.toInt ∧ x0.toInt < (v 1 1).toInt) ∧ 0 ≤ x1.toInt ∧ x1.toInt < (v 1 0).toInt) → ((-1) : Int32) = -1 ∧ v = v) ∧ (((0 ≤ x0.toInt ∧ x0.toInt < (v 1 1).toInt) ∧ 0 ≤ x1.toInt ∧ x1.toInt < (v 1 0).toInt) ∧ (btx (v 1 (28 + x0.toNatClampNeg)) x1).toInt = 1 → ((-1) : Int32) = 1 ∧ (∀ n : Nat, v 1 n = if n = 28 + x0.toNatClampNeg then v 1 (28 + x0.toNatClampNeg) &&& ((1 <<< (x1 &&& 31)) ^^^ -1) else v 1 n) ∧ (∀ k : Nat, k ≠ 1 → v k = v k)) ∧ (((0 ≤ x0.toInt ∧ x0.toInt < (v 1 1).toInt) ∧ 0 ≤ x1.toInt ∧ x1.toInt < (v 1 0).toInt) ∧ (btx (v 1 (28 + x0.toNatClampNeg)) x1).toInt ≠ 1 → ((-1) : Int32) = 0 ∧ (∀ n : Nat, v 1 n = if n = 28 + x0.toNatClampNeg then v 1 (28 + x0.toNatClampNeg) &&& ((1 <<< (x1 &&& 31)) ^^^ -1) else v 1 n) ∧ (∀ k : Nat, k ≠ 1 → v k = v k)) := by
        refine ⟨fun hq => ?_, fun hq => ?_, fun hq => ?_⟩
        · exact ⟨rfl, rfl⟩
        · exfalso; omega
        · exfalso; omega
      exact W.iret (v := (-1)) hx hb hr (fun t ht hW => ⟨⟨(-1), v, rfl, ⟨hv, hpost⟩, by rw [ht]; exact hP, hD⟩, hS.F ht⟩) hS.2.2 dX8_kin_17
  · refine lv_if_eq (tgt := 16) hx hb dX8_kin_5 (by decide) (fun _ => ?_) (fun c9 => absurd c9 (by decide))
    refine lv_iconst (v := (-1)) hx hb dX8_kin_16 (by decide) ?_
    have hpost : (¬ ((0 ≤ x0.toInt ∧ x0.toInt < (v 1 1).toInt) ∧ 0 ≤ x1.toInt ∧ x1.toInt < (v 1 0).toInt) → ((-1) : Int32) = -1 ∧ v = v) ∧ (((0 ≤ x0.toInt ∧ x0.toInt < (v 1 1).toInt) ∧ 0 ≤ x1.toInt ∧ x1.toInt < (v 1 0).toInt) ∧ (btx (v 1 (28 + x0.toNatClampNeg)) x1).toInt = 1 → ((-1) : Int32) = 1 ∧ (∀ n : Nat, v 1 n = if n = 28 + x0.toNatClampNeg then v 1 (28 + x0.toNatClampNeg) &&& ((1 <<< (x1 &&& 31)) ^^^ -1) else v 1 n) ∧ (∀ k : Nat, k ≠ 1 → v k = v k)) ∧ (((0 ≤ x0.toInt ∧ x0.toInt < (v 1 1).toInt) ∧ 0 ≤ x1.toInt ∧ x1.toInt < (v 1 0).toInt) ∧ (btx (v 1 (28 + x0.toNatClampNeg)) x1).toInt ≠ 1 → ((-1) : Int32) = 0 ∧ (∀ n : Nat, v 1 n = if n = 28 + x0.toNatClampNeg then v 1 (28 + x0.toNatClampNeg) &&& ((1 <<< (x1 &&& 31)) ^^^ -1) else v 1 n) ∧ (∀ k : Nat, k ≠ 1 → v k = v k)) := by
      refine ⟨fun hq => ?_, fun hq => ?_, fun hq => ?_⟩
      · exact ⟨rfl, rfl⟩
      · exfalso; omega
      · exfalso; omega
    exact W.iret (v := (-1)) hx hb hr (fun t ht hW => ⟨⟨(-1), v, rfl, ⟨hv, hpost⟩, by rw [ht]; exact hP, hD⟩, hS.F ht⟩) hS.2.2 dX8_kin_17

set_option maxHeartbeats 4000000 in
set_option maxRecDepth 100000 in
theorem e_X8_kin_1 (l : Launch) (dC : Nat → ClassId) (dI : Nat → Nat → Nat) (cy : Nat → ClassId) (sz : Nat) (ad : Nat → Nat) (v : Nat → Nat → Int32) (hv : Ir v) (x0 x1 : Int32) : Met l yX8_kin wsX8_kin ({ frames := 2, cells := 0, slots := 0, locals := 128 }) (va_Pc [.ref (ad 0), .int x0, .int x1, .int 1] (ex_Pre dC dI cy sz (wm ad cy v))) (va_Qi (fun (r : Int32) (u : Nat → Nat → Int32) => Ir u ∧ (¬ ((0 ≤ x0.toInt ∧ x0.toInt < (v 1 1).toInt) ∧ 0 ≤ x1.toInt ∧ x1.toInt < (v 1 0).toInt) → r = -1 ∧ u = v) ∧ (((0 ≤ x0.toInt ∧ x0.toInt < (v 1 1).toInt) ∧ 0 ≤ x1.toInt ∧ x1.toInt < (v 1 0).toInt) ∧ (btx (v 1 (28 + x0.toNatClampNeg)) x1).toInt = 1 → r = 0 ∧ (∀ n : Nat, u 1 n = if n = 28 + x0.toNatClampNeg then v 1 (28 + x0.toNatClampNeg) ||| (1 <<< (x1 &&& 31)) else v 1 n) ∧ (∀ k : Nat, k ≠ 1 → u k = v k)) ∧ (((0 ≤ x0.toInt ∧ x0.toInt < (v 1 1).toInt) ∧ 0 ≤ x1.toInt ∧ x1.toInt < (v 1 0).toInt) ∧ (btx (v 1 (28 + x0.toNatClampNeg)) x1).toInt ≠ 1 → r = 1 ∧ (∀ n : Nat, u 1 n = if n = 28 + x0.toNatClampNeg then v 1 (28 + x0.toNatClampNeg) ||| (1 <<< (x1 &&& 31)) else v 1 n) ∧ (∀ k : Nat, k ≠ 1 → u k = v k))) (fun u t => ex_Pst dC dI (va_A (wm ad cy v) sz) (wm ad cy u) t) (va_A (wm ad cy v) sz)) 0 0 (va_A (wm ad cy v) sz) := by
  refine Met.ofW (cc := cX8_kin) (maxL := 5) (ret := (some .int)) (by decide) rfl ?_
  intro p e s m args below meth c s₁ B hml hv
  obtain ⟨rfl, hsz, hE, hP, hK, hD0⟩ := hv
  have hx := B.exec
  have hb := B.bytes
  have hr := B.returns
  have hts := atoms_spec (ws := wsX8_kin) B.pre
  have hown : s.vm.findClass RX8 = some m.cls := findClass_of_methodNamed B.named
  have hlocks := B.notSynchronized
  subst hsz
  have hD := hD0.self (sz := s.heap.size)
  generalize hAe : va_A (wm ad cy v) s.heap.size = A at hD ⊢
  have hA : ∀ q : Nat, s.heap.size ≤ q → A q := fun q h => by rw [← hAe]; exact Or.inr h
  have hS : va_S A s.heap s.heap [] := va_S.rf
  have hP : va_P (dC, dI) vwCl (wm ad cy v) s.heap := hP
  have hl := lv_entry ([.ref (ad 0), .int x0, .int x1, .int 1]) (n := 5) (Nat.le_of_ble_eq_true rfl)
  rw [lg_entry_eq]
  generalize (lg_sl ([.ref (ad 0), .int x0, .int x1, .int 1]) ++ List.replicate (5 - (lg_sl ([.ref (ad 0), .int x0, .int x1, .int 1])).length) Slot.unset).toArray = ls at hl ⊢
  have hl : lv_has ls 5 [(0, .ref (ad 0)), (1, .int x0), (2, .int x1), (3, .int 1)] := hl
  refine lv_aload_n hx hb dX8_kin_0 rfl (lv_at hl 0 rfl) ?_
  refine lv_iload_n hx hb dX8_kin_1 rfl (lv_at hl 1 rfl) ?_
  refine yw_i (w1 := fun (u : Nat → Nat → Int32) => wm ad cy u) hD hS hA (va_runV (As := [.int x0]) (rest := []) ⟨hx, hb, hml, hown, hts⟩ (q_X8_isMediator l dC dI cy _ ad v hv x0) (cwV 1 hts gX8_kin_X8_isMediator rfl rfl rfl hd_V_X8_isMediator_1 ⟨Nat.le_of_ble_eq_true rfl, Nat.le_of_ble_eq_true rfl⟩) (yw_preV hE hK hP hD (ci := 8) (q := (RX8, TX8, 11)) (q0 := 0) rfl (wm_at (by decide) rc_0)) rfl rfl hl.1 rfl (lv_room (Nat.le_of_ble_eq_true rfl)) dX8_kin_2 ⟨Nat.le_of_ble_eq_true rfl, Nat.le_of_ble_eq_true rfl⟩) (fun r_1 v_1 H locs hw_1 hP hD hS => ?_)
  obtain ⟨-, hu_1, hw_1⟩ := hw_1
  replace hu_1 := hu_1.symm
  subst hu_1
  rcases hw_1 with ⟨rfl, ha_2⟩ | ⟨rfl, ha_2⟩
  · have hb_2 := hv 1 1 4 (by decide)
    have hj_2 : 0 ≤ x0.toInt ∧ x0.toInt ≤ 3 := ⟨by omega, by omega⟩
    refine lv_if_eq (tgt := 16) hx hb dX8_kin_5 (by decide) (fun c9 => absurd c9 (by decide)) (fun _ => ?_)
    refine lv_aload_n hx hb dX8_kin_8 rfl (lv_at hl 0 rfl) ?_
    refine lv_iload_n hx hb dX8_kin_9 rfl (lv_at hl 2 rfl) ?_
    refine yw_i (w1 := fun (u : Nat → Nat → Int32) => wm ad cy u) hD hS hA (va_runV (As := [.int x1]) (rest := []) ⟨hx, hb, hml, hown, hts⟩ (q_X8_isParty l dC dI cy _ ad v hv x1) (cwV 1 hts gX8_kin_X8_isParty rfl rfl rfl hd_V_X8_isParty_1 ⟨Nat.le_of_ble_eq_true rfl, Nat.le_of_ble_eq_true rfl⟩) (yw_preV hE hK hP hD (ci := 8) (q := (RX8, TX8, 11)) (q0 := 0) rfl (wm_at (by decide) rc_0)) rfl rfl hl.1 rfl (lv_room (Nat.le_of_ble_eq_true rfl)) dX8_kin_10 ⟨Nat.le_of_ble_eq_true rfl, Nat.le_of_ble_eq_true rfl⟩) (fun r_3 v_3 H locs hw_3 hP hD hS => ?_)
    obtain ⟨-, hu_3, hw_3⟩ := hw_3
    replace hu_3 := hu_3.symm
    subst hu_3
    rcases hw_3 with ⟨rfl, ha_4⟩ | ⟨rfl, ha_4⟩
    · have hb_4 := hv 1 0 8 (by decide)
      have hj_4 : 0 ≤ x1.toInt ∧ x1.toInt ≤ 7 := ⟨by omega, by omega⟩
      refine lv_if_ne (tgt := 18) hx hb dX8_kin_13 (by decide) (fun _ => ?_) (fun c9 => absurd c9 (by decide))
      refine lv_aload_n hx hb dX8_kin_18 rfl (lv_at hl 0 rfl) ?_
      refine va_get (D := (dC, dI)) (ci := 8) (v := .ref (ad 1)) (C := RX8) (T := TX8) (N := 11) hx hb hts iwX8_kin_X8 hown hK hP (0) (wm_at (by decide) rc_0) rfl 0 (by decide) (hts (.fieldLink RX8 7 "QuietStairsModel" "s" "[I") fwX8_kin_1) (fun _ h9 => h9) rfl dX8_kin_19 ?_
      refine lv_bipush (v := 28) hx hb dX8_kin_22 (by decide) ?_
      refine lv_iload_n hx hb dX8_kin_24 rfl (lv_at hl 1 rfl) ?_
      refine lv_iadd hx hb dX8_kin_25 ?_
      refine lv_topi (fun x_5 ex_5 => ?_)
      have k_28 : (28 : Int32).toInt = 28 := by decide
      have tx_5 : x_5.toInt = (28 : Int32).toInt + x0.toInt := by rw [ex_5]; exact t_add ⟨by omega, by omega⟩
      have zn_x0 : (x0.toNatClampNeg : Int) = x0.toInt := t_nn (by omega)
      have nx_5 : x_5.toNatClampNeg = 28 + x0.toNatClampNeg := by have z1 := t_nn (x := x_5) (by omega); omega
      refine va_iald hx hb hK hP (1) 0 (wm_at (by decide) rc_1) rfl (vp_in_iff.mpr ⟨by omega, by omega⟩) dX8_kin_26 ?_
      refine lv_topi (fun x_6 ex_6 => ?_)
      rw [nx_5] at ex_6
      have qx_6 : x_6.toInt = (v 1 (28 + x0.toNatClampNeg)).toInt := congrArg Int32.toInt ex_6
      refine lv_iload_n hx hb dX8_kin_27 rfl (lv_at hl 2 rfl) ?_
      refine lv_ishr hx hb dX8_kin_28 ?_
      refine lv_topi (fun x_7 ex_7 => ?_)
      refine lv_iconst (v := 1) hx hb dX8_kin_29 (by decide) ?_
      refine lv_iand hx hb dX8_kin_30 ?_
      refine lv_topi (fun x_8 ex_8 => ?_)
      have qx_8 : x_8.toInt = (btx (v 1 (28 + x0.toNatClampNeg)) x1).toInt := by unfold btx; rw [ex_8, ex_7, ex_6]
      refine lv_iconst (v := 1) hx hb dX8_kin_31 (by decide) ?_
      have k_1 : (1 : Int32).toInt = 1 := by decide
      refine lv_icmp_ne (tgt := 39) hx hb dX8_kin_32 (by decide) (fun c_9 => ?_) (fun c_9 => ?_)
      · have tc_9 : x_8.toInt ≠ (1 : Int32).toInt := fun q => absurd (Int32.toInt_inj.mp q) c_9
        refine lv_iconst (v := 0) hx hb dX8_kin_39 (by decide) ?_
        refine lv_istore (lv' := [(4, .int 0), (0, .ref (ad 0)), (1, .int x0), (2, .int x1), (3, .int 1)]) hx hb dX8_kin_40 hl (by decide) rfl (fun ls hl => ?_)
        refine lv_aload_n hx hb dX8_kin_42 rfl (lv_at hl 1 rfl) ?_
        refine va_get (D := (dC, dI)) (ci := 8) (v := .ref (ad 1)) (C := RX8) (T := TX8) (N := 11) hx hb hts iwX8_kin_X8 hown hK hP (0) (wm_at (by decide) rc_0) rfl 0 (by decide) (hts (.fieldLink RX8 7 "QuietStairsModel" "s" "[I") fwX8_kin_1) (fun _ h9 => h9) rfl dX8_kin_43 ?_
        refine lv_bipush (v := 28) hx hb dX8_kin_46 (by decide) ?_
        refine lv_iload_n hx hb dX8_kin_48 rfl (lv_at hl 2 rfl) ?_
        refine lv_iadd hx hb dX8_kin_49 ?_
        refine lv_topi (fun x_10 ex_10 => ?_)
        obtain rfl : x_5 = x_10 := ex_5.trans ex_10.symm
        refine lv_iload_n hx hb dX8_kin_50 rfl (lv_at hl 4 rfl) ?_
        refine lv_if_eq (tgt := 70) hx hb dX8_kin_51 (by decide) (fun c9 => absurd c9 (by decide)) (fun _ => ?_)
        refine lv_aload_n hx hb dX8_kin_54 rfl (lv_at hl 1 rfl) ?_
        refine va_get (D := (dC, dI)) (ci := 8) (v := .ref (ad 1)) (C := RX8) (T := TX8) (N := 11) hx hb hts iwX8_kin_X8 hown hK hP (0) (wm_at (by decide) rc_0) rfl 0 (by decide) (hts (.fieldLink RX8 7 "QuietStairsModel" "s" "[I") fwX8_kin_1) (fun _ h9 => h9) rfl dX8_kin_55 ?_
        refine lv_bipush (v := 28) hx hb dX8_kin_58 (by decide) ?_
        refine lv_iload_n hx hb dX8_kin_60 rfl (lv_at hl 2 rfl) ?_
        refine lv_iadd hx hb dX8_kin_61 ?_
        refine lv_topi (fun x_11 ex_11 => ?_)
        obtain rfl : x_5 = x_11 := ex_5.trans ex_11.symm
        refine va_iald hx hb hK hP (1) 0 (wm_at (by decide) rc_1) rfl (vp_in_iff.mpr ⟨by omega, by omega⟩) dX8_kin_62 ?_
        refine lv_topi (fun x_12 ex_12 => ?_)
        rw [nx_5] at ex_12
        obtain rfl : x_6 = x_12 := (ex_12.trans ex_6.symm).symm
        refine lv_iconst (v := 1) hx hb dX8_kin_63 (by decide) ?_
        refine lv_iload_n hx hb dX8_kin_64 rfl (lv_at hl 3 rfl) ?_
        refine lv_ishl hx hb dX8_kin_65 ?_
        refine lv_topi (fun x_13 ex_13 => ?_)
        refine lv_ior hx hb dX8_kin_66 ?_
        refine lv_topi (fun x_14 ex_14 => ?_)
        refine lv_goto (tgt := 85) hx hb dX8_kin_67 (by decide) ?_
        refine va_iast hx hb hK hP hD hS (1) 0 (wm_at (by decide) rc_1) rfl (vp_in_iff.mpr ⟨by omega, by omega⟩) dX8_kin_85 (fun H locs hP hD hS => ?_)
        obtain ⟨v_15, ev_15⟩ : ∃ u : Nat → Nat → Int32, u = upr v 1 (upd (v 1) (x_5.toNatClampNeg) x_14) := ⟨_, rfl⟩
        have hP : va_P (dC, dI) vwCl (wm ad cy v_15) H := by rw [ev_15, ← wm_put (e := _) rc_1]; exact hP
        have hD : va_D A (wm ad cy v_15) := by rw [ev_15, ← wm_put (e := _) rc_1]; exact hD
        have hv : Ir v_15 := by rw [ev_15]; exact hv.put (k := 1) (fun h q => by rw [show br 1 _ = _ from (bx_n (by omega))] at q; cases q)
        rw [nx_5] at ev_15
        refine lv_iload hx hb dX8_kin_86 (lv_at hl 0 rfl) ?_
        refine lv_iload_n hx hb dX8_kin_88 rfl (lv_at hl 4 rfl) ?_
        refine lv_icmp_ne (tgt := 96) hx hb dX8_kin_89 (by decide) (fun _ => ?_) (fun c9 => absurd c9 (by decide))
        refine lv_iconst (v := 1) hx hb dX8_kin_96 (by decide) ?_
        have hpost : (¬ ((0 ≤ x0.toInt ∧ x0.toInt < (v 1 1).toInt) ∧ 0 ≤ x1.toInt ∧ x1.toInt < (v 1 0).toInt) → (1 : Int32) = -1 ∧ v_15 = v) ∧ (((0 ≤ x0.toInt ∧ x0.toInt < (v 1 1).toInt) ∧ 0 ≤ x1.toInt ∧ x1.toInt < (v 1 0).toInt) ∧ (btx (v 1 (28 + x0.toNatClampNeg)) x1).toInt = 1 → (1 : Int32) = 0 ∧ (∀ n : Nat, v_15 1 n = if n = 28 + x0.toNatClampNeg then v 1 (28 + x0.toNatClampNeg) ||| (1 <<< (x1 &&& 31)) else v 1 n) ∧ (∀ k : Nat, k ≠ 1 → v_15 k = v k)) ∧ (((0 ≤ x0.toInt ∧ x0.toInt < (v 1 1).toInt) ∧ 0 ≤ x1.toInt ∧ x1.toInt < (v 1 0).toInt) ∧ (btx (v 1 (28 + x0.toNatClampNeg)) x1).toInt ≠ 1 → (1 : Int32) = 1 ∧ (∀ n : Nat, v_15 1 n = if n = 28 + x0.toNatClampNeg then v 1 (28 + x0.toNatClampNeg) ||| (1 <<< (x1 &&& 31)) else v 1 n) ∧ (∀ k : Nat, k ≠ 1 → v_15 k = v k)) := by
          refine ⟨fun hq => ?_, fun hq => ?_, fun hq => ?_⟩
          · exfalso; omega
          · exfalso; omega
          · exact ⟨rfl, fun n => by rw [ev_15, up1, ex_14, ex_6, ex_13], fun k hk => by rw [ev_15, upr_n hk]⟩
        exact W.iret (v := 1) hx hb hr (fun t ht hW => ⟨⟨1, v_15, rfl, ⟨hv, hpost⟩, by rw [ht]; exact hP, hD⟩, hS.F ht⟩) hS.2.2 dX8_kin_97
      · have tc_9 : x_8.toInt = (1 : Int32).toInt := by rw [c_9]
        refine lv_iconst (v := 1) hx hb dX8_kin_35 (by decide) ?_
        refine lv_goto (tgt := 40) hx hb dX8_kin_36 (by decide) ?_
        refine lv_istore (lv' := [(4, .int 1), (0, .ref (ad 0)), (1, .int x0), (2, .int x1), (3, .int 1)]) hx hb dX8_kin_40 hl (by decide) rfl (fun ls hl => ?_)
        refine lv_aload_n hx hb dX8_kin_42 rfl (lv_at hl 1 rfl) ?_
        refine va_get (D := (dC, dI)) (ci := 8) (v := .ref (ad 1)) (C := RX8) (T := TX8) (N := 11) hx hb hts iwX8_kin_X8 hown hK hP (0) (wm_at (by decide) rc_0) rfl 0 (by decide) (hts (.fieldLink RX8 7 "QuietStairsModel" "s" "[I") fwX8_kin_1) (fun _ h9 => h9) rfl dX8_kin_43 ?_
        refine lv_bipush (v := 28) hx hb dX8_kin_46 (by decide) ?_
        refine lv_iload_n hx hb dX8_kin_48 rfl (lv_at hl 2 rfl) ?_
        refine lv_iadd hx hb dX8_kin_49 ?_
        refine lv_topi (fun x_10 ex_10 => ?_)
        obtain rfl : x_5 = x_10 := ex_5.trans ex_10.symm
        refine lv_iload_n hx hb dX8_kin_50 rfl (lv_at hl 4 rfl) ?_
        refine lv_if_eq (tgt := 70) hx hb dX8_kin_51 (by decide) (fun c9 => absurd c9 (by decide)) (fun _ => ?_)
        refine lv_aload_n hx hb dX8_kin_54 rfl (lv_at hl 1 rfl) ?_
        refine va_get (D := (dC, dI)) (ci := 8) (v := .ref (ad 1)) (C := RX8) (T := TX8) (N := 11) hx hb hts iwX8_kin_X8 hown hK hP (0) (wm_at (by decide) rc_0) rfl 0 (by decide) (hts (.fieldLink RX8 7 "QuietStairsModel" "s" "[I") fwX8_kin_1) (fun _ h9 => h9) rfl dX8_kin_55 ?_
        refine lv_bipush (v := 28) hx hb dX8_kin_58 (by decide) ?_
        refine lv_iload_n hx hb dX8_kin_60 rfl (lv_at hl 2 rfl) ?_
        refine lv_iadd hx hb dX8_kin_61 ?_
        refine lv_topi (fun x_11 ex_11 => ?_)
        obtain rfl : x_5 = x_11 := ex_5.trans ex_11.symm
        refine va_iald hx hb hK hP (1) 0 (wm_at (by decide) rc_1) rfl (vp_in_iff.mpr ⟨by omega, by omega⟩) dX8_kin_62 ?_
        refine lv_topi (fun x_12 ex_12 => ?_)
        rw [nx_5] at ex_12
        obtain rfl : x_6 = x_12 := (ex_12.trans ex_6.symm).symm
        refine lv_iconst (v := 1) hx hb dX8_kin_63 (by decide) ?_
        refine lv_iload_n hx hb dX8_kin_64 rfl (lv_at hl 3 rfl) ?_
        refine lv_ishl hx hb dX8_kin_65 ?_
        refine lv_topi (fun x_13 ex_13 => ?_)
        refine lv_ior hx hb dX8_kin_66 ?_
        refine lv_topi (fun x_14 ex_14 => ?_)
        refine lv_goto (tgt := 85) hx hb dX8_kin_67 (by decide) ?_
        refine va_iast hx hb hK hP hD hS (1) 0 (wm_at (by decide) rc_1) rfl (vp_in_iff.mpr ⟨by omega, by omega⟩) dX8_kin_85 (fun H locs hP hD hS => ?_)
        obtain ⟨v_15, ev_15⟩ : ∃ u : Nat → Nat → Int32, u = upr v 1 (upd (v 1) (x_5.toNatClampNeg) x_14) := ⟨_, rfl⟩
        have hP : va_P (dC, dI) vwCl (wm ad cy v_15) H := by rw [ev_15, ← wm_put (e := _) rc_1]; exact hP
        have hD : va_D A (wm ad cy v_15) := by rw [ev_15, ← wm_put (e := _) rc_1]; exact hD
        have hv : Ir v_15 := by rw [ev_15]; exact hv.put (k := 1) (fun h q => by rw [show br 1 _ = _ from (bx_n (by omega))] at q; cases q)
        rw [nx_5] at ev_15
        refine lv_iload hx hb dX8_kin_86 (lv_at hl 0 rfl) ?_
        refine lv_iload_n hx hb dX8_kin_88 rfl (lv_at hl 4 rfl) ?_
        refine lv_icmp_ne (tgt := 96) hx hb dX8_kin_89 (by decide) (fun c9 => absurd c9 (by decide)) (fun _ => ?_)
        refine lv_iconst (v := 0) hx hb dX8_kin_92 (by decide) ?_
        refine lv_goto (tgt := 97) hx hb dX8_kin_93 (by decide) ?_
        have hpost : (¬ ((0 ≤ x0.toInt ∧ x0.toInt < (v 1 1).toInt) ∧ 0 ≤ x1.toInt ∧ x1.toInt < (v 1 0).toInt) → (0 : Int32) = -1 ∧ v_15 = v) ∧ (((0 ≤ x0.toInt ∧ x0.toInt < (v 1 1).toInt) ∧ 0 ≤ x1.toInt ∧ x1.toInt < (v 1 0).toInt) ∧ (btx (v 1 (28 + x0.toNatClampNeg)) x1).toInt = 1 → (0 : Int32) = 0 ∧ (∀ n : Nat, v_15 1 n = if n = 28 + x0.toNatClampNeg then v 1 (28 + x0.toNatClampNeg) ||| (1 <<< (x1 &&& 31)) else v 1 n) ∧ (∀ k : Nat, k ≠ 1 → v_15 k = v k)) ∧ (((0 ≤ x0.toInt ∧ x0.toInt < (v 1 1).toInt) ∧ 0 ≤ x1.toInt ∧ x1.toInt < (v 1 0).toInt) ∧ (btx (v 1 (28 + x0.toNatClampNeg)) x1).toInt ≠ 1 → (0 : Int32) = 1 ∧ (∀ n : Nat, v_15 1 n = if n = 28 + x0.toNatClampNeg then v 1 (28 + x0.toNatClampNeg) ||| (1 <<< (x1 &&& 31)) else v 1 n) ∧ (∀ k : Nat, k ≠ 1 → v_15 k = v k)) := by
          refine ⟨fun hq => ?_, fun hq => ?_, fun hq => ?_⟩
          · exfalso; omega
          · exact ⟨rfl, fun n => by rw [ev_15, up1, ex_14, ex_6, ex_13], fun k hk => by rw [ev_15, upr_n hk]⟩
          · exfalso; omega
        exact W.iret (v := 0) hx hb hr (fun t ht hW => ⟨⟨0, v_15, rfl, ⟨hv, hpost⟩, by rw [ht]; exact hP, hD⟩, hS.F ht⟩) hS.2.2 dX8_kin_97
    · refine lv_if_ne (tgt := 18) hx hb dX8_kin_13 (by decide) (fun c9 => absurd c9 (by decide)) (fun _ => ?_)
      refine lv_iconst (v := (-1)) hx hb dX8_kin_16 (by decide) ?_
      have hpost : (¬ ((0 ≤ x0.toInt ∧ x0.toInt < (v 1 1).toInt) ∧ 0 ≤ x1.toInt ∧ x1.toInt < (v 1 0).toInt) → ((-1) : Int32) = -1 ∧ v = v) ∧ (((0 ≤ x0.toInt ∧ x0.toInt < (v 1 1).toInt) ∧ 0 ≤ x1.toInt ∧ x1.toInt < (v 1 0).toInt) ∧ (btx (v 1 (28 + x0.toNatClampNeg)) x1).toInt = 1 → ((-1) : Int32) = 0 ∧ (∀ n : Nat, v 1 n = if n = 28 + x0.toNatClampNeg then v 1 (28 + x0.toNatClampNeg) ||| (1 <<< (x1 &&& 31)) else v 1 n) ∧ (∀ k : Nat, k ≠ 1 → v k = v k)) ∧ (((0 ≤ x0.toInt ∧ x0.toInt < (v 1 1).toInt) ∧ 0 ≤ x1.toInt ∧ x1.toInt < (v 1 0).toInt) ∧ (btx (v 1 (28 + x0.toNatClampNeg)) x1).toInt ≠ 1 → ((-1) : Int32) = 1 ∧ (∀ n : Nat, v 1 n = if n = 28 + x0.toNatClampNeg then v 1 (28 + x0.toNatClampNeg) ||| (1 <<< (x1 &&& 31)) else v 1 n) ∧ (∀ k : Nat, k ≠ 1 → v k = v k)) := by
        refine ⟨fun hq => ?_, fun hq => ?_, fun hq => ?_⟩
        · exact ⟨rfl, rfl⟩
        · exfalso; omega
        · exfalso; omega
      exact W.iret (v := (-1)) hx hb hr (fun t ht hW => ⟨⟨(-1), v, rfl, ⟨hv, hpost⟩, by rw [ht]; exact hP, hD⟩, hS.F ht⟩) hS.2.2 dX8_kin_17
  · refine lv_if_eq (tgt := 16) hx hb dX8_kin_5 (by decide) (fun _ => ?_) (fun c9 => absurd c9 (by decide))
    refine lv_iconst (v := (-1)) hx hb dX8_kin_16 (by decide) ?_
    have hpost : (¬ ((0 ≤ x0.toInt ∧ x0.toInt < (v 1 1).toInt) ∧ 0 ≤ x1.toInt ∧ x1.toInt < (v 1 0).toInt) → ((-1) : Int32) = -1 ∧ v = v) ∧ (((0 ≤ x0.toInt ∧ x0.toInt < (v 1 1).toInt) ∧ 0 ≤ x1.toInt ∧ x1.toInt < (v 1 0).toInt) ∧ (btx (v 1 (28 + x0.toNatClampNeg)) x1).toInt = 1 → ((-1) : Int32) = 0 ∧ (∀ n : Nat, v 1 n = if n = 28 + x0.toNatClampNeg then v 1 (28 + x0.toNatClampNeg) ||| (1 <<< (x1 &&& 31)) else v 1 n) ∧ (∀ k : Nat, k ≠ 1 → v k = v k)) ∧ (((0 ≤ x0.toInt ∧ x0.toInt < (v 1 1).toInt) ∧ 0 ≤ x1.toInt ∧ x1.toInt < (v 1 0).toInt) ∧ (btx (v 1 (28 + x0.toNatClampNeg)) x1).toInt ≠ 1 → ((-1) : Int32) = 1 ∧ (∀ n : Nat, v 1 n = if n = 28 + x0.toNatClampNeg then v 1 (28 + x0.toNatClampNeg) ||| (1 <<< (x1 &&& 31)) else v 1 n) ∧ (∀ k : Nat, k ≠ 1 → v k = v k)) := by
      refine ⟨fun hq => ?_, fun hq => ?_, fun hq => ?_⟩
      · exact ⟨rfl, rfl⟩
      · exfalso; omega
      · exfalso; omega
    exact W.iret (v := (-1)) hx hb hr (fun t ht hW => ⟨⟨(-1), v, rfl, ⟨hv, hpost⟩, by rw [ht]; exact hP, hD⟩, hS.F ht⟩) hS.2.2 dX8_kin_17

set_option maxHeartbeats 4000000 in
set_option maxRecDepth 100000 in
theorem e_X8_mediator (l : Launch) (dC : Nat → ClassId) (dI : Nat → Nat → Nat) (cy : Nat → ClassId) (sz : Nat) (ad : Nat → Nat) (v : Nat → Nat → Int32) (hv : Ir v) (x0 x1 : Int32) : Met l yX8_mediator wsX8_mediator ({ frames := 1, cells := 0, slots := 0, locals := 64 }) (va_Pc [.ref (ad 0), .int x0, .int x1] (ex_Pre dC dI cy sz (wm ad cy v))) (va_Qi (fun (r : Int32) (u : Nat → Nat → Int32) => Ir u ∧ (¬ ((0 ≤ x0.toInt ∧ x0.toInt ≤ 9) ∧ 1 ≤ x1.toInt ∧ x1.toInt ≤ 7) → r = -1 ∧ u = v) ∧ (((0 ≤ x0.toInt ∧ x0.toInt ≤ 9) ∧ 1 ≤ x1.toInt ∧ x1.toInt ≤ 7) ∧ (v 1 1).toInt = 4 → r = -2 ∧ u = v) ∧ (((0 ≤ x0.toInt ∧ x0.toInt ≤ 9) ∧ 1 ≤ x1.toInt ∧ x1.toInt ≤ 7) ∧ (v 1 1).toInt ≠ 4 → r = v 1 1 ∧ (∀ n : Nat, u 1 n = if n = 1 then v 1 1 + 1 else if n = 28 + (v 1 1).toNatClampNeg then 0 else if n = 21 + 2 * (v 1 1).toNatClampNeg then x1 else if n = 20 + 2 * (v 1 1).toNatClampNeg then x0 else v 1 n) ∧ (∀ k : Nat, k ≠ 1 → u k = v k))) (fun u t => ex_Pst dC dI (va_A (wm ad cy v) sz) (wm ad cy u) t) (va_A (wm ad cy v) sz)) 0 0 (va_A (wm ad cy v) sz) := by
  refine Met.ofW (cc := cX8_mediator) (maxL := 4) (ret := (some .int)) (by decide) rfl ?_
  intro p e s m args below meth c s₁ B hml hv
  obtain ⟨rfl, hsz, hE, hP, hK, hD0⟩ := hv
  have hx := B.exec
  have hb := B.bytes
  have hr := B.returns
  have hts := atoms_spec (ws := wsX8_mediator) B.pre
  have hown : s.vm.findClass RX8 = some m.cls := findClass_of_methodNamed B.named
  have hlocks := B.notSynchronized
  subst hsz
  have hD := hD0.self (sz := s.heap.size)
  generalize hAe : va_A (wm ad cy v) s.heap.size = A at hD ⊢
  have hA : ∀ q : Nat, s.heap.size ≤ q → A q := fun q h => by rw [← hAe]; exact Or.inr h
  have hS : va_S A s.heap s.heap [] := va_S.rf
  have hP : va_P (dC, dI) vwCl (wm ad cy v) s.heap := hP
  have hl := lv_entry ([.ref (ad 0), .int x0, .int x1]) (n := 4) (Nat.le_of_ble_eq_true rfl)
  rw [lg_entry_eq]
  generalize (lg_sl ([.ref (ad 0), .int x0, .int x1]) ++ List.replicate (4 - (lg_sl ([.ref (ad 0), .int x0, .int x1])).length) Slot.unset).toArray = ls at hl ⊢
  have hl : lv_has ls 4 [(0, .ref (ad 0)), (1, .int x0), (2, .int x1)] := hl
  refine lv_iload_n hx hb dX8_mediator_0 rfl (lv_at hl 1 rfl) ?_
  refine lv_iconst (v := 0) hx hb dX8_mediator_1 (by decide) ?_
  refine lv_bipush (v := 9) hx hb dX8_mediator_2 (by decide) ?_
  refine yc_p hP hS (va_runS (As := [.int x0, .int 0, .int 9]) (rest := []) ⟨hx, hb, hml, hown, hts⟩ (c_X8_in l x0 0 9) (cwS 3 hts gX8_mediator_X8_in rfl rfl rfl hd_S_X8_in_3 ⟨Nat.le_of_ble_eq_true rfl, Nat.le_of_ble_eq_true rfl⟩) ex_preP rfl rfl hl.1 rfl (lv_room (Nat.le_of_ble_eq_true rfl)) dX8_mediator_4 ⟨Nat.le_of_ble_eq_true rfl, Nat.le_of_ble_eq_true rfl⟩) (fun r_1 H locs hw_1 hP hS => ?_)
  rcases wi_ca hw_1 with ⟨rfl, hc_2⟩ | ⟨rfl, hc_2⟩
  · have k_0 : (0 : Int32).toInt = 0 := by decide
    have k_9 : (9 : Int32).toInt = 9 := by decide
    have tc_2 := wi_tl hc_2
    refine lv_if_eq (tgt := 20) hx hb dX8_mediator_7 (by decide) (fun c9 => absurd c9 (by decide)) (fun _ => ?_)
    refine lv_iload_n hx hb dX8_mediator_10 rfl (lv_at hl 2 rfl) ?_
    refine lv_iconst (v := 1) hx hb dX8_mediator_11 (by decide) ?_
    refine lv_bipush (v := 7) hx hb dX8_mediator_12 (by decide) ?_
    refine yc_p hP hS (va_runS (As := [.int x1, .int 1, .int 7]) (rest := []) ⟨hx, hb, hml, hown, hts⟩ (c_X8_in l x1 1 7) (cwS 3 hts gX8_mediator_X8_in rfl rfl rfl hd_S_X8_in_3 ⟨Nat.le_of_ble_eq_true rfl, Nat.le_of_ble_eq_true rfl⟩) ex_preP rfl rfl hl.1 rfl (lv_room (Nat.le_of_ble_eq_true rfl)) dX8_mediator_14 ⟨Nat.le_of_ble_eq_true rfl, Nat.le_of_ble_eq_true rfl⟩) (fun r_3 H locs hw_3 hP hS => ?_)
    rcases wi_ca hw_3 with ⟨rfl, hc_4⟩ | ⟨rfl, hc_4⟩
    · have k_1 : (1 : Int32).toInt = 1 := by decide
      have k_7 : (7 : Int32).toInt = 7 := by decide
      have tc_4 := wi_tl hc_4
      refine lv_if_ne (tgt := 22) hx hb dX8_mediator_17 (by decide) (fun _ => ?_) (fun c9 => absurd c9 (by decide))
      refine lv_aload_n hx hb dX8_mediator_22 rfl (lv_at hl 0 rfl) ?_
      refine va_get (D := (dC, dI)) (ci := 8) (v := .ref (ad 1)) (C := RX8) (T := TX8) (N := 11) hx hb hts iwX8_mediator_X8 hown hK hP (0) (wm_at (by decide) rc_0) rfl 0 (by decide) (hts (.fieldLink RX8 7 "QuietStairsModel" "s" "[I") fwX8_mediator_1) (fun _ h9 => h9) rfl dX8_mediator_23 ?_
      refine lv_iconst (v := 1) hx hb dX8_mediator_26 (by decide) ?_
      refine va_iald hx hb hK hP (1) 0 (wm_at (by decide) rc_1) rfl (by unfold vp_in; decide) dX8_mediator_27 ?_
      refine lv_topi (fun x_5 ex_5 => ?_)
      have ex_5 : x_5 = v 1 1 := ex_5
      have bzx_5 : 0 ≤ x_5.toInt ∧ x_5.toInt ≤ 4 := by rw [ex_5]; exact hv 1 _ 4 (show bS 1 = some 4 from by decide)
      have qx_5 : x_5.toInt = (v 1 (1)).toInt := congrArg Int32.toInt ex_5
      refine lv_iconst (v := 4) hx hb dX8_mediator_28 (by decide) ?_
      have k_4 : (4 : Int32).toInt = 4 := by decide
      refine lv_icmp_ne (tgt := 35) hx hb dX8_mediator_29 (by decide) (fun c_6 => ?_) (fun c_6 => ?_)
      · have tc_6 : x_5.toInt ≠ (4 : Int32).toInt := fun q => absurd (Int32.toInt_inj.mp q) c_6
        refine lv_aload_n hx hb dX8_mediator_35 rfl (lv_at hl 0 rfl) ?_
        refine va_get (D := (dC, dI)) (ci := 8) (v := .ref (ad 1)) (C := RX8) (T := TX8) (N := 11) hx hb hts iwX8_mediator_X8 hown hK hP (0) (wm_at (by decide) rc_0) rfl 0 (by decide) (hts (.fieldLink RX8 7 "QuietStairsModel" "s" "[I") fwX8_mediator_1) (fun _ h9 => h9) rfl dX8_mediator_36 ?_
        refine lv_iconst (v := 1) hx hb dX8_mediator_39 (by decide) ?_
        refine va_iald hx hb hK hP (1) 0 (wm_at (by decide) rc_1) rfl (by unfold vp_in; decide) dX8_mediator_40 ?_
        refine lv_topi (fun x_7 ex_7 => ?_)
        have ex_7 : x_7 = v 1 1 := ex_7
        have bzx_7 : 0 ≤ x_7.toInt ∧ x_7.toInt ≤ 4 := by rw [ex_7]; exact hv 1 _ 4 (show bS 1 = some 4 from by decide)
        obtain rfl : x_5 = x_7 := (ex_7.trans ex_5.symm).symm
        refine lv_istore_n (lv' := [(3, .int x_5), (0, .ref (ad 0)), (1, .int x0), (2, .int x1)]) hx hb dX8_mediator_41 rfl hl (by decide) rfl (fun ls hl => ?_)
        refine lv_aload_n hx hb dX8_mediator_42 rfl (lv_at hl 1 rfl) ?_
        refine va_get (D := (dC, dI)) (ci := 8) (v := .ref (ad 1)) (C := RX8) (T := TX8) (N := 11) hx hb hts iwX8_mediator_X8 hown hK hP (0) (wm_at (by decide) rc_0) rfl 0 (by decide) (hts (.fieldLink RX8 7 "QuietStairsModel" "s" "[I") fwX8_mediator_1) (fun _ h9 => h9) rfl dX8_mediator_43 ?_
        refine lv_bipush (v := 20) hx hb dX8_mediator_46 (by decide) ?_
        refine lv_iconst (v := 2) hx hb dX8_mediator_48 (by decide) ?_
        refine lv_iload_n hx hb dX8_mediator_49 rfl (lv_at hl 0 rfl) ?_
        refine lv_imul hx hb dX8_mediator_50 ?_
        refine lv_topi (fun x_8 ex_8 => ?_)
        have k_2 : (2 : Int32).toInt = 2 := by decide
        have tx_8 : x_8.toInt = 2 * x_5.toInt := by rw [ex_8, t_mul (by rw [k_2]; omega), k_2]
        refine lv_iadd hx hb dX8_mediator_51 ?_
        refine lv_topi (fun x_9 ex_9 => ?_)
        have k_20 : (20 : Int32).toInt = 20 := by decide
        have tx_9 : x_9.toInt = (20 : Int32).toInt + x_8.toInt := by rw [ex_9]; exact t_add ⟨by omega, by omega⟩
        refine lv_iload_n hx hb dX8_mediator_52 rfl (lv_at hl 2 rfl) ?_
        refine va_iast hx hb hK hP hD hS (1) 0 (wm_at (by decide) rc_1) rfl (vp_in_iff.mpr ⟨by omega, by omega⟩) dX8_mediator_53 (fun H locs hP hD hS => ?_)
        have zn_x_5 : (x_5.toNatClampNeg : Int) = x_5.toInt := t_nn (by omega)
        have nx_9 : x_9.toNatClampNeg = 20 + 2 * x_5.toNatClampNeg := by have z1 := t_nn (x := x_9) (by omega); omega
        obtain ⟨v_10, ev_10⟩ : ∃ u : Nat → Nat → Int32, u = upr v 1 (upd (v 1) (x_9.toNatClampNeg) x0) := ⟨_, rfl⟩
        have hP : va_P (dC, dI) vwCl (wm ad cy v_10) H := by rw [ev_10, ← wm_put (e := _) rc_1]; exact hP
        have hD : va_D A (wm ad cy v_10) := by rw [ev_10, ← wm_put (e := _) rc_1]; exact hD
        have hv : Ir v_10 := by rw [ev_10]; exact hv.put (k := 1) (fun h q => by rw [show br 1 _ = _ from (bx_n (by omega))] at q; cases q)
        rw [nx_9] at ev_10
        refine lv_aload_n hx hb dX8_mediator_54 rfl (lv_at hl 1 rfl) ?_
        refine va_get (D := (dC, dI)) (ci := 8) (v := .ref (ad 1)) (C := RX8) (T := TX8) (N := 11) hx hb hts iwX8_mediator_X8 hown hK hP (0) (wm_at (by decide) rc_0) rfl 0 (by decide) (hts (.fieldLink RX8 7 "QuietStairsModel" "s" "[I") fwX8_mediator_1) (fun _ h9 => h9) rfl dX8_mediator_55 ?_
        refine lv_bipush (v := 20) hx hb dX8_mediator_58 (by decide) ?_
        refine lv_iconst (v := 2) hx hb dX8_mediator_60 (by decide) ?_
        refine lv_iload_n hx hb dX8_mediator_61 rfl (lv_at hl 0 rfl) ?_
        refine lv_imul hx hb dX8_mediator_62 ?_
        refine lv_topi (fun x_11 ex_11 => ?_)
        obtain rfl : x_8 = x_11 := ex_8.trans ex_11.symm
        refine lv_iadd hx hb dX8_mediator_63 ?_
        refine lv_topi (fun x_12 ex_12 => ?_)
        obtain rfl : x_9 = x_12 := ex_9.trans ex_12.symm
        refine lv_iconst (v := 1) hx hb dX8_mediator_64 (by decide) ?_
        refine lv_iadd hx hb dX8_mediator_65 ?_
        refine lv_topi (fun x_13 ex_13 => ?_)
        have tx_13 : x_13.toInt = x_9.toInt + (1 : Int32).toInt := by rw [ex_13]; exact t_add ⟨by omega, by omega⟩
        refine lv_iload_n hx hb dX8_mediator_66 rfl (lv_at hl 3 rfl) ?_
        refine va_iast hx hb hK hP hD hS (1) 0 (wm_at (by decide) rc_1) rfl (vp_in_iff.mpr ⟨by omega, by omega⟩) dX8_mediator_67 (fun H locs hP hD hS => ?_)
        have nx_13 : x_13.toNatClampNeg = 21 + 2 * x_5.toNatClampNeg := by have z1 := t_nn (x := x_13) (by omega); omega
        obtain ⟨v_14, ev_14⟩ : ∃ u : Nat → Nat → Int32, u = upr v_10 1 (upd (v_10 1) (x_13.toNatClampNeg) x1) := ⟨_, rfl⟩
        have hP : va_P (dC, dI) vwCl (wm ad cy v_14) H := by rw [ev_14, ← wm_put (e := _) rc_1]; exact hP
        have hD : va_D A (wm ad cy v_14) := by rw [ev_14, ← wm_put (e := _) rc_1]; exact hD
        have hv : Ir v_14 := by rw [ev_14]; exact hv.put (k := 1) (fun h q => by rw [show br 1 _ = _ from (bx_n (by omega))] at q; cases q)
        rw [nx_13] at ev_14
        refine lv_aload_n hx hb dX8_mediator_68 rfl (lv_at hl 1 rfl) ?_
        refine va_get (D := (dC, dI)) (ci := 8) (v := .ref (ad 1)) (C := RX8) (T := TX8) (N := 11) hx hb hts iwX8_mediator_X8 hown hK hP (0) (wm_at (by decide) rc_0) rfl 0 (by decide) (hts (.fieldLink RX8 7 "QuietStairsModel" "s" "[I") fwX8_mediator_1) (fun _ h9 => h9) rfl dX8_mediator_69 ?_
        refine lv_bipush (v := 28) hx hb dX8_mediator_72 (by decide) ?_
        refine lv_iload_n hx hb dX8_mediator_74 rfl (lv_at hl 0 rfl) ?_
        refine lv_iadd hx hb dX8_mediator_75 ?_
        refine lv_topi (fun x_15 ex_15 => ?_)
        have k_28 : (28 : Int32).toInt = 28 := by decide
        have tx_15 : x_15.toInt = (28 : Int32).toInt + x_5.toInt := by rw [ex_15]; exact t_add ⟨by omega, by omega⟩
        refine lv_iconst (v := 0) hx hb dX8_mediator_76 (by decide) ?_
        refine va_iast hx hb hK hP hD hS (1) 0 (wm_at (by decide) rc_1) rfl (vp_in_iff.mpr ⟨by omega, by omega⟩) dX8_mediator_77 (fun H locs hP hD hS => ?_)
        have nx_15 : x_15.toNatClampNeg = 28 + x_5.toNatClampNeg := by have z1 := t_nn (x := x_15) (by omega); omega
        obtain ⟨v_16, ev_16⟩ : ∃ u : Nat → Nat → Int32, u = upr v_14 1 (upd (v_14 1) (x_15.toNatClampNeg) 0) := ⟨_, rfl⟩
        have hP : va_P (dC, dI) vwCl (wm ad cy v_16) H := by rw [ev_16, ← wm_put (e := _) rc_1]; exact hP
        have hD : va_D A (wm ad cy v_16) := by rw [ev_16, ← wm_put (e := _) rc_1]; exact hD
        have hv : Ir v_16 := by rw [ev_16]; exact hv.put (k := 1) (fun h q => by rw [show br 1 _ = _ from (bx_n (by omega))] at q; cases q)
        rw [nx_15] at ev_16
        refine lv_aload_n hx hb dX8_mediator_78 rfl (lv_at hl 1 rfl) ?_
        refine va_get (D := (dC, dI)) (ci := 8) (v := .ref (ad 1)) (C := RX8) (T := TX8) (N := 11) hx hb hts iwX8_mediator_X8 hown hK hP (0) (wm_at (by decide) rc_0) rfl 0 (by decide) (hts (.fieldLink RX8 7 "QuietStairsModel" "s" "[I") fwX8_mediator_1) (fun _ h9 => h9) rfl dX8_mediator_79 ?_
        refine lv_iconst (v := 1) hx hb dX8_mediator_82 (by decide) ?_
        refine lv_dup2_11 hx hb dX8_mediator_83 rfl rfl ?_
        refine va_iald hx hb hK hP (1) 0 (wm_at (by decide) rc_1) rfl (by unfold vp_in; decide) dX8_mediator_84 ?_
        refine lv_topi (fun x_17 ex_17 => ?_)
        have ex_17 : x_17 = v_16 1 1 := ex_17
        have bzx_17 : 0 ≤ x_17.toInt ∧ x_17.toInt ≤ 4 := by rw [ex_17]; exact hv 1 _ 4 (show bS 1 = some 4 from by decide)
        rw [ev_16, upr_s, pk_un (by omega), ev_14, upr_s, pk_un (by omega), ev_10, upr_s, pk_un (by omega)] at ex_17
        obtain rfl : x_5 = x_17 := (ex_17.trans ex_5.symm).symm
        refine lv_iconst (v := 1) hx hb dX8_mediator_85 (by decide) ?_
        refine lv_iadd hx hb dX8_mediator_86 ?_
        refine lv_topi (fun x_18 ex_18 => ?_)
        have tx_18 : x_18.toInt = x_5.toInt + (1 : Int32).toInt := by rw [ex_18]; exact t_add ⟨by omega, by omega⟩
        refine va_iast hx hb hK hP hD hS (1) 0 (wm_at (by decide) rc_1) rfl (by unfold vp_in; decide) dX8_mediator_87 (fun H locs hP hD hS => ?_)
        obtain ⟨v_19, ev_19⟩ : ∃ u : Nat → Nat → Int32, u = upr v_16 1 (upd (v_16 1) 1 x_18) := ⟨_, rfl⟩
        have hP : va_P (dC, dI) vwCl (wm ad cy v_19) H := by rw [ev_19, ← wm_put (e := _) rc_1]; exact hP
        have hD : va_D A (wm ad cy v_19) := by rw [ev_19, ← wm_put (e := _) rc_1]; exact hD
        have hv : Ir v_19 := by rw [ev_19]; exact hv.put (k := 1) (fun h q => by rw [show br 1 _ = _ from (show bS 1 = some 4 from by decide)] at q; cases q; exact ⟨by omega, by omega⟩)
        refine lv_iload_n hx hb dX8_mediator_88 rfl (lv_at hl 0 rfl) ?_
        have hpost : (¬ ((0 ≤ x0.toInt ∧ x0.toInt ≤ 9) ∧ 1 ≤ x1.toInt ∧ x1.toInt ≤ 7) → x_5 = -1 ∧ v_19 = v) ∧ (((0 ≤ x0.toInt ∧ x0.toInt ≤ 9) ∧ 1 ≤ x1.toInt ∧ x1.toInt ≤ 7) ∧ (v 1 1).toInt = 4 → x_5 = -2 ∧ v_19 = v) ∧ (((0 ≤ x0.toInt ∧ x0.toInt ≤ 9) ∧ 1 ≤ x1.toInt ∧ x1.toInt ≤ 7) ∧ (v 1 1).toInt ≠ 4 → x_5 = v 1 1 ∧ (∀ n : Nat, v_19 1 n = if n = 1 then v 1 1 + 1 else if n = 28 + (v 1 1).toNatClampNeg then 0 else if n = 21 + 2 * (v 1 1).toNatClampNeg then x1 else if n = 20 + 2 * (v 1 1).toNatClampNeg then x0 else v 1 n) ∧ (∀ k : Nat, k ≠ 1 → v_19 k = v k)) := by
          refine ⟨fun hq => ?_, fun hq => ?_, fun hq => ?_⟩
          · exfalso; omega
          · exfalso; omega
          · exact ⟨by rw [ex_5], fun n => by rw [ev_19, up1, ev_16, up1, ev_14, up1, ev_10, up1, ex_18, ex_5], fun k hk => by rw [ev_19, upr_n hk, ev_16, upr_n hk, ev_14, upr_n hk, ev_10, upr_n hk]⟩
        exact W.iret (v := x_5) hx hb hr (fun t ht hW => ⟨⟨x_5, v_19, rfl, ⟨hv, hpost⟩, by rw [ht]; exact hP, hD⟩, hS.F ht⟩) hS.2.2 dX8_mediator_89
      · have tc_6 : x_5.toInt = (4 : Int32).toInt := by rw [c_6]
        refine lv_bipush (v := (-2)) hx hb dX8_mediator_32 (by decide) ?_
        have hpost : (¬ ((0 ≤ x0.toInt ∧ x0.toInt ≤ 9) ∧ 1 ≤ x1.toInt ∧ x1.toInt ≤ 7) → ((-2) : Int32) = -1 ∧ v = v) ∧ (((0 ≤ x0.toInt ∧ x0.toInt ≤ 9) ∧ 1 ≤ x1.toInt ∧ x1.toInt ≤ 7) ∧ (v 1 1).toInt = 4 → ((-2) : Int32) = -2 ∧ v = v) ∧ (((0 ≤ x0.toInt ∧ x0.toInt ≤ 9) ∧ 1 ≤ x1.toInt ∧ x1.toInt ≤ 7) ∧ (v 1 1).toInt ≠ 4 → ((-2) : Int32) = v 1 1 ∧ (∀ n : Nat, v 1 n = if n = 1 then v 1 1 + 1 else if n = 28 + (v 1 1).toNatClampNeg then 0 else if n = 21 + 2 * (v 1 1).toNatClampNeg then x1 else if n = 20 + 2 * (v 1 1).toNatClampNeg then x0 else v 1 n) ∧ (∀ k : Nat, k ≠ 1 → v k = v k)) := by
          refine ⟨fun hq => ?_, fun hq => ?_, fun hq => ?_⟩
          · exfalso; omega
          · exact ⟨rfl, rfl⟩
          · exfalso; omega
        exact W.iret (v := (-2)) hx hb hr (fun t ht hW => ⟨⟨(-2), v, rfl, ⟨hv, hpost⟩, by rw [ht]; exact hP, hD⟩, hS.F ht⟩) hS.2.2 dX8_mediator_34
    · have k_1 : (1 : Int32).toInt = 1 := by decide
      have k_7 : (7 : Int32).toInt = 7 := by decide
      have tc_4 : ¬ ((1 : Int32).toInt ≤ x1.toInt ∧ x1.toInt ≤ (7 : Int32).toInt) := fun q => hc_4 ⟨Int32.le_iff_toInt_le.mpr q.1, Int32.le_iff_toInt_le.mpr q.2⟩
      refine lv_if_ne (tgt := 22) hx hb dX8_mediator_17 (by decide) (fun c9 => absurd c9 (by decide)) (fun _ => ?_)
      refine lv_iconst (v := (-1)) hx hb dX8_mediator_20 (by decide) ?_
      have hpost : (¬ ((0 ≤ x0.toInt ∧ x0.toInt ≤ 9) ∧ 1 ≤ x1.toInt ∧ x1.toInt ≤ 7) → ((-1) : Int32) = -1 ∧ v = v) ∧ (((0 ≤ x0.toInt ∧ x0.toInt ≤ 9) ∧ 1 ≤ x1.toInt ∧ x1.toInt ≤ 7) ∧ (v 1 1).toInt = 4 → ((-1) : Int32) = -2 ∧ v = v) ∧ (((0 ≤ x0.toInt ∧ x0.toInt ≤ 9) ∧ 1 ≤ x1.toInt ∧ x1.toInt ≤ 7) ∧ (v 1 1).toInt ≠ 4 → ((-1) : Int32) = v 1 1 ∧ (∀ n : Nat, v 1 n = if n = 1 then v 1 1 + 1 else if n = 28 + (v 1 1).toNatClampNeg then 0 else if n = 21 + 2 * (v 1 1).toNatClampNeg then x1 else if n = 20 + 2 * (v 1 1).toNatClampNeg then x0 else v 1 n) ∧ (∀ k : Nat, k ≠ 1 → v k = v k)) := by
        refine ⟨fun hq => ?_, fun hq => ?_, fun hq => ?_⟩
        · exact ⟨rfl, rfl⟩
        · exfalso; omega
        · exfalso; omega
      exact W.iret (v := (-1)) hx hb hr (fun t ht hW => ⟨⟨(-1), v, rfl, ⟨hv, hpost⟩, by rw [ht]; exact hP, hD⟩, hS.F ht⟩) hS.2.2 dX8_mediator_21
  · have k_0 : (0 : Int32).toInt = 0 := by decide
    have k_9 : (9 : Int32).toInt = 9 := by decide
    have tc_2 : ¬ ((0 : Int32).toInt ≤ x0.toInt ∧ x0.toInt ≤ (9 : Int32).toInt) := fun q => hc_2 ⟨Int32.le_iff_toInt_le.mpr q.1, Int32.le_iff_toInt_le.mpr q.2⟩
    refine lv_if_eq (tgt := 20) hx hb dX8_mediator_7 (by decide) (fun _ => ?_) (fun c9 => absurd c9 (by decide))
    refine lv_iconst (v := (-1)) hx hb dX8_mediator_20 (by decide) ?_
    have hpost : (¬ ((0 ≤ x0.toInt ∧ x0.toInt ≤ 9) ∧ 1 ≤ x1.toInt ∧ x1.toInt ≤ 7) → ((-1) : Int32) = -1 ∧ v = v) ∧ (((0 ≤ x0.toInt ∧ x0.toInt ≤ 9) ∧ 1 ≤ x1.toInt ∧ x1.toInt ≤ 7) ∧ (v 1 1).toInt = 4 → ((-1) : Int32) = -2 ∧ v = v) ∧ (((0 ≤ x0.toInt ∧ x0.toInt ≤ 9) ∧ 1 ≤ x1.toInt ∧ x1.toInt ≤ 7) ∧ (v 1 1).toInt ≠ 4 → ((-1) : Int32) = v 1 1 ∧ (∀ n : Nat, v 1 n = if n = 1 then v 1 1 + 1 else if n = 28 + (v 1 1).toNatClampNeg then 0 else if n = 21 + 2 * (v 1 1).toNatClampNeg then x1 else if n = 20 + 2 * (v 1 1).toNatClampNeg then x0 else v 1 n) ∧ (∀ k : Nat, k ≠ 1 → v k = v k)) := by
      refine ⟨fun hq => ?_, fun hq => ?_, fun hq => ?_⟩
      · exact ⟨rfl, rfl⟩
      · exfalso; omega
      · exfalso; omega
    exact W.iret (v := (-1)) hx hb hr (fun t ht hW => ⟨⟨(-1), v, rfl, ⟨hv, hpost⟩, by rw [ht]; exact hP, hD⟩, hS.F ht⟩) hS.2.2 dX8_mediator_21

set_option maxHeartbeats 4000000 in
set_option maxRecDepth 100000 in
theorem e_X8_term_0 (l : Launch) (dC : Nat → ClassId) (dI : Nat → Nat → Nat) (cy : Nat → ClassId) (sz : Nat) (ad : Nat → Nat) (v : Nat → Nat → Int32) (hv : Ir v) (x0 x1 x2 x3 x4 : Int32) : Met l yX8_term wsX8_term ({ frames := 2, cells := 0, slots := 0, locals := 128 }) (va_Pc [.ref (ad 0), .int x0, .int x1, .int 0, .int x2, .int x3, .int x4] (ex_Pre dC dI cy sz (wm ad cy v))) (va_Qi (fun (r : Int32) (u : Nat → Nat → Int32) => Ir u ∧ (¬ ((0 ≤ x0.toInt ∧ x0.toInt < (v 1 2).toInt) ∧ (0 ≤ x1.toInt ∧ x1.toInt ≤ 1) ∧ (0 ≤ x2.toInt ∧ x2.toInt ≤ 5) ∧ (0 ≤ x3.toInt ∧ x3.toInt ≤ 23) ∧ x3.toInt ≤ x4.toInt ∧ x4.toInt ≤ 23) → r = -1 ∧ u = v) ∧ (((0 ≤ x0.toInt ∧ x0.toInt < (v 1 2).toInt) ∧ (0 ≤ x1.toInt ∧ x1.toInt ≤ 1) ∧ (0 ≤ x2.toInt ∧ x2.toInt ≤ 5) ∧ (0 ≤ x3.toInt ∧ x3.toInt ≤ 23) ∧ x3.toInt ≤ x4.toInt ∧ x4.toInt ≤ 23) ∧ (v 1 (34 + 7 * x0.toNatClampNeg)).toInt ≠ 1 → r = -4 ∧ u = v) ∧ (((0 ≤ x0.toInt ∧ x0.toInt < (v 1 2).toInt) ∧ (0 ≤ x1.toInt ∧ x1.toInt ≤ 1) ∧ (0 ≤ x2.toInt ∧ x2.toInt ≤ 5) ∧ (0 ≤ x3.toInt ∧ x3.toInt ≤ 23) ∧ x3.toInt ≤ x4.toInt ∧ x4.toInt ≤ 23) ∧ (v 1 (34 + 7 * x0.toNatClampNeg)).toInt = 1 ∧ (v 1 (38 + 7 * x0.toNatClampNeg)).toInt = 5 → r = -2 ∧ u = v) ∧ (((0 ≤ x0.toInt ∧ x0.toInt < (v 1 2).toInt) ∧ (0 ≤ x1.toInt ∧ x1.toInt ≤ 1) ∧ (0 ≤ x2.toInt ∧ x2.toInt ≤ 5) ∧ (0 ≤ x3.toInt ∧ x3.toInt ≤ 23) ∧ x3.toInt ≤ x4.toInt ∧ x4.toInt ≤ 23) ∧ (v 1 (34 + 7 * x0.toNatClampNeg)).toInt = 1 ∧ (v 1 (38 + 7 * x0.toNatClampNeg)).toInt ≠ 5 → r = v 1 (38 + 7 * x0.toNatClampNeg) + 1 - 1 ∧ (∀ n : Nat, u 1 n = if n = 38 + 7 * x0.toNatClampNeg then v 1 (38 + 7 * x0.toNatClampNeg) + 1 else if n = 162 + 25 * x0.toNatClampNeg + 5 * (v 1 (38 + 7 * x0.toNatClampNeg)).toNatClampNeg then x4 else if n = 161 + 25 * x0.toNatClampNeg + 5 * (v 1 (38 + 7 * x0.toNatClampNeg)).toNatClampNeg then x3 else if n = 160 + 25 * x0.toNatClampNeg + 5 * (v 1 (38 + 7 * x0.toNatClampNeg)).toNatClampNeg then x2 else if n = 159 + 25 * x0.toNatClampNeg + 5 * (v 1 (38 + 7 * x0.toNatClampNeg)).toNatClampNeg then 0 else if n = 158 + 25 * x0.toNatClampNeg + 5 * (v 1 (38 + 7 * x0.toNatClampNeg)).toNatClampNeg then x1 else v 1 n) ∧ (∀ k : Nat, k ≠ 1 → u k = v k))) (fun u t => ex_Pst dC dI (va_A (wm ad cy v) sz) (wm ad cy u) t) (va_A (wm ad cy v) sz)) 0 0 (va_A (wm ad cy v) sz) := by
  refine Met.ofW (cc := cX8_term) (maxL := 8) (ret := (some .int)) (by decide) rfl ?_
  intro p e s m args below meth c s₁ B hml hv
  obtain ⟨rfl, hsz, hE, hP, hK, hD0⟩ := hv
  have hx := B.exec
  have hb := B.bytes
  have hr := B.returns
  have hts := atoms_spec (ws := wsX8_term) B.pre
  have hown : s.vm.findClass RX8 = some m.cls := findClass_of_methodNamed B.named
  have hlocks := B.notSynchronized
  subst hsz
  have hD := hD0.self (sz := s.heap.size)
  generalize hAe : va_A (wm ad cy v) s.heap.size = A at hD ⊢
  have hA : ∀ q : Nat, s.heap.size ≤ q → A q := fun q h => by rw [← hAe]; exact Or.inr h
  have hS : va_S A s.heap s.heap [] := va_S.rf
  have hP : va_P (dC, dI) vwCl (wm ad cy v) s.heap := hP
  have hl := lv_entry ([.ref (ad 0), .int x0, .int x1, .int 0, .int x2, .int x3, .int x4]) (n := 8) (Nat.le_of_ble_eq_true rfl)
  rw [lg_entry_eq]
  generalize (lg_sl ([.ref (ad 0), .int x0, .int x1, .int 0, .int x2, .int x3, .int x4]) ++ List.replicate (8 - (lg_sl ([.ref (ad 0), .int x0, .int x1, .int 0, .int x2, .int x3, .int x4])).length) Slot.unset).toArray = ls at hl ⊢
  have hl : lv_has ls 8 [(0, .ref (ad 0)), (1, .int x0), (2, .int x1), (3, .int 0), (4, .int x2), (5, .int x3), (6, .int x4)] := hl
  refine lv_aload_n hx hb dX8_term_0 rfl (lv_at hl 0 rfl) ?_
  refine lv_iload_n hx hb dX8_term_1 rfl (lv_at hl 1 rfl) ?_
  refine yw_i (w1 := fun (u : Nat → Nat → Int32) => wm ad cy u) hD hS hA (va_runV (As := [.int x0]) (rest := []) ⟨hx, hb, hml, hown, hts⟩ (q_X8_isCase l dC dI cy _ ad v hv x0) (cwV 1 hts gX8_term_X8_isCase rfl rfl rfl hd_V_X8_isCase_1 ⟨Nat.le_of_ble_eq_true rfl, Nat.le_of_ble_eq_true rfl⟩) (yw_preV hE hK hP hD (ci := 8) (q := (RX8, TX8, 11)) (q0 := 0) rfl (wm_at (by decide) rc_0)) rfl rfl hl.1 rfl (lv_room (Nat.le_of_ble_eq_true rfl)) dX8_term_2 ⟨Nat.le_of_ble_eq_true rfl, Nat.le_of_ble_eq_true rfl⟩) (fun r_1 v_1 H locs hw_1 hP hD hS => ?_)
  obtain ⟨-, hu_1, hw_1⟩ := hw_1
  replace hu_1 := hu_1.symm
  subst hu_1
  rcases hw_1 with ⟨rfl, ha_2⟩ | ⟨rfl, ha_2⟩
  · have hb_2 := hv 1 2 6 (by decide)
    have hj_2 : 0 ≤ x0.toInt ∧ x0.toInt ≤ 5 := ⟨by omega, by omega⟩
    refine lv_if_eq (tgt := 48) hx hb dX8_term_5 (by decide) (fun c9 => absurd c9 (by decide)) (fun _ => ?_)
    refine lv_iload_n hx hb dX8_term_8 rfl (lv_at hl 2 rfl) ?_
    refine yc_p hP hS (va_runS (As := [.int x1]) (rest := []) ⟨hx, hb, hml, hown, hts⟩ (c_X8_isSide l x1) (cwS 1 hts gX8_term_X8_isSide rfl rfl rfl hd_S_X8_isSide_1 ⟨Nat.le_of_ble_eq_true rfl, Nat.le_of_ble_eq_true rfl⟩) ex_preP rfl rfl hl.1 rfl (lv_room (Nat.le_of_ble_eq_true rfl)) dX8_term_9 ⟨Nat.le_of_ble_eq_true rfl, Nat.le_of_ble_eq_true rfl⟩) (fun r_3 H locs hw_3 hP hS => ?_)
    rcases wi_ca hw_3 with ⟨rfl, hc_4⟩ | ⟨rfl, hc_4⟩
    · have k_0 : (0 : Int32).toInt = 0 := by decide
      have k_1 : (1 : Int32).toInt = 1 := by decide
      have tc_4 := wi_tl hc_4
      refine lv_if_eq (tgt := 48) hx hb dX8_term_12 (by decide) (fun c9 => absurd c9 (by decide)) (fun _ => ?_)
      refine lv_iload hx hb dX8_term_15 (lv_at hl 4 rfl) ?_
      refine lv_iconst (v := 0) hx hb dX8_term_17 (by decide) ?_
      refine lv_iconst (v := 5) hx hb dX8_term_18 (by decide) ?_
      refine yc_p hP hS (va_runS (As := [.int x2, .int 0, .int 5]) (rest := []) ⟨hx, hb, hml, hown, hts⟩ (c_X8_in l x2 0 5) (cwS 3 hts gX8_term_X8_in rfl rfl rfl hd_S_X8_in_3 ⟨Nat.le_of_ble_eq_true rfl, Nat.le_of_ble_eq_true rfl⟩) ex_preP rfl rfl hl.1 rfl (lv_room (Nat.le_of_ble_eq_true rfl)) dX8_term_19 ⟨Nat.le_of_ble_eq_true rfl, Nat.le_of_ble_eq_true rfl⟩) (fun r_5 H locs hw_5 hP hS => ?_)
      rcases wi_ca hw_5 with ⟨rfl, hc_6⟩ | ⟨rfl, hc_6⟩
      · have k_5 : (5 : Int32).toInt = 5 := by decide
        have tc_6 := wi_tl hc_6
        refine lv_if_eq (tgt := 48) hx hb dX8_term_22 (by decide) (fun c9 => absurd c9 (by decide)) (fun _ => ?_)
        refine lv_iload hx hb dX8_term_25 (lv_at hl 5 rfl) ?_
        refine lv_iconst (v := 0) hx hb dX8_term_27 (by decide) ?_
        refine lv_bipush (v := 23) hx hb dX8_term_28 (by decide) ?_
        refine yc_p hP hS (va_runS (As := [.int x3, .int 0, .int 23]) (rest := []) ⟨hx, hb, hml, hown, hts⟩ (c_X8_in l x3 0 23) (cwS 3 hts gX8_term_X8_in rfl rfl rfl hd_S_X8_in_3 ⟨Nat.le_of_ble_eq_true rfl, Nat.le_of_ble_eq_true rfl⟩) ex_preP rfl rfl hl.1 rfl (lv_room (Nat.le_of_ble_eq_true rfl)) dX8_term_30 ⟨Nat.le_of_ble_eq_true rfl, Nat.le_of_ble_eq_true rfl⟩) (fun r_7 H locs hw_7 hP hS => ?_)
        rcases wi_ca hw_7 with ⟨rfl, hc_8⟩ | ⟨rfl, hc_8⟩
        · have k_23 : (23 : Int32).toInt = 23 := by decide
          have tc_8 := wi_tl hc_8
          refine lv_if_eq (tgt := 48) hx hb dX8_term_33 (by decide) (fun c9 => absurd c9 (by decide)) (fun _ => ?_)
          refine lv_iload hx hb dX8_term_36 (lv_at hl 6 rfl) ?_
          refine lv_iload hx hb dX8_term_38 (lv_at hl 5 rfl) ?_
          refine lv_bipush (v := 23) hx hb dX8_term_40 (by decide) ?_
          refine yc_p hP hS (va_runS (As := [.int x4, .int x3, .int 23]) (rest := []) ⟨hx, hb, hml, hown, hts⟩ (c_X8_in l x4 x3 23) (cwS 3 hts gX8_term_X8_in rfl rfl rfl hd_S_X8_in_3 ⟨Nat.le_of_ble_eq_true rfl, Nat.le_of_ble_eq_true rfl⟩) ex_preP rfl rfl hl.1 rfl (lv_room (Nat.le_of_ble_eq_true rfl)) dX8_term_42 ⟨Nat.le_of_ble_eq_true rfl, Nat.le_of_ble_eq_true rfl⟩) (fun r_9 H locs hw_9 hP hS => ?_)
          rcases wi_ca hw_9 with ⟨rfl, hc_10⟩ | ⟨rfl, hc_10⟩
          · have tc_10 := wi_tl hc_10
            refine lv_if_ne (tgt := 50) hx hb dX8_term_45 (by decide) (fun _ => ?_) (fun c9 => absurd c9 (by decide))
            refine lv_aload_n hx hb dX8_term_50 rfl (lv_at hl 0 rfl) ?_
            refine va_get (D := (dC, dI)) (ci := 8) (v := .ref (ad 1)) (C := RX8) (T := TX8) (N := 11) hx hb hts iwX8_term_X8 hown hK hP (0) (wm_at (by decide) rc_0) rfl 0 (by decide) (hts (.fieldLink RX8 7 "QuietStairsModel" "s" "[I") fwX8_term_1) (fun _ h9 => h9) rfl dX8_term_51 ?_
            refine lv_iload_n hx hb dX8_term_54 rfl (lv_at hl 1 rfl) ?_
            refine lv_iconst (v := 2) hx hb dX8_term_55 (by decide) ?_
            refine yc_p hP hS (va_runS (As := [.int x0, .int 2]) (rest := [.ref (ad 1)]) ⟨hx, hb, hml, hown, hts⟩ (c_X8_at l x0 2) (cwS 2 hts gX8_term_X8_at rfl rfl rfl hd_S_X8_at_2 ⟨Nat.le_of_ble_eq_true rfl, Nat.le_of_ble_eq_true rfl⟩) ex_preP rfl rfl hl.1 rfl (lv_room (Nat.le_of_ble_eq_true rfl)) dX8_term_56 ⟨Nat.le_of_ble_eq_true rfl, Nat.le_of_ble_eq_true rfl⟩) (fun r_11 H locs hw_11 hP hS => ?_)
            have k_2 : (2 : Int32).toInt = 2 := by decide
            have tr_11 : r_11.toInt = 32 + 7 * x0.toInt + (2 : Int32).toInt := t_at hw_11 ⟨by omega, by omega⟩ ⟨by omega, by omega⟩
            have zn_x0 : (x0.toNatClampNeg : Int) = x0.toInt := t_nn (by omega)
            have nr_11 : r_11.toNatClampNeg = 34 + 7 * x0.toNatClampNeg := by have z1 := t_nn (x := r_11) (by omega); omega
            refine va_iald hx hb hK hP (1) 0 (wm_at (by decide) rc_1) rfl (vp_in_iff.mpr ⟨by omega, by omega⟩) dX8_term_59 ?_
            refine lv_topi (fun x_12 ex_12 => ?_)
            rw [nr_11] at ex_12
            have qx_12 : x_12.toInt = (v 1 (34 + 7 * x0.toNatClampNeg)).toInt := congrArg Int32.toInt ex_12
            refine lv_iconst (v := 1) hx hb dX8_term_60 (by decide) ?_
            refine lv_icmp_eq (tgt := 67) hx hb dX8_term_61 (by decide) (fun c_13 => ?_) (fun c_13 => ?_)
            · have tc_13 : x_12.toInt = (1 : Int32).toInt := by rw [c_13]
              refine lv_aload_n hx hb dX8_term_67 rfl (lv_at hl 0 rfl) ?_
              refine va_get (D := (dC, dI)) (ci := 8) (v := .ref (ad 1)) (C := RX8) (T := TX8) (N := 11) hx hb hts iwX8_term_X8 hown hK hP (0) (wm_at (by decide) rc_0) rfl 0 (by decide) (hts (.fieldLink RX8 7 "QuietStairsModel" "s" "[I") fwX8_term_1) (fun _ h9 => h9) rfl dX8_term_68 ?_
              refine lv_iload_n hx hb dX8_term_71 rfl (lv_at hl 1 rfl) ?_
              refine lv_bipush (v := 6) hx hb dX8_term_72 (by decide) ?_
              refine yc_p hP hS (va_runS (As := [.int x0, .int 6]) (rest := [.ref (ad 1)]) ⟨hx, hb, hml, hown, hts⟩ (c_X8_at l x0 6) (cwS 2 hts gX8_term_X8_at rfl rfl rfl hd_S_X8_at_2 ⟨Nat.le_of_ble_eq_true rfl, Nat.le_of_ble_eq_true rfl⟩) ex_preP rfl rfl hl.1 rfl (lv_room (Nat.le_of_ble_eq_true rfl)) dX8_term_74 ⟨Nat.le_of_ble_eq_true rfl, Nat.le_of_ble_eq_true rfl⟩) (fun r_14 H locs hw_14 hP hS => ?_)
              have k_6 : (6 : Int32).toInt = 6 := by decide
              have tr_14 : r_14.toInt = 32 + 7 * x0.toInt + (6 : Int32).toInt := t_at hw_14 ⟨by omega, by omega⟩ ⟨by omega, by omega⟩
              have nr_14 : r_14.toNatClampNeg = 38 + 7 * x0.toNatClampNeg := by have z1 := t_nn (x := r_14) (by omega); omega
              refine va_iald hx hb hK hP (1) 0 (wm_at (by decide) rc_1) rfl (vp_in_iff.mpr ⟨by omega, by omega⟩) dX8_term_77 ?_
              refine lv_topi (fun x_15 ex_15 => ?_)
              have bzx_15 : 0 ≤ x_15.toInt ∧ x_15.toInt ≤ 5 := by rw [ex_15]; exact hv 1 _ 5 (bx_4 (i := x0.toInt) (s := 6) (by omega) ⟨by omega, by omega⟩ (by omega))
              rw [nr_14] at ex_15
              have qx_15 : x_15.toInt = (v 1 (38 + 7 * x0.toNatClampNeg)).toInt := congrArg Int32.toInt ex_15
              refine lv_iconst (v := 5) hx hb dX8_term_78 (by decide) ?_
              refine lv_icmp_ne (tgt := 85) hx hb dX8_term_79 (by decide) (fun c_16 => ?_) (fun c_16 => ?_)
              · have tc_16 : x_15.toInt ≠ (5 : Int32).toInt := fun q => absurd (Int32.toInt_inj.mp q) c_16
                refine lv_iload_n hx hb dX8_term_85 rfl (lv_at hl 1 rfl) ?_
                refine lv_aload_n hx hb dX8_term_86 rfl (lv_at hl 0 rfl) ?_
                refine va_get (D := (dC, dI)) (ci := 8) (v := .ref (ad 1)) (C := RX8) (T := TX8) (N := 11) hx hb hts iwX8_term_X8 hown hK hP (0) (wm_at (by decide) rc_0) rfl 0 (by decide) (hts (.fieldLink RX8 7 "QuietStairsModel" "s" "[I") fwX8_term_1) (fun _ h9 => h9) rfl dX8_term_87 ?_
                refine lv_iload_n hx hb dX8_term_90 rfl (lv_at hl 1 rfl) ?_
                refine lv_bipush (v := 6) hx hb dX8_term_91 (by decide) ?_
                refine yc_p hP hS (va_runS (As := [.int x0, .int 6]) (rest := [.ref (ad 1), .int x0]) ⟨hx, hb, hml, hown, hts⟩ (c_X8_at l x0 6) (cwS 2 hts gX8_term_X8_at rfl rfl rfl hd_S_X8_at_2 ⟨Nat.le_of_ble_eq_true rfl, Nat.le_of_ble_eq_true rfl⟩) ex_preP rfl rfl hl.1 rfl (lv_room (Nat.le_of_ble_eq_true rfl)) dX8_term_93 ⟨Nat.le_of_ble_eq_true rfl, Nat.le_of_ble_eq_true rfl⟩) (fun r_17 H locs hw_17 hP hS => ?_)
                obtain rfl : r_14 = r_17 := hw_14.trans hw_17.symm
                refine va_iald hx hb hK hP (1) 0 (wm_at (by decide) rc_1) rfl (vp_in_iff.mpr ⟨by omega, by omega⟩) dX8_term_96 ?_
                refine lv_topi (fun x_18 ex_18 => ?_)
                have bzx_18 : 0 ≤ x_18.toInt ∧ x_18.toInt ≤ 5 := by rw [ex_18]; exact hv 1 _ 5 (bx_4 (i := x0.toInt) (s := 6) (by omega) ⟨by omega, by omega⟩ (by omega))
                rw [nr_14] at ex_18
                obtain rfl : x_15 = x_18 := (ex_18.trans ex_15.symm).symm
                refine yc_p hP hS (va_runS (As := [.int x0, .int x_15]) (rest := []) ⟨hx, hb, hml, hown, hts⟩ (c_X8_termAt l x0 x_15) (cwS 2 hts gX8_term_X8_termAt rfl rfl rfl hd_S_X8_termAt_2 ⟨Nat.le_of_ble_eq_true rfl, Nat.le_of_ble_eq_true rfl⟩) ex_preP rfl rfl hl.1 rfl (lv_room (Nat.le_of_ble_eq_true rfl)) dX8_term_97 ⟨Nat.le_of_ble_eq_true rfl, Nat.le_of_ble_eq_true rfl⟩) (fun r_19 H locs hw_19 hP hS => ?_)
                have tr_19 : r_19.toInt = 158 + 25 * x0.toInt + 5 * x_15.toInt := t_tm hw_19 ⟨by omega, by omega⟩ ⟨by omega, by omega⟩
                refine lv_istore (lv' := [(7, .int r_19), (0, .ref (ad 0)), (1, .int x0), (2, .int x1), (3, .int 0), (4, .int x2), (5, .int x3), (6, .int x4)]) hx hb dX8_term_100 hl (by decide) rfl (fun ls hl => ?_)
                refine lv_aload_n hx hb dX8_term_102 rfl (lv_at hl 1 rfl) ?_
                refine va_get (D := (dC, dI)) (ci := 8) (v := .ref (ad 1)) (C := RX8) (T := TX8) (N := 11) hx hb hts iwX8_term_X8 hown hK hP (0) (wm_at (by decide) rc_0) rfl 0 (by decide) (hts (.fieldLink RX8 7 "QuietStairsModel" "s" "[I") fwX8_term_1) (fun _ h9 => h9) rfl dX8_term_103 ?_
                refine lv_iload hx hb dX8_term_106 (lv_at hl 0 rfl) ?_
                refine lv_iload_n hx hb dX8_term_108 rfl (lv_at hl 3 rfl) ?_
                refine va_iast hx hb hK hP hD hS (1) 0 (wm_at (by decide) rc_1) rfl (vp_in_iff.mpr ⟨by omega, by omega⟩) dX8_term_109 (fun H locs hP hD hS => ?_)
                have zn_x_15 : (x_15.toNatClampNeg : Int) = x_15.toInt := t_nn (by omega)
                have nr_19 : r_19.toNatClampNeg = 158 + 25 * x0.toNatClampNeg + 5 * x_15.toNatClampNeg := by have z1 := t_nn (x := r_19) (by omega); omega
                obtain ⟨v_20, ev_20⟩ : ∃ u : Nat → Nat → Int32, u = upr v 1 (upd (v 1) (r_19.toNatClampNeg) x1) := ⟨_, rfl⟩
                have hP : va_P (dC, dI) vwCl (wm ad cy v_20) H := by rw [ev_20, ← wm_put (e := _) rc_1]; exact hP
                have hD : va_D A (wm ad cy v_20) := by rw [ev_20, ← wm_put (e := _) rc_1]; exact hD
                have hv : Ir v_20 := by rw [ev_20]; exact hv.put (k := 1) (fun h q => by rw [show br 1 _ = _ from (bx_t0 (i := 5 * x0.toInt + x_15.toInt) (s := 0) (by omega) ⟨by omega, by omega⟩ (by omega))] at q; cases q; exact ⟨by omega, by omega⟩)
                rw [nr_19] at ev_20
                refine lv_aload_n hx hb dX8_term_110 rfl (lv_at hl 1 rfl) ?_
                refine va_get (D := (dC, dI)) (ci := 8) (v := .ref (ad 1)) (C := RX8) (T := TX8) (N := 11) hx hb hts iwX8_term_X8 hown hK hP (0) (wm_at (by decide) rc_0) rfl 0 (by decide) (hts (.fieldLink RX8 7 "QuietStairsModel" "s" "[I") fwX8_term_1) (fun _ h9 => h9) rfl dX8_term_111 ?_
                refine lv_iload hx hb dX8_term_114 (lv_at hl 0 rfl) ?_
                refine lv_iconst (v := 1) hx hb dX8_term_116 (by decide) ?_
                refine lv_iadd hx hb dX8_term_117 ?_
                refine lv_topi (fun x_21 ex_21 => ?_)
                have tx_21 : x_21.toInt = r_19.toInt + (1 : Int32).toInt := by rw [ex_21]; exact t_add ⟨by omega, by omega⟩
                refine lv_iload_n hx hb dX8_term_118 rfl (lv_at hl 4 rfl) ?_
                refine lv_if_eq (tgt := 126) hx hb dX8_term_119 (by decide) (fun _ => ?_) (fun c9 => absurd c9 (by decide))
                refine lv_iconst (v := 0) hx hb dX8_term_126 (by decide) ?_
                refine va_iast hx hb hK hP hD hS (1) 0 (wm_at (by decide) rc_1) rfl (vp_in_iff.mpr ⟨by omega, by omega⟩) dX8_term_127 (fun H locs hP hD hS => ?_)
                have nx_21 : x_21.toNatClampNeg = 159 + 25 * x0.toNatClampNeg + 5 * x_15.toNatClampNeg := by have z1 := t_nn (x := x_21) (by omega); omega
                obtain ⟨v_22, ev_22⟩ : ∃ u : Nat → Nat → Int32, u = upr v_20 1 (upd (v_20 1) (x_21.toNatClampNeg) 0) := ⟨_, rfl⟩
                have hP : va_P (dC, dI) vwCl (wm ad cy v_22) H := by rw [ev_22, ← wm_put (e := _) rc_1]; exact hP
                have hD : va_D A (wm ad cy v_22) := by rw [ev_22, ← wm_put (e := _) rc_1]; exact hD
                have hv : Ir v_22 := by rw [ev_22]; exact hv.put (k := 1) (fun h q => by rw [show br 1 _ = _ from (bx_t0 (i := 5 * x0.toInt + x_15.toInt) (s := 1) (by omega) ⟨by omega, by omega⟩ (by omega))] at q; cases q; exact ⟨by omega, by omega⟩)
                rw [nx_21] at ev_22
                refine lv_aload_n hx hb dX8_term_128 rfl (lv_at hl 1 rfl) ?_
                refine va_get (D := (dC, dI)) (ci := 8) (v := .ref (ad 1)) (C := RX8) (T := TX8) (N := 11) hx hb hts iwX8_term_X8 hown hK hP (0) (wm_at (by decide) rc_0) rfl 0 (by decide) (hts (.fieldLink RX8 7 "QuietStairsModel" "s" "[I") fwX8_term_1) (fun _ h9 => h9) rfl dX8_term_129 ?_
                refine lv_iload hx hb dX8_term_132 (lv_at hl 0 rfl) ?_
                refine lv_iconst (v := 2) hx hb dX8_term_134 (by decide) ?_
                refine lv_iadd hx hb dX8_term_135 ?_
                refine lv_topi (fun x_23 ex_23 => ?_)
                have tx_23 : x_23.toInt = r_19.toInt + (2 : Int32).toInt := by rw [ex_23]; exact t_add ⟨by omega, by omega⟩
                refine lv_iload hx hb dX8_term_136 (lv_at hl 5 rfl) ?_
                refine va_iast hx hb hK hP hD hS (1) 0 (wm_at (by decide) rc_1) rfl (vp_in_iff.mpr ⟨by omega, by omega⟩) dX8_term_138 (fun H locs hP hD hS => ?_)
                have nx_23 : x_23.toNatClampNeg = 160 + 25 * x0.toNatClampNeg + 5 * x_15.toNatClampNeg := by have z1 := t_nn (x := x_23) (by omega); omega
                obtain ⟨v_24, ev_24⟩ : ∃ u : Nat → Nat → Int32, u = upr v_22 1 (upd (v_22 1) (x_23.toNatClampNeg) x2) := ⟨_, rfl⟩
                have hP : va_P (dC, dI) vwCl (wm ad cy v_24) H := by rw [ev_24, ← wm_put (e := _) rc_1]; exact hP
                have hD : va_D A (wm ad cy v_24) := by rw [ev_24, ← wm_put (e := _) rc_1]; exact hD
                have hv : Ir v_24 := by rw [ev_24]; exact hv.put (k := 1) (fun h q => by rw [show br 1 _ = _ from (bx_t2 (i := 5 * x0.toInt + x_15.toInt) (s := 2) (by omega) ⟨by omega, by omega⟩ (by omega))] at q; cases q)
                rw [nx_23] at ev_24
                refine lv_aload_n hx hb dX8_term_139 rfl (lv_at hl 1 rfl) ?_
                refine va_get (D := (dC, dI)) (ci := 8) (v := .ref (ad 1)) (C := RX8) (T := TX8) (N := 11) hx hb hts iwX8_term_X8 hown hK hP (0) (wm_at (by decide) rc_0) rfl 0 (by decide) (hts (.fieldLink RX8 7 "QuietStairsModel" "s" "[I") fwX8_term_1) (fun _ h9 => h9) rfl dX8_term_140 ?_
                refine lv_iload hx hb dX8_term_143 (lv_at hl 0 rfl) ?_
                refine lv_iconst (v := 3) hx hb dX8_term_145 (by decide) ?_
                refine lv_iadd hx hb dX8_term_146 ?_
                refine lv_topi (fun x_25 ex_25 => ?_)
                have k_3 : (3 : Int32).toInt = 3 := by decide
                have tx_25 : x_25.toInt = r_19.toInt + (3 : Int32).toInt := by rw [ex_25]; exact t_add ⟨by omega, by omega⟩
                refine lv_iload hx hb dX8_term_147 (lv_at hl 6 rfl) ?_
                refine va_iast hx hb hK hP hD hS (1) 0 (wm_at (by decide) rc_1) rfl (vp_in_iff.mpr ⟨by omega, by omega⟩) dX8_term_149 (fun H locs hP hD hS => ?_)
                have nx_25 : x_25.toNatClampNeg = 161 + 25 * x0.toNatClampNeg + 5 * x_15.toNatClampNeg := by have z1 := t_nn (x := x_25) (by omega); omega
                obtain ⟨v_26, ev_26⟩ : ∃ u : Nat → Nat → Int32, u = upr v_24 1 (upd (v_24 1) (x_25.toNatClampNeg) x3) := ⟨_, rfl⟩
                have hP : va_P (dC, dI) vwCl (wm ad cy v_26) H := by rw [ev_26, ← wm_put (e := _) rc_1]; exact hP
                have hD : va_D A (wm ad cy v_26) := by rw [ev_26, ← wm_put (e := _) rc_1]; exact hD
                have hv : Ir v_26 := by rw [ev_26]; exact hv.put (k := 1) (fun h q => by rw [show br 1 _ = _ from (bx_t3 (i := 5 * x0.toInt + x_15.toInt) (s := 3) (by omega) ⟨by omega, by omega⟩ (by omega))] at q; cases q; exact ⟨by omega, by omega⟩)
                rw [nx_25] at ev_26
                refine lv_aload_n hx hb dX8_term_150 rfl (lv_at hl 1 rfl) ?_
                refine va_get (D := (dC, dI)) (ci := 8) (v := .ref (ad 1)) (C := RX8) (T := TX8) (N := 11) hx hb hts iwX8_term_X8 hown hK hP (0) (wm_at (by decide) rc_0) rfl 0 (by decide) (hts (.fieldLink RX8 7 "QuietStairsModel" "s" "[I") fwX8_term_1) (fun _ h9 => h9) rfl dX8_term_151 ?_
                refine lv_iload hx hb dX8_term_154 (lv_at hl 0 rfl) ?_
                refine lv_iconst (v := 4) hx hb dX8_term_156 (by decide) ?_
                refine lv_iadd hx hb dX8_term_157 ?_
                refine lv_topi (fun x_27 ex_27 => ?_)
                have k_4 : (4 : Int32).toInt = 4 := by decide
                have tx_27 : x_27.toInt = r_19.toInt + (4 : Int32).toInt := by rw [ex_27]; exact t_add ⟨by omega, by omega⟩
                refine lv_iload hx hb dX8_term_158 (lv_at hl 7 rfl) ?_
                refine va_iast hx hb hK hP hD hS (1) 0 (wm_at (by decide) rc_1) rfl (vp_in_iff.mpr ⟨by omega, by omega⟩) dX8_term_160 (fun H locs hP hD hS => ?_)
                have nx_27 : x_27.toNatClampNeg = 162 + 25 * x0.toNatClampNeg + 5 * x_15.toNatClampNeg := by have z1 := t_nn (x := x_27) (by omega); omega
                obtain ⟨v_28, ev_28⟩ : ∃ u : Nat → Nat → Int32, u = upr v_26 1 (upd (v_26 1) (x_27.toNatClampNeg) x4) := ⟨_, rfl⟩
                have hP : va_P (dC, dI) vwCl (wm ad cy v_28) H := by rw [ev_28, ← wm_put (e := _) rc_1]; exact hP
                have hD : va_D A (wm ad cy v_28) := by rw [ev_28, ← wm_put (e := _) rc_1]; exact hD
                have hv : Ir v_28 := by rw [ev_28]; exact hv.put (k := 1) (fun h q => by rw [show br 1 _ = _ from (bx_t3 (i := 5 * x0.toInt + x_15.toInt) (s := 4) (by omega) ⟨by omega, by omega⟩ (by omega))] at q; cases q; exact ⟨by omega, by omega⟩)
                rw [nx_27] at ev_28
                refine lv_aload_n hx hb dX8_term_161 rfl (lv_at hl 1 rfl) ?_
                refine va_get (D := (dC, dI)) (ci := 8) (v := .ref (ad 1)) (C := RX8) (T := TX8) (N := 11) hx hb hts iwX8_term_X8 hown hK hP (0) (wm_at (by decide) rc_0) rfl 0 (by decide) (hts (.fieldLink RX8 7 "QuietStairsModel" "s" "[I") fwX8_term_1) (fun _ h9 => h9) rfl dX8_term_162 ?_
                refine lv_iload_n hx hb dX8_term_165 rfl (lv_at hl 2 rfl) ?_
                refine lv_bipush (v := 6) hx hb dX8_term_166 (by decide) ?_
                refine yc_p hP hS (va_runS (As := [.int x0, .int 6]) (rest := [.ref (ad 1)]) ⟨hx, hb, hml, hown, hts⟩ (c_X8_at l x0 6) (cwS 2 hts gX8_term_X8_at rfl rfl rfl hd_S_X8_at_2 ⟨Nat.le_of_ble_eq_true rfl, Nat.le_of_ble_eq_true rfl⟩) ex_preP rfl rfl hl.1 rfl (lv_room (Nat.le_of_ble_eq_true rfl)) dX8_term_168 ⟨Nat.le_of_ble_eq_true rfl, Nat.le_of_ble_eq_true rfl⟩) (fun r_29 H locs hw_29 hP hS => ?_)
                obtain rfl : r_14 = r_29 := hw_14.trans hw_29.symm
                refine lv_dup2_11 hx hb dX8_term_171 rfl rfl ?_
                refine va_iald hx hb hK hP (1) 0 (wm_at (by decide) rc_1) rfl (vp_in_iff.mpr ⟨by omega, by omega⟩) dX8_term_172 ?_
                refine lv_topi (fun x_30 ex_30 => ?_)
                have bzx_30 : 0 ≤ x_30.toInt ∧ x_30.toInt ≤ 5 := by rw [ex_30]; exact hv 1 _ 5 (bx_4 (i := x0.toInt) (s := 6) (by omega) ⟨by omega, by omega⟩ (by omega))
                rw [nr_14] at ex_30
                rw [ev_28, upr_s, pk_un (by omega), ev_26, upr_s, pk_un (by omega), ev_24, upr_s, pk_un (by omega), ev_22, upr_s, pk_un (by omega), ev_20, upr_s, pk_un (by omega)] at ex_30
                obtain rfl : x_15 = x_30 := (ex_30.trans ex_15.symm).symm
                refine lv_iconst (v := 1) hx hb dX8_term_173 (by decide) ?_
                refine lv_iadd hx hb dX8_term_174 ?_
                refine lv_topi (fun x_31 ex_31 => ?_)
                have tx_31 : x_31.toInt = x_15.toInt + (1 : Int32).toInt := by rw [ex_31]; exact t_add ⟨by omega, by omega⟩
                refine va_iast hx hb hK hP hD hS (1) 0 (wm_at (by decide) rc_1) rfl (vp_in_iff.mpr ⟨by omega, by omega⟩) dX8_term_175 (fun H locs hP hD hS => ?_)
                obtain ⟨v_32, ev_32⟩ : ∃ u : Nat → Nat → Int32, u = upr v_28 1 (upd (v_28 1) (r_14.toNatClampNeg) x_31) := ⟨_, rfl⟩
                have hP : va_P (dC, dI) vwCl (wm ad cy v_32) H := by rw [ev_32, ← wm_put (e := _) rc_1]; exact hP
                have hD : va_D A (wm ad cy v_32) := by rw [ev_32, ← wm_put (e := _) rc_1]; exact hD
                have hv : Ir v_32 := by rw [ev_32]; exact hv.put (k := 1) (fun h q => by rw [show br 1 _ = _ from (bx_4 (i := x0.toInt) (s := 6) (by omega) ⟨by omega, by omega⟩ (by omega))] at q; cases q; exact ⟨by omega, by omega⟩)
                rw [nr_14] at ev_32
                refine lv_aload_n hx hb dX8_term_176 rfl (lv_at hl 1 rfl) ?_
                refine va_get (D := (dC, dI)) (ci := 8) (v := .ref (ad 1)) (C := RX8) (T := TX8) (N := 11) hx hb hts iwX8_term_X8 hown hK hP (0) (wm_at (by decide) rc_0) rfl 0 (by decide) (hts (.fieldLink RX8 7 "QuietStairsModel" "s" "[I") fwX8_term_1) (fun _ h9 => h9) rfl dX8_term_177 ?_
                refine lv_iload_n hx hb dX8_term_180 rfl (lv_at hl 2 rfl) ?_
                refine lv_bipush (v := 6) hx hb dX8_term_181 (by decide) ?_
                refine yc_p hP hS (va_runS (As := [.int x0, .int 6]) (rest := [.ref (ad 1)]) ⟨hx, hb, hml, hown, hts⟩ (c_X8_at l x0 6) (cwS 2 hts gX8_term_X8_at rfl rfl rfl hd_S_X8_at_2 ⟨Nat.le_of_ble_eq_true rfl, Nat.le_of_ble_eq_true rfl⟩) ex_preP rfl rfl hl.1 rfl (lv_room (Nat.le_of_ble_eq_true rfl)) dX8_term_183 ⟨Nat.le_of_ble_eq_true rfl, Nat.le_of_ble_eq_true rfl⟩) (fun r_33 H locs hw_33 hP hS => ?_)
                obtain rfl : r_14 = r_33 := hw_14.trans hw_33.symm
                refine va_iald hx hb hK hP (1) 0 (wm_at (by decide) rc_1) rfl (vp_in_iff.mpr ⟨by omega, by omega⟩) dX8_term_186 ?_
                refine lv_topi (fun x_34 ex_34 => ?_)
                have bzx_34 : 0 ≤ x_34.toInt ∧ x_34.toInt ≤ 5 := by rw [ex_34]; exact hv 1 _ 5 (bx_4 (i := x0.toInt) (s := 6) (by omega) ⟨by omega, by omega⟩ (by omega))
                rw [nr_14] at ex_34
                rw [ev_32, upr_s, pk_us] at ex_34
                obtain rfl : x_31 = x_34 := ex_34.symm
                refine lv_iconst (v := 1) hx hb dX8_term_187 (by decide) ?_
                refine lv_isub hx hb dX8_term_188 ?_
                refine lv_topi (fun x_35 ex_35 => ?_)
                have tx_35 : x_35.toInt = x_31.toInt - (1 : Int32).toInt := by rw [ex_35]; exact t_sub ⟨by omega, by omega⟩
                have hpost : (¬ ((0 ≤ x0.toInt ∧ x0.toInt < (v 1 2).toInt) ∧ (0 ≤ x1.toInt ∧ x1.toInt ≤ 1) ∧ (0 ≤ x2.toInt ∧ x2.toInt ≤ 5) ∧ (0 ≤ x3.toInt ∧ x3.toInt ≤ 23) ∧ x3.toInt ≤ x4.toInt ∧ x4.toInt ≤ 23) → x_35 = -1 ∧ v_32 = v) ∧ (((0 ≤ x0.toInt ∧ x0.toInt < (v 1 2).toInt) ∧ (0 ≤ x1.toInt ∧ x1.toInt ≤ 1) ∧ (0 ≤ x2.toInt ∧ x2.toInt ≤ 5) ∧ (0 ≤ x3.toInt ∧ x3.toInt ≤ 23) ∧ x3.toInt ≤ x4.toInt ∧ x4.toInt ≤ 23) ∧ (v 1 (34 + 7 * x0.toNatClampNeg)).toInt ≠ 1 → x_35 = -4 ∧ v_32 = v) ∧ (((0 ≤ x0.toInt ∧ x0.toInt < (v 1 2).toInt) ∧ (0 ≤ x1.toInt ∧ x1.toInt ≤ 1) ∧ (0 ≤ x2.toInt ∧ x2.toInt ≤ 5) ∧ (0 ≤ x3.toInt ∧ x3.toInt ≤ 23) ∧ x3.toInt ≤ x4.toInt ∧ x4.toInt ≤ 23) ∧ (v 1 (34 + 7 * x0.toNatClampNeg)).toInt = 1 ∧ (v 1 (38 + 7 * x0.toNatClampNeg)).toInt = 5 → x_35 = -2 ∧ v_32 = v) ∧ (((0 ≤ x0.toInt ∧ x0.toInt < (v 1 2).toInt) ∧ (0 ≤ x1.toInt ∧ x1.toInt ≤ 1) ∧ (0 ≤ x2.toInt ∧ x2.toInt ≤ 5) ∧ (0 ≤ x3.toInt ∧ x3.toInt ≤ 23) ∧ x3.toInt ≤ x4.toInt ∧ x4.toInt ≤ 23) ∧ (v 1 (34 + 7 * x0.toNatClampNeg)).toInt = 1 ∧ (v 1 (38 + 7 * x0.toNatClampNeg)).toInt ≠ 5 → x_35 = v 1 (38 + 7 * x0.toNatClampNeg) + 1 - 1 ∧ (∀ n : Nat, v_32 1 n = if n = 38 + 7 * x0.toNatClampNeg then v 1 (38 + 7 * x0.toNatClampNeg) + 1 else if n = 162 + 25 * x0.toNatClampNeg + 5 * (v 1 (38 + 7 * x0.toNatClampNeg)).toNatClampNeg then x4 else if n = 161 + 25 * x0.toNatClampNeg + 5 * (v 1 (38 + 7 * x0.toNatClampNeg)).toNatClampNeg then x3 else if n = 160 + 25 * x0.toNatClampNeg + 5 * (v 1 (38 + 7 * x0.toNatClampNeg)).toNatClampNeg then x2 else if n = 159 + 25 * x0.toNatClampNeg + 5 * (v 1 (38 + 7 * x0.toNatClampNeg)).toNatClampNeg then 0 else if n = 158 + 25 * x0.toNatClampNeg + 5 * (v 1 (38 + 7 * x0.toNatClampNeg)).toNatClampNeg then x1 else v 1 n) ∧ (∀ k : Nat, k ≠ 1 → v_32 k = v k)) := by
                  refine ⟨fun hq => ?_, fun hq => ?_, fun hq => ?_, fun hq => ?_⟩
                  · exfalso; omega
                  · exfalso; omega
                  · exfalso; omega
                  · exact ⟨by rw [ex_35, ex_31, ex_15], fun n => by rw [ev_32, up1, ev_28, up1, ev_26, up1, ev_24, up1, ev_22, up1, ev_20, up1, ex_31, ex_15], fun k hk => by rw [ev_32, upr_n hk, ev_28, upr_n hk, ev_26, upr_n hk, ev_24, upr_n hk, ev_22, upr_n hk, ev_20, upr_n hk]⟩
                exact W.iret (v := x_35) hx hb hr (fun t ht hW => ⟨⟨x_35, v_32, rfl, ⟨hv, hpost⟩, by rw [ht]; exact hP, hD⟩, hS.F ht⟩) hS.2.2 dX8_term_189
              · have tc_16 : x_15.toInt = (5 : Int32).toInt := by rw [c_16]
                refine lv_bipush (v := (-2)) hx hb dX8_term_82 (by decide) ?_
                have hpost : (¬ ((0 ≤ x0.toInt ∧ x0.toInt < (v 1 2).toInt) ∧ (0 ≤ x1.toInt ∧ x1.toInt ≤ 1) ∧ (0 ≤ x2.toInt ∧ x2.toInt ≤ 5) ∧ (0 ≤ x3.toInt ∧ x3.toInt ≤ 23) ∧ x3.toInt ≤ x4.toInt ∧ x4.toInt ≤ 23) → ((-2) : Int32) = -1 ∧ v = v) ∧ (((0 ≤ x0.toInt ∧ x0.toInt < (v 1 2).toInt) ∧ (0 ≤ x1.toInt ∧ x1.toInt ≤ 1) ∧ (0 ≤ x2.toInt ∧ x2.toInt ≤ 5) ∧ (0 ≤ x3.toInt ∧ x3.toInt ≤ 23) ∧ x3.toInt ≤ x4.toInt ∧ x4.toInt ≤ 23) ∧ (v 1 (34 + 7 * x0.toNatClampNeg)).toInt ≠ 1 → ((-2) : Int32) = -4 ∧ v = v) ∧ (((0 ≤ x0.toInt ∧ x0.toInt < (v 1 2).toInt) ∧ (0 ≤ x1.toInt ∧ x1.toInt ≤ 1) ∧ (0 ≤ x2.toInt ∧ x2.toInt ≤ 5) ∧ (0 ≤ x3.toInt ∧ x3.toInt ≤ 23) ∧ x3.toInt ≤ x4.toInt ∧ x4.toInt ≤ 23) ∧ (v 1 (34 + 7 * x0.toNatClampNeg)).toInt = 1 ∧ (v 1 (38 + 7 * x0.toNatClampNeg)).toInt = 5 → ((-2) : Int32) = -2 ∧ v = v) ∧ (((0 ≤ x0.toInt ∧ x0.toInt < (v 1 2).toInt) ∧ (0 ≤ x1.toInt ∧ x1.toInt ≤ 1) ∧ (0 ≤ x2.toInt ∧ x2.toInt ≤ 5) ∧ (0 ≤ x3.toInt ∧ x3.toInt ≤ 23) ∧ x3.toInt ≤ x4.toInt ∧ x4.toInt ≤ 23) ∧ (v 1 (34 + 7 * x0.toNatClampNeg)).toInt = 1 ∧ (v 1 (38 + 7 * x0.toNatClampNeg)).toInt ≠ 5 → ((-2) : Int32) = v 1 (38 + 7 * x0.toNatClampNeg) + 1 - 1 ∧ (∀ n : Nat, v 1 n = if n = 38 + 7 * x0.toNatClampNeg then v 1 (38 + 7 * x0.toNatClampNeg) + 1 else if n = 162 + 25 * x0.toNatClampNeg + 5 * (v 1 (38 + 7 * x0.toNatClampNeg)).toNatClampNeg then x4 else if n = 161 + 25 * x0.toNatClampNeg + 5 * (v 1 (38 + 7 * x0.toNatClampNeg)).toNatClampNeg then x3 else if n = 160 + 25 * x0.toNatClampNeg + 5 * (v 1 (38 + 7 * x0.toNatClampNeg)).toNatClampNeg then x2 else if n = 159 + 25 * x0.toNatClampNeg + 5 * (v 1 (38 + 7 * x0.toNatClampNeg)).toNatClampNeg then 0 else if n = 158 + 25 * x0.toNatClampNeg + 5 * (v 1 (38 + 7 * x0.toNatClampNeg)).toNatClampNeg then x1 else v 1 n) ∧ (∀ k : Nat, k ≠ 1 → v k = v k)) := by
                  refine ⟨fun hq => ?_, fun hq => ?_, fun hq => ?_, fun hq => ?_⟩
                  · exfalso; omega
                  · exfalso; omega
                  · exact ⟨rfl, rfl⟩
                  · exfalso; omega
                exact W.iret (v := (-2)) hx hb hr (fun t ht hW => ⟨⟨(-2), v, rfl, ⟨hv, hpost⟩, by rw [ht]; exact hP, hD⟩, hS.F ht⟩) hS.2.2 dX8_term_84
            · have tc_13 : x_12.toInt ≠ (1 : Int32).toInt := fun q => absurd (Int32.toInt_inj.mp q) c_13
              refine lv_bipush (v := (-4)) hx hb dX8_term_64 (by decide) ?_
              have hpost : (¬ ((0 ≤ x0.toInt ∧ x0.toInt < (v 1 2).toInt) ∧ (0 ≤ x1.toInt ∧ x1.toInt ≤ 1) ∧ (0 ≤ x2.toInt ∧ x2.toInt ≤ 5) ∧ (0 ≤ x3.toInt ∧ x3.toInt ≤ 23) ∧ x3.toInt ≤ x4.toInt ∧ x4.toInt ≤ 23) → ((-4) : Int32) = -1 ∧ v = v) ∧ (((0 ≤ x0.toInt ∧ x0.toInt < (v 1 2).toInt) ∧ (0 ≤ x1.toInt ∧ x1.toInt ≤ 1) ∧ (0 ≤ x2.toInt ∧ x2.toInt ≤ 5) ∧ (0 ≤ x3.toInt ∧ x3.toInt ≤ 23) ∧ x3.toInt ≤ x4.toInt ∧ x4.toInt ≤ 23) ∧ (v 1 (34 + 7 * x0.toNatClampNeg)).toInt ≠ 1 → ((-4) : Int32) = -4 ∧ v = v) ∧ (((0 ≤ x0.toInt ∧ x0.toInt < (v 1 2).toInt) ∧ (0 ≤ x1.toInt ∧ x1.toInt ≤ 1) ∧ (0 ≤ x2.toInt ∧ x2.toInt ≤ 5) ∧ (0 ≤ x3.toInt ∧ x3.toInt ≤ 23) ∧ x3.toInt ≤ x4.toInt ∧ x4.toInt ≤ 23) ∧ (v 1 (34 + 7 * x0.toNatClampNeg)).toInt = 1 ∧ (v 1 (38 + 7 * x0.toNatClampNeg)).toInt = 5 → ((-4) : Int32) = -2 ∧ v = v) ∧ (((0 ≤ x0.toInt ∧ x0.toInt < (v 1 2).toInt) ∧ (0 ≤ x1.toInt ∧ x1.toInt ≤ 1) ∧ (0 ≤ x2.toInt ∧ x2.toInt ≤ 5) ∧ (0 ≤ x3.toInt ∧ x3.toInt ≤ 23) ∧ x3.toInt ≤ x4.toInt ∧ x4.toInt ≤ 23) ∧ (v 1 (34 + 7 * x0.toNatClampNeg)).toInt = 1 ∧ (v 1 (38 + 7 * x0.toNatClampNeg)).toInt ≠ 5 → ((-4) : Int32) = v 1 (38 + 7 * x0.toNatClampNeg) + 1 - 1 ∧ (∀ n : Nat, v 1 n = if n = 38 + 7 * x0.toNatClampNeg then v 1 (38 + 7 * x0.toNatClampNeg) + 1 else if n = 162 + 25 * x0.toNatClampNeg + 5 * (v 1 (38 + 7 * x0.toNatClampNeg)).toNatClampNeg then x4 else if n = 161 + 25 * x0.toNatClampNeg + 5 * (v 1 (38 + 7 * x0.toNatClampNeg)).toNatClampNeg then x3 else if n = 160 + 25 * x0.toNatClampNeg + 5 * (v 1 (38 + 7 * x0.toNatClampNeg)).toNatClampNeg then x2 else if n = 159 + 25 * x0.toNatClampNeg + 5 * (v 1 (38 + 7 * x0.toNatClampNeg)).toNatClampNeg then 0 else if n = 158 + 25 * x0.toNatClampNeg + 5 * (v 1 (38 + 7 * x0.toNatClampNeg)).toNatClampNeg then x1 else v 1 n) ∧ (∀ k : Nat, k ≠ 1 → v k = v k)) := by
                refine ⟨fun hq => ?_, fun hq => ?_, fun hq => ?_, fun hq => ?_⟩
                · exfalso; omega
                · exact ⟨rfl, rfl⟩
                · exfalso; omega
                · exfalso; omega
              exact W.iret (v := (-4)) hx hb hr (fun t ht hW => ⟨⟨(-4), v, rfl, ⟨hv, hpost⟩, by rw [ht]; exact hP, hD⟩, hS.F ht⟩) hS.2.2 dX8_term_66
          · have tc_10 : ¬ (x3.toInt ≤ x4.toInt ∧ x4.toInt ≤ (23 : Int32).toInt) := fun q => hc_10 ⟨Int32.le_iff_toInt_le.mpr q.1, Int32.le_iff_toInt_le.mpr q.2⟩
            refine lv_if_ne (tgt := 50) hx hb dX8_term_45 (by decide) (fun c9 => absurd c9 (by decide)) (fun _ => ?_)
            refine lv_iconst (v := (-1)) hx hb dX8_term_48 (by decide) ?_
            have hpost : (¬ ((0 ≤ x0.toInt ∧ x0.toInt < (v 1 2).toInt) ∧ (0 ≤ x1.toInt ∧ x1.toInt ≤ 1) ∧ (0 ≤ x2.toInt ∧ x2.toInt ≤ 5) ∧ (0 ≤ x3.toInt ∧ x3.toInt ≤ 23) ∧ x3.toInt ≤ x4.toInt ∧ x4.toInt ≤ 23) → ((-1) : Int32) = -1 ∧ v = v) ∧ (((0 ≤ x0.toInt ∧ x0.toInt < (v 1 2).toInt) ∧ (0 ≤ x1.toInt ∧ x1.toInt ≤ 1) ∧ (0 ≤ x2.toInt ∧ x2.toInt ≤ 5) ∧ (0 ≤ x3.toInt ∧ x3.toInt ≤ 23) ∧ x3.toInt ≤ x4.toInt ∧ x4.toInt ≤ 23) ∧ (v 1 (34 + 7 * x0.toNatClampNeg)).toInt ≠ 1 → ((-1) : Int32) = -4 ∧ v = v) ∧ (((0 ≤ x0.toInt ∧ x0.toInt < (v 1 2).toInt) ∧ (0 ≤ x1.toInt ∧ x1.toInt ≤ 1) ∧ (0 ≤ x2.toInt ∧ x2.toInt ≤ 5) ∧ (0 ≤ x3.toInt ∧ x3.toInt ≤ 23) ∧ x3.toInt ≤ x4.toInt ∧ x4.toInt ≤ 23) ∧ (v 1 (34 + 7 * x0.toNatClampNeg)).toInt = 1 ∧ (v 1 (38 + 7 * x0.toNatClampNeg)).toInt = 5 → ((-1) : Int32) = -2 ∧ v = v) ∧ (((0 ≤ x0.toInt ∧ x0.toInt < (v 1 2).toInt) ∧ (0 ≤ x1.toInt ∧ x1.toInt ≤ 1) ∧ (0 ≤ x2.toInt ∧ x2.toInt ≤ 5) ∧ (0 ≤ x3.toInt ∧ x3.toInt ≤ 23) ∧ x3.toInt ≤ x4.toInt ∧ x4.toInt ≤ 23) ∧ (v 1 (34 + 7 * x0.toNatClampNeg)).toInt = 1 ∧ (v 1 (38 + 7 * x0.toNatClampNeg)).toInt ≠ 5 → ((-1) : Int32) = v 1 (38 + 7 * x0.toNatClampNeg) + 1 - 1 ∧ (∀ n : Nat, v 1 n = if n = 38 + 7 * x0.toNatClampNeg then v 1 (38 + 7 * x0.toNatClampNeg) + 1 else if n = 162 + 25 * x0.toNatClampNeg + 5 * (v 1 (38 + 7 * x0.toNatClampNeg)).toNatClampNeg then x4 else if n = 161 + 25 * x0.toNatClampNeg + 5 * (v 1 (38 + 7 * x0.toNatClampNeg)).toNatClampNeg then x3 else if n = 160 + 25 * x0.toNatClampNeg + 5 * (v 1 (38 + 7 * x0.toNatClampNeg)).toNatClampNeg then x2 else if n = 159 + 25 * x0.toNatClampNeg + 5 * (v 1 (38 + 7 * x0.toNatClampNeg)).toNatClampNeg then 0 else if n = 158 + 25 * x0.toNatClampNeg + 5 * (v 1 (38 + 7 * x0.toNatClampNeg)).toNatClampNeg then x1 else v 1 n) ∧ (∀ k : Nat, k ≠ 1 → v k = v k)) := by
              refine ⟨fun hq => ?_, fun hq => ?_, fun hq => ?_, fun hq => ?_⟩
              · exact ⟨rfl, rfl⟩
              · exfalso; omega
              · exfalso; omega
              · exfalso; omega
            exact W.iret (v := (-1)) hx hb hr (fun t ht hW => ⟨⟨(-1), v, rfl, ⟨hv, hpost⟩, by rw [ht]; exact hP, hD⟩, hS.F ht⟩) hS.2.2 dX8_term_49
        · have k_23 : (23 : Int32).toInt = 23 := by decide
          have tc_8 : ¬ ((0 : Int32).toInt ≤ x3.toInt ∧ x3.toInt ≤ (23 : Int32).toInt) := fun q => hc_8 ⟨Int32.le_iff_toInt_le.mpr q.1, Int32.le_iff_toInt_le.mpr q.2⟩
          refine lv_if_eq (tgt := 48) hx hb dX8_term_33 (by decide) (fun _ => ?_) (fun c9 => absurd c9 (by decide))
          refine lv_iconst (v := (-1)) hx hb dX8_term_48 (by decide) ?_
          have hpost : (¬ ((0 ≤ x0.toInt ∧ x0.toInt < (v 1 2).toInt) ∧ (0 ≤ x1.toInt ∧ x1.toInt ≤ 1) ∧ (0 ≤ x2.toInt ∧ x2.toInt ≤ 5) ∧ (0 ≤ x3.toInt ∧ x3.toInt ≤ 23) ∧ x3.toInt ≤ x4.toInt ∧ x4.toInt ≤ 23) → ((-1) : Int32) = -1 ∧ v = v) ∧ (((0 ≤ x0.toInt ∧ x0.toInt < (v 1 2).toInt) ∧ (0 ≤ x1.toInt ∧ x1.toInt ≤ 1) ∧ (0 ≤ x2.toInt ∧ x2.toInt ≤ 5) ∧ (0 ≤ x3.toInt ∧ x3.toInt ≤ 23) ∧ x3.toInt ≤ x4.toInt ∧ x4.toInt ≤ 23) ∧ (v 1 (34 + 7 * x0.toNatClampNeg)).toInt ≠ 1 → ((-1) : Int32) = -4 ∧ v = v) ∧ (((0 ≤ x0.toInt ∧ x0.toInt < (v 1 2).toInt) ∧ (0 ≤ x1.toInt ∧ x1.toInt ≤ 1) ∧ (0 ≤ x2.toInt ∧ x2.toInt ≤ 5) ∧ (0 ≤ x3.toInt ∧ x3.toInt ≤ 23) ∧ x3.toInt ≤ x4.toInt ∧ x4.toInt ≤ 23) ∧ (v 1 (34 + 7 * x0.toNatClampNeg)).toInt = 1 ∧ (v 1 (38 + 7 * x0.toNatClampNeg)).toInt = 5 → ((-1) : Int32) = -2 ∧ v = v) ∧ (((0 ≤ x0.toInt ∧ x0.toInt < (v 1 2).toInt) ∧ (0 ≤ x1.toInt ∧ x1.toInt ≤ 1) ∧ (0 ≤ x2.toInt ∧ x2.toInt ≤ 5) ∧ (0 ≤ x3.toInt ∧ x3.toInt ≤ 23) ∧ x3.toInt ≤ x4.toInt ∧ x4.toInt ≤ 23) ∧ (v 1 (34 + 7 * x0.toNatClampNeg)).toInt = 1 ∧ (v 1 (38 + 7 * x0.toNatClampNeg)).toInt ≠ 5 → ((-1) : Int32) = v 1 (38 + 7 * x0.toNatClampNeg) + 1 - 1 ∧ (∀ n : Nat, v 1 n = if n = 38 + 7 * x0.toNatClampNeg then v 1 (38 + 7 * x0.toNatClampNeg) + 1 else if n = 162 + 25 * x0.toNatClampNeg + 5 * (v 1 (38 + 7 * x0.toNatClampNeg)).toNatClampNeg then x4 else if n = 161 + 25 * x0.toNatClampNeg + 5 * (v 1 (38 + 7 * x0.toNatClampNeg)).toNatClampNeg then x3 else if n = 160 + 25 * x0.toNatClampNeg + 5 * (v 1 (38 + 7 * x0.toNatClampNeg)).toNatClampNeg then x2 else if n = 159 + 25 * x0.toNatClampNeg + 5 * (v 1 (38 + 7 * x0.toNatClampNeg)).toNatClampNeg then 0 else if n = 158 + 25 * x0.toNatClampNeg + 5 * (v 1 (38 + 7 * x0.toNatClampNeg)).toNatClampNeg then x1 else v 1 n) ∧ (∀ k : Nat, k ≠ 1 → v k = v k)) := by
            refine ⟨fun hq => ?_, fun hq => ?_, fun hq => ?_, fun hq => ?_⟩
            · exact ⟨rfl, rfl⟩
            · exfalso; omega
            · exfalso; omega
            · exfalso; omega
          exact W.iret (v := (-1)) hx hb hr (fun t ht hW => ⟨⟨(-1), v, rfl, ⟨hv, hpost⟩, by rw [ht]; exact hP, hD⟩, hS.F ht⟩) hS.2.2 dX8_term_49
      · have k_5 : (5 : Int32).toInt = 5 := by decide
        have tc_6 : ¬ ((0 : Int32).toInt ≤ x2.toInt ∧ x2.toInt ≤ (5 : Int32).toInt) := fun q => hc_6 ⟨Int32.le_iff_toInt_le.mpr q.1, Int32.le_iff_toInt_le.mpr q.2⟩
        refine lv_if_eq (tgt := 48) hx hb dX8_term_22 (by decide) (fun _ => ?_) (fun c9 => absurd c9 (by decide))
        refine lv_iconst (v := (-1)) hx hb dX8_term_48 (by decide) ?_
        have hpost : (¬ ((0 ≤ x0.toInt ∧ x0.toInt < (v 1 2).toInt) ∧ (0 ≤ x1.toInt ∧ x1.toInt ≤ 1) ∧ (0 ≤ x2.toInt ∧ x2.toInt ≤ 5) ∧ (0 ≤ x3.toInt ∧ x3.toInt ≤ 23) ∧ x3.toInt ≤ x4.toInt ∧ x4.toInt ≤ 23) → ((-1) : Int32) = -1 ∧ v = v) ∧ (((0 ≤ x0.toInt ∧ x0.toInt < (v 1 2).toInt) ∧ (0 ≤ x1.toInt ∧ x1.toInt ≤ 1) ∧ (0 ≤ x2.toInt ∧ x2.toInt ≤ 5) ∧ (0 ≤ x3.toInt ∧ x3.toInt ≤ 23) ∧ x3.toInt ≤ x4.toInt ∧ x4.toInt ≤ 23) ∧ (v 1 (34 + 7 * x0.toNatClampNeg)).toInt ≠ 1 → ((-1) : Int32) = -4 ∧ v = v) ∧ (((0 ≤ x0.toInt ∧ x0.toInt < (v 1 2).toInt) ∧ (0 ≤ x1.toInt ∧ x1.toInt ≤ 1) ∧ (0 ≤ x2.toInt ∧ x2.toInt ≤ 5) ∧ (0 ≤ x3.toInt ∧ x3.toInt ≤ 23) ∧ x3.toInt ≤ x4.toInt ∧ x4.toInt ≤ 23) ∧ (v 1 (34 + 7 * x0.toNatClampNeg)).toInt = 1 ∧ (v 1 (38 + 7 * x0.toNatClampNeg)).toInt = 5 → ((-1) : Int32) = -2 ∧ v = v) ∧ (((0 ≤ x0.toInt ∧ x0.toInt < (v 1 2).toInt) ∧ (0 ≤ x1.toInt ∧ x1.toInt ≤ 1) ∧ (0 ≤ x2.toInt ∧ x2.toInt ≤ 5) ∧ (0 ≤ x3.toInt ∧ x3.toInt ≤ 23) ∧ x3.toInt ≤ x4.toInt ∧ x4.toInt ≤ 23) ∧ (v 1 (34 + 7 * x0.toNatClampNeg)).toInt = 1 ∧ (v 1 (38 + 7 * x0.toNatClampNeg)).toInt ≠ 5 → ((-1) : Int32) = v 1 (38 + 7 * x0.toNatClampNeg) + 1 - 1 ∧ (∀ n : Nat, v 1 n = if n = 38 + 7 * x0.toNatClampNeg then v 1 (38 + 7 * x0.toNatClampNeg) + 1 else if n = 162 + 25 * x0.toNatClampNeg + 5 * (v 1 (38 + 7 * x0.toNatClampNeg)).toNatClampNeg then x4 else if n = 161 + 25 * x0.toNatClampNeg + 5 * (v 1 (38 + 7 * x0.toNatClampNeg)).toNatClampNeg then x3 else if n = 160 + 25 * x0.toNatClampNeg + 5 * (v 1 (38 + 7 * x0.toNatClampNeg)).toNatClampNeg then x2 else if n = 159 + 25 * x0.toNatClampNeg + 5 * (v 1 (38 + 7 * x0.toNatClampNeg)).toNatClampNeg then 0 else if n = 158 + 25 * x0.toNatClampNeg + 5 * (v 1 (38 + 7 * x0.toNatClampNeg)).toNatClampNeg then x1 else v 1 n) ∧ (∀ k : Nat, k ≠ 1 → v k = v k)) := by
          refine ⟨fun hq => ?_, fun hq => ?_, fun hq => ?_, fun hq => ?_⟩
          · exact ⟨rfl, rfl⟩
          · exfalso; omega
          · exfalso; omega
          · exfalso; omega
        exact W.iret (v := (-1)) hx hb hr (fun t ht hW => ⟨⟨(-1), v, rfl, ⟨hv, hpost⟩, by rw [ht]; exact hP, hD⟩, hS.F ht⟩) hS.2.2 dX8_term_49
    · have k_0 : (0 : Int32).toInt = 0 := by decide
      have k_1 : (1 : Int32).toInt = 1 := by decide
      have tc_4 : ¬ ((0 : Int32).toInt ≤ x1.toInt ∧ x1.toInt ≤ (1 : Int32).toInt) := fun q => hc_4 ⟨Int32.le_iff_toInt_le.mpr q.1, Int32.le_iff_toInt_le.mpr q.2⟩
      refine lv_if_eq (tgt := 48) hx hb dX8_term_12 (by decide) (fun _ => ?_) (fun c9 => absurd c9 (by decide))
      refine lv_iconst (v := (-1)) hx hb dX8_term_48 (by decide) ?_
      have hpost : (¬ ((0 ≤ x0.toInt ∧ x0.toInt < (v 1 2).toInt) ∧ (0 ≤ x1.toInt ∧ x1.toInt ≤ 1) ∧ (0 ≤ x2.toInt ∧ x2.toInt ≤ 5) ∧ (0 ≤ x3.toInt ∧ x3.toInt ≤ 23) ∧ x3.toInt ≤ x4.toInt ∧ x4.toInt ≤ 23) → ((-1) : Int32) = -1 ∧ v = v) ∧ (((0 ≤ x0.toInt ∧ x0.toInt < (v 1 2).toInt) ∧ (0 ≤ x1.toInt ∧ x1.toInt ≤ 1) ∧ (0 ≤ x2.toInt ∧ x2.toInt ≤ 5) ∧ (0 ≤ x3.toInt ∧ x3.toInt ≤ 23) ∧ x3.toInt ≤ x4.toInt ∧ x4.toInt ≤ 23) ∧ (v 1 (34 + 7 * x0.toNatClampNeg)).toInt ≠ 1 → ((-1) : Int32) = -4 ∧ v = v) ∧ (((0 ≤ x0.toInt ∧ x0.toInt < (v 1 2).toInt) ∧ (0 ≤ x1.toInt ∧ x1.toInt ≤ 1) ∧ (0 ≤ x2.toInt ∧ x2.toInt ≤ 5) ∧ (0 ≤ x3.toInt ∧ x3.toInt ≤ 23) ∧ x3.toInt ≤ x4.toInt ∧ x4.toInt ≤ 23) ∧ (v 1 (34 + 7 * x0.toNatClampNeg)).toInt = 1 ∧ (v 1 (38 + 7 * x0.toNatClampNeg)).toInt = 5 → ((-1) : Int32) = -2 ∧ v = v) ∧ (((0 ≤ x0.toInt ∧ x0.toInt < (v 1 2).toInt) ∧ (0 ≤ x1.toInt ∧ x1.toInt ≤ 1) ∧ (0 ≤ x2.toInt ∧ x2.toInt ≤ 5) ∧ (0 ≤ x3.toInt ∧ x3.toInt ≤ 23) ∧ x3.toInt ≤ x4.toInt ∧ x4.toInt ≤ 23) ∧ (v 1 (34 + 7 * x0.toNatClampNeg)).toInt = 1 ∧ (v 1 (38 + 7 * x0.toNatClampNeg)).toInt ≠ 5 → ((-1) : Int32) = v 1 (38 + 7 * x0.toNatClampNeg) + 1 - 1 ∧ (∀ n : Nat, v 1 n = if n = 38 + 7 * x0.toNatClampNeg then v 1 (38 + 7 * x0.toNatClampNeg) + 1 else if n = 162 + 25 * x0.toNatClampNeg + 5 * (v 1 (38 + 7 * x0.toNatClampNeg)).toNatClampNeg then x4 else if n = 161 + 25 * x0.toNatClampNeg + 5 * (v 1 (38 + 7 * x0.toNatClampNeg)).toNatClampNeg then x3 else if n = 160 + 25 * x0.toNatClampNeg + 5 * (v 1 (38 + 7 * x0.toNatClampNeg)).toNatClampNeg then x2 else if n = 159 + 25 * x0.toNatClampNeg + 5 * (v 1 (38 + 7 * x0.toNatClampNeg)).toNatClampNeg then 0 else if n = 158 + 25 * x0.toNatClampNeg + 5 * (v 1 (38 + 7 * x0.toNatClampNeg)).toNatClampNeg then x1 else v 1 n) ∧ (∀ k : Nat, k ≠ 1 → v k = v k)) := by
        refine ⟨fun hq => ?_, fun hq => ?_, fun hq => ?_, fun hq => ?_⟩
        · exact ⟨rfl, rfl⟩
        · exfalso; omega
        · exfalso; omega
        · exfalso; omega
      exact W.iret (v := (-1)) hx hb hr (fun t ht hW => ⟨⟨(-1), v, rfl, ⟨hv, hpost⟩, by rw [ht]; exact hP, hD⟩, hS.F ht⟩) hS.2.2 dX8_term_49
  · refine lv_if_eq (tgt := 48) hx hb dX8_term_5 (by decide) (fun _ => ?_) (fun c9 => absurd c9 (by decide))
    refine lv_iconst (v := (-1)) hx hb dX8_term_48 (by decide) ?_
    have hpost : (¬ ((0 ≤ x0.toInt ∧ x0.toInt < (v 1 2).toInt) ∧ (0 ≤ x1.toInt ∧ x1.toInt ≤ 1) ∧ (0 ≤ x2.toInt ∧ x2.toInt ≤ 5) ∧ (0 ≤ x3.toInt ∧ x3.toInt ≤ 23) ∧ x3.toInt ≤ x4.toInt ∧ x4.toInt ≤ 23) → ((-1) : Int32) = -1 ∧ v = v) ∧ (((0 ≤ x0.toInt ∧ x0.toInt < (v 1 2).toInt) ∧ (0 ≤ x1.toInt ∧ x1.toInt ≤ 1) ∧ (0 ≤ x2.toInt ∧ x2.toInt ≤ 5) ∧ (0 ≤ x3.toInt ∧ x3.toInt ≤ 23) ∧ x3.toInt ≤ x4.toInt ∧ x4.toInt ≤ 23) ∧ (v 1 (34 + 7 * x0.toNatClampNeg)).toInt ≠ 1 → ((-1) : Int32) = -4 ∧ v = v) ∧ (((0 ≤ x0.toInt ∧ x0.toInt < (v 1 2).toInt) ∧ (0 ≤ x1.toInt ∧ x1.toInt ≤ 1) ∧ (0 ≤ x2.toInt ∧ x2.toInt ≤ 5) ∧ (0 ≤ x3.toInt ∧ x3.toInt ≤ 23) ∧ x3.toInt ≤ x4.toInt ∧ x4.toInt ≤ 23) ∧ (v 1 (34 + 7 * x0.toNatClampNeg)).toInt = 1 ∧ (v 1 (38 + 7 * x0.toNatClampNeg)).toInt = 5 → ((-1) : Int32) = -2 ∧ v = v) ∧ (((0 ≤ x0.toInt ∧ x0.toInt < (v 1 2).toInt) ∧ (0 ≤ x1.toInt ∧ x1.toInt ≤ 1) ∧ (0 ≤ x2.toInt ∧ x2.toInt ≤ 5) ∧ (0 ≤ x3.toInt ∧ x3.toInt ≤ 23) ∧ x3.toInt ≤ x4.toInt ∧ x4.toInt ≤ 23) ∧ (v 1 (34 + 7 * x0.toNatClampNeg)).toInt = 1 ∧ (v 1 (38 + 7 * x0.toNatClampNeg)).toInt ≠ 5 → ((-1) : Int32) = v 1 (38 + 7 * x0.toNatClampNeg) + 1 - 1 ∧ (∀ n : Nat, v 1 n = if n = 38 + 7 * x0.toNatClampNeg then v 1 (38 + 7 * x0.toNatClampNeg) + 1 else if n = 162 + 25 * x0.toNatClampNeg + 5 * (v 1 (38 + 7 * x0.toNatClampNeg)).toNatClampNeg then x4 else if n = 161 + 25 * x0.toNatClampNeg + 5 * (v 1 (38 + 7 * x0.toNatClampNeg)).toNatClampNeg then x3 else if n = 160 + 25 * x0.toNatClampNeg + 5 * (v 1 (38 + 7 * x0.toNatClampNeg)).toNatClampNeg then x2 else if n = 159 + 25 * x0.toNatClampNeg + 5 * (v 1 (38 + 7 * x0.toNatClampNeg)).toNatClampNeg then 0 else if n = 158 + 25 * x0.toNatClampNeg + 5 * (v 1 (38 + 7 * x0.toNatClampNeg)).toNatClampNeg then x1 else v 1 n) ∧ (∀ k : Nat, k ≠ 1 → v k = v k)) := by
      refine ⟨fun hq => ?_, fun hq => ?_, fun hq => ?_, fun hq => ?_⟩
      · exact ⟨rfl, rfl⟩
      · exfalso; omega
      · exfalso; omega
      · exfalso; omega
    exact W.iret (v := (-1)) hx hb hr (fun t ht hW => ⟨⟨(-1), v, rfl, ⟨hv, hpost⟩, by rw [ht]; exact hP, hD⟩, hS.F ht⟩) hS.2.2 dX8_term_49

set_option maxHeartbeats 4000000 in
set_option maxRecDepth 100000 in
theorem e_X8_term_1 (l : Launch) (dC : Nat → ClassId) (dI : Nat → Nat → Nat) (cy : Nat → ClassId) (sz : Nat) (ad : Nat → Nat) (v : Nat → Nat → Int32) (hv : Ir v) (x0 x1 x2 x3 x4 : Int32) : Met l yX8_term wsX8_term ({ frames := 2, cells := 0, slots := 0, locals := 128 }) (va_Pc [.ref (ad 0), .int x0, .int x1, .int 1, .int x2, .int x3, .int x4] (ex_Pre dC dI cy sz (wm ad cy v))) (va_Qi (fun (r : Int32) (u : Nat → Nat → Int32) => Ir u ∧ (¬ ((0 ≤ x0.toInt ∧ x0.toInt < (v 1 2).toInt) ∧ (0 ≤ x1.toInt ∧ x1.toInt ≤ 1) ∧ (0 ≤ x2.toInt ∧ x2.toInt ≤ 5) ∧ (0 ≤ x3.toInt ∧ x3.toInt ≤ 23) ∧ x3.toInt ≤ x4.toInt ∧ x4.toInt ≤ 23) → r = -1 ∧ u = v) ∧ (((0 ≤ x0.toInt ∧ x0.toInt < (v 1 2).toInt) ∧ (0 ≤ x1.toInt ∧ x1.toInt ≤ 1) ∧ (0 ≤ x2.toInt ∧ x2.toInt ≤ 5) ∧ (0 ≤ x3.toInt ∧ x3.toInt ≤ 23) ∧ x3.toInt ≤ x4.toInt ∧ x4.toInt ≤ 23) ∧ (v 1 (34 + 7 * x0.toNatClampNeg)).toInt ≠ 1 → r = -4 ∧ u = v) ∧ (((0 ≤ x0.toInt ∧ x0.toInt < (v 1 2).toInt) ∧ (0 ≤ x1.toInt ∧ x1.toInt ≤ 1) ∧ (0 ≤ x2.toInt ∧ x2.toInt ≤ 5) ∧ (0 ≤ x3.toInt ∧ x3.toInt ≤ 23) ∧ x3.toInt ≤ x4.toInt ∧ x4.toInt ≤ 23) ∧ (v 1 (34 + 7 * x0.toNatClampNeg)).toInt = 1 ∧ (v 1 (38 + 7 * x0.toNatClampNeg)).toInt = 5 → r = -2 ∧ u = v) ∧ (((0 ≤ x0.toInt ∧ x0.toInt < (v 1 2).toInt) ∧ (0 ≤ x1.toInt ∧ x1.toInt ≤ 1) ∧ (0 ≤ x2.toInt ∧ x2.toInt ≤ 5) ∧ (0 ≤ x3.toInt ∧ x3.toInt ≤ 23) ∧ x3.toInt ≤ x4.toInt ∧ x4.toInt ≤ 23) ∧ (v 1 (34 + 7 * x0.toNatClampNeg)).toInt = 1 ∧ (v 1 (38 + 7 * x0.toNatClampNeg)).toInt ≠ 5 → r = v 1 (38 + 7 * x0.toNatClampNeg) + 1 - 1 ∧ (∀ n : Nat, u 1 n = if n = 38 + 7 * x0.toNatClampNeg then v 1 (38 + 7 * x0.toNatClampNeg) + 1 else if n = 162 + 25 * x0.toNatClampNeg + 5 * (v 1 (38 + 7 * x0.toNatClampNeg)).toNatClampNeg then x4 else if n = 161 + 25 * x0.toNatClampNeg + 5 * (v 1 (38 + 7 * x0.toNatClampNeg)).toNatClampNeg then x3 else if n = 160 + 25 * x0.toNatClampNeg + 5 * (v 1 (38 + 7 * x0.toNatClampNeg)).toNatClampNeg then x2 else if n = 159 + 25 * x0.toNatClampNeg + 5 * (v 1 (38 + 7 * x0.toNatClampNeg)).toNatClampNeg then 1 else if n = 158 + 25 * x0.toNatClampNeg + 5 * (v 1 (38 + 7 * x0.toNatClampNeg)).toNatClampNeg then x1 else v 1 n) ∧ (∀ k : Nat, k ≠ 1 → u k = v k))) (fun u t => ex_Pst dC dI (va_A (wm ad cy v) sz) (wm ad cy u) t) (va_A (wm ad cy v) sz)) 0 0 (va_A (wm ad cy v) sz) := by
  refine Met.ofW (cc := cX8_term) (maxL := 8) (ret := (some .int)) (by decide) rfl ?_
  intro p e s m args below meth c s₁ B hml hv
  obtain ⟨rfl, hsz, hE, hP, hK, hD0⟩ := hv
  have hx := B.exec
  have hb := B.bytes
  have hr := B.returns
  have hts := atoms_spec (ws := wsX8_term) B.pre
  have hown : s.vm.findClass RX8 = some m.cls := findClass_of_methodNamed B.named
  have hlocks := B.notSynchronized
  subst hsz
  have hD := hD0.self (sz := s.heap.size)
  generalize hAe : va_A (wm ad cy v) s.heap.size = A at hD ⊢
  have hA : ∀ q : Nat, s.heap.size ≤ q → A q := fun q h => by rw [← hAe]; exact Or.inr h
  have hS : va_S A s.heap s.heap [] := va_S.rf
  have hP : va_P (dC, dI) vwCl (wm ad cy v) s.heap := hP
  have hl := lv_entry ([.ref (ad 0), .int x0, .int x1, .int 1, .int x2, .int x3, .int x4]) (n := 8) (Nat.le_of_ble_eq_true rfl)
  rw [lg_entry_eq]
  generalize (lg_sl ([.ref (ad 0), .int x0, .int x1, .int 1, .int x2, .int x3, .int x4]) ++ List.replicate (8 - (lg_sl ([.ref (ad 0), .int x0, .int x1, .int 1, .int x2, .int x3, .int x4])).length) Slot.unset).toArray = ls at hl ⊢
  have hl : lv_has ls 8 [(0, .ref (ad 0)), (1, .int x0), (2, .int x1), (3, .int 1), (4, .int x2), (5, .int x3), (6, .int x4)] := hl
  refine lv_aload_n hx hb dX8_term_0 rfl (lv_at hl 0 rfl) ?_
  refine lv_iload_n hx hb dX8_term_1 rfl (lv_at hl 1 rfl) ?_
  refine yw_i (w1 := fun (u : Nat → Nat → Int32) => wm ad cy u) hD hS hA (va_runV (As := [.int x0]) (rest := []) ⟨hx, hb, hml, hown, hts⟩ (q_X8_isCase l dC dI cy _ ad v hv x0) (cwV 1 hts gX8_term_X8_isCase rfl rfl rfl hd_V_X8_isCase_1 ⟨Nat.le_of_ble_eq_true rfl, Nat.le_of_ble_eq_true rfl⟩) (yw_preV hE hK hP hD (ci := 8) (q := (RX8, TX8, 11)) (q0 := 0) rfl (wm_at (by decide) rc_0)) rfl rfl hl.1 rfl (lv_room (Nat.le_of_ble_eq_true rfl)) dX8_term_2 ⟨Nat.le_of_ble_eq_true rfl, Nat.le_of_ble_eq_true rfl⟩) (fun r_1 v_1 H locs hw_1 hP hD hS => ?_)
  obtain ⟨-, hu_1, hw_1⟩ := hw_1
  replace hu_1 := hu_1.symm
  subst hu_1
  rcases hw_1 with ⟨rfl, ha_2⟩ | ⟨rfl, ha_2⟩
  · have hb_2 := hv 1 2 6 (by decide)
    have hj_2 : 0 ≤ x0.toInt ∧ x0.toInt ≤ 5 := ⟨by omega, by omega⟩
    refine lv_if_eq (tgt := 48) hx hb dX8_term_5 (by decide) (fun c9 => absurd c9 (by decide)) (fun _ => ?_)
    refine lv_iload_n hx hb dX8_term_8 rfl (lv_at hl 2 rfl) ?_
    refine yc_p hP hS (va_runS (As := [.int x1]) (rest := []) ⟨hx, hb, hml, hown, hts⟩ (c_X8_isSide l x1) (cwS 1 hts gX8_term_X8_isSide rfl rfl rfl hd_S_X8_isSide_1 ⟨Nat.le_of_ble_eq_true rfl, Nat.le_of_ble_eq_true rfl⟩) ex_preP rfl rfl hl.1 rfl (lv_room (Nat.le_of_ble_eq_true rfl)) dX8_term_9 ⟨Nat.le_of_ble_eq_true rfl, Nat.le_of_ble_eq_true rfl⟩) (fun r_3 H locs hw_3 hP hS => ?_)
    rcases wi_ca hw_3 with ⟨rfl, hc_4⟩ | ⟨rfl, hc_4⟩
    · have k_0 : (0 : Int32).toInt = 0 := by decide
      have k_1 : (1 : Int32).toInt = 1 := by decide
      have tc_4 := wi_tl hc_4
      refine lv_if_eq (tgt := 48) hx hb dX8_term_12 (by decide) (fun c9 => absurd c9 (by decide)) (fun _ => ?_)
      refine lv_iload hx hb dX8_term_15 (lv_at hl 4 rfl) ?_
      refine lv_iconst (v := 0) hx hb dX8_term_17 (by decide) ?_
      refine lv_iconst (v := 5) hx hb dX8_term_18 (by decide) ?_
      refine yc_p hP hS (va_runS (As := [.int x2, .int 0, .int 5]) (rest := []) ⟨hx, hb, hml, hown, hts⟩ (c_X8_in l x2 0 5) (cwS 3 hts gX8_term_X8_in rfl rfl rfl hd_S_X8_in_3 ⟨Nat.le_of_ble_eq_true rfl, Nat.le_of_ble_eq_true rfl⟩) ex_preP rfl rfl hl.1 rfl (lv_room (Nat.le_of_ble_eq_true rfl)) dX8_term_19 ⟨Nat.le_of_ble_eq_true rfl, Nat.le_of_ble_eq_true rfl⟩) (fun r_5 H locs hw_5 hP hS => ?_)
      rcases wi_ca hw_5 with ⟨rfl, hc_6⟩ | ⟨rfl, hc_6⟩
      · have k_5 : (5 : Int32).toInt = 5 := by decide
        have tc_6 := wi_tl hc_6
        refine lv_if_eq (tgt := 48) hx hb dX8_term_22 (by decide) (fun c9 => absurd c9 (by decide)) (fun _ => ?_)
        refine lv_iload hx hb dX8_term_25 (lv_at hl 5 rfl) ?_
        refine lv_iconst (v := 0) hx hb dX8_term_27 (by decide) ?_
        refine lv_bipush (v := 23) hx hb dX8_term_28 (by decide) ?_
        refine yc_p hP hS (va_runS (As := [.int x3, .int 0, .int 23]) (rest := []) ⟨hx, hb, hml, hown, hts⟩ (c_X8_in l x3 0 23) (cwS 3 hts gX8_term_X8_in rfl rfl rfl hd_S_X8_in_3 ⟨Nat.le_of_ble_eq_true rfl, Nat.le_of_ble_eq_true rfl⟩) ex_preP rfl rfl hl.1 rfl (lv_room (Nat.le_of_ble_eq_true rfl)) dX8_term_30 ⟨Nat.le_of_ble_eq_true rfl, Nat.le_of_ble_eq_true rfl⟩) (fun r_7 H locs hw_7 hP hS => ?_)
        rcases wi_ca hw_7 with ⟨rfl, hc_8⟩ | ⟨rfl, hc_8⟩
        · have k_23 : (23 : Int32).toInt = 23 := by decide
          have tc_8 := wi_tl hc_8
          refine lv_if_eq (tgt := 48) hx hb dX8_term_33 (by decide) (fun c9 => absurd c9 (by decide)) (fun _ => ?_)
          refine lv_iload hx hb dX8_term_36 (lv_at hl 6 rfl) ?_
          refine lv_iload hx hb dX8_term_38 (lv_at hl 5 rfl) ?_
          refine lv_bipush (v := 23) hx hb dX8_term_40 (by decide) ?_
          refine yc_p hP hS (va_runS (As := [.int x4, .int x3, .int 23]) (rest := []) ⟨hx, hb, hml, hown, hts⟩ (c_X8_in l x4 x3 23) (cwS 3 hts gX8_term_X8_in rfl rfl rfl hd_S_X8_in_3 ⟨Nat.le_of_ble_eq_true rfl, Nat.le_of_ble_eq_true rfl⟩) ex_preP rfl rfl hl.1 rfl (lv_room (Nat.le_of_ble_eq_true rfl)) dX8_term_42 ⟨Nat.le_of_ble_eq_true rfl, Nat.le_of_ble_eq_true rfl⟩) (fun r_9 H locs hw_9 hP hS => ?_)
          rcases wi_ca hw_9 with ⟨rfl, hc_10⟩ | ⟨rfl, hc_10⟩
          · have tc_10 := wi_tl hc_10
            refine lv_if_ne (tgt := 50) hx hb dX8_term_45 (by decide) (fun _ => ?_) (fun c9 => absurd c9 (by decide))
            refine lv_aload_n hx hb dX8_term_50 rfl (lv_at hl 0 rfl) ?_
            refine va_get (D := (dC, dI)) (ci := 8) (v := .ref (ad 1)) (C := RX8) (T := TX8) (N := 11) hx hb hts iwX8_term_X8 hown hK hP (0) (wm_at (by decide) rc_0) rfl 0 (by decide) (hts (.fieldLink RX8 7 "QuietStairsModel" "s" "[I") fwX8_term_1) (fun _ h9 => h9) rfl dX8_term_51 ?_
            refine lv_iload_n hx hb dX8_term_54 rfl (lv_at hl 1 rfl) ?_
            refine lv_iconst (v := 2) hx hb dX8_term_55 (by decide) ?_
            refine yc_p hP hS (va_runS (As := [.int x0, .int 2]) (rest := [.ref (ad 1)]) ⟨hx, hb, hml, hown, hts⟩ (c_X8_at l x0 2) (cwS 2 hts gX8_term_X8_at rfl rfl rfl hd_S_X8_at_2 ⟨Nat.le_of_ble_eq_true rfl, Nat.le_of_ble_eq_true rfl⟩) ex_preP rfl rfl hl.1 rfl (lv_room (Nat.le_of_ble_eq_true rfl)) dX8_term_56 ⟨Nat.le_of_ble_eq_true rfl, Nat.le_of_ble_eq_true rfl⟩) (fun r_11 H locs hw_11 hP hS => ?_)
            have k_2 : (2 : Int32).toInt = 2 := by decide
            have tr_11 : r_11.toInt = 32 + 7 * x0.toInt + (2 : Int32).toInt := t_at hw_11 ⟨by omega, by omega⟩ ⟨by omega, by omega⟩
            have zn_x0 : (x0.toNatClampNeg : Int) = x0.toInt := t_nn (by omega)
            have nr_11 : r_11.toNatClampNeg = 34 + 7 * x0.toNatClampNeg := by have z1 := t_nn (x := r_11) (by omega); omega
            refine va_iald hx hb hK hP (1) 0 (wm_at (by decide) rc_1) rfl (vp_in_iff.mpr ⟨by omega, by omega⟩) dX8_term_59 ?_
            refine lv_topi (fun x_12 ex_12 => ?_)
            rw [nr_11] at ex_12
            have qx_12 : x_12.toInt = (v 1 (34 + 7 * x0.toNatClampNeg)).toInt := congrArg Int32.toInt ex_12
            refine lv_iconst (v := 1) hx hb dX8_term_60 (by decide) ?_
            refine lv_icmp_eq (tgt := 67) hx hb dX8_term_61 (by decide) (fun c_13 => ?_) (fun c_13 => ?_)
            · have tc_13 : x_12.toInt = (1 : Int32).toInt := by rw [c_13]
              refine lv_aload_n hx hb dX8_term_67 rfl (lv_at hl 0 rfl) ?_
              refine va_get (D := (dC, dI)) (ci := 8) (v := .ref (ad 1)) (C := RX8) (T := TX8) (N := 11) hx hb hts iwX8_term_X8 hown hK hP (0) (wm_at (by decide) rc_0) rfl 0 (by decide) (hts (.fieldLink RX8 7 "QuietStairsModel" "s" "[I") fwX8_term_1) (fun _ h9 => h9) rfl dX8_term_68 ?_
              refine lv_iload_n hx hb dX8_term_71 rfl (lv_at hl 1 rfl) ?_
              refine lv_bipush (v := 6) hx hb dX8_term_72 (by decide) ?_
              refine yc_p hP hS (va_runS (As := [.int x0, .int 6]) (rest := [.ref (ad 1)]) ⟨hx, hb, hml, hown, hts⟩ (c_X8_at l x0 6) (cwS 2 hts gX8_term_X8_at rfl rfl rfl hd_S_X8_at_2 ⟨Nat.le_of_ble_eq_true rfl, Nat.le_of_ble_eq_true rfl⟩) ex_preP rfl rfl hl.1 rfl (lv_room (Nat.le_of_ble_eq_true rfl)) dX8_term_74 ⟨Nat.le_of_ble_eq_true rfl, Nat.le_of_ble_eq_true rfl⟩) (fun r_14 H locs hw_14 hP hS => ?_)
              have k_6 : (6 : Int32).toInt = 6 := by decide
              have tr_14 : r_14.toInt = 32 + 7 * x0.toInt + (6 : Int32).toInt := t_at hw_14 ⟨by omega, by omega⟩ ⟨by omega, by omega⟩
              have nr_14 : r_14.toNatClampNeg = 38 + 7 * x0.toNatClampNeg := by have z1 := t_nn (x := r_14) (by omega); omega
              refine va_iald hx hb hK hP (1) 0 (wm_at (by decide) rc_1) rfl (vp_in_iff.mpr ⟨by omega, by omega⟩) dX8_term_77 ?_
              refine lv_topi (fun x_15 ex_15 => ?_)
              have bzx_15 : 0 ≤ x_15.toInt ∧ x_15.toInt ≤ 5 := by rw [ex_15]; exact hv 1 _ 5 (bx_4 (i := x0.toInt) (s := 6) (by omega) ⟨by omega, by omega⟩ (by omega))
              rw [nr_14] at ex_15
              have qx_15 : x_15.toInt = (v 1 (38 + 7 * x0.toNatClampNeg)).toInt := congrArg Int32.toInt ex_15
              refine lv_iconst (v := 5) hx hb dX8_term_78 (by decide) ?_
              refine lv_icmp_ne (tgt := 85) hx hb dX8_term_79 (by decide) (fun c_16 => ?_) (fun c_16 => ?_)
              · have tc_16 : x_15.toInt ≠ (5 : Int32).toInt := fun q => absurd (Int32.toInt_inj.mp q) c_16
                refine lv_iload_n hx hb dX8_term_85 rfl (lv_at hl 1 rfl) ?_
                refine lv_aload_n hx hb dX8_term_86 rfl (lv_at hl 0 rfl) ?_
                refine va_get (D := (dC, dI)) (ci := 8) (v := .ref (ad 1)) (C := RX8) (T := TX8) (N := 11) hx hb hts iwX8_term_X8 hown hK hP (0) (wm_at (by decide) rc_0) rfl 0 (by decide) (hts (.fieldLink RX8 7 "QuietStairsModel" "s" "[I") fwX8_term_1) (fun _ h9 => h9) rfl dX8_term_87 ?_
                refine lv_iload_n hx hb dX8_term_90 rfl (lv_at hl 1 rfl) ?_
                refine lv_bipush (v := 6) hx hb dX8_term_91 (by decide) ?_
                refine yc_p hP hS (va_runS (As := [.int x0, .int 6]) (rest := [.ref (ad 1), .int x0]) ⟨hx, hb, hml, hown, hts⟩ (c_X8_at l x0 6) (cwS 2 hts gX8_term_X8_at rfl rfl rfl hd_S_X8_at_2 ⟨Nat.le_of_ble_eq_true rfl, Nat.le_of_ble_eq_true rfl⟩) ex_preP rfl rfl hl.1 rfl (lv_room (Nat.le_of_ble_eq_true rfl)) dX8_term_93 ⟨Nat.le_of_ble_eq_true rfl, Nat.le_of_ble_eq_true rfl⟩) (fun r_17 H locs hw_17 hP hS => ?_)
                obtain rfl : r_14 = r_17 := hw_14.trans hw_17.symm
                refine va_iald hx hb hK hP (1) 0 (wm_at (by decide) rc_1) rfl (vp_in_iff.mpr ⟨by omega, by omega⟩) dX8_term_96 ?_
                refine lv_topi (fun x_18 ex_18 => ?_)
                have bzx_18 : 0 ≤ x_18.toInt ∧ x_18.toInt ≤ 5 := by rw [ex_18]; exact hv 1 _ 5 (bx_4 (i := x0.toInt) (s := 6) (by omega) ⟨by omega, by omega⟩ (by omega))
                rw [nr_14] at ex_18
                obtain rfl : x_15 = x_18 := (ex_18.trans ex_15.symm).symm
                refine yc_p hP hS (va_runS (As := [.int x0, .int x_15]) (rest := []) ⟨hx, hb, hml, hown, hts⟩ (c_X8_termAt l x0 x_15) (cwS 2 hts gX8_term_X8_termAt rfl rfl rfl hd_S_X8_termAt_2 ⟨Nat.le_of_ble_eq_true rfl, Nat.le_of_ble_eq_true rfl⟩) ex_preP rfl rfl hl.1 rfl (lv_room (Nat.le_of_ble_eq_true rfl)) dX8_term_97 ⟨Nat.le_of_ble_eq_true rfl, Nat.le_of_ble_eq_true rfl⟩) (fun r_19 H locs hw_19 hP hS => ?_)
                have tr_19 : r_19.toInt = 158 + 25 * x0.toInt + 5 * x_15.toInt := t_tm hw_19 ⟨by omega, by omega⟩ ⟨by omega, by omega⟩
                refine lv_istore (lv' := [(7, .int r_19), (0, .ref (ad 0)), (1, .int x0), (2, .int x1), (3, .int 1), (4, .int x2), (5, .int x3), (6, .int x4)]) hx hb dX8_term_100 hl (by decide) rfl (fun ls hl => ?_)
                refine lv_aload_n hx hb dX8_term_102 rfl (lv_at hl 1 rfl) ?_
                refine va_get (D := (dC, dI)) (ci := 8) (v := .ref (ad 1)) (C := RX8) (T := TX8) (N := 11) hx hb hts iwX8_term_X8 hown hK hP (0) (wm_at (by decide) rc_0) rfl 0 (by decide) (hts (.fieldLink RX8 7 "QuietStairsModel" "s" "[I") fwX8_term_1) (fun _ h9 => h9) rfl dX8_term_103 ?_
                refine lv_iload hx hb dX8_term_106 (lv_at hl 0 rfl) ?_
                refine lv_iload_n hx hb dX8_term_108 rfl (lv_at hl 3 rfl) ?_
                refine va_iast hx hb hK hP hD hS (1) 0 (wm_at (by decide) rc_1) rfl (vp_in_iff.mpr ⟨by omega, by omega⟩) dX8_term_109 (fun H locs hP hD hS => ?_)
                have zn_x_15 : (x_15.toNatClampNeg : Int) = x_15.toInt := t_nn (by omega)
                have nr_19 : r_19.toNatClampNeg = 158 + 25 * x0.toNatClampNeg + 5 * x_15.toNatClampNeg := by have z1 := t_nn (x := r_19) (by omega); omega
                obtain ⟨v_20, ev_20⟩ : ∃ u : Nat → Nat → Int32, u = upr v 1 (upd (v 1) (r_19.toNatClampNeg) x1) := ⟨_, rfl⟩
                have hP : va_P (dC, dI) vwCl (wm ad cy v_20) H := by rw [ev_20, ← wm_put (e := _) rc_1]; exact hP
                have hD : va_D A (wm ad cy v_20) := by rw [ev_20, ← wm_put (e := _) rc_1]; exact hD
                have hv : Ir v_20 := by rw [ev_20]; exact hv.put (k := 1) (fun h q => by rw [show br 1 _ = _ from (bx_t0 (i := 5 * x0.toInt + x_15.toInt) (s := 0) (by omega) ⟨by omega, by omega⟩ (by omega))] at q; cases q; exact ⟨by omega, by omega⟩)
                rw [nr_19] at ev_20
                refine lv_aload_n hx hb dX8_term_110 rfl (lv_at hl 1 rfl) ?_
                refine va_get (D := (dC, dI)) (ci := 8) (v := .ref (ad 1)) (C := RX8) (T := TX8) (N := 11) hx hb hts iwX8_term_X8 hown hK hP (0) (wm_at (by decide) rc_0) rfl 0 (by decide) (hts (.fieldLink RX8 7 "QuietStairsModel" "s" "[I") fwX8_term_1) (fun _ h9 => h9) rfl dX8_term_111 ?_
                refine lv_iload hx hb dX8_term_114 (lv_at hl 0 rfl) ?_
                refine lv_iconst (v := 1) hx hb dX8_term_116 (by decide) ?_
                refine lv_iadd hx hb dX8_term_117 ?_
                refine lv_topi (fun x_21 ex_21 => ?_)
                have tx_21 : x_21.toInt = r_19.toInt + (1 : Int32).toInt := by rw [ex_21]; exact t_add ⟨by omega, by omega⟩
                refine lv_iload_n hx hb dX8_term_118 rfl (lv_at hl 4 rfl) ?_
                refine lv_if_eq (tgt := 126) hx hb dX8_term_119 (by decide) (fun c9 => absurd c9 (by decide)) (fun _ => ?_)
                refine lv_iconst (v := 1) hx hb dX8_term_122 (by decide) ?_
                refine lv_goto (tgt := 127) hx hb dX8_term_123 (by decide) ?_
                refine va_iast hx hb hK hP hD hS (1) 0 (wm_at (by decide) rc_1) rfl (vp_in_iff.mpr ⟨by omega, by omega⟩) dX8_term_127 (fun H locs hP hD hS => ?_)
                have nx_21 : x_21.toNatClampNeg = 159 + 25 * x0.toNatClampNeg + 5 * x_15.toNatClampNeg := by have z1 := t_nn (x := x_21) (by omega); omega
                obtain ⟨v_22, ev_22⟩ : ∃ u : Nat → Nat → Int32, u = upr v_20 1 (upd (v_20 1) (x_21.toNatClampNeg) 1) := ⟨_, rfl⟩
                have hP : va_P (dC, dI) vwCl (wm ad cy v_22) H := by rw [ev_22, ← wm_put (e := _) rc_1]; exact hP
                have hD : va_D A (wm ad cy v_22) := by rw [ev_22, ← wm_put (e := _) rc_1]; exact hD
                have hv : Ir v_22 := by rw [ev_22]; exact hv.put (k := 1) (fun h q => by rw [show br 1 _ = _ from (bx_t0 (i := 5 * x0.toInt + x_15.toInt) (s := 1) (by omega) ⟨by omega, by omega⟩ (by omega))] at q; cases q; exact ⟨by omega, by omega⟩)
                rw [nx_21] at ev_22
                refine lv_aload_n hx hb dX8_term_128 rfl (lv_at hl 1 rfl) ?_
                refine va_get (D := (dC, dI)) (ci := 8) (v := .ref (ad 1)) (C := RX8) (T := TX8) (N := 11) hx hb hts iwX8_term_X8 hown hK hP (0) (wm_at (by decide) rc_0) rfl 0 (by decide) (hts (.fieldLink RX8 7 "QuietStairsModel" "s" "[I") fwX8_term_1) (fun _ h9 => h9) rfl dX8_term_129 ?_
                refine lv_iload hx hb dX8_term_132 (lv_at hl 0 rfl) ?_
                refine lv_iconst (v := 2) hx hb dX8_term_134 (by decide) ?_
                refine lv_iadd hx hb dX8_term_135 ?_
                refine lv_topi (fun x_23 ex_23 => ?_)
                have tx_23 : x_23.toInt = r_19.toInt + (2 : Int32).toInt := by rw [ex_23]; exact t_add ⟨by omega, by omega⟩
                refine lv_iload hx hb dX8_term_136 (lv_at hl 5 rfl) ?_
                refine va_iast hx hb hK hP hD hS (1) 0 (wm_at (by decide) rc_1) rfl (vp_in_iff.mpr ⟨by omega, by omega⟩) dX8_term_138 (fun H locs hP hD hS => ?_)
                have nx_23 : x_23.toNatClampNeg = 160 + 25 * x0.toNatClampNeg + 5 * x_15.toNatClampNeg := by have z1 := t_nn (x := x_23) (by omega); omega
                obtain ⟨v_24, ev_24⟩ : ∃ u : Nat → Nat → Int32, u = upr v_22 1 (upd (v_22 1) (x_23.toNatClampNeg) x2) := ⟨_, rfl⟩
                have hP : va_P (dC, dI) vwCl (wm ad cy v_24) H := by rw [ev_24, ← wm_put (e := _) rc_1]; exact hP
                have hD : va_D A (wm ad cy v_24) := by rw [ev_24, ← wm_put (e := _) rc_1]; exact hD
                have hv : Ir v_24 := by rw [ev_24]; exact hv.put (k := 1) (fun h q => by rw [show br 1 _ = _ from (bx_t2 (i := 5 * x0.toInt + x_15.toInt) (s := 2) (by omega) ⟨by omega, by omega⟩ (by omega))] at q; cases q)
                rw [nx_23] at ev_24
                refine lv_aload_n hx hb dX8_term_139 rfl (lv_at hl 1 rfl) ?_
                refine va_get (D := (dC, dI)) (ci := 8) (v := .ref (ad 1)) (C := RX8) (T := TX8) (N := 11) hx hb hts iwX8_term_X8 hown hK hP (0) (wm_at (by decide) rc_0) rfl 0 (by decide) (hts (.fieldLink RX8 7 "QuietStairsModel" "s" "[I") fwX8_term_1) (fun _ h9 => h9) rfl dX8_term_140 ?_
                refine lv_iload hx hb dX8_term_143 (lv_at hl 0 rfl) ?_
                refine lv_iconst (v := 3) hx hb dX8_term_145 (by decide) ?_
                refine lv_iadd hx hb dX8_term_146 ?_
                refine lv_topi (fun x_25 ex_25 => ?_)
                have k_3 : (3 : Int32).toInt = 3 := by decide
                have tx_25 : x_25.toInt = r_19.toInt + (3 : Int32).toInt := by rw [ex_25]; exact t_add ⟨by omega, by omega⟩
                refine lv_iload hx hb dX8_term_147 (lv_at hl 6 rfl) ?_
                refine va_iast hx hb hK hP hD hS (1) 0 (wm_at (by decide) rc_1) rfl (vp_in_iff.mpr ⟨by omega, by omega⟩) dX8_term_149 (fun H locs hP hD hS => ?_)
                have nx_25 : x_25.toNatClampNeg = 161 + 25 * x0.toNatClampNeg + 5 * x_15.toNatClampNeg := by have z1 := t_nn (x := x_25) (by omega); omega
                obtain ⟨v_26, ev_26⟩ : ∃ u : Nat → Nat → Int32, u = upr v_24 1 (upd (v_24 1) (x_25.toNatClampNeg) x3) := ⟨_, rfl⟩
                have hP : va_P (dC, dI) vwCl (wm ad cy v_26) H := by rw [ev_26, ← wm_put (e := _) rc_1]; exact hP
                have hD : va_D A (wm ad cy v_26) := by rw [ev_26, ← wm_put (e := _) rc_1]; exact hD
                have hv : Ir v_26 := by rw [ev_26]; exact hv.put (k := 1) (fun h q => by rw [show br 1 _ = _ from (bx_t3 (i := 5 * x0.toInt + x_15.toInt) (s := 3) (by omega) ⟨by omega, by omega⟩ (by omega))] at q; cases q; exact ⟨by omega, by omega⟩)
                rw [nx_25] at ev_26
                refine lv_aload_n hx hb dX8_term_150 rfl (lv_at hl 1 rfl) ?_
                refine va_get (D := (dC, dI)) (ci := 8) (v := .ref (ad 1)) (C := RX8) (T := TX8) (N := 11) hx hb hts iwX8_term_X8 hown hK hP (0) (wm_at (by decide) rc_0) rfl 0 (by decide) (hts (.fieldLink RX8 7 "QuietStairsModel" "s" "[I") fwX8_term_1) (fun _ h9 => h9) rfl dX8_term_151 ?_
                refine lv_iload hx hb dX8_term_154 (lv_at hl 0 rfl) ?_
                refine lv_iconst (v := 4) hx hb dX8_term_156 (by decide) ?_
                refine lv_iadd hx hb dX8_term_157 ?_
                refine lv_topi (fun x_27 ex_27 => ?_)
                have k_4 : (4 : Int32).toInt = 4 := by decide
                have tx_27 : x_27.toInt = r_19.toInt + (4 : Int32).toInt := by rw [ex_27]; exact t_add ⟨by omega, by omega⟩
                refine lv_iload hx hb dX8_term_158 (lv_at hl 7 rfl) ?_
                refine va_iast hx hb hK hP hD hS (1) 0 (wm_at (by decide) rc_1) rfl (vp_in_iff.mpr ⟨by omega, by omega⟩) dX8_term_160 (fun H locs hP hD hS => ?_)
                have nx_27 : x_27.toNatClampNeg = 162 + 25 * x0.toNatClampNeg + 5 * x_15.toNatClampNeg := by have z1 := t_nn (x := x_27) (by omega); omega
                obtain ⟨v_28, ev_28⟩ : ∃ u : Nat → Nat → Int32, u = upr v_26 1 (upd (v_26 1) (x_27.toNatClampNeg) x4) := ⟨_, rfl⟩
                have hP : va_P (dC, dI) vwCl (wm ad cy v_28) H := by rw [ev_28, ← wm_put (e := _) rc_1]; exact hP
                have hD : va_D A (wm ad cy v_28) := by rw [ev_28, ← wm_put (e := _) rc_1]; exact hD
                have hv : Ir v_28 := by rw [ev_28]; exact hv.put (k := 1) (fun h q => by rw [show br 1 _ = _ from (bx_t3 (i := 5 * x0.toInt + x_15.toInt) (s := 4) (by omega) ⟨by omega, by omega⟩ (by omega))] at q; cases q; exact ⟨by omega, by omega⟩)
                rw [nx_27] at ev_28
                refine lv_aload_n hx hb dX8_term_161 rfl (lv_at hl 1 rfl) ?_
                refine va_get (D := (dC, dI)) (ci := 8) (v := .ref (ad 1)) (C := RX8) (T := TX8) (N := 11) hx hb hts iwX8_term_X8 hown hK hP (0) (wm_at (by decide) rc_0) rfl 0 (by decide) (hts (.fieldLink RX8 7 "QuietStairsModel" "s" "[I") fwX8_term_1) (fun _ h9 => h9) rfl dX8_term_162 ?_
                refine lv_iload_n hx hb dX8_term_165 rfl (lv_at hl 2 rfl) ?_
                refine lv_bipush (v := 6) hx hb dX8_term_166 (by decide) ?_
                refine yc_p hP hS (va_runS (As := [.int x0, .int 6]) (rest := [.ref (ad 1)]) ⟨hx, hb, hml, hown, hts⟩ (c_X8_at l x0 6) (cwS 2 hts gX8_term_X8_at rfl rfl rfl hd_S_X8_at_2 ⟨Nat.le_of_ble_eq_true rfl, Nat.le_of_ble_eq_true rfl⟩) ex_preP rfl rfl hl.1 rfl (lv_room (Nat.le_of_ble_eq_true rfl)) dX8_term_168 ⟨Nat.le_of_ble_eq_true rfl, Nat.le_of_ble_eq_true rfl⟩) (fun r_29 H locs hw_29 hP hS => ?_)
                obtain rfl : r_14 = r_29 := hw_14.trans hw_29.symm
                refine lv_dup2_11 hx hb dX8_term_171 rfl rfl ?_
                refine va_iald hx hb hK hP (1) 0 (wm_at (by decide) rc_1) rfl (vp_in_iff.mpr ⟨by omega, by omega⟩) dX8_term_172 ?_
                refine lv_topi (fun x_30 ex_30 => ?_)
                have bzx_30 : 0 ≤ x_30.toInt ∧ x_30.toInt ≤ 5 := by rw [ex_30]; exact hv 1 _ 5 (bx_4 (i := x0.toInt) (s := 6) (by omega) ⟨by omega, by omega⟩ (by omega))
                rw [nr_14] at ex_30
                rw [ev_28, upr_s, pk_un (by omega), ev_26, upr_s, pk_un (by omega), ev_24, upr_s, pk_un (by omega), ev_22, upr_s, pk_un (by omega), ev_20, upr_s, pk_un (by omega)] at ex_30
                obtain rfl : x_15 = x_30 := (ex_30.trans ex_15.symm).symm
                refine lv_iconst (v := 1) hx hb dX8_term_173 (by decide) ?_
                refine lv_iadd hx hb dX8_term_174 ?_
                refine lv_topi (fun x_31 ex_31 => ?_)
                have tx_31 : x_31.toInt = x_15.toInt + (1 : Int32).toInt := by rw [ex_31]; exact t_add ⟨by omega, by omega⟩
                refine va_iast hx hb hK hP hD hS (1) 0 (wm_at (by decide) rc_1) rfl (vp_in_iff.mpr ⟨by omega, by omega⟩) dX8_term_175 (fun H locs hP hD hS => ?_)
                obtain ⟨v_32, ev_32⟩ : ∃ u : Nat → Nat → Int32, u = upr v_28 1 (upd (v_28 1) (r_14.toNatClampNeg) x_31) := ⟨_, rfl⟩
                have hP : va_P (dC, dI) vwCl (wm ad cy v_32) H := by rw [ev_32, ← wm_put (e := _) rc_1]; exact hP
                have hD : va_D A (wm ad cy v_32) := by rw [ev_32, ← wm_put (e := _) rc_1]; exact hD
                have hv : Ir v_32 := by rw [ev_32]; exact hv.put (k := 1) (fun h q => by rw [show br 1 _ = _ from (bx_4 (i := x0.toInt) (s := 6) (by omega) ⟨by omega, by omega⟩ (by omega))] at q; cases q; exact ⟨by omega, by omega⟩)
                rw [nr_14] at ev_32
                refine lv_aload_n hx hb dX8_term_176 rfl (lv_at hl 1 rfl) ?_
                refine va_get (D := (dC, dI)) (ci := 8) (v := .ref (ad 1)) (C := RX8) (T := TX8) (N := 11) hx hb hts iwX8_term_X8 hown hK hP (0) (wm_at (by decide) rc_0) rfl 0 (by decide) (hts (.fieldLink RX8 7 "QuietStairsModel" "s" "[I") fwX8_term_1) (fun _ h9 => h9) rfl dX8_term_177 ?_
                refine lv_iload_n hx hb dX8_term_180 rfl (lv_at hl 2 rfl) ?_
                refine lv_bipush (v := 6) hx hb dX8_term_181 (by decide) ?_
                refine yc_p hP hS (va_runS (As := [.int x0, .int 6]) (rest := [.ref (ad 1)]) ⟨hx, hb, hml, hown, hts⟩ (c_X8_at l x0 6) (cwS 2 hts gX8_term_X8_at rfl rfl rfl hd_S_X8_at_2 ⟨Nat.le_of_ble_eq_true rfl, Nat.le_of_ble_eq_true rfl⟩) ex_preP rfl rfl hl.1 rfl (lv_room (Nat.le_of_ble_eq_true rfl)) dX8_term_183 ⟨Nat.le_of_ble_eq_true rfl, Nat.le_of_ble_eq_true rfl⟩) (fun r_33 H locs hw_33 hP hS => ?_)
                obtain rfl : r_14 = r_33 := hw_14.trans hw_33.symm
                refine va_iald hx hb hK hP (1) 0 (wm_at (by decide) rc_1) rfl (vp_in_iff.mpr ⟨by omega, by omega⟩) dX8_term_186 ?_
                refine lv_topi (fun x_34 ex_34 => ?_)
                have bzx_34 : 0 ≤ x_34.toInt ∧ x_34.toInt ≤ 5 := by rw [ex_34]; exact hv 1 _ 5 (bx_4 (i := x0.toInt) (s := 6) (by omega) ⟨by omega, by omega⟩ (by omega))
                rw [nr_14] at ex_34
                rw [ev_32, upr_s, pk_us] at ex_34
                obtain rfl : x_31 = x_34 := ex_34.symm
                refine lv_iconst (v := 1) hx hb dX8_term_187 (by decide) ?_
                refine lv_isub hx hb dX8_term_188 ?_
                refine lv_topi (fun x_35 ex_35 => ?_)
                have tx_35 : x_35.toInt = x_31.toInt - (1 : Int32).toInt := by rw [ex_35]; exact t_sub ⟨by omega, by omega⟩
                have hpost : (¬ ((0 ≤ x0.toInt ∧ x0.toInt < (v 1 2).toInt) ∧ (0 ≤ x1.toInt ∧ x1.toInt ≤ 1) ∧ (0 ≤ x2.toInt ∧ x2.toInt ≤ 5) ∧ (0 ≤ x3.toInt ∧ x3.toInt ≤ 23) ∧ x3.toInt ≤ x4.toInt ∧ x4.toInt ≤ 23) → x_35 = -1 ∧ v_32 = v) ∧ (((0 ≤ x0.toInt ∧ x0.toInt < (v 1 2).toInt) ∧ (0 ≤ x1.toInt ∧ x1.toInt ≤ 1) ∧ (0 ≤ x2.toInt ∧ x2.toInt ≤ 5) ∧ (0 ≤ x3.toInt ∧ x3.toInt ≤ 23) ∧ x3.toInt ≤ x4.toInt ∧ x4.toInt ≤ 23) ∧ (v 1 (34 + 7 * x0.toNatClampNeg)).toInt ≠ 1 → x_35 = -4 ∧ v_32 = v) ∧ (((0 ≤ x0.toInt ∧ x0.toInt < (v 1 2).toInt) ∧ (0 ≤ x1.toInt ∧ x1.toInt ≤ 1) ∧ (0 ≤ x2.toInt ∧ x2.toInt ≤ 5) ∧ (0 ≤ x3.toInt ∧ x3.toInt ≤ 23) ∧ x3.toInt ≤ x4.toInt ∧ x4.toInt ≤ 23) ∧ (v 1 (34 + 7 * x0.toNatClampNeg)).toInt = 1 ∧ (v 1 (38 + 7 * x0.toNatClampNeg)).toInt = 5 → x_35 = -2 ∧ v_32 = v) ∧ (((0 ≤ x0.toInt ∧ x0.toInt < (v 1 2).toInt) ∧ (0 ≤ x1.toInt ∧ x1.toInt ≤ 1) ∧ (0 ≤ x2.toInt ∧ x2.toInt ≤ 5) ∧ (0 ≤ x3.toInt ∧ x3.toInt ≤ 23) ∧ x3.toInt ≤ x4.toInt ∧ x4.toInt ≤ 23) ∧ (v 1 (34 + 7 * x0.toNatClampNeg)).toInt = 1 ∧ (v 1 (38 + 7 * x0.toNatClampNeg)).toInt ≠ 5 → x_35 = v 1 (38 + 7 * x0.toNatClampNeg) + 1 - 1 ∧ (∀ n : Nat, v_32 1 n = if n = 38 + 7 * x0.toNatClampNeg then v 1 (38 + 7 * x0.toNatClampNeg) + 1 else if n = 162 + 25 * x0.toNatClampNeg + 5 * (v 1 (38 + 7 * x0.toNatClampNeg)).toNatClampNeg then x4 else if n = 161 + 25 * x0.toNatClampNeg + 5 * (v 1 (38 + 7 * x0.toNatClampNeg)).toNatClampNeg then x3 else if n = 160 + 25 * x0.toNatClampNeg + 5 * (v 1 (38 + 7 * x0.toNatClampNeg)).toNatClampNeg then x2 else if n = 159 + 25 * x0.toNatClampNeg + 5 * (v 1 (38 + 7 * x0.toNatClampNeg)).toNatClampNeg then 1 else if n = 158 + 25 * x0.toNatClampNeg + 5 * (v 1 (38 + 7 * x0.toNatClampNeg)).toNatClampNeg then x1 else v 1 n) ∧ (∀ k : Nat, k ≠ 1 → v_32 k = v k)) := by
                  refine ⟨fun hq => ?_, fun hq => ?_, fun hq => ?_, fun hq => ?_⟩
                  · exfalso; omega
                  · exfalso; omega
                  · exfalso; omega
                  · exact ⟨by rw [ex_35, ex_31, ex_15], fun n => by rw [ev_32, up1, ev_28, up1, ev_26, up1, ev_24, up1, ev_22, up1, ev_20, up1, ex_31, ex_15], fun k hk => by rw [ev_32, upr_n hk, ev_28, upr_n hk, ev_26, upr_n hk, ev_24, upr_n hk, ev_22, upr_n hk, ev_20, upr_n hk]⟩
                exact W.iret (v := x_35) hx hb hr (fun t ht hW => ⟨⟨x_35, v_32, rfl, ⟨hv, hpost⟩, by rw [ht]; exact hP, hD⟩, hS.F ht⟩) hS.2.2 dX8_term_189
              · have tc_16 : x_15.toInt = (5 : Int32).toInt := by rw [c_16]
                refine lv_bipush (v := (-2)) hx hb dX8_term_82 (by decide) ?_
                have hpost : (¬ ((0 ≤ x0.toInt ∧ x0.toInt < (v 1 2).toInt) ∧ (0 ≤ x1.toInt ∧ x1.toInt ≤ 1) ∧ (0 ≤ x2.toInt ∧ x2.toInt ≤ 5) ∧ (0 ≤ x3.toInt ∧ x3.toInt ≤ 23) ∧ x3.toInt ≤ x4.toInt ∧ x4.toInt ≤ 23) → ((-2) : Int32) = -1 ∧ v = v) ∧ (((0 ≤ x0.toInt ∧ x0.toInt < (v 1 2).toInt) ∧ (0 ≤ x1.toInt ∧ x1.toInt ≤ 1) ∧ (0 ≤ x2.toInt ∧ x2.toInt ≤ 5) ∧ (0 ≤ x3.toInt ∧ x3.toInt ≤ 23) ∧ x3.toInt ≤ x4.toInt ∧ x4.toInt ≤ 23) ∧ (v 1 (34 + 7 * x0.toNatClampNeg)).toInt ≠ 1 → ((-2) : Int32) = -4 ∧ v = v) ∧ (((0 ≤ x0.toInt ∧ x0.toInt < (v 1 2).toInt) ∧ (0 ≤ x1.toInt ∧ x1.toInt ≤ 1) ∧ (0 ≤ x2.toInt ∧ x2.toInt ≤ 5) ∧ (0 ≤ x3.toInt ∧ x3.toInt ≤ 23) ∧ x3.toInt ≤ x4.toInt ∧ x4.toInt ≤ 23) ∧ (v 1 (34 + 7 * x0.toNatClampNeg)).toInt = 1 ∧ (v 1 (38 + 7 * x0.toNatClampNeg)).toInt = 5 → ((-2) : Int32) = -2 ∧ v = v) ∧ (((0 ≤ x0.toInt ∧ x0.toInt < (v 1 2).toInt) ∧ (0 ≤ x1.toInt ∧ x1.toInt ≤ 1) ∧ (0 ≤ x2.toInt ∧ x2.toInt ≤ 5) ∧ (0 ≤ x3.toInt ∧ x3.toInt ≤ 23) ∧ x3.toInt ≤ x4.toInt ∧ x4.toInt ≤ 23) ∧ (v 1 (34 + 7 * x0.toNatClampNeg)).toInt = 1 ∧ (v 1 (38 + 7 * x0.toNatClampNeg)).toInt ≠ 5 → ((-2) : Int32) = v 1 (38 + 7 * x0.toNatClampNeg) + 1 - 1 ∧ (∀ n : Nat, v 1 n = if n = 38 + 7 * x0.toNatClampNeg then v 1 (38 + 7 * x0.toNatClampNeg) + 1 else if n = 162 + 25 * x0.toNatClampNeg + 5 * (v 1 (38 + 7 * x0.toNatClampNeg)).toNatClampNeg then x4 else if n = 161 + 25 * x0.toNatClampNeg + 5 * (v 1 (38 + 7 * x0.toNatClampNeg)).toNatClampNeg then x3 else if n = 160 + 25 * x0.toNatClampNeg + 5 * (v 1 (38 + 7 * x0.toNatClampNeg)).toNatClampNeg then x2 else if n = 159 + 25 * x0.toNatClampNeg + 5 * (v 1 (38 + 7 * x0.toNatClampNeg)).toNatClampNeg then 1 else if n = 158 + 25 * x0.toNatClampNeg + 5 * (v 1 (38 + 7 * x0.toNatClampNeg)).toNatClampNeg then x1 else v 1 n) ∧ (∀ k : Nat, k ≠ 1 → v k = v k)) := by
                  refine ⟨fun hq => ?_, fun hq => ?_, fun hq => ?_, fun hq => ?_⟩
                  · exfalso; omega
                  · exfalso; omega
                  · exact ⟨rfl, rfl⟩
                  · exfalso; omega
                exact W.iret (v := (-2)) hx hb hr (fun t ht hW => ⟨⟨(-2), v, rfl, ⟨hv, hpost⟩, by rw [ht]; exact hP, hD⟩, hS.F ht⟩) hS.2.2 dX8_term_84
            · have tc_13 : x_12.toInt ≠ (1 : Int32).toInt := fun q => absurd (Int32.toInt_inj.mp q) c_13
              refine lv_bipush (v := (-4)) hx hb dX8_term_64 (by decide) ?_
              have hpost : (¬ ((0 ≤ x0.toInt ∧ x0.toInt < (v 1 2).toInt) ∧ (0 ≤ x1.toInt ∧ x1.toInt ≤ 1) ∧ (0 ≤ x2.toInt ∧ x2.toInt ≤ 5) ∧ (0 ≤ x3.toInt ∧ x3.toInt ≤ 23) ∧ x3.toInt ≤ x4.toInt ∧ x4.toInt ≤ 23) → ((-4) : Int32) = -1 ∧ v = v) ∧ (((0 ≤ x0.toInt ∧ x0.toInt < (v 1 2).toInt) ∧ (0 ≤ x1.toInt ∧ x1.toInt ≤ 1) ∧ (0 ≤ x2.toInt ∧ x2.toInt ≤ 5) ∧ (0 ≤ x3.toInt ∧ x3.toInt ≤ 23) ∧ x3.toInt ≤ x4.toInt ∧ x4.toInt ≤ 23) ∧ (v 1 (34 + 7 * x0.toNatClampNeg)).toInt ≠ 1 → ((-4) : Int32) = -4 ∧ v = v) ∧ (((0 ≤ x0.toInt ∧ x0.toInt < (v 1 2).toInt) ∧ (0 ≤ x1.toInt ∧ x1.toInt ≤ 1) ∧ (0 ≤ x2.toInt ∧ x2.toInt ≤ 5) ∧ (0 ≤ x3.toInt ∧ x3.toInt ≤ 23) ∧ x3.toInt ≤ x4.toInt ∧ x4.toInt ≤ 23) ∧ (v 1 (34 + 7 * x0.toNatClampNeg)).toInt = 1 ∧ (v 1 (38 + 7 * x0.toNatClampNeg)).toInt = 5 → ((-4) : Int32) = -2 ∧ v = v) ∧ (((0 ≤ x0.toInt ∧ x0.toInt < (v 1 2).toInt) ∧ (0 ≤ x1.toInt ∧ x1.toInt ≤ 1) ∧ (0 ≤ x2.toInt ∧ x2.toInt ≤ 5) ∧ (0 ≤ x3.toInt ∧ x3.toInt ≤ 23) ∧ x3.toInt ≤ x4.toInt ∧ x4.toInt ≤ 23) ∧ (v 1 (34 + 7 * x0.toNatClampNeg)).toInt = 1 ∧ (v 1 (38 + 7 * x0.toNatClampNeg)).toInt ≠ 5 → ((-4) : Int32) = v 1 (38 + 7 * x0.toNatClampNeg) + 1 - 1 ∧ (∀ n : Nat, v 1 n = if n = 38 + 7 * x0.toNatClampNeg then v 1 (38 + 7 * x0.toNatClampNeg) + 1 else if n = 162 + 25 * x0.toNatClampNeg + 5 * (v 1 (38 + 7 * x0.toNatClampNeg)).toNatClampNeg then x4 else if n = 161 + 25 * x0.toNatClampNeg + 5 * (v 1 (38 + 7 * x0.toNatClampNeg)).toNatClampNeg then x3 else if n = 160 + 25 * x0.toNatClampNeg + 5 * (v 1 (38 + 7 * x0.toNatClampNeg)).toNatClampNeg then x2 else if n = 159 + 25 * x0.toNatClampNeg + 5 * (v 1 (38 + 7 * x0.toNatClampNeg)).toNatClampNeg then 1 else if n = 158 + 25 * x0.toNatClampNeg + 5 * (v 1 (38 + 7 * x0.toNatClampNeg)).toNatClampNeg then x1 else v 1 n) ∧ (∀ k : Nat, k ≠ 1 → v k = v k)) := by
                refine ⟨fun hq => ?_, fun hq => ?_, fun hq => ?_, fun hq => ?_⟩
                · exfalso; omega
                · exact ⟨rfl, rfl⟩
                · exfalso; omega
                · exfalso; omega
              exact W.iret (v := (-4)) hx hb hr (fun t ht hW => ⟨⟨(-4), v, rfl, ⟨hv, hpost⟩, by rw [ht]; exact hP, hD⟩, hS.F ht⟩) hS.2.2 dX8_term_66
          · have tc_10 : ¬ (x3.toInt ≤ x4.toInt ∧ x4.toInt ≤ (23 : Int32).toInt) := fun q => hc_10 ⟨Int32.le_iff_toInt_le.mpr q.1, Int32.le_iff_toInt_le.mpr q.2⟩
            refine lv_if_ne (tgt := 50) hx hb dX8_term_45 (by decide) (fun c9 => absurd c9 (by decide)) (fun _ => ?_)
            refine lv_iconst (v := (-1)) hx hb dX8_term_48 (by decide) ?_
            have hpost : (¬ ((0 ≤ x0.toInt ∧ x0.toInt < (v 1 2).toInt) ∧ (0 ≤ x1.toInt ∧ x1.toInt ≤ 1) ∧ (0 ≤ x2.toInt ∧ x2.toInt ≤ 5) ∧ (0 ≤ x3.toInt ∧ x3.toInt ≤ 23) ∧ x3.toInt ≤ x4.toInt ∧ x4.toInt ≤ 23) → ((-1) : Int32) = -1 ∧ v = v) ∧ (((0 ≤ x0.toInt ∧ x0.toInt < (v 1 2).toInt) ∧ (0 ≤ x1.toInt ∧ x1.toInt ≤ 1) ∧ (0 ≤ x2.toInt ∧ x2.toInt ≤ 5) ∧ (0 ≤ x3.toInt ∧ x3.toInt ≤ 23) ∧ x3.toInt ≤ x4.toInt ∧ x4.toInt ≤ 23) ∧ (v 1 (34 + 7 * x0.toNatClampNeg)).toInt ≠ 1 → ((-1) : Int32) = -4 ∧ v = v) ∧ (((0 ≤ x0.toInt ∧ x0.toInt < (v 1 2).toInt) ∧ (0 ≤ x1.toInt ∧ x1.toInt ≤ 1) ∧ (0 ≤ x2.toInt ∧ x2.toInt ≤ 5) ∧ (0 ≤ x3.toInt ∧ x3.toInt ≤ 23) ∧ x3.toInt ≤ x4.toInt ∧ x4.toInt ≤ 23) ∧ (v 1 (34 + 7 * x0.toNatClampNeg)).toInt = 1 ∧ (v 1 (38 + 7 * x0.toNatClampNeg)).toInt = 5 → ((-1) : Int32) = -2 ∧ v = v) ∧ (((0 ≤ x0.toInt ∧ x0.toInt < (v 1 2).toInt) ∧ (0 ≤ x1.toInt ∧ x1.toInt ≤ 1) ∧ (0 ≤ x2.toInt ∧ x2.toInt ≤ 5) ∧ (0 ≤ x3.toInt ∧ x3.toInt ≤ 23) ∧ x3.toInt ≤ x4.toInt ∧ x4.toInt ≤ 23) ∧ (v 1 (34 + 7 * x0.toNatClampNeg)).toInt = 1 ∧ (v 1 (38 + 7 * x0.toNatClampNeg)).toInt ≠ 5 → ((-1) : Int32) = v 1 (38 + 7 * x0.toNatClampNeg) + 1 - 1 ∧ (∀ n : Nat, v 1 n = if n = 38 + 7 * x0.toNatClampNeg then v 1 (38 + 7 * x0.toNatClampNeg) + 1 else if n = 162 + 25 * x0.toNatClampNeg + 5 * (v 1 (38 + 7 * x0.toNatClampNeg)).toNatClampNeg then x4 else if n = 161 + 25 * x0.toNatClampNeg + 5 * (v 1 (38 + 7 * x0.toNatClampNeg)).toNatClampNeg then x3 else if n = 160 + 25 * x0.toNatClampNeg + 5 * (v 1 (38 + 7 * x0.toNatClampNeg)).toNatClampNeg then x2 else if n = 159 + 25 * x0.toNatClampNeg + 5 * (v 1 (38 + 7 * x0.toNatClampNeg)).toNatClampNeg then 1 else if n = 158 + 25 * x0.toNatClampNeg + 5 * (v 1 (38 + 7 * x0.toNatClampNeg)).toNatClampNeg then x1 else v 1 n) ∧ (∀ k : Nat, k ≠ 1 → v k = v k)) := by
              refine ⟨fun hq => ?_, fun hq => ?_, fun hq => ?_, fun hq => ?_⟩
              · exact ⟨rfl, rfl⟩
              · exfalso; omega
              · exfalso; omega
              · exfalso; omega
            exact W.iret (v := (-1)) hx hb hr (fun t ht hW => ⟨⟨(-1), v, rfl, ⟨hv, hpost⟩, by rw [ht]; exact hP, hD⟩, hS.F ht⟩) hS.2.2 dX8_term_49
        · have k_23 : (23 : Int32).toInt = 23 := by decide
          have tc_8 : ¬ ((0 : Int32).toInt ≤ x3.toInt ∧ x3.toInt ≤ (23 : Int32).toInt) := fun q => hc_8 ⟨Int32.le_iff_toInt_le.mpr q.1, Int32.le_iff_toInt_le.mpr q.2⟩
          refine lv_if_eq (tgt := 48) hx hb dX8_term_33 (by decide) (fun _ => ?_) (fun c9 => absurd c9 (by decide))
          refine lv_iconst (v := (-1)) hx hb dX8_term_48 (by decide) ?_
          have hpost : (¬ ((0 ≤ x0.toInt ∧ x0.toInt < (v 1 2).toInt) ∧ (0 ≤ x1.toInt ∧ x1.toInt ≤ 1) ∧ (0 ≤ x2.toInt ∧ x2.toInt ≤ 5) ∧ (0 ≤ x3.toInt ∧ x3.toInt ≤ 23) ∧ x3.toInt ≤ x4.toInt ∧ x4.toInt ≤ 23) → ((-1) : Int32) = -1 ∧ v = v) ∧ (((0 ≤ x0.toInt ∧ x0.toInt < (v 1 2).toInt) ∧ (0 ≤ x1.toInt ∧ x1.toInt ≤ 1) ∧ (0 ≤ x2.toInt ∧ x2.toInt ≤ 5) ∧ (0 ≤ x3.toInt ∧ x3.toInt ≤ 23) ∧ x3.toInt ≤ x4.toInt ∧ x4.toInt ≤ 23) ∧ (v 1 (34 + 7 * x0.toNatClampNeg)).toInt ≠ 1 → ((-1) : Int32) = -4 ∧ v = v) ∧ (((0 ≤ x0.toInt ∧ x0.toInt < (v 1 2).toInt) ∧ (0 ≤ x1.toInt ∧ x1.toInt ≤ 1) ∧ (0 ≤ x2.toInt ∧ x2.toInt ≤ 5) ∧ (0 ≤ x3.toInt ∧ x3.toInt ≤ 23) ∧ x3.toInt ≤ x4.toInt ∧ x4.toInt ≤ 23) ∧ (v 1 (34 + 7 * x0.toNatClampNeg)).toInt = 1 ∧ (v 1 (38 + 7 * x0.toNatClampNeg)).toInt = 5 → ((-1) : Int32) = -2 ∧ v = v) ∧ (((0 ≤ x0.toInt ∧ x0.toInt < (v 1 2).toInt) ∧ (0 ≤ x1.toInt ∧ x1.toInt ≤ 1) ∧ (0 ≤ x2.toInt ∧ x2.toInt ≤ 5) ∧ (0 ≤ x3.toInt ∧ x3.toInt ≤ 23) ∧ x3.toInt ≤ x4.toInt ∧ x4.toInt ≤ 23) ∧ (v 1 (34 + 7 * x0.toNatClampNeg)).toInt = 1 ∧ (v 1 (38 + 7 * x0.toNatClampNeg)).toInt ≠ 5 → ((-1) : Int32) = v 1 (38 + 7 * x0.toNatClampNeg) + 1 - 1 ∧ (∀ n : Nat, v 1 n = if n = 38 + 7 * x0.toNatClampNeg then v 1 (38 + 7 * x0.toNatClampNeg) + 1 else if n = 162 + 25 * x0.toNatClampNeg + 5 * (v 1 (38 + 7 * x0.toNatClampNeg)).toNatClampNeg then x4 else if n = 161 + 25 * x0.toNatClampNeg + 5 * (v 1 (38 + 7 * x0.toNatClampNeg)).toNatClampNeg then x3 else if n = 160 + 25 * x0.toNatClampNeg + 5 * (v 1 (38 + 7 * x0.toNatClampNeg)).toNatClampNeg then x2 else if n = 159 + 25 * x0.toNatClampNeg + 5 * (v 1 (38 + 7 * x0.toNatClampNeg)).toNatClampNeg then 1 else if n = 158 + 25 * x0.toNatClampNeg + 5 * (v 1 (38 + 7 * x0.toNatClampNeg)).toNatClampNeg then x1 else v 1 n) ∧ (∀ k : Nat, k ≠ 1 → v k = v k)) := by
            refine ⟨fun hq => ?_, fun hq => ?_, fun hq => ?_, fun hq => ?_⟩
            · exact ⟨rfl, rfl⟩
            · exfalso; omega
            · exfalso; omega
            · exfalso; omega
          exact W.iret (v := (-1)) hx hb hr (fun t ht hW => ⟨⟨(-1), v, rfl, ⟨hv, hpost⟩, by rw [ht]; exact hP, hD⟩, hS.F ht⟩) hS.2.2 dX8_term_49
      · have k_5 : (5 : Int32).toInt = 5 := by decide
        have tc_6 : ¬ ((0 : Int32).toInt ≤ x2.toInt ∧ x2.toInt ≤ (5 : Int32).toInt) := fun q => hc_6 ⟨Int32.le_iff_toInt_le.mpr q.1, Int32.le_iff_toInt_le.mpr q.2⟩
        refine lv_if_eq (tgt := 48) hx hb dX8_term_22 (by decide) (fun _ => ?_) (fun c9 => absurd c9 (by decide))
        refine lv_iconst (v := (-1)) hx hb dX8_term_48 (by decide) ?_
        have hpost : (¬ ((0 ≤ x0.toInt ∧ x0.toInt < (v 1 2).toInt) ∧ (0 ≤ x1.toInt ∧ x1.toInt ≤ 1) ∧ (0 ≤ x2.toInt ∧ x2.toInt ≤ 5) ∧ (0 ≤ x3.toInt ∧ x3.toInt ≤ 23) ∧ x3.toInt ≤ x4.toInt ∧ x4.toInt ≤ 23) → ((-1) : Int32) = -1 ∧ v = v) ∧ (((0 ≤ x0.toInt ∧ x0.toInt < (v 1 2).toInt) ∧ (0 ≤ x1.toInt ∧ x1.toInt ≤ 1) ∧ (0 ≤ x2.toInt ∧ x2.toInt ≤ 5) ∧ (0 ≤ x3.toInt ∧ x3.toInt ≤ 23) ∧ x3.toInt ≤ x4.toInt ∧ x4.toInt ≤ 23) ∧ (v 1 (34 + 7 * x0.toNatClampNeg)).toInt ≠ 1 → ((-1) : Int32) = -4 ∧ v = v) ∧ (((0 ≤ x0.toInt ∧ x0.toInt < (v 1 2).toInt) ∧ (0 ≤ x1.toInt ∧ x1.toInt ≤ 1) ∧ (0 ≤ x2.toInt ∧ x2.toInt ≤ 5) ∧ (0 ≤ x3.toInt ∧ x3.toInt ≤ 23) ∧ x3.toInt ≤ x4.toInt ∧ x4.toInt ≤ 23) ∧ (v 1 (34 + 7 * x0.toNatClampNeg)).toInt = 1 ∧ (v 1 (38 + 7 * x0.toNatClampNeg)).toInt = 5 → ((-1) : Int32) = -2 ∧ v = v) ∧ (((0 ≤ x0.toInt ∧ x0.toInt < (v 1 2).toInt) ∧ (0 ≤ x1.toInt ∧ x1.toInt ≤ 1) ∧ (0 ≤ x2.toInt ∧ x2.toInt ≤ 5) ∧ (0 ≤ x3.toInt ∧ x3.toInt ≤ 23) ∧ x3.toInt ≤ x4.toInt ∧ x4.toInt ≤ 23) ∧ (v 1 (34 + 7 * x0.toNatClampNeg)).toInt = 1 ∧ (v 1 (38 + 7 * x0.toNatClampNeg)).toInt ≠ 5 → ((-1) : Int32) = v 1 (38 + 7 * x0.toNatClampNeg) + 1 - 1 ∧ (∀ n : Nat, v 1 n = if n = 38 + 7 * x0.toNatClampNeg then v 1 (38 + 7 * x0.toNatClampNeg) + 1 else if n = 162 + 25 * x0.toNatClampNeg + 5 * (v 1 (38 + 7 * x0.toNatClampNeg)).toNatClampNeg then x4 else if n = 161 + 25 * x0.toNatClampNeg + 5 * (v 1 (38 + 7 * x0.toNatClampNeg)).toNatClampNeg then x3 else if n = 160 + 25 * x0.toNatClampNeg + 5 * (v 1 (38 + 7 * x0.toNatClampNeg)).toNatClampNeg then x2 else if n = 159 + 25 * x0.toNatClampNeg + 5 * (v 1 (38 + 7 * x0.toNatClampNeg)).toNatClampNeg then 1 else if n = 158 + 25 * x0.toNatClampNeg + 5 * (v 1 (38 + 7 * x0.toNatClampNeg)).toNatClampNeg then x1 else v 1 n) ∧ (∀ k : Nat, k ≠ 1 → v k = v k)) := by
          refine ⟨fun hq => ?_, fun hq => ?_, fun hq => ?_, fun hq => ?_⟩
          · exact ⟨rfl, rfl⟩
          · exfalso; omega
          · exfalso; omega
          · exfalso; omega
        exact W.iret (v := (-1)) hx hb hr (fun t ht hW => ⟨⟨(-1), v, rfl, ⟨hv, hpost⟩, by rw [ht]; exact hP, hD⟩, hS.F ht⟩) hS.2.2 dX8_term_49
    · have k_0 : (0 : Int32).toInt = 0 := by decide
      have k_1 : (1 : Int32).toInt = 1 := by decide
      have tc_4 : ¬ ((0 : Int32).toInt ≤ x1.toInt ∧ x1.toInt ≤ (1 : Int32).toInt) := fun q => hc_4 ⟨Int32.le_iff_toInt_le.mpr q.1, Int32.le_iff_toInt_le.mpr q.2⟩
      refine lv_if_eq (tgt := 48) hx hb dX8_term_12 (by decide) (fun _ => ?_) (fun c9 => absurd c9 (by decide))
      refine lv_iconst (v := (-1)) hx hb dX8_term_48 (by decide) ?_
      have hpost : (¬ ((0 ≤ x0.toInt ∧ x0.toInt < (v 1 2).toInt) ∧ (0 ≤ x1.toInt ∧ x1.toInt ≤ 1) ∧ (0 ≤ x2.toInt ∧ x2.toInt ≤ 5) ∧ (0 ≤ x3.toInt ∧ x3.toInt ≤ 23) ∧ x3.toInt ≤ x4.toInt ∧ x4.toInt ≤ 23) → ((-1) : Int32) = -1 ∧ v = v) ∧ (((0 ≤ x0.toInt ∧ x0.toInt < (v 1 2).toInt) ∧ (0 ≤ x1.toInt ∧ x1.toInt ≤ 1) ∧ (0 ≤ x2.toInt ∧ x2.toInt ≤ 5) ∧ (0 ≤ x3.toInt ∧ x3.toInt ≤ 23) ∧ x3.toInt ≤ x4.toInt ∧ x4.toInt ≤ 23) ∧ (v 1 (34 + 7 * x0.toNatClampNeg)).toInt ≠ 1 → ((-1) : Int32) = -4 ∧ v = v) ∧ (((0 ≤ x0.toInt ∧ x0.toInt < (v 1 2).toInt) ∧ (0 ≤ x1.toInt ∧ x1.toInt ≤ 1) ∧ (0 ≤ x2.toInt ∧ x2.toInt ≤ 5) ∧ (0 ≤ x3.toInt ∧ x3.toInt ≤ 23) ∧ x3.toInt ≤ x4.toInt ∧ x4.toInt ≤ 23) ∧ (v 1 (34 + 7 * x0.toNatClampNeg)).toInt = 1 ∧ (v 1 (38 + 7 * x0.toNatClampNeg)).toInt = 5 → ((-1) : Int32) = -2 ∧ v = v) ∧ (((0 ≤ x0.toInt ∧ x0.toInt < (v 1 2).toInt) ∧ (0 ≤ x1.toInt ∧ x1.toInt ≤ 1) ∧ (0 ≤ x2.toInt ∧ x2.toInt ≤ 5) ∧ (0 ≤ x3.toInt ∧ x3.toInt ≤ 23) ∧ x3.toInt ≤ x4.toInt ∧ x4.toInt ≤ 23) ∧ (v 1 (34 + 7 * x0.toNatClampNeg)).toInt = 1 ∧ (v 1 (38 + 7 * x0.toNatClampNeg)).toInt ≠ 5 → ((-1) : Int32) = v 1 (38 + 7 * x0.toNatClampNeg) + 1 - 1 ∧ (∀ n : Nat, v 1 n = if n = 38 + 7 * x0.toNatClampNeg then v 1 (38 + 7 * x0.toNatClampNeg) + 1 else if n = 162 + 25 * x0.toNatClampNeg + 5 * (v 1 (38 + 7 * x0.toNatClampNeg)).toNatClampNeg then x4 else if n = 161 + 25 * x0.toNatClampNeg + 5 * (v 1 (38 + 7 * x0.toNatClampNeg)).toNatClampNeg then x3 else if n = 160 + 25 * x0.toNatClampNeg + 5 * (v 1 (38 + 7 * x0.toNatClampNeg)).toNatClampNeg then x2 else if n = 159 + 25 * x0.toNatClampNeg + 5 * (v 1 (38 + 7 * x0.toNatClampNeg)).toNatClampNeg then 1 else if n = 158 + 25 * x0.toNatClampNeg + 5 * (v 1 (38 + 7 * x0.toNatClampNeg)).toNatClampNeg then x1 else v 1 n) ∧ (∀ k : Nat, k ≠ 1 → v k = v k)) := by
        refine ⟨fun hq => ?_, fun hq => ?_, fun hq => ?_, fun hq => ?_⟩
        · exact ⟨rfl, rfl⟩
        · exfalso; omega
        · exfalso; omega
        · exfalso; omega
      exact W.iret (v := (-1)) hx hb hr (fun t ht hW => ⟨⟨(-1), v, rfl, ⟨hv, hpost⟩, by rw [ht]; exact hP, hD⟩, hS.F ht⟩) hS.2.2 dX8_term_49
  · refine lv_if_eq (tgt := 48) hx hb dX8_term_5 (by decide) (fun _ => ?_) (fun c9 => absurd c9 (by decide))
    refine lv_iconst (v := (-1)) hx hb dX8_term_48 (by decide) ?_
    have hpost : (¬ ((0 ≤ x0.toInt ∧ x0.toInt < (v 1 2).toInt) ∧ (0 ≤ x1.toInt ∧ x1.toInt ≤ 1) ∧ (0 ≤ x2.toInt ∧ x2.toInt ≤ 5) ∧ (0 ≤ x3.toInt ∧ x3.toInt ≤ 23) ∧ x3.toInt ≤ x4.toInt ∧ x4.toInt ≤ 23) → ((-1) : Int32) = -1 ∧ v = v) ∧ (((0 ≤ x0.toInt ∧ x0.toInt < (v 1 2).toInt) ∧ (0 ≤ x1.toInt ∧ x1.toInt ≤ 1) ∧ (0 ≤ x2.toInt ∧ x2.toInt ≤ 5) ∧ (0 ≤ x3.toInt ∧ x3.toInt ≤ 23) ∧ x3.toInt ≤ x4.toInt ∧ x4.toInt ≤ 23) ∧ (v 1 (34 + 7 * x0.toNatClampNeg)).toInt ≠ 1 → ((-1) : Int32) = -4 ∧ v = v) ∧ (((0 ≤ x0.toInt ∧ x0.toInt < (v 1 2).toInt) ∧ (0 ≤ x1.toInt ∧ x1.toInt ≤ 1) ∧ (0 ≤ x2.toInt ∧ x2.toInt ≤ 5) ∧ (0 ≤ x3.toInt ∧ x3.toInt ≤ 23) ∧ x3.toInt ≤ x4.toInt ∧ x4.toInt ≤ 23) ∧ (v 1 (34 + 7 * x0.toNatClampNeg)).toInt = 1 ∧ (v 1 (38 + 7 * x0.toNatClampNeg)).toInt = 5 → ((-1) : Int32) = -2 ∧ v = v) ∧ (((0 ≤ x0.toInt ∧ x0.toInt < (v 1 2).toInt) ∧ (0 ≤ x1.toInt ∧ x1.toInt ≤ 1) ∧ (0 ≤ x2.toInt ∧ x2.toInt ≤ 5) ∧ (0 ≤ x3.toInt ∧ x3.toInt ≤ 23) ∧ x3.toInt ≤ x4.toInt ∧ x4.toInt ≤ 23) ∧ (v 1 (34 + 7 * x0.toNatClampNeg)).toInt = 1 ∧ (v 1 (38 + 7 * x0.toNatClampNeg)).toInt ≠ 5 → ((-1) : Int32) = v 1 (38 + 7 * x0.toNatClampNeg) + 1 - 1 ∧ (∀ n : Nat, v 1 n = if n = 38 + 7 * x0.toNatClampNeg then v 1 (38 + 7 * x0.toNatClampNeg) + 1 else if n = 162 + 25 * x0.toNatClampNeg + 5 * (v 1 (38 + 7 * x0.toNatClampNeg)).toNatClampNeg then x4 else if n = 161 + 25 * x0.toNatClampNeg + 5 * (v 1 (38 + 7 * x0.toNatClampNeg)).toNatClampNeg then x3 else if n = 160 + 25 * x0.toNatClampNeg + 5 * (v 1 (38 + 7 * x0.toNatClampNeg)).toNatClampNeg then x2 else if n = 159 + 25 * x0.toNatClampNeg + 5 * (v 1 (38 + 7 * x0.toNatClampNeg)).toNatClampNeg then 1 else if n = 158 + 25 * x0.toNatClampNeg + 5 * (v 1 (38 + 7 * x0.toNatClampNeg)).toNatClampNeg then x1 else v 1 n) ∧ (∀ k : Nat, k ≠ 1 → v k = v k)) := by
      refine ⟨fun hq => ?_, fun hq => ?_, fun hq => ?_, fun hq => ?_⟩
      · exact ⟨rfl, rfl⟩
      · exfalso; omega
      · exfalso; omega
      · exfalso; omega
    exact W.iret (v := (-1)) hx hb hr (fun t ht hW => ⟨⟨(-1), v, rfl, ⟨hv, hpost⟩, by rw [ht]; exact hP, hD⟩, hS.F ht⟩) hS.2.2 dX8_term_49

set_option maxHeartbeats 4000000 in
set_option maxRecDepth 100000 in
theorem e_X8_offer_0 (l : Launch) (dC : Nat → ClassId) (dI : Nat → Nat → Nat) (cy : Nat → ClassId) (sz : Nat) (ad : Nat → Nat) (v : Nat → Nat → Int32) (hv : Ir v) (x0 x1 : Int32) : Met l yX8_offer wsX8_offer ({ frames := 2, cells := 0, slots := 0, locals := 128 }) (va_Pc [.ref (ad 0), .int x0, .int 0, .int x1] (ex_Pre dC dI cy sz (wm ad cy v))) (va_Qi (fun (r : Int32) (u : Nat → Nat → Int32) => Ir u ∧ (¬ ((0 ≤ x0.toInt ∧ x0.toInt < (v 1 2).toInt) ∧ 0 ≤ x1.toInt ∧ x1.toInt ≤ 100) → r = -1 ∧ u = v) ∧ (((0 ≤ x0.toInt ∧ x0.toInt < (v 1 2).toInt) ∧ 0 ≤ x1.toInt ∧ x1.toInt ≤ 100) ∧ (v 1 (34 + 7 * x0.toNatClampNeg)).toInt ≠ 0 → r = -4 ∧ u = v) ∧ (((0 ≤ x0.toInt ∧ x0.toInt < (v 1 2).toInt) ∧ 0 ≤ x1.toInt ∧ x1.toInt ≤ 100) ∧ (v 1 (34 + 7 * x0.toNatClampNeg)).toInt = 0 ∧ 0 ≤ (v 1 (74 + 2 * x0.toNatClampNeg)).toInt → r = -3 ∧ u = v) ∧ (((0 ≤ x0.toInt ∧ x0.toInt < (v 1 2).toInt) ∧ 0 ≤ x1.toInt ∧ x1.toInt ≤ 100) ∧ (v 1 (34 + 7 * x0.toNatClampNeg)).toInt = 0 ∧ (v 1 (74 + 2 * x0.toNatClampNeg)).toInt < 0 ∧ (v 1 (36 + 7 * x0.toNatClampNeg)).toInt = 5 → r = -2 ∧ u = v) ∧ (((0 ≤ x0.toInt ∧ x0.toInt < (v 1 2).toInt) ∧ 0 ≤ x1.toInt ∧ x1.toInt ≤ 100) ∧ (v 1 (34 + 7 * x0.toNatClampNeg)).toInt = 0 ∧ (v 1 (74 + 2 * x0.toNatClampNeg)).toInt < 0 ∧ (v 1 (36 + 7 * x0.toNatClampNeg)).toInt ≠ 5 ∧ (v 1 (75 + 2 * x0.toNatClampNeg)).toInt < 0 → r = 0 ∧ (∀ n : Nat, u 1 n = if n = 74 + 2 * x0.toNatClampNeg then x1 else v 1 n) ∧ (∀ k : Nat, k ≠ 1 → u k = v k)) ∧ (((0 ≤ x0.toInt ∧ x0.toInt < (v 1 2).toInt) ∧ 0 ≤ x1.toInt ∧ x1.toInt ≤ 100) ∧ (v 1 (34 + 7 * x0.toNatClampNeg)).toInt = 0 ∧ (v 1 (74 + 2 * x0.toNatClampNeg)).toInt < 0 ∧ (v 1 (36 + 7 * x0.toNatClampNeg)).toInt ≠ 5 ∧ 0 ≤ (v 1 (75 + 2 * x0.toNatClampNeg)).toInt ∧ (v 1 (75 + 2 * x0.toNatClampNeg)).toInt < x1.toInt → r = 2 ∧ (∀ n : Nat, u 1 n = if n = 75 + 2 * x0.toNatClampNeg then -5 else if n = 74 + 2 * x0.toNatClampNeg then -5 else if n = 36 + 7 * x0.toNatClampNeg then v 1 (36 + 7 * x0.toNatClampNeg) + 1 else if n = 87 + 10 * x0.toNatClampNeg + 2 * (v 1 (36 + 7 * x0.toNatClampNeg)).toNatClampNeg then v 1 (75 + 2 * x0.toNatClampNeg) else if n = 86 + 10 * x0.toNatClampNeg + 2 * (v 1 (36 + 7 * x0.toNatClampNeg)).toNatClampNeg then x1 else if n = 74 + 2 * x0.toNatClampNeg then x1 else v 1 n) ∧ (∀ k : Nat, k ≠ 1 → u k = v k)) ∧ (((0 ≤ x0.toInt ∧ x0.toInt < (v 1 2).toInt) ∧ 0 ≤ x1.toInt ∧ x1.toInt ≤ 100) ∧ (v 1 (34 + 7 * x0.toNatClampNeg)).toInt = 0 ∧ (v 1 (74 + 2 * x0.toNatClampNeg)).toInt < 0 ∧ (v 1 (36 + 7 * x0.toNatClampNeg)).toInt ≠ 5 ∧ 0 ≤ (v 1 (75 + 2 * x0.toNatClampNeg)).toInt ∧ x1.toInt ≤ (v 1 (75 + 2 * x0.toNatClampNeg)).toInt → r = 1 ∧ (∀ n : Nat, u 1 n = if n = 35 + 7 * x0.toNatClampNeg then (x1 + v 1 (75 + 2 * x0.toNatClampNeg)) / 2 else if n = 34 + 7 * x0.toNatClampNeg then 1 else if n = 75 + 2 * x0.toNatClampNeg then -5 else if n = 74 + 2 * x0.toNatClampNeg then -5 else if n = 36 + 7 * x0.toNatClampNeg then v 1 (36 + 7 * x0.toNatClampNeg) + 1 else if n = 87 + 10 * x0.toNatClampNeg + 2 * (v 1 (36 + 7 * x0.toNatClampNeg)).toNatClampNeg then v 1 (75 + 2 * x0.toNatClampNeg) else if n = 86 + 10 * x0.toNatClampNeg + 2 * (v 1 (36 + 7 * x0.toNatClampNeg)).toNatClampNeg then x1 else if n = 74 + 2 * x0.toNatClampNeg then x1 else v 1 n) ∧ (∀ k : Nat, k ≠ 1 → u k = v k))) (fun u t => ex_Pst dC dI (va_A (wm ad cy v) sz) (wm ad cy u) t) (va_A (wm ad cy v) sz)) 0 0 (va_A (wm ad cy v) sz) := by
  refine Met.ofW (cc := cX8_offer) (maxL := 7) (ret := (some .int)) (by decide) rfl ?_
  intro p e s m args below meth c s₁ B hml hv
  obtain ⟨rfl, hsz, hE, hP, hK, hD0⟩ := hv
  have hx := B.exec
  have hb := B.bytes
  have hr := B.returns
  have hts := atoms_spec (ws := wsX8_offer) B.pre
  have hown : s.vm.findClass RX8 = some m.cls := findClass_of_methodNamed B.named
  have hlocks := B.notSynchronized
  subst hsz
  have hD := hD0.self (sz := s.heap.size)
  generalize hAe : va_A (wm ad cy v) s.heap.size = A at hD ⊢
  have hA : ∀ q : Nat, s.heap.size ≤ q → A q := fun q h => by rw [← hAe]; exact Or.inr h
  have hS : va_S A s.heap s.heap [] := va_S.rf
  have hP : va_P (dC, dI) vwCl (wm ad cy v) s.heap := hP
  have hl := lv_entry ([.ref (ad 0), .int x0, .int 0, .int x1]) (n := 7) (Nat.le_of_ble_eq_true rfl)
  rw [lg_entry_eq]
  generalize (lg_sl ([.ref (ad 0), .int x0, .int 0, .int x1]) ++ List.replicate (7 - (lg_sl ([.ref (ad 0), .int x0, .int 0, .int x1])).length) Slot.unset).toArray = ls at hl ⊢
  have hl : lv_has ls 7 [(0, .ref (ad 0)), (1, .int x0), (2, .int 0), (3, .int x1)] := hl
  refine lv_aload_n hx hb dX8_offer_0 rfl (lv_at hl 0 rfl) ?_
  refine lv_iload_n hx hb dX8_offer_1 rfl (lv_at hl 1 rfl) ?_
  refine yw_i (w1 := fun (u : Nat → Nat → Int32) => wm ad cy u) hD hS hA (va_runV (As := [.int x0]) (rest := []) ⟨hx, hb, hml, hown, hts⟩ (q_X8_isCase l dC dI cy _ ad v hv x0) (cwV 1 hts gX8_offer_X8_isCase rfl rfl rfl hd_V_X8_isCase_1 ⟨Nat.le_of_ble_eq_true rfl, Nat.le_of_ble_eq_true rfl⟩) (yw_preV hE hK hP hD (ci := 8) (q := (RX8, TX8, 11)) (q0 := 0) rfl (wm_at (by decide) rc_0)) rfl rfl hl.1 rfl (lv_room (Nat.le_of_ble_eq_true rfl)) dX8_offer_2 ⟨Nat.le_of_ble_eq_true rfl, Nat.le_of_ble_eq_true rfl⟩) (fun r_1 v_1 H locs hw_1 hP hD hS => ?_)
  obtain ⟨-, hu_1, hw_1⟩ := hw_1
  replace hu_1 := hu_1.symm
  subst hu_1
  rcases hw_1 with ⟨rfl, ha_2⟩ | ⟨rfl, ha_2⟩
  · have hb_2 := hv 1 2 6 (by decide)
    have hj_2 : 0 ≤ x0.toInt ∧ x0.toInt ≤ 5 := ⟨by omega, by omega⟩
    refine lv_if_eq (tgt := 25) hx hb dX8_offer_5 (by decide) (fun c9 => absurd c9 (by decide)) (fun _ => ?_)
    refine lv_iload_n hx hb dX8_offer_8 rfl (lv_at hl 2 rfl) ?_
    refine yc_p hP hS (va_runS (As := [.int 0]) (rest := []) ⟨hx, hb, hml, hown, hts⟩ (c_X8_isSide l 0) (cwS 1 hts gX8_offer_X8_isSide rfl rfl rfl hd_S_X8_isSide_1 ⟨Nat.le_of_ble_eq_true rfl, Nat.le_of_ble_eq_true rfl⟩) ex_preP rfl rfl hl.1 rfl (lv_room (Nat.le_of_ble_eq_true rfl)) dX8_offer_9 ⟨Nat.le_of_ble_eq_true rfl, Nat.le_of_ble_eq_true rfl⟩) (fun r_3 H locs hw_3 hP hS => ?_)
    rcases wi_ca hw_3 with ⟨rfl, hc_4⟩ | ⟨rfl, hc_4⟩
    · have k_0 : (0 : Int32).toInt = 0 := by decide
      have k_1 : (1 : Int32).toInt = 1 := by decide
      have tc_4 := wi_tl hc_4
      refine lv_if_eq (tgt := 25) hx hb dX8_offer_12 (by decide) (fun c9 => absurd c9 (by decide)) (fun _ => ?_)
      refine lv_iload_n hx hb dX8_offer_15 rfl (lv_at hl 3 rfl) ?_
      refine lv_iconst (v := 0) hx hb dX8_offer_16 (by decide) ?_
      refine lv_bipush (v := 100) hx hb dX8_offer_17 (by decide) ?_
      refine yc_p hP hS (va_runS (As := [.int x1, .int 0, .int 100]) (rest := []) ⟨hx, hb, hml, hown, hts⟩ (c_X8_in l x1 0 100) (cwS 3 hts gX8_offer_X8_in rfl rfl rfl hd_S_X8_in_3 ⟨Nat.le_of_ble_eq_true rfl, Nat.le_of_ble_eq_true rfl⟩) ex_preP rfl rfl hl.1 rfl (lv_room (Nat.le_of_ble_eq_true rfl)) dX8_offer_19 ⟨Nat.le_of_ble_eq_true rfl, Nat.le_of_ble_eq_true rfl⟩) (fun r_5 H locs hw_5 hP hS => ?_)
      rcases wi_ca hw_5 with ⟨rfl, hc_6⟩ | ⟨rfl, hc_6⟩
      · have k_100 : (100 : Int32).toInt = 100 := by decide
        have tc_6 := wi_tl hc_6
        refine lv_if_ne (tgt := 27) hx hb dX8_offer_22 (by decide) (fun _ => ?_) (fun c9 => absurd c9 (by decide))
        refine lv_aload_n hx hb dX8_offer_27 rfl (lv_at hl 0 rfl) ?_
        refine va_get (D := (dC, dI)) (ci := 8) (v := .ref (ad 1)) (C := RX8) (T := TX8) (N := 11) hx hb hts iwX8_offer_X8 hown hK hP (0) (wm_at (by decide) rc_0) rfl 0 (by decide) (hts (.fieldLink RX8 7 "QuietStairsModel" "s" "[I") fwX8_offer_1) (fun _ h9 => h9) rfl dX8_offer_28 ?_
        refine lv_iload_n hx hb dX8_offer_31 rfl (lv_at hl 1 rfl) ?_
        refine lv_iconst (v := 2) hx hb dX8_offer_32 (by decide) ?_
        refine yc_p hP hS (va_runS (As := [.int x0, .int 2]) (rest := [.ref (ad 1)]) ⟨hx, hb, hml, hown, hts⟩ (c_X8_at l x0 2) (cwS 2 hts gX8_offer_X8_at rfl rfl rfl hd_S_X8_at_2 ⟨Nat.le_of_ble_eq_true rfl, Nat.le_of_ble_eq_true rfl⟩) ex_preP rfl rfl hl.1 rfl (lv_room (Nat.le_of_ble_eq_true rfl)) dX8_offer_33 ⟨Nat.le_of_ble_eq_true rfl, Nat.le_of_ble_eq_true rfl⟩) (fun r_7 H locs hw_7 hP hS => ?_)
        have k_2 : (2 : Int32).toInt = 2 := by decide
        have tr_7 : r_7.toInt = 32 + 7 * x0.toInt + (2 : Int32).toInt := t_at hw_7 ⟨by omega, by omega⟩ ⟨by omega, by omega⟩
        have zn_x0 : (x0.toNatClampNeg : Int) = x0.toInt := t_nn (by omega)
        have nr_7 : r_7.toNatClampNeg = 34 + 7 * x0.toNatClampNeg := by have z1 := t_nn (x := r_7) (by omega); omega
        refine va_iald hx hb hK hP (1) 0 (wm_at (by decide) rc_1) rfl (vp_in_iff.mpr ⟨by omega, by omega⟩) dX8_offer_36 ?_
        refine lv_topi (fun x_8 ex_8 => ?_)
        rw [nr_7] at ex_8
        have qx_8 : x_8.toInt = (v 1 (34 + 7 * x0.toNatClampNeg)).toInt := congrArg Int32.toInt ex_8
        refine lv_if_eq (tgt := 43) hx hb dX8_offer_37 (by decide) (fun c_9 => ?_) (fun c_9 => ?_)
        · have tc_9 : x_8.toInt = (0 : Int32).toInt := by rw [c_9]
          refine lv_aload_n hx hb dX8_offer_43 rfl (lv_at hl 0 rfl) ?_
          refine va_get (D := (dC, dI)) (ci := 8) (v := .ref (ad 1)) (C := RX8) (T := TX8) (N := 11) hx hb hts iwX8_offer_X8 hown hK hP (0) (wm_at (by decide) rc_0) rfl 0 (by decide) (hts (.fieldLink RX8 7 "QuietStairsModel" "s" "[I") fwX8_offer_1) (fun _ h9 => h9) rfl dX8_offer_44 ?_
          refine lv_bipush (v := 74) hx hb dX8_offer_47 (by decide) ?_
          refine lv_iconst (v := 2) hx hb dX8_offer_49 (by decide) ?_
          refine lv_iload_n hx hb dX8_offer_50 rfl (lv_at hl 1 rfl) ?_
          refine lv_imul hx hb dX8_offer_51 ?_
          refine lv_topi (fun x_10 ex_10 => ?_)
          have tx_10 : x_10.toInt = 2 * x0.toInt := by rw [ex_10, t_mul (by rw [k_2]; omega), k_2]
          refine lv_iadd hx hb dX8_offer_52 ?_
          refine lv_topi (fun x_11 ex_11 => ?_)
          have k_74 : (74 : Int32).toInt = 74 := by decide
          have tx_11 : x_11.toInt = (74 : Int32).toInt + x_10.toInt := by rw [ex_11]; exact t_add ⟨by omega, by omega⟩
          refine lv_iload_n hx hb dX8_offer_53 rfl (lv_at hl 2 rfl) ?_
          refine lv_iadd hx hb dX8_offer_54 ?_
          refine lv_topi (fun x_12 ex_12 => ?_)
          have tx_12 : x_12.toInt = x_11.toInt + (0 : Int32).toInt := by rw [ex_12]; exact t_add ⟨by omega, by omega⟩
          have nx_12 : x_12.toNatClampNeg = 74 + 2 * x0.toNatClampNeg := by have z1 := t_nn (x := x_12) (by omega); omega
          refine va_iald hx hb hK hP (1) 0 (wm_at (by decide) rc_1) rfl (vp_in_iff.mpr ⟨by omega, by omega⟩) dX8_offer_55 ?_
          refine lv_topi (fun x_13 ex_13 => ?_)
          rw [nx_12] at ex_13
          have qx_13 : x_13.toInt = (v 1 (74 + 2 * x0.toNatClampNeg)).toInt := congrArg Int32.toInt ex_13
          refine lv_if_lt (tgt := 62) hx hb dX8_offer_56 (by decide) (fun c_14 => ?_) (fun c_14 => ?_)
          · have tc_14 : x_13.toInt < (0 : Int32).toInt := Int32.lt_iff_toInt_lt.mp c_14
            refine lv_aload_n hx hb dX8_offer_62 rfl (lv_at hl 0 rfl) ?_
            refine va_get (D := (dC, dI)) (ci := 8) (v := .ref (ad 1)) (C := RX8) (T := TX8) (N := 11) hx hb hts iwX8_offer_X8 hown hK hP (0) (wm_at (by decide) rc_0) rfl 0 (by decide) (hts (.fieldLink RX8 7 "QuietStairsModel" "s" "[I") fwX8_offer_1) (fun _ h9 => h9) rfl dX8_offer_63 ?_
            refine lv_iload_n hx hb dX8_offer_66 rfl (lv_at hl 1 rfl) ?_
            refine lv_iconst (v := 4) hx hb dX8_offer_67 (by decide) ?_
            refine yc_p hP hS (va_runS (As := [.int x0, .int 4]) (rest := [.ref (ad 1)]) ⟨hx, hb, hml, hown, hts⟩ (c_X8_at l x0 4) (cwS 2 hts gX8_offer_X8_at rfl rfl rfl hd_S_X8_at_2 ⟨Nat.le_of_ble_eq_true rfl, Nat.le_of_ble_eq_true rfl⟩) ex_preP rfl rfl hl.1 rfl (lv_room (Nat.le_of_ble_eq_true rfl)) dX8_offer_68 ⟨Nat.le_of_ble_eq_true rfl, Nat.le_of_ble_eq_true rfl⟩) (fun r_15 H locs hw_15 hP hS => ?_)
            have k_4 : (4 : Int32).toInt = 4 := by decide
            have tr_15 : r_15.toInt = 32 + 7 * x0.toInt + (4 : Int32).toInt := t_at hw_15 ⟨by omega, by omega⟩ ⟨by omega, by omega⟩
            have nr_15 : r_15.toNatClampNeg = 36 + 7 * x0.toNatClampNeg := by have z1 := t_nn (x := r_15) (by omega); omega
            refine va_iald hx hb hK hP (1) 0 (wm_at (by decide) rc_1) rfl (vp_in_iff.mpr ⟨by omega, by omega⟩) dX8_offer_71 ?_
            refine lv_topi (fun x_16 ex_16 => ?_)
            have bzx_16 : 0 ≤ x_16.toInt ∧ x_16.toInt ≤ 5 := by rw [ex_16]; exact hv 1 _ 5 (bx_4 (i := x0.toInt) (s := 4) (by omega) ⟨by omega, by omega⟩ (by omega))
            rw [nr_15] at ex_16
            have qx_16 : x_16.toInt = (v 1 (36 + 7 * x0.toNatClampNeg)).toInt := congrArg Int32.toInt ex_16
            refine lv_istore (lv' := [(4, .int x_16), (0, .ref (ad 0)), (1, .int x0), (2, .int 0), (3, .int x1)]) hx hb dX8_offer_72 hl (by decide) rfl (fun ls hl => ?_)
            refine lv_iload hx hb dX8_offer_74 (lv_at hl 0 rfl) ?_
            refine lv_iconst (v := 5) hx hb dX8_offer_76 (by decide) ?_
            have k_5 : (5 : Int32).toInt = 5 := by decide
            refine lv_icmp_ne (tgt := 83) hx hb dX8_offer_77 (by decide) (fun c_17 => ?_) (fun c_17 => ?_)
            · have tc_17 : x_16.toInt ≠ (5 : Int32).toInt := fun q => absurd (Int32.toInt_inj.mp q) c_17
              refine lv_aload_n hx hb dX8_offer_83 rfl (lv_at hl 1 rfl) ?_
              refine va_get (D := (dC, dI)) (ci := 8) (v := .ref (ad 1)) (C := RX8) (T := TX8) (N := 11) hx hb hts iwX8_offer_X8 hown hK hP (0) (wm_at (by decide) rc_0) rfl 0 (by decide) (hts (.fieldLink RX8 7 "QuietStairsModel" "s" "[I") fwX8_offer_1) (fun _ h9 => h9) rfl dX8_offer_84 ?_
              refine lv_bipush (v := 74) hx hb dX8_offer_87 (by decide) ?_
              refine lv_iconst (v := 2) hx hb dX8_offer_89 (by decide) ?_
              refine lv_iload_n hx hb dX8_offer_90 rfl (lv_at hl 2 rfl) ?_
              refine lv_imul hx hb dX8_offer_91 ?_
              refine lv_topi (fun x_18 ex_18 => ?_)
              obtain rfl : x_10 = x_18 := ex_10.trans ex_18.symm
              refine lv_iadd hx hb dX8_offer_92 ?_
              refine lv_topi (fun x_19 ex_19 => ?_)
              obtain rfl : x_11 = x_19 := ex_11.trans ex_19.symm
              refine lv_iload_n hx hb dX8_offer_93 rfl (lv_at hl 3 rfl) ?_
              refine lv_iadd hx hb dX8_offer_94 ?_
              refine lv_topi (fun x_20 ex_20 => ?_)
              obtain rfl : x_12 = x_20 := ex_12.trans ex_20.symm
              refine lv_iload_n hx hb dX8_offer_95 rfl (lv_at hl 4 rfl) ?_
              refine va_iast hx hb hK hP hD hS (1) 0 (wm_at (by decide) rc_1) rfl (vp_in_iff.mpr ⟨by omega, by omega⟩) dX8_offer_96 (fun H locs hP hD hS => ?_)
              obtain ⟨v_21, ev_21⟩ : ∃ u : Nat → Nat → Int32, u = upr v 1 (upd (v 1) (x_12.toNatClampNeg) x1) := ⟨_, rfl⟩
              have hP : va_P (dC, dI) vwCl (wm ad cy v_21) H := by rw [ev_21, ← wm_put (e := _) rc_1]; exact hP
              have hD : va_D A (wm ad cy v_21) := by rw [ev_21, ← wm_put (e := _) rc_1]; exact hD
              have hv : Ir v_21 := by rw [ev_21]; exact hv.put (k := 1) (fun h q => by rw [show br 1 _ = _ from (bx_n (by omega))] at q; cases q)
              rw [nx_12] at ev_21
              refine lv_aload_n hx hb dX8_offer_97 rfl (lv_at hl 1 rfl) ?_
              refine va_get (D := (dC, dI)) (ci := 8) (v := .ref (ad 1)) (C := RX8) (T := TX8) (N := 11) hx hb hts iwX8_offer_X8 hown hK hP (0) (wm_at (by decide) rc_0) rfl 0 (by decide) (hts (.fieldLink RX8 7 "QuietStairsModel" "s" "[I") fwX8_offer_1) (fun _ h9 => h9) rfl dX8_offer_98 ?_
              refine lv_bipush (v := 74) hx hb dX8_offer_101 (by decide) ?_
              refine lv_iconst (v := 2) hx hb dX8_offer_103 (by decide) ?_
              refine lv_iload_n hx hb dX8_offer_104 rfl (lv_at hl 2 rfl) ?_
              refine lv_imul hx hb dX8_offer_105 ?_
              refine lv_topi (fun x_22 ex_22 => ?_)
              obtain rfl : x_10 = x_22 := ex_10.trans ex_22.symm
              refine lv_iadd hx hb dX8_offer_106 ?_
              refine lv_topi (fun x_23 ex_23 => ?_)
              obtain rfl : x_11 = x_23 := ex_11.trans ex_23.symm
              refine lv_iconst (v := 1) hx hb dX8_offer_107 (by decide) ?_
              refine lv_iadd hx hb dX8_offer_108 ?_
              refine lv_topi (fun x_24 ex_24 => ?_)
              have tx_24 : x_24.toInt = x_11.toInt + (1 : Int32).toInt := by rw [ex_24]; exact t_add ⟨by omega, by omega⟩
              refine lv_iload_n hx hb dX8_offer_109 rfl (lv_at hl 3 rfl) ?_
              refine lv_isub hx hb dX8_offer_110 ?_
              refine lv_topi (fun x_25 ex_25 => ?_)
              have tx_25 : x_25.toInt = x_24.toInt - (0 : Int32).toInt := by rw [ex_25]; exact t_sub ⟨by omega, by omega⟩
              have nx_25 : x_25.toNatClampNeg = 75 + 2 * x0.toNatClampNeg := by have z1 := t_nn (x := x_25) (by omega); omega
              refine va_iald hx hb hK hP (1) 0 (wm_at (by decide) rc_1) rfl (vp_in_iff.mpr ⟨by omega, by omega⟩) dX8_offer_111 ?_
              refine lv_topi (fun x_26 ex_26 => ?_)
              rw [nx_25] at ex_26
              rw [ev_21, upr_s, pk_un (by omega)] at ex_26
              have qx_26 : x_26.toInt = (v 1 (75 + 2 * x0.toNatClampNeg)).toInt := congrArg Int32.toInt ex_26
              refine lv_if_ge (tgt := 117) hx hb dX8_offer_112 (by decide) (fun c_27 => ?_) (fun c_27 => ?_)
              · have tc_27 : x_26.toInt ≥ (0 : Int32).toInt := Int32.le_iff_toInt_le.mp c_27
                refine lv_aload_n hx hb dX8_offer_117 rfl (lv_at hl 1 rfl) ?_
                refine va_get (D := (dC, dI)) (ci := 8) (v := .ref (ad 1)) (C := RX8) (T := TX8) (N := 11) hx hb hts iwX8_offer_X8 hown hK hP (0) (wm_at (by decide) rc_0) rfl 0 (by decide) (hts (.fieldLink RX8 7 "QuietStairsModel" "s" "[I") fwX8_offer_1) (fun _ h9 => h9) rfl dX8_offer_118 ?_
                refine lv_bipush (v := 74) hx hb dX8_offer_121 (by decide) ?_
                refine lv_iconst (v := 2) hx hb dX8_offer_123 (by decide) ?_
                refine lv_iload_n hx hb dX8_offer_124 rfl (lv_at hl 2 rfl) ?_
                refine lv_imul hx hb dX8_offer_125 ?_
                refine lv_topi (fun x_28 ex_28 => ?_)
                obtain rfl : x_10 = x_28 := ex_10.trans ex_28.symm
                refine lv_iadd hx hb dX8_offer_126 ?_
                refine lv_topi (fun x_29 ex_29 => ?_)
                obtain rfl : x_11 = x_29 := ex_11.trans ex_29.symm
                have nx_11 : x_11.toNatClampNeg = 74 + 2 * x0.toNatClampNeg := by have z1 := t_nn (x := x_11) (by omega); omega
                refine va_iald hx hb hK hP (1) 0 (wm_at (by decide) rc_1) rfl (vp_in_iff.mpr ⟨by omega, by omega⟩) dX8_offer_127 ?_
                refine lv_topi (fun x_30 ex_30 => ?_)
                rw [nx_11] at ex_30
                rw [ev_21, upr_s, pk_us] at ex_30
                obtain rfl : x1 = x_30 := ex_30.symm
                refine lv_istore (lv' := [(5, .int x1), (4, .int x_16), (0, .ref (ad 0)), (1, .int x0), (2, .int 0), (3, .int x1)]) hx hb dX8_offer_128 hl (by decide) rfl (fun ls hl => ?_)
                refine lv_aload_n hx hb dX8_offer_130 rfl (lv_at hl 2 rfl) ?_
                refine va_get (D := (dC, dI)) (ci := 8) (v := .ref (ad 1)) (C := RX8) (T := TX8) (N := 11) hx hb hts iwX8_offer_X8 hown hK hP (0) (wm_at (by decide) rc_0) rfl 0 (by decide) (hts (.fieldLink RX8 7 "QuietStairsModel" "s" "[I") fwX8_offer_1) (fun _ h9 => h9) rfl dX8_offer_131 ?_
                refine lv_bipush (v := 74) hx hb dX8_offer_134 (by decide) ?_
                refine lv_iconst (v := 2) hx hb dX8_offer_136 (by decide) ?_
                refine lv_iload_n hx hb dX8_offer_137 rfl (lv_at hl 3 rfl) ?_
                refine lv_imul hx hb dX8_offer_138 ?_
                refine lv_topi (fun x_31 ex_31 => ?_)
                obtain rfl : x_10 = x_31 := ex_10.trans ex_31.symm
                refine lv_iadd hx hb dX8_offer_139 ?_
                refine lv_topi (fun x_32 ex_32 => ?_)
                obtain rfl : x_11 = x_32 := ex_11.trans ex_32.symm
                refine lv_iconst (v := 1) hx hb dX8_offer_140 (by decide) ?_
                refine lv_iadd hx hb dX8_offer_141 ?_
                refine lv_topi (fun x_33 ex_33 => ?_)
                obtain rfl : x_24 = x_33 := ex_24.trans ex_33.symm
                have nx_24 : x_24.toNatClampNeg = 75 + 2 * x0.toNatClampNeg := by have z1 := t_nn (x := x_24) (by omega); omega
                refine va_iald hx hb hK hP (1) 0 (wm_at (by decide) rc_1) rfl (vp_in_iff.mpr ⟨by omega, by omega⟩) dX8_offer_142 ?_
                refine lv_topi (fun x_34 ex_34 => ?_)
                rw [nx_24] at ex_34
                rw [ev_21, upr_s, pk_un (by omega)] at ex_34
                obtain rfl : x_26 = x_34 := (ex_34.trans ex_26.symm).symm
                refine lv_istore (lv' := [(6, .int x_26), (5, .int x1), (4, .int x_16), (0, .ref (ad 0)), (1, .int x0), (2, .int 0), (3, .int x1)]) hx hb dX8_offer_143 hl (by decide) rfl (fun ls hl => ?_)
                refine lv_aload_n hx hb dX8_offer_145 rfl (lv_at hl 3 rfl) ?_
                refine va_get (D := (dC, dI)) (ci := 8) (v := .ref (ad 1)) (C := RX8) (T := TX8) (N := 11) hx hb hts iwX8_offer_X8 hown hK hP (0) (wm_at (by decide) rc_0) rfl 0 (by decide) (hts (.fieldLink RX8 7 "QuietStairsModel" "s" "[I") fwX8_offer_1) (fun _ h9 => h9) rfl dX8_offer_146 ?_
                refine lv_bipush (v := 86) hx hb dX8_offer_149 (by decide) ?_
                refine lv_bipush (v := 10) hx hb dX8_offer_151 (by decide) ?_
                refine lv_iload_n hx hb dX8_offer_153 rfl (lv_at hl 4 rfl) ?_
                refine lv_imul hx hb dX8_offer_154 ?_
                refine lv_topi (fun x_35 ex_35 => ?_)
                have k_10 : (10 : Int32).toInt = 10 := by decide
                have tx_35 : x_35.toInt = 10 * x0.toInt := by rw [ex_35, t_mul (by rw [k_10]; omega), k_10]
                refine lv_iadd hx hb dX8_offer_155 ?_
                refine lv_topi (fun x_36 ex_36 => ?_)
                have k_86 : (86 : Int32).toInt = 86 := by decide
                have tx_36 : x_36.toInt = (86 : Int32).toInt + x_35.toInt := by rw [ex_36]; exact t_add ⟨by omega, by omega⟩
                refine lv_iconst (v := 2) hx hb dX8_offer_156 (by decide) ?_
                refine lv_iload hx hb dX8_offer_157 (lv_at hl 2 rfl) ?_
                refine lv_imul hx hb dX8_offer_159 ?_
                refine lv_topi (fun x_37 ex_37 => ?_)
                have tx_37 : x_37.toInt = 2 * x_16.toInt := by rw [ex_37, t_mul (by rw [k_2]; omega), k_2]
                refine lv_iadd hx hb dX8_offer_160 ?_
                refine lv_topi (fun x_38 ex_38 => ?_)
                have tx_38 : x_38.toInt = x_36.toInt + x_37.toInt := by rw [ex_38]; exact t_add ⟨by omega, by omega⟩
                refine lv_iload hx hb dX8_offer_161 (lv_at hl 1 rfl) ?_
                refine va_iast hx hb hK hP hD hS (1) 0 (wm_at (by decide) rc_1) rfl (vp_in_iff.mpr ⟨by omega, by omega⟩) dX8_offer_163 (fun H locs hP hD hS => ?_)
                have zn_x_16 : (x_16.toNatClampNeg : Int) = x_16.toInt := t_nn (by omega)
                have nx_38 : x_38.toNatClampNeg = 86 + 10 * x0.toNatClampNeg + 2 * x_16.toNatClampNeg := by have z1 := t_nn (x := x_38) (by omega); omega
                obtain ⟨v_39, ev_39⟩ : ∃ u : Nat → Nat → Int32, u = upr v_21 1 (upd (v_21 1) (x_38.toNatClampNeg) x1) := ⟨_, rfl⟩
                have hP : va_P (dC, dI) vwCl (wm ad cy v_39) H := by rw [ev_39, ← wm_put (e := _) rc_1]; exact hP
                have hD : va_D A (wm ad cy v_39) := by rw [ev_39, ← wm_put (e := _) rc_1]; exact hD
                have hv : Ir v_39 := by rw [ev_39]; exact hv.put (k := 1) (fun h q => by rw [show br 1 _ = _ from (bx_n (by omega))] at q; cases q)
                rw [nx_38] at ev_39
                refine lv_aload_n hx hb dX8_offer_164 rfl (lv_at hl 3 rfl) ?_
                refine va_get (D := (dC, dI)) (ci := 8) (v := .ref (ad 1)) (C := RX8) (T := TX8) (N := 11) hx hb hts iwX8_offer_X8 hown hK hP (0) (wm_at (by decide) rc_0) rfl 0 (by decide) (hts (.fieldLink RX8 7 "QuietStairsModel" "s" "[I") fwX8_offer_1) (fun _ h9 => h9) rfl dX8_offer_165 ?_
                refine lv_bipush (v := 86) hx hb dX8_offer_168 (by decide) ?_
                refine lv_bipush (v := 10) hx hb dX8_offer_170 (by decide) ?_
                refine lv_iload_n hx hb dX8_offer_172 rfl (lv_at hl 4 rfl) ?_
                refine lv_imul hx hb dX8_offer_173 ?_
                refine lv_topi (fun x_40 ex_40 => ?_)
                obtain rfl : x_35 = x_40 := ex_35.trans ex_40.symm
                refine lv_iadd hx hb dX8_offer_174 ?_
                refine lv_topi (fun x_41 ex_41 => ?_)
                obtain rfl : x_36 = x_41 := ex_36.trans ex_41.symm
                refine lv_iconst (v := 2) hx hb dX8_offer_175 (by decide) ?_
                refine lv_iload hx hb dX8_offer_176 (lv_at hl 2 rfl) ?_
                refine lv_imul hx hb dX8_offer_178 ?_
                refine lv_topi (fun x_42 ex_42 => ?_)
                obtain rfl : x_37 = x_42 := ex_37.trans ex_42.symm
                refine lv_iadd hx hb dX8_offer_179 ?_
                refine lv_topi (fun x_43 ex_43 => ?_)
                obtain rfl : x_38 = x_43 := ex_38.trans ex_43.symm
                refine lv_iconst (v := 1) hx hb dX8_offer_180 (by decide) ?_
                refine lv_iadd hx hb dX8_offer_181 ?_
                refine lv_topi (fun x_44 ex_44 => ?_)
                have tx_44 : x_44.toInt = x_38.toInt + (1 : Int32).toInt := by rw [ex_44]; exact t_add ⟨by omega, by omega⟩
                refine lv_iload hx hb dX8_offer_182 (lv_at hl 0 rfl) ?_
                refine va_iast hx hb hK hP hD hS (1) 0 (wm_at (by decide) rc_1) rfl (vp_in_iff.mpr ⟨by omega, by omega⟩) dX8_offer_184 (fun H locs hP hD hS => ?_)
                have nx_44 : x_44.toNatClampNeg = 87 + 10 * x0.toNatClampNeg + 2 * x_16.toNatClampNeg := by have z1 := t_nn (x := x_44) (by omega); omega
                obtain ⟨v_45, ev_45⟩ : ∃ u : Nat → Nat → Int32, u = upr v_39 1 (upd (v_39 1) (x_44.toNatClampNeg) x_26) := ⟨_, rfl⟩
                have hP : va_P (dC, dI) vwCl (wm ad cy v_45) H := by rw [ev_45, ← wm_put (e := _) rc_1]; exact hP
                have hD : va_D A (wm ad cy v_45) := by rw [ev_45, ← wm_put (e := _) rc_1]; exact hD
                have hv : Ir v_45 := by rw [ev_45]; exact hv.put (k := 1) (fun h q => by rw [show br 1 _ = _ from (bx_n (by omega))] at q; cases q)
                rw [nx_44] at ev_45
                refine lv_aload_n hx hb dX8_offer_185 rfl (lv_at hl 3 rfl) ?_
                refine va_get (D := (dC, dI)) (ci := 8) (v := .ref (ad 1)) (C := RX8) (T := TX8) (N := 11) hx hb hts iwX8_offer_X8 hown hK hP (0) (wm_at (by decide) rc_0) rfl 0 (by decide) (hts (.fieldLink RX8 7 "QuietStairsModel" "s" "[I") fwX8_offer_1) (fun _ h9 => h9) rfl dX8_offer_186 ?_
                refine lv_iload_n hx hb dX8_offer_189 rfl (lv_at hl 4 rfl) ?_
                refine lv_iconst (v := 4) hx hb dX8_offer_190 (by decide) ?_
                refine yc_p hP hS (va_runS (As := [.int x0, .int 4]) (rest := [.ref (ad 1)]) ⟨hx, hb, hml, hown, hts⟩ (c_X8_at l x0 4) (cwS 2 hts gX8_offer_X8_at rfl rfl rfl hd_S_X8_at_2 ⟨Nat.le_of_ble_eq_true rfl, Nat.le_of_ble_eq_true rfl⟩) ex_preP rfl rfl hl.1 rfl (lv_room (Nat.le_of_ble_eq_true rfl)) dX8_offer_191 ⟨Nat.le_of_ble_eq_true rfl, Nat.le_of_ble_eq_true rfl⟩) (fun r_46 H locs hw_46 hP hS => ?_)
                obtain rfl : r_15 = r_46 := hw_15.trans hw_46.symm
                refine lv_dup2_11 hx hb dX8_offer_194 rfl rfl ?_
                refine va_iald hx hb hK hP (1) 0 (wm_at (by decide) rc_1) rfl (vp_in_iff.mpr ⟨by omega, by omega⟩) dX8_offer_195 ?_
                refine lv_topi (fun x_47 ex_47 => ?_)
                have bzx_47 : 0 ≤ x_47.toInt ∧ x_47.toInt ≤ 5 := by rw [ex_47]; exact hv 1 _ 5 (bx_4 (i := x0.toInt) (s := 4) (by omega) ⟨by omega, by omega⟩ (by omega))
                rw [nr_15] at ex_47
                rw [ev_45, upr_s, pk_un (by omega), ev_39, upr_s, pk_un (by omega), ev_21, upr_s, pk_un (by omega)] at ex_47
                obtain rfl : x_16 = x_47 := (ex_47.trans ex_16.symm).symm
                refine lv_iconst (v := 1) hx hb dX8_offer_196 (by decide) ?_
                refine lv_iadd hx hb dX8_offer_197 ?_
                refine lv_topi (fun x_48 ex_48 => ?_)
                have tx_48 : x_48.toInt = x_16.toInt + (1 : Int32).toInt := by rw [ex_48]; exact t_add ⟨by omega, by omega⟩
                refine va_iast hx hb hK hP hD hS (1) 0 (wm_at (by decide) rc_1) rfl (vp_in_iff.mpr ⟨by omega, by omega⟩) dX8_offer_198 (fun H locs hP hD hS => ?_)
                obtain ⟨v_49, ev_49⟩ : ∃ u : Nat → Nat → Int32, u = upr v_45 1 (upd (v_45 1) (r_15.toNatClampNeg) x_48) := ⟨_, rfl⟩
                have hP : va_P (dC, dI) vwCl (wm ad cy v_49) H := by rw [ev_49, ← wm_put (e := _) rc_1]; exact hP
                have hD : va_D A (wm ad cy v_49) := by rw [ev_49, ← wm_put (e := _) rc_1]; exact hD
                have hv : Ir v_49 := by rw [ev_49]; exact hv.put (k := 1) (fun h q => by rw [show br 1 _ = _ from (bx_4 (i := x0.toInt) (s := 4) (by omega) ⟨by omega, by omega⟩ (by omega))] at q; cases q; exact ⟨by omega, by omega⟩)
                rw [nr_15] at ev_49
                refine lv_aload_n hx hb dX8_offer_199 rfl (lv_at hl 3 rfl) ?_
                refine va_get (D := (dC, dI)) (ci := 8) (v := .ref (ad 1)) (C := RX8) (T := TX8) (N := 11) hx hb hts iwX8_offer_X8 hown hK hP (0) (wm_at (by decide) rc_0) rfl 0 (by decide) (hts (.fieldLink RX8 7 "QuietStairsModel" "s" "[I") fwX8_offer_1) (fun _ h9 => h9) rfl dX8_offer_200 ?_
                refine lv_bipush (v := 74) hx hb dX8_offer_203 (by decide) ?_
                refine lv_iconst (v := 2) hx hb dX8_offer_205 (by decide) ?_
                refine lv_iload_n hx hb dX8_offer_206 rfl (lv_at hl 4 rfl) ?_
                refine lv_imul hx hb dX8_offer_207 ?_
                refine lv_topi (fun x_50 ex_50 => ?_)
                obtain rfl : x_10 = x_50 := ex_10.trans ex_50.symm
                refine lv_iadd hx hb dX8_offer_208 ?_
                refine lv_topi (fun x_51 ex_51 => ?_)
                obtain rfl : x_11 = x_51 := ex_11.trans ex_51.symm
                refine lv_bipush (v := (-5)) hx hb dX8_offer_209 (by decide) ?_
                refine va_iast hx hb hK hP hD hS (1) 0 (wm_at (by decide) rc_1) rfl (vp_in_iff.mpr ⟨by omega, by omega⟩) dX8_offer_211 (fun H locs hP hD hS => ?_)
                have k_m5 : ((-5) : Int32).toInt = -5 := by decide
                obtain ⟨v_52, ev_52⟩ : ∃ u : Nat → Nat → Int32, u = upr v_49 1 (upd (v_49 1) (x_11.toNatClampNeg) (-5)) := ⟨_, rfl⟩
                have hP : va_P (dC, dI) vwCl (wm ad cy v_52) H := by rw [ev_52, ← wm_put (e := _) rc_1]; exact hP
                have hD : va_D A (wm ad cy v_52) := by rw [ev_52, ← wm_put (e := _) rc_1]; exact hD
                have hv : Ir v_52 := by rw [ev_52]; exact hv.put (k := 1) (fun h q => by rw [show br 1 _ = _ from (bx_n (by omega))] at q; cases q)
                rw [nx_11] at ev_52
                refine lv_aload_n hx hb dX8_offer_212 rfl (lv_at hl 3 rfl) ?_
                refine va_get (D := (dC, dI)) (ci := 8) (v := .ref (ad 1)) (C := RX8) (T := TX8) (N := 11) hx hb hts iwX8_offer_X8 hown hK hP (0) (wm_at (by decide) rc_0) rfl 0 (by decide) (hts (.fieldLink RX8 7 "QuietStairsModel" "s" "[I") fwX8_offer_1) (fun _ h9 => h9) rfl dX8_offer_213 ?_
                refine lv_bipush (v := 74) hx hb dX8_offer_216 (by decide) ?_
                refine lv_iconst (v := 2) hx hb dX8_offer_218 (by decide) ?_
                refine lv_iload_n hx hb dX8_offer_219 rfl (lv_at hl 4 rfl) ?_
                refine lv_imul hx hb dX8_offer_220 ?_
                refine lv_topi (fun x_53 ex_53 => ?_)
                obtain rfl : x_10 = x_53 := ex_10.trans ex_53.symm
                refine lv_iadd hx hb dX8_offer_221 ?_
                refine lv_topi (fun x_54 ex_54 => ?_)
                obtain rfl : x_11 = x_54 := ex_11.trans ex_54.symm
                refine lv_iconst (v := 1) hx hb dX8_offer_222 (by decide) ?_
                refine lv_iadd hx hb dX8_offer_223 ?_
                refine lv_topi (fun x_55 ex_55 => ?_)
                obtain rfl : x_24 = x_55 := ex_24.trans ex_55.symm
                refine lv_bipush (v := (-5)) hx hb dX8_offer_224 (by decide) ?_
                refine va_iast hx hb hK hP hD hS (1) 0 (wm_at (by decide) rc_1) rfl (vp_in_iff.mpr ⟨by omega, by omega⟩) dX8_offer_226 (fun H locs hP hD hS => ?_)
                obtain ⟨v_56, ev_56⟩ : ∃ u : Nat → Nat → Int32, u = upr v_52 1 (upd (v_52 1) (x_24.toNatClampNeg) (-5)) := ⟨_, rfl⟩
                have hP : va_P (dC, dI) vwCl (wm ad cy v_56) H := by rw [ev_56, ← wm_put (e := _) rc_1]; exact hP
                have hD : va_D A (wm ad cy v_56) := by rw [ev_56, ← wm_put (e := _) rc_1]; exact hD
                have hv : Ir v_56 := by rw [ev_56]; exact hv.put (k := 1) (fun h q => by rw [show br 1 _ = _ from (bx_n (by omega))] at q; cases q)
                rw [nx_24] at ev_56
                refine lv_iload hx hb dX8_offer_227 (lv_at hl 0 rfl) ?_
                refine lv_iload hx hb dX8_offer_229 (lv_at hl 1 rfl) ?_
                refine lv_icmp_ge (tgt := 236) hx hb dX8_offer_231 (by decide) (fun c_57 => ?_) (fun c_57 => ?_)
                · have tc_57 : x_26.toInt ≥ x1.toInt := Int32.le_iff_toInt_le.mp c_57
                  refine lv_aload_n hx hb dX8_offer_236 rfl (lv_at hl 3 rfl) ?_
                  refine va_get (D := (dC, dI)) (ci := 8) (v := .ref (ad 1)) (C := RX8) (T := TX8) (N := 11) hx hb hts iwX8_offer_X8 hown hK hP (0) (wm_at (by decide) rc_0) rfl 0 (by decide) (hts (.fieldLink RX8 7 "QuietStairsModel" "s" "[I") fwX8_offer_1) (fun _ h9 => h9) rfl dX8_offer_237 ?_
                  refine lv_iload_n hx hb dX8_offer_240 rfl (lv_at hl 4 rfl) ?_
                  refine lv_iconst (v := 2) hx hb dX8_offer_241 (by decide) ?_
                  refine yc_p hP hS (va_runS (As := [.int x0, .int 2]) (rest := [.ref (ad 1)]) ⟨hx, hb, hml, hown, hts⟩ (c_X8_at l x0 2) (cwS 2 hts gX8_offer_X8_at rfl rfl rfl hd_S_X8_at_2 ⟨Nat.le_of_ble_eq_true rfl, Nat.le_of_ble_eq_true rfl⟩) ex_preP rfl rfl hl.1 rfl (lv_room (Nat.le_of_ble_eq_true rfl)) dX8_offer_242 ⟨Nat.le_of_ble_eq_true rfl, Nat.le_of_ble_eq_true rfl⟩) (fun r_58 H locs hw_58 hP hS => ?_)
                  obtain rfl : r_7 = r_58 := hw_7.trans hw_58.symm
                  refine lv_iconst (v := 1) hx hb dX8_offer_245 (by decide) ?_
                  refine va_iast hx hb hK hP hD hS (1) 0 (wm_at (by decide) rc_1) rfl (vp_in_iff.mpr ⟨by omega, by omega⟩) dX8_offer_246 (fun H locs hP hD hS => ?_)
                  obtain ⟨v_59, ev_59⟩ : ∃ u : Nat → Nat → Int32, u = upr v_56 1 (upd (v_56 1) (r_7.toNatClampNeg) 1) := ⟨_, rfl⟩
                  have hP : va_P (dC, dI) vwCl (wm ad cy v_59) H := by rw [ev_59, ← wm_put (e := _) rc_1]; exact hP
                  have hD : va_D A (wm ad cy v_59) := by rw [ev_59, ← wm_put (e := _) rc_1]; exact hD
                  have hv : Ir v_59 := by rw [ev_59]; exact hv.put (k := 1) (fun h q => by rw [show br 1 _ = _ from (bx_2 (i := x0.toInt) (s := 2) (by omega) ⟨by omega, by omega⟩ (by omega))] at q; cases q)
                  rw [nr_7] at ev_59
                  refine lv_aload_n hx hb dX8_offer_247 rfl (lv_at hl 3 rfl) ?_
                  refine va_get (D := (dC, dI)) (ci := 8) (v := .ref (ad 1)) (C := RX8) (T := TX8) (N := 11) hx hb hts iwX8_offer_X8 hown hK hP (0) (wm_at (by decide) rc_0) rfl 0 (by decide) (hts (.fieldLink RX8 7 "QuietStairsModel" "s" "[I") fwX8_offer_1) (fun _ h9 => h9) rfl dX8_offer_248 ?_
                  refine lv_iload_n hx hb dX8_offer_251 rfl (lv_at hl 4 rfl) ?_
                  refine lv_iconst (v := 3) hx hb dX8_offer_252 (by decide) ?_
                  refine yc_p hP hS (va_runS (As := [.int x0, .int 3]) (rest := [.ref (ad 1)]) ⟨hx, hb, hml, hown, hts⟩ (c_X8_at l x0 3) (cwS 2 hts gX8_offer_X8_at rfl rfl rfl hd_S_X8_at_2 ⟨Nat.le_of_ble_eq_true rfl, Nat.le_of_ble_eq_true rfl⟩) ex_preP rfl rfl hl.1 rfl (lv_room (Nat.le_of_ble_eq_true rfl)) dX8_offer_253 ⟨Nat.le_of_ble_eq_true rfl, Nat.le_of_ble_eq_true rfl⟩) (fun r_60 H locs hw_60 hP hS => ?_)
                  have k_3 : (3 : Int32).toInt = 3 := by decide
                  have tr_60 : r_60.toInt = 32 + 7 * x0.toInt + (3 : Int32).toInt := t_at hw_60 ⟨by omega, by omega⟩ ⟨by omega, by omega⟩
                  refine lv_iload hx hb dX8_offer_256 (lv_at hl 1 rfl) ?_
                  refine lv_iload hx hb dX8_offer_258 (lv_at hl 0 rfl) ?_
                  refine lv_iadd hx hb dX8_offer_260 ?_
                  refine lv_topi (fun x_61 ex_61 => ?_)
                  refine lv_iconst (v := 2) hx hb dX8_offer_261 (by decide) ?_
                  refine lv_idiv hx hb dX8_offer_262 (by decide) ?_
                  refine lv_topi (fun x_62 ex_62 => ?_)
                  refine va_iast hx hb hK hP hD hS (1) 0 (wm_at (by decide) rc_1) rfl (vp_in_iff.mpr ⟨by omega, by omega⟩) dX8_offer_263 (fun H locs hP hD hS => ?_)
                  have nr_60 : r_60.toNatClampNeg = 35 + 7 * x0.toNatClampNeg := by have z1 := t_nn (x := r_60) (by omega); omega
                  obtain ⟨v_63, ev_63⟩ : ∃ u : Nat → Nat → Int32, u = upr v_59 1 (upd (v_59 1) (r_60.toNatClampNeg) x_62) := ⟨_, rfl⟩
                  have hP : va_P (dC, dI) vwCl (wm ad cy v_63) H := by rw [ev_63, ← wm_put (e := _) rc_1]; exact hP
                  have hD : va_D A (wm ad cy v_63) := by rw [ev_63, ← wm_put (e := _) rc_1]; exact hD
                  have hv : Ir v_63 := by rw [ev_63]; exact hv.put (k := 1) (fun h q => by rw [show br 1 _ = _ from (bx_2 (i := x0.toInt) (s := 3) (by omega) ⟨by omega, by omega⟩ (by omega))] at q; cases q)
                  rw [nr_60] at ev_63
                  refine lv_iconst (v := 1) hx hb dX8_offer_264 (by decide) ?_
                  have hpost : (¬ ((0 ≤ x0.toInt ∧ x0.toInt < (v 1 2).toInt) ∧ 0 ≤ x1.toInt ∧ x1.toInt ≤ 100) → (1 : Int32) = -1 ∧ v_63 = v) ∧ (((0 ≤ x0.toInt ∧ x0.toInt < (v 1 2).toInt) ∧ 0 ≤ x1.toInt ∧ x1.toInt ≤ 100) ∧ (v 1 (34 + 7 * x0.toNatClampNeg)).toInt ≠ 0 → (1 : Int32) = -4 ∧ v_63 = v) ∧ (((0 ≤ x0.toInt ∧ x0.toInt < (v 1 2).toInt) ∧ 0 ≤ x1.toInt ∧ x1.toInt ≤ 100) ∧ (v 1 (34 + 7 * x0.toNatClampNeg)).toInt = 0 ∧ 0 ≤ (v 1 (74 + 2 * x0.toNatClampNeg)).toInt → (1 : Int32) = -3 ∧ v_63 = v) ∧ (((0 ≤ x0.toInt ∧ x0.toInt < (v 1 2).toInt) ∧ 0 ≤ x1.toInt ∧ x1.toInt ≤ 100) ∧ (v 1 (34 + 7 * x0.toNatClampNeg)).toInt = 0 ∧ (v 1 (74 + 2 * x0.toNatClampNeg)).toInt < 0 ∧ (v 1 (36 + 7 * x0.toNatClampNeg)).toInt = 5 → (1 : Int32) = -2 ∧ v_63 = v) ∧ (((0 ≤ x0.toInt ∧ x0.toInt < (v 1 2).toInt) ∧ 0 ≤ x1.toInt ∧ x1.toInt ≤ 100) ∧ (v 1 (34 + 7 * x0.toNatClampNeg)).toInt = 0 ∧ (v 1 (74 + 2 * x0.toNatClampNeg)).toInt < 0 ∧ (v 1 (36 + 7 * x0.toNatClampNeg)).toInt ≠ 5 ∧ (v 1 (75 + 2 * x0.toNatClampNeg)).toInt < 0 → (1 : Int32) = 0 ∧ (∀ n : Nat, v_63 1 n = if n = 74 + 2 * x0.toNatClampNeg then x1 else v 1 n) ∧ (∀ k : Nat, k ≠ 1 → v_63 k = v k)) ∧ (((0 ≤ x0.toInt ∧ x0.toInt < (v 1 2).toInt) ∧ 0 ≤ x1.toInt ∧ x1.toInt ≤ 100) ∧ (v 1 (34 + 7 * x0.toNatClampNeg)).toInt = 0 ∧ (v 1 (74 + 2 * x0.toNatClampNeg)).toInt < 0 ∧ (v 1 (36 + 7 * x0.toNatClampNeg)).toInt ≠ 5 ∧ 0 ≤ (v 1 (75 + 2 * x0.toNatClampNeg)).toInt ∧ (v 1 (75 + 2 * x0.toNatClampNeg)).toInt < x1.toInt → (1 : Int32) = 2 ∧ (∀ n : Nat, v_63 1 n = if n = 75 + 2 * x0.toNatClampNeg then -5 else if n = 74 + 2 * x0.toNatClampNeg then -5 else if n = 36 + 7 * x0.toNatClampNeg then v 1 (36 + 7 * x0.toNatClampNeg) + 1 else if n = 87 + 10 * x0.toNatClampNeg + 2 * (v 1 (36 + 7 * x0.toNatClampNeg)).toNatClampNeg then v 1 (75 + 2 * x0.toNatClampNeg) else if n = 86 + 10 * x0.toNatClampNeg + 2 * (v 1 (36 + 7 * x0.toNatClampNeg)).toNatClampNeg then x1 else if n = 74 + 2 * x0.toNatClampNeg then x1 else v 1 n) ∧ (∀ k : Nat, k ≠ 1 → v_63 k = v k)) ∧ (((0 ≤ x0.toInt ∧ x0.toInt < (v 1 2).toInt) ∧ 0 ≤ x1.toInt ∧ x1.toInt ≤ 100) ∧ (v 1 (34 + 7 * x0.toNatClampNeg)).toInt = 0 ∧ (v 1 (74 + 2 * x0.toNatClampNeg)).toInt < 0 ∧ (v 1 (36 + 7 * x0.toNatClampNeg)).toInt ≠ 5 ∧ 0 ≤ (v 1 (75 + 2 * x0.toNatClampNeg)).toInt ∧ x1.toInt ≤ (v 1 (75 + 2 * x0.toNatClampNeg)).toInt → (1 : Int32) = 1 ∧ (∀ n : Nat, v_63 1 n = if n = 35 + 7 * x0.toNatClampNeg then (x1 + v 1 (75 + 2 * x0.toNatClampNeg)) / 2 else if n = 34 + 7 * x0.toNatClampNeg then 1 else if n = 75 + 2 * x0.toNatClampNeg then -5 else if n = 74 + 2 * x0.toNatClampNeg then -5 else if n = 36 + 7 * x0.toNatClampNeg then v 1 (36 + 7 * x0.toNatClampNeg) + 1 else if n = 87 + 10 * x0.toNatClampNeg + 2 * (v 1 (36 + 7 * x0.toNatClampNeg)).toNatClampNeg then v 1 (75 + 2 * x0.toNatClampNeg) else if n = 86 + 10 * x0.toNatClampNeg + 2 * (v 1 (36 + 7 * x0.toNatClampNeg)).toNatClampNeg then x1 else if n = 74 + 2 * x0.toNatClampNeg then x1 else v 1 n) ∧ (∀ k : Nat, k ≠ 1 → v_63 k = v k)) := by
                    refine ⟨fun hq => ?_, fun hq => ?_, fun hq => ?_, fun hq => ?_, fun hq => ?_, fun hq => ?_, fun hq => ?_⟩
                    · exfalso; omega
                    · exfalso; omega
                    · exfalso; omega
                    · exfalso; omega
                    · exfalso; omega
                    · exfalso; omega
                    · exact ⟨rfl, fun n => by rw [ev_63, up1, ev_59, up1, ev_56, up1, ev_52, up1, ev_49, up1, ev_45, up1, ev_39, up1, ev_21, up1, ex_62, ex_61, ex_26, ex_48, ex_16], fun k hk => by rw [ev_63, upr_n hk, ev_59, upr_n hk, ev_56, upr_n hk, ev_52, upr_n hk, ev_49, upr_n hk, ev_45, upr_n hk, ev_39, upr_n hk, ev_21, upr_n hk]⟩
                  exact W.iret (v := 1) hx hb hr (fun t ht hW => ⟨⟨1, v_63, rfl, ⟨hv, hpost⟩, by rw [ht]; exact hP, hD⟩, hS.F ht⟩) hS.2.2 dX8_offer_265
                · have tc_57 : x_26.toInt < x1.toInt := Int32.lt_iff_toInt_lt.mp (Int32.not_le.mp c_57)
                  refine lv_iconst (v := 2) hx hb dX8_offer_234 (by decide) ?_
                  have hpost : (¬ ((0 ≤ x0.toInt ∧ x0.toInt < (v 1 2).toInt) ∧ 0 ≤ x1.toInt ∧ x1.toInt ≤ 100) → (2 : Int32) = -1 ∧ v_56 = v) ∧ (((0 ≤ x0.toInt ∧ x0.toInt < (v 1 2).toInt) ∧ 0 ≤ x1.toInt ∧ x1.toInt ≤ 100) ∧ (v 1 (34 + 7 * x0.toNatClampNeg)).toInt ≠ 0 → (2 : Int32) = -4 ∧ v_56 = v) ∧ (((0 ≤ x0.toInt ∧ x0.toInt < (v 1 2).toInt) ∧ 0 ≤ x1.toInt ∧ x1.toInt ≤ 100) ∧ (v 1 (34 + 7 * x0.toNatClampNeg)).toInt = 0 ∧ 0 ≤ (v 1 (74 + 2 * x0.toNatClampNeg)).toInt → (2 : Int32) = -3 ∧ v_56 = v) ∧ (((0 ≤ x0.toInt ∧ x0.toInt < (v 1 2).toInt) ∧ 0 ≤ x1.toInt ∧ x1.toInt ≤ 100) ∧ (v 1 (34 + 7 * x0.toNatClampNeg)).toInt = 0 ∧ (v 1 (74 + 2 * x0.toNatClampNeg)).toInt < 0 ∧ (v 1 (36 + 7 * x0.toNatClampNeg)).toInt = 5 → (2 : Int32) = -2 ∧ v_56 = v) ∧ (((0 ≤ x0.toInt ∧ x0.toInt < (v 1 2).toInt) ∧ 0 ≤ x1.toInt ∧ x1.toInt ≤ 100) ∧ (v 1 (34 + 7 * x0.toNatClampNeg)).toInt = 0 ∧ (v 1 (74 + 2 * x0.toNatClampNeg)).toInt < 0 ∧ (v 1 (36 + 7 * x0.toNatClampNeg)).toInt ≠ 5 ∧ (v 1 (75 + 2 * x0.toNatClampNeg)).toInt < 0 → (2 : Int32) = 0 ∧ (∀ n : Nat, v_56 1 n = if n = 74 + 2 * x0.toNatClampNeg then x1 else v 1 n) ∧ (∀ k : Nat, k ≠ 1 → v_56 k = v k)) ∧ (((0 ≤ x0.toInt ∧ x0.toInt < (v 1 2).toInt) ∧ 0 ≤ x1.toInt ∧ x1.toInt ≤ 100) ∧ (v 1 (34 + 7 * x0.toNatClampNeg)).toInt = 0 ∧ (v 1 (74 + 2 * x0.toNatClampNeg)).toInt < 0 ∧ (v 1 (36 + 7 * x0.toNatClampNeg)).toInt ≠ 5 ∧ 0 ≤ (v 1 (75 + 2 * x0.toNatClampNeg)).toInt ∧ (v 1 (75 + 2 * x0.toNatClampNeg)).toInt < x1.toInt → (2 : Int32) = 2 ∧ (∀ n : Nat, v_56 1 n = if n = 75 + 2 * x0.toNatClampNeg then -5 else if n = 74 + 2 * x0.toNatClampNeg then -5 else if n = 36 + 7 * x0.toNatClampNeg then v 1 (36 + 7 * x0.toNatClampNeg) + 1 else if n = 87 + 10 * x0.toNatClampNeg + 2 * (v 1 (36 + 7 * x0.toNatClampNeg)).toNatClampNeg then v 1 (75 + 2 * x0.toNatClampNeg) else if n = 86 + 10 * x0.toNatClampNeg + 2 * (v 1 (36 + 7 * x0.toNatClampNeg)).toNatClampNeg then x1 else if n = 74 + 2 * x0.toNatClampNeg then x1 else v 1 n) ∧ (∀ k : Nat, k ≠ 1 → v_56 k = v k)) ∧ (((0 ≤ x0.toInt ∧ x0.toInt < (v 1 2).toInt) ∧ 0 ≤ x1.toInt ∧ x1.toInt ≤ 100) ∧ (v 1 (34 + 7 * x0.toNatClampNeg)).toInt = 0 ∧ (v 1 (74 + 2 * x0.toNatClampNeg)).toInt < 0 ∧ (v 1 (36 + 7 * x0.toNatClampNeg)).toInt ≠ 5 ∧ 0 ≤ (v 1 (75 + 2 * x0.toNatClampNeg)).toInt ∧ x1.toInt ≤ (v 1 (75 + 2 * x0.toNatClampNeg)).toInt → (2 : Int32) = 1 ∧ (∀ n : Nat, v_56 1 n = if n = 35 + 7 * x0.toNatClampNeg then (x1 + v 1 (75 + 2 * x0.toNatClampNeg)) / 2 else if n = 34 + 7 * x0.toNatClampNeg then 1 else if n = 75 + 2 * x0.toNatClampNeg then -5 else if n = 74 + 2 * x0.toNatClampNeg then -5 else if n = 36 + 7 * x0.toNatClampNeg then v 1 (36 + 7 * x0.toNatClampNeg) + 1 else if n = 87 + 10 * x0.toNatClampNeg + 2 * (v 1 (36 + 7 * x0.toNatClampNeg)).toNatClampNeg then v 1 (75 + 2 * x0.toNatClampNeg) else if n = 86 + 10 * x0.toNatClampNeg + 2 * (v 1 (36 + 7 * x0.toNatClampNeg)).toNatClampNeg then x1 else if n = 74 + 2 * x0.toNatClampNeg then x1 else v 1 n) ∧ (∀ k : Nat, k ≠ 1 → v_56 k = v k)) := by
                    refine ⟨fun hq => ?_, fun hq => ?_, fun hq => ?_, fun hq => ?_, fun hq => ?_, fun hq => ?_, fun hq => ?_⟩
                    · exfalso; omega
                    · exfalso; omega
                    · exfalso; omega
                    · exfalso; omega
                    · exfalso; omega
                    · exact ⟨rfl, fun n => by rw [ev_56, up1, ev_52, up1, ev_49, up1, ev_45, up1, ev_39, up1, ev_21, up1, ex_48, ex_16, ex_26], fun k hk => by rw [ev_56, upr_n hk, ev_52, upr_n hk, ev_49, upr_n hk, ev_45, upr_n hk, ev_39, upr_n hk, ev_21, upr_n hk]⟩
                    · exfalso; omega
                  exact W.iret (v := 2) hx hb hr (fun t ht hW => ⟨⟨2, v_56, rfl, ⟨hv, hpost⟩, by rw [ht]; exact hP, hD⟩, hS.F ht⟩) hS.2.2 dX8_offer_235
              · have tc_27 : x_26.toInt < (0 : Int32).toInt := Int32.lt_iff_toInt_lt.mp (Int32.not_le.mp c_27)
                refine lv_iconst (v := 0) hx hb dX8_offer_115 (by decide) ?_
                have hpost : (¬ ((0 ≤ x0.toInt ∧ x0.toInt < (v 1 2).toInt) ∧ 0 ≤ x1.toInt ∧ x1.toInt ≤ 100) → (0 : Int32) = -1 ∧ v_21 = v) ∧ (((0 ≤ x0.toInt ∧ x0.toInt < (v 1 2).toInt) ∧ 0 ≤ x1.toInt ∧ x1.toInt ≤ 100) ∧ (v 1 (34 + 7 * x0.toNatClampNeg)).toInt ≠ 0 → (0 : Int32) = -4 ∧ v_21 = v) ∧ (((0 ≤ x0.toInt ∧ x0.toInt < (v 1 2).toInt) ∧ 0 ≤ x1.toInt ∧ x1.toInt ≤ 100) ∧ (v 1 (34 + 7 * x0.toNatClampNeg)).toInt = 0 ∧ 0 ≤ (v 1 (74 + 2 * x0.toNatClampNeg)).toInt → (0 : Int32) = -3 ∧ v_21 = v) ∧ (((0 ≤ x0.toInt ∧ x0.toInt < (v 1 2).toInt) ∧ 0 ≤ x1.toInt ∧ x1.toInt ≤ 100) ∧ (v 1 (34 + 7 * x0.toNatClampNeg)).toInt = 0 ∧ (v 1 (74 + 2 * x0.toNatClampNeg)).toInt < 0 ∧ (v 1 (36 + 7 * x0.toNatClampNeg)).toInt = 5 → (0 : Int32) = -2 ∧ v_21 = v) ∧ (((0 ≤ x0.toInt ∧ x0.toInt < (v 1 2).toInt) ∧ 0 ≤ x1.toInt ∧ x1.toInt ≤ 100) ∧ (v 1 (34 + 7 * x0.toNatClampNeg)).toInt = 0 ∧ (v 1 (74 + 2 * x0.toNatClampNeg)).toInt < 0 ∧ (v 1 (36 + 7 * x0.toNatClampNeg)).toInt ≠ 5 ∧ (v 1 (75 + 2 * x0.toNatClampNeg)).toInt < 0 → (0 : Int32) = 0 ∧ (∀ n : Nat, v_21 1 n = if n = 74 + 2 * x0.toNatClampNeg then x1 else v 1 n) ∧ (∀ k : Nat, k ≠ 1 → v_21 k = v k)) ∧ (((0 ≤ x0.toInt ∧ x0.toInt < (v 1 2).toInt) ∧ 0 ≤ x1.toInt ∧ x1.toInt ≤ 100) ∧ (v 1 (34 + 7 * x0.toNatClampNeg)).toInt = 0 ∧ (v 1 (74 + 2 * x0.toNatClampNeg)).toInt < 0 ∧ (v 1 (36 + 7 * x0.toNatClampNeg)).toInt ≠ 5 ∧ 0 ≤ (v 1 (75 + 2 * x0.toNatClampNeg)).toInt ∧ (v 1 (75 + 2 * x0.toNatClampNeg)).toInt < x1.toInt → (0 : Int32) = 2 ∧ (∀ n : Nat, v_21 1 n = if n = 75 + 2 * x0.toNatClampNeg then -5 else if n = 74 + 2 * x0.toNatClampNeg then -5 else if n = 36 + 7 * x0.toNatClampNeg then v 1 (36 + 7 * x0.toNatClampNeg) + 1 else if n = 87 + 10 * x0.toNatClampNeg + 2 * (v 1 (36 + 7 * x0.toNatClampNeg)).toNatClampNeg then v 1 (75 + 2 * x0.toNatClampNeg) else if n = 86 + 10 * x0.toNatClampNeg + 2 * (v 1 (36 + 7 * x0.toNatClampNeg)).toNatClampNeg then x1 else if n = 74 + 2 * x0.toNatClampNeg then x1 else v 1 n) ∧ (∀ k : Nat, k ≠ 1 → v_21 k = v k)) ∧ (((0 ≤ x0.toInt ∧ x0.toInt < (v 1 2).toInt) ∧ 0 ≤ x1.toInt ∧ x1.toInt ≤ 100) ∧ (v 1 (34 + 7 * x0.toNatClampNeg)).toInt = 0 ∧ (v 1 (74 + 2 * x0.toNatClampNeg)).toInt < 0 ∧ (v 1 (36 + 7 * x0.toNatClampNeg)).toInt ≠ 5 ∧ 0 ≤ (v 1 (75 + 2 * x0.toNatClampNeg)).toInt ∧ x1.toInt ≤ (v 1 (75 + 2 * x0.toNatClampNeg)).toInt → (0 : Int32) = 1 ∧ (∀ n : Nat, v_21 1 n = if n = 35 + 7 * x0.toNatClampNeg then (x1 + v 1 (75 + 2 * x0.toNatClampNeg)) / 2 else if n = 34 + 7 * x0.toNatClampNeg then 1 else if n = 75 + 2 * x0.toNatClampNeg then -5 else if n = 74 + 2 * x0.toNatClampNeg then -5 else if n = 36 + 7 * x0.toNatClampNeg then v 1 (36 + 7 * x0.toNatClampNeg) + 1 else if n = 87 + 10 * x0.toNatClampNeg + 2 * (v 1 (36 + 7 * x0.toNatClampNeg)).toNatClampNeg then v 1 (75 + 2 * x0.toNatClampNeg) else if n = 86 + 10 * x0.toNatClampNeg + 2 * (v 1 (36 + 7 * x0.toNatClampNeg)).toNatClampNeg then x1 else if n = 74 + 2 * x0.toNatClampNeg then x1 else v 1 n) ∧ (∀ k : Nat, k ≠ 1 → v_21 k = v k)) := by
                  refine ⟨fun hq => ?_, fun hq => ?_, fun hq => ?_, fun hq => ?_, fun hq => ?_, fun hq => ?_, fun hq => ?_⟩
                  · exfalso; omega
                  · exfalso; omega
                  · exfalso; omega
                  · exfalso; omega
                  · exact ⟨rfl, fun n => by rw [ev_21, up1], fun k hk => by rw [ev_21, upr_n hk]⟩
                  · exfalso; omega
                  · exfalso; omega
                exact W.iret (v := 0) hx hb hr (fun t ht hW => ⟨⟨0, v_21, rfl, ⟨hv, hpost⟩, by rw [ht]; exact hP, hD⟩, hS.F ht⟩) hS.2.2 dX8_offer_116
            · have tc_17 : x_16.toInt = (5 : Int32).toInt := by rw [c_17]
              refine lv_bipush (v := (-2)) hx hb dX8_offer_80 (by decide) ?_
              have hpost : (¬ ((0 ≤ x0.toInt ∧ x0.toInt < (v 1 2).toInt) ∧ 0 ≤ x1.toInt ∧ x1.toInt ≤ 100) → ((-2) : Int32) = -1 ∧ v = v) ∧ (((0 ≤ x0.toInt ∧ x0.toInt < (v 1 2).toInt) ∧ 0 ≤ x1.toInt ∧ x1.toInt ≤ 100) ∧ (v 1 (34 + 7 * x0.toNatClampNeg)).toInt ≠ 0 → ((-2) : Int32) = -4 ∧ v = v) ∧ (((0 ≤ x0.toInt ∧ x0.toInt < (v 1 2).toInt) ∧ 0 ≤ x1.toInt ∧ x1.toInt ≤ 100) ∧ (v 1 (34 + 7 * x0.toNatClampNeg)).toInt = 0 ∧ 0 ≤ (v 1 (74 + 2 * x0.toNatClampNeg)).toInt → ((-2) : Int32) = -3 ∧ v = v) ∧ (((0 ≤ x0.toInt ∧ x0.toInt < (v 1 2).toInt) ∧ 0 ≤ x1.toInt ∧ x1.toInt ≤ 100) ∧ (v 1 (34 + 7 * x0.toNatClampNeg)).toInt = 0 ∧ (v 1 (74 + 2 * x0.toNatClampNeg)).toInt < 0 ∧ (v 1 (36 + 7 * x0.toNatClampNeg)).toInt = 5 → ((-2) : Int32) = -2 ∧ v = v) ∧ (((0 ≤ x0.toInt ∧ x0.toInt < (v 1 2).toInt) ∧ 0 ≤ x1.toInt ∧ x1.toInt ≤ 100) ∧ (v 1 (34 + 7 * x0.toNatClampNeg)).toInt = 0 ∧ (v 1 (74 + 2 * x0.toNatClampNeg)).toInt < 0 ∧ (v 1 (36 + 7 * x0.toNatClampNeg)).toInt ≠ 5 ∧ (v 1 (75 + 2 * x0.toNatClampNeg)).toInt < 0 → ((-2) : Int32) = 0 ∧ (∀ n : Nat, v 1 n = if n = 74 + 2 * x0.toNatClampNeg then x1 else v 1 n) ∧ (∀ k : Nat, k ≠ 1 → v k = v k)) ∧ (((0 ≤ x0.toInt ∧ x0.toInt < (v 1 2).toInt) ∧ 0 ≤ x1.toInt ∧ x1.toInt ≤ 100) ∧ (v 1 (34 + 7 * x0.toNatClampNeg)).toInt = 0 ∧ (v 1 (74 + 2 * x0.toNatClampNeg)).toInt < 0 ∧ (v 1 (36 + 7 * x0.toNatClampNeg)).toInt ≠ 5 ∧ 0 ≤ (v 1 (75 + 2 * x0.toNatClampNeg)).toInt ∧ (v 1 (75 + 2 * x0.toNatClampNeg)).toInt < x1.toInt → ((-2) : Int32) = 2 ∧ (∀ n : Nat, v 1 n = if n = 75 + 2 * x0.toNatClampNeg then -5 else if n = 74 + 2 * x0.toNatClampNeg then -5 else if n = 36 + 7 * x0.toNatClampNeg then v 1 (36 + 7 * x0.toNatClampNeg) + 1 else if n = 87 + 10 * x0.toNatClampNeg + 2 * (v 1 (36 + 7 * x0.toNatClampNeg)).toNatClampNeg then v 1 (75 + 2 * x0.toNatClampNeg) else if n = 86 + 10 * x0.toNatClampNeg + 2 * (v 1 (36 + 7 * x0.toNatClampNeg)).toNatClampNeg then x1 else if n = 74 + 2 * x0.toNatClampNeg then x1 else v 1 n) ∧ (∀ k : Nat, k ≠ 1 → v k = v k)) ∧ (((0 ≤ x0.toInt ∧ x0.toInt < (v 1 2).toInt) ∧ 0 ≤ x1.toInt ∧ x1.toInt ≤ 100) ∧ (v 1 (34 + 7 * x0.toNatClampNeg)).toInt = 0 ∧ (v 1 (74 + 2 * x0.toNatClampNeg)).toInt < 0 ∧ (v 1 (36 + 7 * x0.toNatClampNeg)).toInt ≠ 5 ∧ 0 ≤ (v 1 (75 + 2 * x0.toNatClampNeg)).toInt ∧ x1.toInt ≤ (v 1 (75 + 2 * x0.toNatClampNeg)).toInt → ((-2) : Int32) = 1 ∧ (∀ n : Nat, v 1 n = if n = 35 + 7 * x0.toNatClampNeg then (x1 + v 1 (75 + 2 * x0.toNatClampNeg)) / 2 else if n = 34 + 7 * x0.toNatClampNeg then 1 else if n = 75 + 2 * x0.toNatClampNeg then -5 else if n = 74 + 2 * x0.toNatClampNeg then -5 else if n = 36 + 7 * x0.toNatClampNeg then v 1 (36 + 7 * x0.toNatClampNeg) + 1 else if n = 87 + 10 * x0.toNatClampNeg + 2 * (v 1 (36 + 7 * x0.toNatClampNeg)).toNatClampNeg then v 1 (75 + 2 * x0.toNatClampNeg) else if n = 86 + 10 * x0.toNatClampNeg + 2 * (v 1 (36 + 7 * x0.toNatClampNeg)).toNatClampNeg then x1 else if n = 74 + 2 * x0.toNatClampNeg then x1 else v 1 n) ∧ (∀ k : Nat, k ≠ 1 → v k = v k)) := by
                refine ⟨fun hq => ?_, fun hq => ?_, fun hq => ?_, fun hq => ?_, fun hq => ?_, fun hq => ?_, fun hq => ?_⟩
                · exfalso; omega
                · exfalso; omega
                · exfalso; omega
                · exact ⟨rfl, rfl⟩
                · exfalso; omega
                · exfalso; omega
                · exfalso; omega
              exact W.iret (v := (-2)) hx hb hr (fun t ht hW => ⟨⟨(-2), v, rfl, ⟨hv, hpost⟩, by rw [ht]; exact hP, hD⟩, hS.F ht⟩) hS.2.2 dX8_offer_82
          · have tc_14 : x_13.toInt ≥ (0 : Int32).toInt := Int32.le_iff_toInt_le.mp (Int32.not_lt.mp c_14)
            refine lv_bipush (v := (-3)) hx hb dX8_offer_59 (by decide) ?_
            have hpost : (¬ ((0 ≤ x0.toInt ∧ x0.toInt < (v 1 2).toInt) ∧ 0 ≤ x1.toInt ∧ x1.toInt ≤ 100) → ((-3) : Int32) = -1 ∧ v = v) ∧ (((0 ≤ x0.toInt ∧ x0.toInt < (v 1 2).toInt) ∧ 0 ≤ x1.toInt ∧ x1.toInt ≤ 100) ∧ (v 1 (34 + 7 * x0.toNatClampNeg)).toInt ≠ 0 → ((-3) : Int32) = -4 ∧ v = v) ∧ (((0 ≤ x0.toInt ∧ x0.toInt < (v 1 2).toInt) ∧ 0 ≤ x1.toInt ∧ x1.toInt ≤ 100) ∧ (v 1 (34 + 7 * x0.toNatClampNeg)).toInt = 0 ∧ 0 ≤ (v 1 (74 + 2 * x0.toNatClampNeg)).toInt → ((-3) : Int32) = -3 ∧ v = v) ∧ (((0 ≤ x0.toInt ∧ x0.toInt < (v 1 2).toInt) ∧ 0 ≤ x1.toInt ∧ x1.toInt ≤ 100) ∧ (v 1 (34 + 7 * x0.toNatClampNeg)).toInt = 0 ∧ (v 1 (74 + 2 * x0.toNatClampNeg)).toInt < 0 ∧ (v 1 (36 + 7 * x0.toNatClampNeg)).toInt = 5 → ((-3) : Int32) = -2 ∧ v = v) ∧ (((0 ≤ x0.toInt ∧ x0.toInt < (v 1 2).toInt) ∧ 0 ≤ x1.toInt ∧ x1.toInt ≤ 100) ∧ (v 1 (34 + 7 * x0.toNatClampNeg)).toInt = 0 ∧ (v 1 (74 + 2 * x0.toNatClampNeg)).toInt < 0 ∧ (v 1 (36 + 7 * x0.toNatClampNeg)).toInt ≠ 5 ∧ (v 1 (75 + 2 * x0.toNatClampNeg)).toInt < 0 → ((-3) : Int32) = 0 ∧ (∀ n : Nat, v 1 n = if n = 74 + 2 * x0.toNatClampNeg then x1 else v 1 n) ∧ (∀ k : Nat, k ≠ 1 → v k = v k)) ∧ (((0 ≤ x0.toInt ∧ x0.toInt < (v 1 2).toInt) ∧ 0 ≤ x1.toInt ∧ x1.toInt ≤ 100) ∧ (v 1 (34 + 7 * x0.toNatClampNeg)).toInt = 0 ∧ (v 1 (74 + 2 * x0.toNatClampNeg)).toInt < 0 ∧ (v 1 (36 + 7 * x0.toNatClampNeg)).toInt ≠ 5 ∧ 0 ≤ (v 1 (75 + 2 * x0.toNatClampNeg)).toInt ∧ (v 1 (75 + 2 * x0.toNatClampNeg)).toInt < x1.toInt → ((-3) : Int32) = 2 ∧ (∀ n : Nat, v 1 n = if n = 75 + 2 * x0.toNatClampNeg then -5 else if n = 74 + 2 * x0.toNatClampNeg then -5 else if n = 36 + 7 * x0.toNatClampNeg then v 1 (36 + 7 * x0.toNatClampNeg) + 1 else if n = 87 + 10 * x0.toNatClampNeg + 2 * (v 1 (36 + 7 * x0.toNatClampNeg)).toNatClampNeg then v 1 (75 + 2 * x0.toNatClampNeg) else if n = 86 + 10 * x0.toNatClampNeg + 2 * (v 1 (36 + 7 * x0.toNatClampNeg)).toNatClampNeg then x1 else if n = 74 + 2 * x0.toNatClampNeg then x1 else v 1 n) ∧ (∀ k : Nat, k ≠ 1 → v k = v k)) ∧ (((0 ≤ x0.toInt ∧ x0.toInt < (v 1 2).toInt) ∧ 0 ≤ x1.toInt ∧ x1.toInt ≤ 100) ∧ (v 1 (34 + 7 * x0.toNatClampNeg)).toInt = 0 ∧ (v 1 (74 + 2 * x0.toNatClampNeg)).toInt < 0 ∧ (v 1 (36 + 7 * x0.toNatClampNeg)).toInt ≠ 5 ∧ 0 ≤ (v 1 (75 + 2 * x0.toNatClampNeg)).toInt ∧ x1.toInt ≤ (v 1 (75 + 2 * x0.toNatClampNeg)).toInt → ((-3) : Int32) = 1 ∧ (∀ n : Nat, v 1 n = if n = 35 + 7 * x0.toNatClampNeg then (x1 + v 1 (75 + 2 * x0.toNatClampNeg)) / 2 else if n = 34 + 7 * x0.toNatClampNeg then 1 else if n = 75 + 2 * x0.toNatClampNeg then -5 else if n = 74 + 2 * x0.toNatClampNeg then -5 else if n = 36 + 7 * x0.toNatClampNeg then v 1 (36 + 7 * x0.toNatClampNeg) + 1 else if n = 87 + 10 * x0.toNatClampNeg + 2 * (v 1 (36 + 7 * x0.toNatClampNeg)).toNatClampNeg then v 1 (75 + 2 * x0.toNatClampNeg) else if n = 86 + 10 * x0.toNatClampNeg + 2 * (v 1 (36 + 7 * x0.toNatClampNeg)).toNatClampNeg then x1 else if n = 74 + 2 * x0.toNatClampNeg then x1 else v 1 n) ∧ (∀ k : Nat, k ≠ 1 → v k = v k)) := by
              refine ⟨fun hq => ?_, fun hq => ?_, fun hq => ?_, fun hq => ?_, fun hq => ?_, fun hq => ?_, fun hq => ?_⟩
              · exfalso; omega
              · exfalso; omega
              · exact ⟨rfl, rfl⟩
              · exfalso; omega
              · exfalso; omega
              · exfalso; omega
              · exfalso; omega
            exact W.iret (v := (-3)) hx hb hr (fun t ht hW => ⟨⟨(-3), v, rfl, ⟨hv, hpost⟩, by rw [ht]; exact hP, hD⟩, hS.F ht⟩) hS.2.2 dX8_offer_61
        · have tc_9 : x_8.toInt ≠ (0 : Int32).toInt := fun q => absurd (Int32.toInt_inj.mp q) c_9
          refine lv_bipush (v := (-4)) hx hb dX8_offer_40 (by decide) ?_
          have hpost : (¬ ((0 ≤ x0.toInt ∧ x0.toInt < (v 1 2).toInt) ∧ 0 ≤ x1.toInt ∧ x1.toInt ≤ 100) → ((-4) : Int32) = -1 ∧ v = v) ∧ (((0 ≤ x0.toInt ∧ x0.toInt < (v 1 2).toInt) ∧ 0 ≤ x1.toInt ∧ x1.toInt ≤ 100) ∧ (v 1 (34 + 7 * x0.toNatClampNeg)).toInt ≠ 0 → ((-4) : Int32) = -4 ∧ v = v) ∧ (((0 ≤ x0.toInt ∧ x0.toInt < (v 1 2).toInt) ∧ 0 ≤ x1.toInt ∧ x1.toInt ≤ 100) ∧ (v 1 (34 + 7 * x0.toNatClampNeg)).toInt = 0 ∧ 0 ≤ (v 1 (74 + 2 * x0.toNatClampNeg)).toInt → ((-4) : Int32) = -3 ∧ v = v) ∧ (((0 ≤ x0.toInt ∧ x0.toInt < (v 1 2).toInt) ∧ 0 ≤ x1.toInt ∧ x1.toInt ≤ 100) ∧ (v 1 (34 + 7 * x0.toNatClampNeg)).toInt = 0 ∧ (v 1 (74 + 2 * x0.toNatClampNeg)).toInt < 0 ∧ (v 1 (36 + 7 * x0.toNatClampNeg)).toInt = 5 → ((-4) : Int32) = -2 ∧ v = v) ∧ (((0 ≤ x0.toInt ∧ x0.toInt < (v 1 2).toInt) ∧ 0 ≤ x1.toInt ∧ x1.toInt ≤ 100) ∧ (v 1 (34 + 7 * x0.toNatClampNeg)).toInt = 0 ∧ (v 1 (74 + 2 * x0.toNatClampNeg)).toInt < 0 ∧ (v 1 (36 + 7 * x0.toNatClampNeg)).toInt ≠ 5 ∧ (v 1 (75 + 2 * x0.toNatClampNeg)).toInt < 0 → ((-4) : Int32) = 0 ∧ (∀ n : Nat, v 1 n = if n = 74 + 2 * x0.toNatClampNeg then x1 else v 1 n) ∧ (∀ k : Nat, k ≠ 1 → v k = v k)) ∧ (((0 ≤ x0.toInt ∧ x0.toInt < (v 1 2).toInt) ∧ 0 ≤ x1.toInt ∧ x1.toInt ≤ 100) ∧ (v 1 (34 + 7 * x0.toNatClampNeg)).toInt = 0 ∧ (v 1 (74 + 2 * x0.toNatClampNeg)).toInt < 0 ∧ (v 1 (36 + 7 * x0.toNatClampNeg)).toInt ≠ 5 ∧ 0 ≤ (v 1 (75 + 2 * x0.toNatClampNeg)).toInt ∧ (v 1 (75 + 2 * x0.toNatClampNeg)).toInt < x1.toInt → ((-4) : Int32) = 2 ∧ (∀ n : Nat, v 1 n = if n = 75 + 2 * x0.toNatClampNeg then -5 else if n = 74 + 2 * x0.toNatClampNeg then -5 else if n = 36 + 7 * x0.toNatClampNeg then v 1 (36 + 7 * x0.toNatClampNeg) + 1 else if n = 87 + 10 * x0.toNatClampNeg + 2 * (v 1 (36 + 7 * x0.toNatClampNeg)).toNatClampNeg then v 1 (75 + 2 * x0.toNatClampNeg) else if n = 86 + 10 * x0.toNatClampNeg + 2 * (v 1 (36 + 7 * x0.toNatClampNeg)).toNatClampNeg then x1 else if n = 74 + 2 * x0.toNatClampNeg then x1 else v 1 n) ∧ (∀ k : Nat, k ≠ 1 → v k = v k)) ∧ (((0 ≤ x0.toInt ∧ x0.toInt < (v 1 2).toInt) ∧ 0 ≤ x1.toInt ∧ x1.toInt ≤ 100) ∧ (v 1 (34 + 7 * x0.toNatClampNeg)).toInt = 0 ∧ (v 1 (74 + 2 * x0.toNatClampNeg)).toInt < 0 ∧ (v 1 (36 + 7 * x0.toNatClampNeg)).toInt ≠ 5 ∧ 0 ≤ (v 1 (75 + 2 * x0.toNatClampNeg)).toInt ∧ x1.toInt ≤ (v 1 (75 + 2 * x0.toNatClampNeg)).toInt → ((-4) : Int32) = 1 ∧ (∀ n : Nat, v 1 n = if n = 35 + 7 * x0.toNatClampNeg then (x1 + v 1 (75 + 2 * x0.toNatClampNeg)) / 2 else if n = 34 + 7 * x0.toNatClampNeg then 1 else if n = 75 + 2 * x0.toNatClampNeg then -5 else if n = 74 + 2 * x0.toNatClampNeg then -5 else if n = 36 + 7 * x0.toNatClampNeg then v 1 (36 + 7 * x0.toNatClampNeg) + 1 else if n = 87 + 10 * x0.toNatClampNeg + 2 * (v 1 (36 + 7 * x0.toNatClampNeg)).toNatClampNeg then v 1 (75 + 2 * x0.toNatClampNeg) else if n = 86 + 10 * x0.toNatClampNeg + 2 * (v 1 (36 + 7 * x0.toNatClampNeg)).toNatClampNeg then x1 else if n = 74 + 2 * x0.toNatClampNeg then x1 else v 1 n) ∧ (∀ k : Nat, k ≠ 1 → v k = v k)) := by
            refine ⟨fun hq => ?_, fun hq => ?_, fun hq => ?_, fun hq => ?_, fun hq => ?_, fun hq => ?_, fun hq => ?_⟩
            · exfalso; omega
            · exact ⟨rfl, rfl⟩
            · exfalso; omega
            · exfalso; omega
            · exfalso; omega
            · exfalso; omega
            · exfalso; omega
          exact W.iret (v := (-4)) hx hb hr (fun t ht hW => ⟨⟨(-4), v, rfl, ⟨hv, hpost⟩, by rw [ht]; exact hP, hD⟩, hS.F ht⟩) hS.2.2 dX8_offer_42
      · have k_100 : (100 : Int32).toInt = 100 := by decide
        have tc_6 : ¬ ((0 : Int32).toInt ≤ x1.toInt ∧ x1.toInt ≤ (100 : Int32).toInt) := fun q => hc_6 ⟨Int32.le_iff_toInt_le.mpr q.1, Int32.le_iff_toInt_le.mpr q.2⟩
        refine lv_if_ne (tgt := 27) hx hb dX8_offer_22 (by decide) (fun c9 => absurd c9 (by decide)) (fun _ => ?_)
        refine lv_iconst (v := (-1)) hx hb dX8_offer_25 (by decide) ?_
        have hpost : (¬ ((0 ≤ x0.toInt ∧ x0.toInt < (v 1 2).toInt) ∧ 0 ≤ x1.toInt ∧ x1.toInt ≤ 100) → ((-1) : Int32) = -1 ∧ v = v) ∧ (((0 ≤ x0.toInt ∧ x0.toInt < (v 1 2).toInt) ∧ 0 ≤ x1.toInt ∧ x1.toInt ≤ 100) ∧ (v 1 (34 + 7 * x0.toNatClampNeg)).toInt ≠ 0 → ((-1) : Int32) = -4 ∧ v = v) ∧ (((0 ≤ x0.toInt ∧ x0.toInt < (v 1 2).toInt) ∧ 0 ≤ x1.toInt ∧ x1.toInt ≤ 100) ∧ (v 1 (34 + 7 * x0.toNatClampNeg)).toInt = 0 ∧ 0 ≤ (v 1 (74 + 2 * x0.toNatClampNeg)).toInt → ((-1) : Int32) = -3 ∧ v = v) ∧ (((0 ≤ x0.toInt ∧ x0.toInt < (v 1 2).toInt) ∧ 0 ≤ x1.toInt ∧ x1.toInt ≤ 100) ∧ (v 1 (34 + 7 * x0.toNatClampNeg)).toInt = 0 ∧ (v 1 (74 + 2 * x0.toNatClampNeg)).toInt < 0 ∧ (v 1 (36 + 7 * x0.toNatClampNeg)).toInt = 5 → ((-1) : Int32) = -2 ∧ v = v) ∧ (((0 ≤ x0.toInt ∧ x0.toInt < (v 1 2).toInt) ∧ 0 ≤ x1.toInt ∧ x1.toInt ≤ 100) ∧ (v 1 (34 + 7 * x0.toNatClampNeg)).toInt = 0 ∧ (v 1 (74 + 2 * x0.toNatClampNeg)).toInt < 0 ∧ (v 1 (36 + 7 * x0.toNatClampNeg)).toInt ≠ 5 ∧ (v 1 (75 + 2 * x0.toNatClampNeg)).toInt < 0 → ((-1) : Int32) = 0 ∧ (∀ n : Nat, v 1 n = if n = 74 + 2 * x0.toNatClampNeg then x1 else v 1 n) ∧ (∀ k : Nat, k ≠ 1 → v k = v k)) ∧ (((0 ≤ x0.toInt ∧ x0.toInt < (v 1 2).toInt) ∧ 0 ≤ x1.toInt ∧ x1.toInt ≤ 100) ∧ (v 1 (34 + 7 * x0.toNatClampNeg)).toInt = 0 ∧ (v 1 (74 + 2 * x0.toNatClampNeg)).toInt < 0 ∧ (v 1 (36 + 7 * x0.toNatClampNeg)).toInt ≠ 5 ∧ 0 ≤ (v 1 (75 + 2 * x0.toNatClampNeg)).toInt ∧ (v 1 (75 + 2 * x0.toNatClampNeg)).toInt < x1.toInt → ((-1) : Int32) = 2 ∧ (∀ n : Nat, v 1 n = if n = 75 + 2 * x0.toNatClampNeg then -5 else if n = 74 + 2 * x0.toNatClampNeg then -5 else if n = 36 + 7 * x0.toNatClampNeg then v 1 (36 + 7 * x0.toNatClampNeg) + 1 else if n = 87 + 10 * x0.toNatClampNeg + 2 * (v 1 (36 + 7 * x0.toNatClampNeg)).toNatClampNeg then v 1 (75 + 2 * x0.toNatClampNeg) else if n = 86 + 10 * x0.toNatClampNeg + 2 * (v 1 (36 + 7 * x0.toNatClampNeg)).toNatClampNeg then x1 else if n = 74 + 2 * x0.toNatClampNeg then x1 else v 1 n) ∧ (∀ k : Nat, k ≠ 1 → v k = v k)) ∧ (((0 ≤ x0.toInt ∧ x0.toInt < (v 1 2).toInt) ∧ 0 ≤ x1.toInt ∧ x1.toInt ≤ 100) ∧ (v 1 (34 + 7 * x0.toNatClampNeg)).toInt = 0 ∧ (v 1 (74 + 2 * x0.toNatClampNeg)).toInt < 0 ∧ (v 1 (36 + 7 * x0.toNatClampNeg)).toInt ≠ 5 ∧ 0 ≤ (v 1 (75 + 2 * x0.toNatClampNeg)).toInt ∧ x1.toInt ≤ (v 1 (75 + 2 * x0.toNatClampNeg)).toInt → ((-1) : Int32) = 1 ∧ (∀ n : Nat, v 1 n = if n = 35 + 7 * x0.toNatClampNeg then (x1 + v 1 (75 + 2 * x0.toNatClampNeg)) / 2 else if n = 34 + 7 * x0.toNatClampNeg then 1 else if n = 75 + 2 * x0.toNatClampNeg then -5 else if n = 74 + 2 * x0.toNatClampNeg then -5 else if n = 36 + 7 * x0.toNatClampNeg then v 1 (36 + 7 * x0.toNatClampNeg) + 1 else if n = 87 + 10 * x0.toNatClampNeg + 2 * (v 1 (36 + 7 * x0.toNatClampNeg)).toNatClampNeg then v 1 (75 + 2 * x0.toNatClampNeg) else if n = 86 + 10 * x0.toNatClampNeg + 2 * (v 1 (36 + 7 * x0.toNatClampNeg)).toNatClampNeg then x1 else if n = 74 + 2 * x0.toNatClampNeg then x1 else v 1 n) ∧ (∀ k : Nat, k ≠ 1 → v k = v k)) := by
          refine ⟨fun hq => ?_, fun hq => ?_, fun hq => ?_, fun hq => ?_, fun hq => ?_, fun hq => ?_, fun hq => ?_⟩
          · exact ⟨rfl, rfl⟩
          · exfalso; omega
          · exfalso; omega
          · exfalso; omega
          · exfalso; omega
          · exfalso; omega
          · exfalso; omega
        exact W.iret (v := (-1)) hx hb hr (fun t ht hW => ⟨⟨(-1), v, rfl, ⟨hv, hpost⟩, by rw [ht]; exact hP, hD⟩, hS.F ht⟩) hS.2.2 dX8_offer_26
    · have k_0 : (0 : Int32).toInt = 0 := by decide
      have k_1 : (1 : Int32).toInt = 1 := by decide
      have tc_4 : ¬ ((0 : Int32).toInt ≤ (0 : Int32).toInt ∧ (0 : Int32).toInt ≤ (1 : Int32).toInt) := fun q => hc_4 ⟨Int32.le_iff_toInt_le.mpr q.1, Int32.le_iff_toInt_le.mpr q.2⟩
      refine lv_if_eq (tgt := 25) hx hb dX8_offer_12 (by decide) (fun _ => ?_) (fun c9 => absurd c9 (by decide))
      refine lv_iconst (v := (-1)) hx hb dX8_offer_25 (by decide) ?_
      have hpost : (¬ ((0 ≤ x0.toInt ∧ x0.toInt < (v 1 2).toInt) ∧ 0 ≤ x1.toInt ∧ x1.toInt ≤ 100) → ((-1) : Int32) = -1 ∧ v = v) ∧ (((0 ≤ x0.toInt ∧ x0.toInt < (v 1 2).toInt) ∧ 0 ≤ x1.toInt ∧ x1.toInt ≤ 100) ∧ (v 1 (34 + 7 * x0.toNatClampNeg)).toInt ≠ 0 → ((-1) : Int32) = -4 ∧ v = v) ∧ (((0 ≤ x0.toInt ∧ x0.toInt < (v 1 2).toInt) ∧ 0 ≤ x1.toInt ∧ x1.toInt ≤ 100) ∧ (v 1 (34 + 7 * x0.toNatClampNeg)).toInt = 0 ∧ 0 ≤ (v 1 (74 + 2 * x0.toNatClampNeg)).toInt → ((-1) : Int32) = -3 ∧ v = v) ∧ (((0 ≤ x0.toInt ∧ x0.toInt < (v 1 2).toInt) ∧ 0 ≤ x1.toInt ∧ x1.toInt ≤ 100) ∧ (v 1 (34 + 7 * x0.toNatClampNeg)).toInt = 0 ∧ (v 1 (74 + 2 * x0.toNatClampNeg)).toInt < 0 ∧ (v 1 (36 + 7 * x0.toNatClampNeg)).toInt = 5 → ((-1) : Int32) = -2 ∧ v = v) ∧ (((0 ≤ x0.toInt ∧ x0.toInt < (v 1 2).toInt) ∧ 0 ≤ x1.toInt ∧ x1.toInt ≤ 100) ∧ (v 1 (34 + 7 * x0.toNatClampNeg)).toInt = 0 ∧ (v 1 (74 + 2 * x0.toNatClampNeg)).toInt < 0 ∧ (v 1 (36 + 7 * x0.toNatClampNeg)).toInt ≠ 5 ∧ (v 1 (75 + 2 * x0.toNatClampNeg)).toInt < 0 → ((-1) : Int32) = 0 ∧ (∀ n : Nat, v 1 n = if n = 74 + 2 * x0.toNatClampNeg then x1 else v 1 n) ∧ (∀ k : Nat, k ≠ 1 → v k = v k)) ∧ (((0 ≤ x0.toInt ∧ x0.toInt < (v 1 2).toInt) ∧ 0 ≤ x1.toInt ∧ x1.toInt ≤ 100) ∧ (v 1 (34 + 7 * x0.toNatClampNeg)).toInt = 0 ∧ (v 1 (74 + 2 * x0.toNatClampNeg)).toInt < 0 ∧ (v 1 (36 + 7 * x0.toNatClampNeg)).toInt ≠ 5 ∧ 0 ≤ (v 1 (75 + 2 * x0.toNatClampNeg)).toInt ∧ (v 1 (75 + 2 * x0.toNatClampNeg)).toInt < x1.toInt → ((-1) : Int32) = 2 ∧ (∀ n : Nat, v 1 n = if n = 75 + 2 * x0.toNatClampNeg then -5 else if n = 74 + 2 * x0.toNatClampNeg then -5 else if n = 36 + 7 * x0.toNatClampNeg then v 1 (36 + 7 * x0.toNatClampNeg) + 1 else if n = 87 + 10 * x0.toNatClampNeg + 2 * (v 1 (36 + 7 * x0.toNatClampNeg)).toNatClampNeg then v 1 (75 + 2 * x0.toNatClampNeg) else if n = 86 + 10 * x0.toNatClampNeg + 2 * (v 1 (36 + 7 * x0.toNatClampNeg)).toNatClampNeg then x1 else if n = 74 + 2 * x0.toNatClampNeg then x1 else v 1 n) ∧ (∀ k : Nat, k ≠ 1 → v k = v k)) ∧ (((0 ≤ x0.toInt ∧ x0.toInt < (v 1 2).toInt) ∧ 0 ≤ x1.toInt ∧ x1.toInt ≤ 100) ∧ (v 1 (34 + 7 * x0.toNatClampNeg)).toInt = 0 ∧ (v 1 (74 + 2 * x0.toNatClampNeg)).toInt < 0 ∧ (v 1 (36 + 7 * x0.toNatClampNeg)).toInt ≠ 5 ∧ 0 ≤ (v 1 (75 + 2 * x0.toNatClampNeg)).toInt ∧ x1.toInt ≤ (v 1 (75 + 2 * x0.toNatClampNeg)).toInt → ((-1) : Int32) = 1 ∧ (∀ n : Nat, v 1 n = if n = 35 + 7 * x0.toNatClampNeg then (x1 + v 1 (75 + 2 * x0.toNatClampNeg)) / 2 else if n = 34 + 7 * x0.toNatClampNeg then 1 else if n = 75 + 2 * x0.toNatClampNeg then -5 else if n = 74 + 2 * x0.toNatClampNeg then -5 else if n = 36 + 7 * x0.toNatClampNeg then v 1 (36 + 7 * x0.toNatClampNeg) + 1 else if n = 87 + 10 * x0.toNatClampNeg + 2 * (v 1 (36 + 7 * x0.toNatClampNeg)).toNatClampNeg then v 1 (75 + 2 * x0.toNatClampNeg) else if n = 86 + 10 * x0.toNatClampNeg + 2 * (v 1 (36 + 7 * x0.toNatClampNeg)).toNatClampNeg then x1 else if n = 74 + 2 * x0.toNatClampNeg then x1 else v 1 n) ∧ (∀ k : Nat, k ≠ 1 → v k = v k)) := by
        refine ⟨fun hq => ?_, fun hq => ?_, fun hq => ?_, fun hq => ?_, fun hq => ?_, fun hq => ?_, fun hq => ?_⟩
        · exact ⟨rfl, rfl⟩
        · exfalso; omega
        · exfalso; omega
        · exfalso; omega
        · exfalso; omega
        · exfalso; omega
        · exfalso; omega
      exact W.iret (v := (-1)) hx hb hr (fun t ht hW => ⟨⟨(-1), v, rfl, ⟨hv, hpost⟩, by rw [ht]; exact hP, hD⟩, hS.F ht⟩) hS.2.2 dX8_offer_26
  · refine lv_if_eq (tgt := 25) hx hb dX8_offer_5 (by decide) (fun _ => ?_) (fun c9 => absurd c9 (by decide))
    refine lv_iconst (v := (-1)) hx hb dX8_offer_25 (by decide) ?_
    have hpost : (¬ ((0 ≤ x0.toInt ∧ x0.toInt < (v 1 2).toInt) ∧ 0 ≤ x1.toInt ∧ x1.toInt ≤ 100) → ((-1) : Int32) = -1 ∧ v = v) ∧ (((0 ≤ x0.toInt ∧ x0.toInt < (v 1 2).toInt) ∧ 0 ≤ x1.toInt ∧ x1.toInt ≤ 100) ∧ (v 1 (34 + 7 * x0.toNatClampNeg)).toInt ≠ 0 → ((-1) : Int32) = -4 ∧ v = v) ∧ (((0 ≤ x0.toInt ∧ x0.toInt < (v 1 2).toInt) ∧ 0 ≤ x1.toInt ∧ x1.toInt ≤ 100) ∧ (v 1 (34 + 7 * x0.toNatClampNeg)).toInt = 0 ∧ 0 ≤ (v 1 (74 + 2 * x0.toNatClampNeg)).toInt → ((-1) : Int32) = -3 ∧ v = v) ∧ (((0 ≤ x0.toInt ∧ x0.toInt < (v 1 2).toInt) ∧ 0 ≤ x1.toInt ∧ x1.toInt ≤ 100) ∧ (v 1 (34 + 7 * x0.toNatClampNeg)).toInt = 0 ∧ (v 1 (74 + 2 * x0.toNatClampNeg)).toInt < 0 ∧ (v 1 (36 + 7 * x0.toNatClampNeg)).toInt = 5 → ((-1) : Int32) = -2 ∧ v = v) ∧ (((0 ≤ x0.toInt ∧ x0.toInt < (v 1 2).toInt) ∧ 0 ≤ x1.toInt ∧ x1.toInt ≤ 100) ∧ (v 1 (34 + 7 * x0.toNatClampNeg)).toInt = 0 ∧ (v 1 (74 + 2 * x0.toNatClampNeg)).toInt < 0 ∧ (v 1 (36 + 7 * x0.toNatClampNeg)).toInt ≠ 5 ∧ (v 1 (75 + 2 * x0.toNatClampNeg)).toInt < 0 → ((-1) : Int32) = 0 ∧ (∀ n : Nat, v 1 n = if n = 74 + 2 * x0.toNatClampNeg then x1 else v 1 n) ∧ (∀ k : Nat, k ≠ 1 → v k = v k)) ∧ (((0 ≤ x0.toInt ∧ x0.toInt < (v 1 2).toInt) ∧ 0 ≤ x1.toInt ∧ x1.toInt ≤ 100) ∧ (v 1 (34 + 7 * x0.toNatClampNeg)).toInt = 0 ∧ (v 1 (74 + 2 * x0.toNatClampNeg)).toInt < 0 ∧ (v 1 (36 + 7 * x0.toNatClampNeg)).toInt ≠ 5 ∧ 0 ≤ (v 1 (75 + 2 * x0.toNatClampNeg)).toInt ∧ (v 1 (75 + 2 * x0.toNatClampNeg)).toInt < x1.toInt → ((-1) : Int32) = 2 ∧ (∀ n : Nat, v 1 n = if n = 75 + 2 * x0.toNatClampNeg then -5 else if n = 74 + 2 * x0.toNatClampNeg then -5 else if n = 36 + 7 * x0.toNatClampNeg then v 1 (36 + 7 * x0.toNatClampNeg) + 1 else if n = 87 + 10 * x0.toNatClampNeg + 2 * (v 1 (36 + 7 * x0.toNatClampNeg)).toNatClampNeg then v 1 (75 + 2 * x0.toNatClampNeg) else if n = 86 + 10 * x0.toNatClampNeg + 2 * (v 1 (36 + 7 * x0.toNatClampNeg)).toNatClampNeg then x1 else if n = 74 + 2 * x0.toNatClampNeg then x1 else v 1 n) ∧ (∀ k : Nat, k ≠ 1 → v k = v k)) ∧ (((0 ≤ x0.toInt ∧ x0.toInt < (v 1 2).toInt) ∧ 0 ≤ x1.toInt ∧ x1.toInt ≤ 100) ∧ (v 1 (34 + 7 * x0.toNatClampNeg)).toInt = 0 ∧ (v 1 (74 + 2 * x0.toNatClampNeg)).toInt < 0 ∧ (v 1 (36 + 7 * x0.toNatClampNeg)).toInt ≠ 5 ∧ 0 ≤ (v 1 (75 + 2 * x0.toNatClampNeg)).toInt ∧ x1.toInt ≤ (v 1 (75 + 2 * x0.toNatClampNeg)).toInt → ((-1) : Int32) = 1 ∧ (∀ n : Nat, v 1 n = if n = 35 + 7 * x0.toNatClampNeg then (x1 + v 1 (75 + 2 * x0.toNatClampNeg)) / 2 else if n = 34 + 7 * x0.toNatClampNeg then 1 else if n = 75 + 2 * x0.toNatClampNeg then -5 else if n = 74 + 2 * x0.toNatClampNeg then -5 else if n = 36 + 7 * x0.toNatClampNeg then v 1 (36 + 7 * x0.toNatClampNeg) + 1 else if n = 87 + 10 * x0.toNatClampNeg + 2 * (v 1 (36 + 7 * x0.toNatClampNeg)).toNatClampNeg then v 1 (75 + 2 * x0.toNatClampNeg) else if n = 86 + 10 * x0.toNatClampNeg + 2 * (v 1 (36 + 7 * x0.toNatClampNeg)).toNatClampNeg then x1 else if n = 74 + 2 * x0.toNatClampNeg then x1 else v 1 n) ∧ (∀ k : Nat, k ≠ 1 → v k = v k)) := by
      refine ⟨fun hq => ?_, fun hq => ?_, fun hq => ?_, fun hq => ?_, fun hq => ?_, fun hq => ?_, fun hq => ?_⟩
      · exact ⟨rfl, rfl⟩
      · exfalso; omega
      · exfalso; omega
      · exfalso; omega
      · exfalso; omega
      · exfalso; omega
      · exfalso; omega
    exact W.iret (v := (-1)) hx hb hr (fun t ht hW => ⟨⟨(-1), v, rfl, ⟨hv, hpost⟩, by rw [ht]; exact hP, hD⟩, hS.F ht⟩) hS.2.2 dX8_offer_26

set_option maxHeartbeats 4000000 in
set_option maxRecDepth 100000 in
theorem e_X8_offer_1 (l : Launch) (dC : Nat → ClassId) (dI : Nat → Nat → Nat) (cy : Nat → ClassId) (sz : Nat) (ad : Nat → Nat) (v : Nat → Nat → Int32) (hv : Ir v) (x0 x1 : Int32) : Met l yX8_offer wsX8_offer ({ frames := 2, cells := 0, slots := 0, locals := 128 }) (va_Pc [.ref (ad 0), .int x0, .int 1, .int x1] (ex_Pre dC dI cy sz (wm ad cy v))) (va_Qi (fun (r : Int32) (u : Nat → Nat → Int32) => Ir u ∧ (¬ ((0 ≤ x0.toInt ∧ x0.toInt < (v 1 2).toInt) ∧ 0 ≤ x1.toInt ∧ x1.toInt ≤ 100) → r = -1 ∧ u = v) ∧ (((0 ≤ x0.toInt ∧ x0.toInt < (v 1 2).toInt) ∧ 0 ≤ x1.toInt ∧ x1.toInt ≤ 100) ∧ (v 1 (34 + 7 * x0.toNatClampNeg)).toInt ≠ 0 → r = -4 ∧ u = v) ∧ (((0 ≤ x0.toInt ∧ x0.toInt < (v 1 2).toInt) ∧ 0 ≤ x1.toInt ∧ x1.toInt ≤ 100) ∧ (v 1 (34 + 7 * x0.toNatClampNeg)).toInt = 0 ∧ 0 ≤ (v 1 (75 + 2 * x0.toNatClampNeg)).toInt → r = -3 ∧ u = v) ∧ (((0 ≤ x0.toInt ∧ x0.toInt < (v 1 2).toInt) ∧ 0 ≤ x1.toInt ∧ x1.toInt ≤ 100) ∧ (v 1 (34 + 7 * x0.toNatClampNeg)).toInt = 0 ∧ (v 1 (75 + 2 * x0.toNatClampNeg)).toInt < 0 ∧ (v 1 (36 + 7 * x0.toNatClampNeg)).toInt = 5 → r = -2 ∧ u = v) ∧ (((0 ≤ x0.toInt ∧ x0.toInt < (v 1 2).toInt) ∧ 0 ≤ x1.toInt ∧ x1.toInt ≤ 100) ∧ (v 1 (34 + 7 * x0.toNatClampNeg)).toInt = 0 ∧ (v 1 (75 + 2 * x0.toNatClampNeg)).toInt < 0 ∧ (v 1 (36 + 7 * x0.toNatClampNeg)).toInt ≠ 5 ∧ (v 1 (74 + 2 * x0.toNatClampNeg)).toInt < 0 → r = 0 ∧ (∀ n : Nat, u 1 n = if n = 75 + 2 * x0.toNatClampNeg then x1 else v 1 n) ∧ (∀ k : Nat, k ≠ 1 → u k = v k)) ∧ (((0 ≤ x0.toInt ∧ x0.toInt < (v 1 2).toInt) ∧ 0 ≤ x1.toInt ∧ x1.toInt ≤ 100) ∧ (v 1 (34 + 7 * x0.toNatClampNeg)).toInt = 0 ∧ (v 1 (75 + 2 * x0.toNatClampNeg)).toInt < 0 ∧ (v 1 (36 + 7 * x0.toNatClampNeg)).toInt ≠ 5 ∧ 0 ≤ (v 1 (74 + 2 * x0.toNatClampNeg)).toInt ∧ x1.toInt < (v 1 (74 + 2 * x0.toNatClampNeg)).toInt → r = 2 ∧ (∀ n : Nat, u 1 n = if n = 75 + 2 * x0.toNatClampNeg then -5 else if n = 74 + 2 * x0.toNatClampNeg then -5 else if n = 36 + 7 * x0.toNatClampNeg then v 1 (36 + 7 * x0.toNatClampNeg) + 1 else if n = 87 + 10 * x0.toNatClampNeg + 2 * (v 1 (36 + 7 * x0.toNatClampNeg)).toNatClampNeg then x1 else if n = 86 + 10 * x0.toNatClampNeg + 2 * (v 1 (36 + 7 * x0.toNatClampNeg)).toNatClampNeg then v 1 (74 + 2 * x0.toNatClampNeg) else if n = 75 + 2 * x0.toNatClampNeg then x1 else v 1 n) ∧ (∀ k : Nat, k ≠ 1 → u k = v k)) ∧ (((0 ≤ x0.toInt ∧ x0.toInt < (v 1 2).toInt) ∧ 0 ≤ x1.toInt ∧ x1.toInt ≤ 100) ∧ (v 1 (34 + 7 * x0.toNatClampNeg)).toInt = 0 ∧ (v 1 (75 + 2 * x0.toNatClampNeg)).toInt < 0 ∧ (v 1 (36 + 7 * x0.toNatClampNeg)).toInt ≠ 5 ∧ 0 ≤ (v 1 (74 + 2 * x0.toNatClampNeg)).toInt ∧ (v 1 (74 + 2 * x0.toNatClampNeg)).toInt ≤ x1.toInt → r = 1 ∧ (∀ n : Nat, u 1 n = if n = 35 + 7 * x0.toNatClampNeg then (v 1 (74 + 2 * x0.toNatClampNeg) + x1) / 2 else if n = 34 + 7 * x0.toNatClampNeg then 1 else if n = 75 + 2 * x0.toNatClampNeg then -5 else if n = 74 + 2 * x0.toNatClampNeg then -5 else if n = 36 + 7 * x0.toNatClampNeg then v 1 (36 + 7 * x0.toNatClampNeg) + 1 else if n = 87 + 10 * x0.toNatClampNeg + 2 * (v 1 (36 + 7 * x0.toNatClampNeg)).toNatClampNeg then x1 else if n = 86 + 10 * x0.toNatClampNeg + 2 * (v 1 (36 + 7 * x0.toNatClampNeg)).toNatClampNeg then v 1 (74 + 2 * x0.toNatClampNeg) else if n = 75 + 2 * x0.toNatClampNeg then x1 else v 1 n) ∧ (∀ k : Nat, k ≠ 1 → u k = v k))) (fun u t => ex_Pst dC dI (va_A (wm ad cy v) sz) (wm ad cy u) t) (va_A (wm ad cy v) sz)) 0 0 (va_A (wm ad cy v) sz) := by
  refine Met.ofW (cc := cX8_offer) (maxL := 7) (ret := (some .int)) (by decide) rfl ?_
  intro p e s m args below meth c s₁ B hml hv
  obtain ⟨rfl, hsz, hE, hP, hK, hD0⟩ := hv
  have hx := B.exec
  have hb := B.bytes
  have hr := B.returns
  have hts := atoms_spec (ws := wsX8_offer) B.pre
  have hown : s.vm.findClass RX8 = some m.cls := findClass_of_methodNamed B.named
  have hlocks := B.notSynchronized
  subst hsz
  have hD := hD0.self (sz := s.heap.size)
  generalize hAe : va_A (wm ad cy v) s.heap.size = A at hD ⊢
  have hA : ∀ q : Nat, s.heap.size ≤ q → A q := fun q h => by rw [← hAe]; exact Or.inr h
  have hS : va_S A s.heap s.heap [] := va_S.rf
  have hP : va_P (dC, dI) vwCl (wm ad cy v) s.heap := hP
  have hl := lv_entry ([.ref (ad 0), .int x0, .int 1, .int x1]) (n := 7) (Nat.le_of_ble_eq_true rfl)
  rw [lg_entry_eq]
  generalize (lg_sl ([.ref (ad 0), .int x0, .int 1, .int x1]) ++ List.replicate (7 - (lg_sl ([.ref (ad 0), .int x0, .int 1, .int x1])).length) Slot.unset).toArray = ls at hl ⊢
  have hl : lv_has ls 7 [(0, .ref (ad 0)), (1, .int x0), (2, .int 1), (3, .int x1)] := hl
  refine lv_aload_n hx hb dX8_offer_0 rfl (lv_at hl 0 rfl) ?_
  refine lv_iload_n hx hb dX8_offer_1 rfl (lv_at hl 1 rfl) ?_
  refine yw_i (w1 := fun (u : Nat → Nat → Int32) => wm ad cy u) hD hS hA (va_runV (As := [.int x0]) (rest := []) ⟨hx, hb, hml, hown, hts⟩ (q_X8_isCase l dC dI cy _ ad v hv x0) (cwV 1 hts gX8_offer_X8_isCase rfl rfl rfl hd_V_X8_isCase_1 ⟨Nat.le_of_ble_eq_true rfl, Nat.le_of_ble_eq_true rfl⟩) (yw_preV hE hK hP hD (ci := 8) (q := (RX8, TX8, 11)) (q0 := 0) rfl (wm_at (by decide) rc_0)) rfl rfl hl.1 rfl (lv_room (Nat.le_of_ble_eq_true rfl)) dX8_offer_2 ⟨Nat.le_of_ble_eq_true rfl, Nat.le_of_ble_eq_true rfl⟩) (fun r_1 v_1 H locs hw_1 hP hD hS => ?_)
  obtain ⟨-, hu_1, hw_1⟩ := hw_1
  replace hu_1 := hu_1.symm
  subst hu_1
  rcases hw_1 with ⟨rfl, ha_2⟩ | ⟨rfl, ha_2⟩
  · have hb_2 := hv 1 2 6 (by decide)
    have hj_2 : 0 ≤ x0.toInt ∧ x0.toInt ≤ 5 := ⟨by omega, by omega⟩
    refine lv_if_eq (tgt := 25) hx hb dX8_offer_5 (by decide) (fun c9 => absurd c9 (by decide)) (fun _ => ?_)
    refine lv_iload_n hx hb dX8_offer_8 rfl (lv_at hl 2 rfl) ?_
    refine yc_p hP hS (va_runS (As := [.int 1]) (rest := []) ⟨hx, hb, hml, hown, hts⟩ (c_X8_isSide l 1) (cwS 1 hts gX8_offer_X8_isSide rfl rfl rfl hd_S_X8_isSide_1 ⟨Nat.le_of_ble_eq_true rfl, Nat.le_of_ble_eq_true rfl⟩) ex_preP rfl rfl hl.1 rfl (lv_room (Nat.le_of_ble_eq_true rfl)) dX8_offer_9 ⟨Nat.le_of_ble_eq_true rfl, Nat.le_of_ble_eq_true rfl⟩) (fun r_3 H locs hw_3 hP hS => ?_)
    rcases wi_ca hw_3 with ⟨rfl, hc_4⟩ | ⟨rfl, hc_4⟩
    · have k_0 : (0 : Int32).toInt = 0 := by decide
      have k_1 : (1 : Int32).toInt = 1 := by decide
      have tc_4 := wi_tl hc_4
      refine lv_if_eq (tgt := 25) hx hb dX8_offer_12 (by decide) (fun c9 => absurd c9 (by decide)) (fun _ => ?_)
      refine lv_iload_n hx hb dX8_offer_15 rfl (lv_at hl 3 rfl) ?_
      refine lv_iconst (v := 0) hx hb dX8_offer_16 (by decide) ?_
      refine lv_bipush (v := 100) hx hb dX8_offer_17 (by decide) ?_
      refine yc_p hP hS (va_runS (As := [.int x1, .int 0, .int 100]) (rest := []) ⟨hx, hb, hml, hown, hts⟩ (c_X8_in l x1 0 100) (cwS 3 hts gX8_offer_X8_in rfl rfl rfl hd_S_X8_in_3 ⟨Nat.le_of_ble_eq_true rfl, Nat.le_of_ble_eq_true rfl⟩) ex_preP rfl rfl hl.1 rfl (lv_room (Nat.le_of_ble_eq_true rfl)) dX8_offer_19 ⟨Nat.le_of_ble_eq_true rfl, Nat.le_of_ble_eq_true rfl⟩) (fun r_5 H locs hw_5 hP hS => ?_)
      rcases wi_ca hw_5 with ⟨rfl, hc_6⟩ | ⟨rfl, hc_6⟩
      · have k_100 : (100 : Int32).toInt = 100 := by decide
        have tc_6 := wi_tl hc_6
        refine lv_if_ne (tgt := 27) hx hb dX8_offer_22 (by decide) (fun _ => ?_) (fun c9 => absurd c9 (by decide))
        refine lv_aload_n hx hb dX8_offer_27 rfl (lv_at hl 0 rfl) ?_
        refine va_get (D := (dC, dI)) (ci := 8) (v := .ref (ad 1)) (C := RX8) (T := TX8) (N := 11) hx hb hts iwX8_offer_X8 hown hK hP (0) (wm_at (by decide) rc_0) rfl 0 (by decide) (hts (.fieldLink RX8 7 "QuietStairsModel" "s" "[I") fwX8_offer_1) (fun _ h9 => h9) rfl dX8_offer_28 ?_
        refine lv_iload_n hx hb dX8_offer_31 rfl (lv_at hl 1 rfl) ?_
        refine lv_iconst (v := 2) hx hb dX8_offer_32 (by decide) ?_
        refine yc_p hP hS (va_runS (As := [.int x0, .int 2]) (rest := [.ref (ad 1)]) ⟨hx, hb, hml, hown, hts⟩ (c_X8_at l x0 2) (cwS 2 hts gX8_offer_X8_at rfl rfl rfl hd_S_X8_at_2 ⟨Nat.le_of_ble_eq_true rfl, Nat.le_of_ble_eq_true rfl⟩) ex_preP rfl rfl hl.1 rfl (lv_room (Nat.le_of_ble_eq_true rfl)) dX8_offer_33 ⟨Nat.le_of_ble_eq_true rfl, Nat.le_of_ble_eq_true rfl⟩) (fun r_7 H locs hw_7 hP hS => ?_)
        have k_2 : (2 : Int32).toInt = 2 := by decide
        have tr_7 : r_7.toInt = 32 + 7 * x0.toInt + (2 : Int32).toInt := t_at hw_7 ⟨by omega, by omega⟩ ⟨by omega, by omega⟩
        have zn_x0 : (x0.toNatClampNeg : Int) = x0.toInt := t_nn (by omega)
        have nr_7 : r_7.toNatClampNeg = 34 + 7 * x0.toNatClampNeg := by have z1 := t_nn (x := r_7) (by omega); omega
        refine va_iald hx hb hK hP (1) 0 (wm_at (by decide) rc_1) rfl (vp_in_iff.mpr ⟨by omega, by omega⟩) dX8_offer_36 ?_
        refine lv_topi (fun x_8 ex_8 => ?_)
        rw [nr_7] at ex_8
        have qx_8 : x_8.toInt = (v 1 (34 + 7 * x0.toNatClampNeg)).toInt := congrArg Int32.toInt ex_8
        refine lv_if_eq (tgt := 43) hx hb dX8_offer_37 (by decide) (fun c_9 => ?_) (fun c_9 => ?_)
        · have tc_9 : x_8.toInt = (0 : Int32).toInt := by rw [c_9]
          refine lv_aload_n hx hb dX8_offer_43 rfl (lv_at hl 0 rfl) ?_
          refine va_get (D := (dC, dI)) (ci := 8) (v := .ref (ad 1)) (C := RX8) (T := TX8) (N := 11) hx hb hts iwX8_offer_X8 hown hK hP (0) (wm_at (by decide) rc_0) rfl 0 (by decide) (hts (.fieldLink RX8 7 "QuietStairsModel" "s" "[I") fwX8_offer_1) (fun _ h9 => h9) rfl dX8_offer_44 ?_
          refine lv_bipush (v := 74) hx hb dX8_offer_47 (by decide) ?_
          refine lv_iconst (v := 2) hx hb dX8_offer_49 (by decide) ?_
          refine lv_iload_n hx hb dX8_offer_50 rfl (lv_at hl 1 rfl) ?_
          refine lv_imul hx hb dX8_offer_51 ?_
          refine lv_topi (fun x_10 ex_10 => ?_)
          have tx_10 : x_10.toInt = 2 * x0.toInt := by rw [ex_10, t_mul (by rw [k_2]; omega), k_2]
          refine lv_iadd hx hb dX8_offer_52 ?_
          refine lv_topi (fun x_11 ex_11 => ?_)
          have k_74 : (74 : Int32).toInt = 74 := by decide
          have tx_11 : x_11.toInt = (74 : Int32).toInt + x_10.toInt := by rw [ex_11]; exact t_add ⟨by omega, by omega⟩
          refine lv_iload_n hx hb dX8_offer_53 rfl (lv_at hl 2 rfl) ?_
          refine lv_iadd hx hb dX8_offer_54 ?_
          refine lv_topi (fun x_12 ex_12 => ?_)
          have tx_12 : x_12.toInt = x_11.toInt + (1 : Int32).toInt := by rw [ex_12]; exact t_add ⟨by omega, by omega⟩
          have nx_12 : x_12.toNatClampNeg = 75 + 2 * x0.toNatClampNeg := by have z1 := t_nn (x := x_12) (by omega); omega
          refine va_iald hx hb hK hP (1) 0 (wm_at (by decide) rc_1) rfl (vp_in_iff.mpr ⟨by omega, by omega⟩) dX8_offer_55 ?_
          refine lv_topi (fun x_13 ex_13 => ?_)
          rw [nx_12] at ex_13
          have qx_13 : x_13.toInt = (v 1 (75 + 2 * x0.toNatClampNeg)).toInt := congrArg Int32.toInt ex_13
          refine lv_if_lt (tgt := 62) hx hb dX8_offer_56 (by decide) (fun c_14 => ?_) (fun c_14 => ?_)
          · have tc_14 : x_13.toInt < (0 : Int32).toInt := Int32.lt_iff_toInt_lt.mp c_14
            refine lv_aload_n hx hb dX8_offer_62 rfl (lv_at hl 0 rfl) ?_
            refine va_get (D := (dC, dI)) (ci := 8) (v := .ref (ad 1)) (C := RX8) (T := TX8) (N := 11) hx hb hts iwX8_offer_X8 hown hK hP (0) (wm_at (by decide) rc_0) rfl 0 (by decide) (hts (.fieldLink RX8 7 "QuietStairsModel" "s" "[I") fwX8_offer_1) (fun _ h9 => h9) rfl dX8_offer_63 ?_
            refine lv_iload_n hx hb dX8_offer_66 rfl (lv_at hl 1 rfl) ?_
            refine lv_iconst (v := 4) hx hb dX8_offer_67 (by decide) ?_
            refine yc_p hP hS (va_runS (As := [.int x0, .int 4]) (rest := [.ref (ad 1)]) ⟨hx, hb, hml, hown, hts⟩ (c_X8_at l x0 4) (cwS 2 hts gX8_offer_X8_at rfl rfl rfl hd_S_X8_at_2 ⟨Nat.le_of_ble_eq_true rfl, Nat.le_of_ble_eq_true rfl⟩) ex_preP rfl rfl hl.1 rfl (lv_room (Nat.le_of_ble_eq_true rfl)) dX8_offer_68 ⟨Nat.le_of_ble_eq_true rfl, Nat.le_of_ble_eq_true rfl⟩) (fun r_15 H locs hw_15 hP hS => ?_)
            have k_4 : (4 : Int32).toInt = 4 := by decide
            have tr_15 : r_15.toInt = 32 + 7 * x0.toInt + (4 : Int32).toInt := t_at hw_15 ⟨by omega, by omega⟩ ⟨by omega, by omega⟩
            have nr_15 : r_15.toNatClampNeg = 36 + 7 * x0.toNatClampNeg := by have z1 := t_nn (x := r_15) (by omega); omega
            refine va_iald hx hb hK hP (1) 0 (wm_at (by decide) rc_1) rfl (vp_in_iff.mpr ⟨by omega, by omega⟩) dX8_offer_71 ?_
            refine lv_topi (fun x_16 ex_16 => ?_)
            have bzx_16 : 0 ≤ x_16.toInt ∧ x_16.toInt ≤ 5 := by rw [ex_16]; exact hv 1 _ 5 (bx_4 (i := x0.toInt) (s := 4) (by omega) ⟨by omega, by omega⟩ (by omega))
            rw [nr_15] at ex_16
            have qx_16 : x_16.toInt = (v 1 (36 + 7 * x0.toNatClampNeg)).toInt := congrArg Int32.toInt ex_16
            refine lv_istore (lv' := [(4, .int x_16), (0, .ref (ad 0)), (1, .int x0), (2, .int 1), (3, .int x1)]) hx hb dX8_offer_72 hl (by decide) rfl (fun ls hl => ?_)
            refine lv_iload hx hb dX8_offer_74 (lv_at hl 0 rfl) ?_
            refine lv_iconst (v := 5) hx hb dX8_offer_76 (by decide) ?_
            have k_5 : (5 : Int32).toInt = 5 := by decide
            refine lv_icmp_ne (tgt := 83) hx hb dX8_offer_77 (by decide) (fun c_17 => ?_) (fun c_17 => ?_)
            · have tc_17 : x_16.toInt ≠ (5 : Int32).toInt := fun q => absurd (Int32.toInt_inj.mp q) c_17
              refine lv_aload_n hx hb dX8_offer_83 rfl (lv_at hl 1 rfl) ?_
              refine va_get (D := (dC, dI)) (ci := 8) (v := .ref (ad 1)) (C := RX8) (T := TX8) (N := 11) hx hb hts iwX8_offer_X8 hown hK hP (0) (wm_at (by decide) rc_0) rfl 0 (by decide) (hts (.fieldLink RX8 7 "QuietStairsModel" "s" "[I") fwX8_offer_1) (fun _ h9 => h9) rfl dX8_offer_84 ?_
              refine lv_bipush (v := 74) hx hb dX8_offer_87 (by decide) ?_
              refine lv_iconst (v := 2) hx hb dX8_offer_89 (by decide) ?_
              refine lv_iload_n hx hb dX8_offer_90 rfl (lv_at hl 2 rfl) ?_
              refine lv_imul hx hb dX8_offer_91 ?_
              refine lv_topi (fun x_18 ex_18 => ?_)
              obtain rfl : x_10 = x_18 := ex_10.trans ex_18.symm
              refine lv_iadd hx hb dX8_offer_92 ?_
              refine lv_topi (fun x_19 ex_19 => ?_)
              obtain rfl : x_11 = x_19 := ex_11.trans ex_19.symm
              refine lv_iload_n hx hb dX8_offer_93 rfl (lv_at hl 3 rfl) ?_
              refine lv_iadd hx hb dX8_offer_94 ?_
              refine lv_topi (fun x_20 ex_20 => ?_)
              obtain rfl : x_12 = x_20 := ex_12.trans ex_20.symm
              refine lv_iload_n hx hb dX8_offer_95 rfl (lv_at hl 4 rfl) ?_
              refine va_iast hx hb hK hP hD hS (1) 0 (wm_at (by decide) rc_1) rfl (vp_in_iff.mpr ⟨by omega, by omega⟩) dX8_offer_96 (fun H locs hP hD hS => ?_)
              obtain ⟨v_21, ev_21⟩ : ∃ u : Nat → Nat → Int32, u = upr v 1 (upd (v 1) (x_12.toNatClampNeg) x1) := ⟨_, rfl⟩
              have hP : va_P (dC, dI) vwCl (wm ad cy v_21) H := by rw [ev_21, ← wm_put (e := _) rc_1]; exact hP
              have hD : va_D A (wm ad cy v_21) := by rw [ev_21, ← wm_put (e := _) rc_1]; exact hD
              have hv : Ir v_21 := by rw [ev_21]; exact hv.put (k := 1) (fun h q => by rw [show br 1 _ = _ from (bx_n (by omega))] at q; cases q)
              rw [nx_12] at ev_21
              refine lv_aload_n hx hb dX8_offer_97 rfl (lv_at hl 1 rfl) ?_
              refine va_get (D := (dC, dI)) (ci := 8) (v := .ref (ad 1)) (C := RX8) (T := TX8) (N := 11) hx hb hts iwX8_offer_X8 hown hK hP (0) (wm_at (by decide) rc_0) rfl 0 (by decide) (hts (.fieldLink RX8 7 "QuietStairsModel" "s" "[I") fwX8_offer_1) (fun _ h9 => h9) rfl dX8_offer_98 ?_
              refine lv_bipush (v := 74) hx hb dX8_offer_101 (by decide) ?_
              refine lv_iconst (v := 2) hx hb dX8_offer_103 (by decide) ?_
              refine lv_iload_n hx hb dX8_offer_104 rfl (lv_at hl 2 rfl) ?_
              refine lv_imul hx hb dX8_offer_105 ?_
              refine lv_topi (fun x_22 ex_22 => ?_)
              obtain rfl : x_10 = x_22 := ex_10.trans ex_22.symm
              refine lv_iadd hx hb dX8_offer_106 ?_
              refine lv_topi (fun x_23 ex_23 => ?_)
              obtain rfl : x_11 = x_23 := ex_11.trans ex_23.symm
              refine lv_iconst (v := 1) hx hb dX8_offer_107 (by decide) ?_
              refine lv_iadd hx hb dX8_offer_108 ?_
              refine lv_topi (fun x_24 ex_24 => ?_)
              obtain rfl : x_12 = x_24 := ex_12.trans ex_24.symm
              refine lv_iload_n hx hb dX8_offer_109 rfl (lv_at hl 3 rfl) ?_
              refine lv_isub hx hb dX8_offer_110 ?_
              refine lv_topi (fun x_25 ex_25 => ?_)
              have tx_25 : x_25.toInt = x_12.toInt - (1 : Int32).toInt := by rw [ex_25]; exact t_sub ⟨by omega, by omega⟩
              have nx_25 : x_25.toNatClampNeg = 74 + 2 * x0.toNatClampNeg := by have z1 := t_nn (x := x_25) (by omega); omega
              refine va_iald hx hb hK hP (1) 0 (wm_at (by decide) rc_1) rfl (vp_in_iff.mpr ⟨by omega, by omega⟩) dX8_offer_111 ?_
              refine lv_topi (fun x_26 ex_26 => ?_)
              rw [nx_25] at ex_26
              rw [ev_21, upr_s, pk_un (by omega)] at ex_26
              have qx_26 : x_26.toInt = (v 1 (74 + 2 * x0.toNatClampNeg)).toInt := congrArg Int32.toInt ex_26
              refine lv_if_ge (tgt := 117) hx hb dX8_offer_112 (by decide) (fun c_27 => ?_) (fun c_27 => ?_)
              · have tc_27 : x_26.toInt ≥ (0 : Int32).toInt := Int32.le_iff_toInt_le.mp c_27
                refine lv_aload_n hx hb dX8_offer_117 rfl (lv_at hl 1 rfl) ?_
                refine va_get (D := (dC, dI)) (ci := 8) (v := .ref (ad 1)) (C := RX8) (T := TX8) (N := 11) hx hb hts iwX8_offer_X8 hown hK hP (0) (wm_at (by decide) rc_0) rfl 0 (by decide) (hts (.fieldLink RX8 7 "QuietStairsModel" "s" "[I") fwX8_offer_1) (fun _ h9 => h9) rfl dX8_offer_118 ?_
                refine lv_bipush (v := 74) hx hb dX8_offer_121 (by decide) ?_
                refine lv_iconst (v := 2) hx hb dX8_offer_123 (by decide) ?_
                refine lv_iload_n hx hb dX8_offer_124 rfl (lv_at hl 2 rfl) ?_
                refine lv_imul hx hb dX8_offer_125 ?_
                refine lv_topi (fun x_28 ex_28 => ?_)
                obtain rfl : x_10 = x_28 := ex_10.trans ex_28.symm
                refine lv_iadd hx hb dX8_offer_126 ?_
                refine lv_topi (fun x_29 ex_29 => ?_)
                obtain rfl : x_11 = x_29 := ex_11.trans ex_29.symm
                have nx_11 : x_11.toNatClampNeg = 74 + 2 * x0.toNatClampNeg := by have z1 := t_nn (x := x_11) (by omega); omega
                refine va_iald hx hb hK hP (1) 0 (wm_at (by decide) rc_1) rfl (vp_in_iff.mpr ⟨by omega, by omega⟩) dX8_offer_127 ?_
                refine lv_topi (fun x_30 ex_30 => ?_)
                rw [nx_11] at ex_30
                rw [ev_21, upr_s, pk_un (by omega)] at ex_30
                obtain rfl : x_26 = x_30 := (ex_30.trans ex_26.symm).symm
                refine lv_istore (lv' := [(5, .int x_26), (4, .int x_16), (0, .ref (ad 0)), (1, .int x0), (2, .int 1), (3, .int x1)]) hx hb dX8_offer_128 hl (by decide) rfl (fun ls hl => ?_)
                refine lv_aload_n hx hb dX8_offer_130 rfl (lv_at hl 2 rfl) ?_
                refine va_get (D := (dC, dI)) (ci := 8) (v := .ref (ad 1)) (C := RX8) (T := TX8) (N := 11) hx hb hts iwX8_offer_X8 hown hK hP (0) (wm_at (by decide) rc_0) rfl 0 (by decide) (hts (.fieldLink RX8 7 "QuietStairsModel" "s" "[I") fwX8_offer_1) (fun _ h9 => h9) rfl dX8_offer_131 ?_
                refine lv_bipush (v := 74) hx hb dX8_offer_134 (by decide) ?_
                refine lv_iconst (v := 2) hx hb dX8_offer_136 (by decide) ?_
                refine lv_iload_n hx hb dX8_offer_137 rfl (lv_at hl 3 rfl) ?_
                refine lv_imul hx hb dX8_offer_138 ?_
                refine lv_topi (fun x_31 ex_31 => ?_)
                obtain rfl : x_10 = x_31 := ex_10.trans ex_31.symm
                refine lv_iadd hx hb dX8_offer_139 ?_
                refine lv_topi (fun x_32 ex_32 => ?_)
                obtain rfl : x_11 = x_32 := ex_11.trans ex_32.symm
                refine lv_iconst (v := 1) hx hb dX8_offer_140 (by decide) ?_
                refine lv_iadd hx hb dX8_offer_141 ?_
                refine lv_topi (fun x_33 ex_33 => ?_)
                obtain rfl : x_12 = x_33 := ex_12.trans ex_33.symm
                refine va_iald hx hb hK hP (1) 0 (wm_at (by decide) rc_1) rfl (vp_in_iff.mpr ⟨by omega, by omega⟩) dX8_offer_142 ?_
                refine lv_topi (fun x_34 ex_34 => ?_)
                rw [nx_12] at ex_34
                rw [ev_21, upr_s, pk_us] at ex_34
                obtain rfl : x1 = x_34 := ex_34.symm
                refine lv_istore (lv' := [(6, .int x1), (5, .int x_26), (4, .int x_16), (0, .ref (ad 0)), (1, .int x0), (2, .int 1), (3, .int x1)]) hx hb dX8_offer_143 hl (by decide) rfl (fun ls hl => ?_)
                refine lv_aload_n hx hb dX8_offer_145 rfl (lv_at hl 3 rfl) ?_
                refine va_get (D := (dC, dI)) (ci := 8) (v := .ref (ad 1)) (C := RX8) (T := TX8) (N := 11) hx hb hts iwX8_offer_X8 hown hK hP (0) (wm_at (by decide) rc_0) rfl 0 (by decide) (hts (.fieldLink RX8 7 "QuietStairsModel" "s" "[I") fwX8_offer_1) (fun _ h9 => h9) rfl dX8_offer_146 ?_
                refine lv_bipush (v := 86) hx hb dX8_offer_149 (by decide) ?_
                refine lv_bipush (v := 10) hx hb dX8_offer_151 (by decide) ?_
                refine lv_iload_n hx hb dX8_offer_153 rfl (lv_at hl 4 rfl) ?_
                refine lv_imul hx hb dX8_offer_154 ?_
                refine lv_topi (fun x_35 ex_35 => ?_)
                have k_10 : (10 : Int32).toInt = 10 := by decide
                have tx_35 : x_35.toInt = 10 * x0.toInt := by rw [ex_35, t_mul (by rw [k_10]; omega), k_10]
                refine lv_iadd hx hb dX8_offer_155 ?_
                refine lv_topi (fun x_36 ex_36 => ?_)
                have k_86 : (86 : Int32).toInt = 86 := by decide
                have tx_36 : x_36.toInt = (86 : Int32).toInt + x_35.toInt := by rw [ex_36]; exact t_add ⟨by omega, by omega⟩
                refine lv_iconst (v := 2) hx hb dX8_offer_156 (by decide) ?_
                refine lv_iload hx hb dX8_offer_157 (lv_at hl 2 rfl) ?_
                refine lv_imul hx hb dX8_offer_159 ?_
                refine lv_topi (fun x_37 ex_37 => ?_)
                have tx_37 : x_37.toInt = 2 * x_16.toInt := by rw [ex_37, t_mul (by rw [k_2]; omega), k_2]
                refine lv_iadd hx hb dX8_offer_160 ?_
                refine lv_topi (fun x_38 ex_38 => ?_)
                have tx_38 : x_38.toInt = x_36.toInt + x_37.toInt := by rw [ex_38]; exact t_add ⟨by omega, by omega⟩
                refine lv_iload hx hb dX8_offer_161 (lv_at hl 1 rfl) ?_
                refine va_iast hx hb hK hP hD hS (1) 0 (wm_at (by decide) rc_1) rfl (vp_in_iff.mpr ⟨by omega, by omega⟩) dX8_offer_163 (fun H locs hP hD hS => ?_)
                have zn_x_16 : (x_16.toNatClampNeg : Int) = x_16.toInt := t_nn (by omega)
                have nx_38 : x_38.toNatClampNeg = 86 + 10 * x0.toNatClampNeg + 2 * x_16.toNatClampNeg := by have z1 := t_nn (x := x_38) (by omega); omega
                obtain ⟨v_39, ev_39⟩ : ∃ u : Nat → Nat → Int32, u = upr v_21 1 (upd (v_21 1) (x_38.toNatClampNeg) x_26) := ⟨_, rfl⟩
                have hP : va_P (dC, dI) vwCl (wm ad cy v_39) H := by rw [ev_39, ← wm_put (e := _) rc_1]; exact hP
                have hD : va_D A (wm ad cy v_39) := by rw [ev_39, ← wm_put (e := _) rc_1]; exact hD
                have hv : Ir v_39 := by rw [ev_39]; exact hv.put (k := 1) (fun h q => by rw [show br 1 _ = _ from (bx_n (by omega))] at q; cases q)
                rw [nx_38] at ev_39
                refine lv_aload_n hx hb dX8_offer_164 rfl (lv_at hl 3 rfl) ?_
                refine va_get (D := (dC, dI)) (ci := 8) (v := .ref (ad 1)) (C := RX8) (T := TX8) (N := 11) hx hb hts iwX8_offer_X8 hown hK hP (0) (wm_at (by decide) rc_0) rfl 0 (by decide) (hts (.fieldLink RX8 7 "QuietStairsModel" "s" "[I") fwX8_offer_1) (fun _ h9 => h9) rfl dX8_offer_165 ?_
                refine lv_bipush (v := 86) hx hb dX8_offer_168 (by decide) ?_
                refine lv_bipush (v := 10) hx hb dX8_offer_170 (by decide) ?_
                refine lv_iload_n hx hb dX8_offer_172 rfl (lv_at hl 4 rfl) ?_
                refine lv_imul hx hb dX8_offer_173 ?_
                refine lv_topi (fun x_40 ex_40 => ?_)
                obtain rfl : x_35 = x_40 := ex_35.trans ex_40.symm
                refine lv_iadd hx hb dX8_offer_174 ?_
                refine lv_topi (fun x_41 ex_41 => ?_)
                obtain rfl : x_36 = x_41 := ex_36.trans ex_41.symm
                refine lv_iconst (v := 2) hx hb dX8_offer_175 (by decide) ?_
                refine lv_iload hx hb dX8_offer_176 (lv_at hl 2 rfl) ?_
                refine lv_imul hx hb dX8_offer_178 ?_
                refine lv_topi (fun x_42 ex_42 => ?_)
                obtain rfl : x_37 = x_42 := ex_37.trans ex_42.symm
                refine lv_iadd hx hb dX8_offer_179 ?_
                refine lv_topi (fun x_43 ex_43 => ?_)
                obtain rfl : x_38 = x_43 := ex_38.trans ex_43.symm
                refine lv_iconst (v := 1) hx hb dX8_offer_180 (by decide) ?_
                refine lv_iadd hx hb dX8_offer_181 ?_
                refine lv_topi (fun x_44 ex_44 => ?_)
                have tx_44 : x_44.toInt = x_38.toInt + (1 : Int32).toInt := by rw [ex_44]; exact t_add ⟨by omega, by omega⟩
                refine lv_iload hx hb dX8_offer_182 (lv_at hl 0 rfl) ?_
                refine va_iast hx hb hK hP hD hS (1) 0 (wm_at (by decide) rc_1) rfl (vp_in_iff.mpr ⟨by omega, by omega⟩) dX8_offer_184 (fun H locs hP hD hS => ?_)
                have nx_44 : x_44.toNatClampNeg = 87 + 10 * x0.toNatClampNeg + 2 * x_16.toNatClampNeg := by have z1 := t_nn (x := x_44) (by omega); omega
                obtain ⟨v_45, ev_45⟩ : ∃ u : Nat → Nat → Int32, u = upr v_39 1 (upd (v_39 1) (x_44.toNatClampNeg) x1) := ⟨_, rfl⟩
                have hP : va_P (dC, dI) vwCl (wm ad cy v_45) H := by rw [ev_45, ← wm_put (e := _) rc_1]; exact hP
                have hD : va_D A (wm ad cy v_45) := by rw [ev_45, ← wm_put (e := _) rc_1]; exact hD
                have hv : Ir v_45 := by rw [ev_45]; exact hv.put (k := 1) (fun h q => by rw [show br 1 _ = _ from (bx_n (by omega))] at q; cases q)
                rw [nx_44] at ev_45
                refine lv_aload_n hx hb dX8_offer_185 rfl (lv_at hl 3 rfl) ?_
                refine va_get (D := (dC, dI)) (ci := 8) (v := .ref (ad 1)) (C := RX8) (T := TX8) (N := 11) hx hb hts iwX8_offer_X8 hown hK hP (0) (wm_at (by decide) rc_0) rfl 0 (by decide) (hts (.fieldLink RX8 7 "QuietStairsModel" "s" "[I") fwX8_offer_1) (fun _ h9 => h9) rfl dX8_offer_186 ?_
                refine lv_iload_n hx hb dX8_offer_189 rfl (lv_at hl 4 rfl) ?_
                refine lv_iconst (v := 4) hx hb dX8_offer_190 (by decide) ?_
                refine yc_p hP hS (va_runS (As := [.int x0, .int 4]) (rest := [.ref (ad 1)]) ⟨hx, hb, hml, hown, hts⟩ (c_X8_at l x0 4) (cwS 2 hts gX8_offer_X8_at rfl rfl rfl hd_S_X8_at_2 ⟨Nat.le_of_ble_eq_true rfl, Nat.le_of_ble_eq_true rfl⟩) ex_preP rfl rfl hl.1 rfl (lv_room (Nat.le_of_ble_eq_true rfl)) dX8_offer_191 ⟨Nat.le_of_ble_eq_true rfl, Nat.le_of_ble_eq_true rfl⟩) (fun r_46 H locs hw_46 hP hS => ?_)
                obtain rfl : r_15 = r_46 := hw_15.trans hw_46.symm
                refine lv_dup2_11 hx hb dX8_offer_194 rfl rfl ?_
                refine va_iald hx hb hK hP (1) 0 (wm_at (by decide) rc_1) rfl (vp_in_iff.mpr ⟨by omega, by omega⟩) dX8_offer_195 ?_
                refine lv_topi (fun x_47 ex_47 => ?_)
                have bzx_47 : 0 ≤ x_47.toInt ∧ x_47.toInt ≤ 5 := by rw [ex_47]; exact hv 1 _ 5 (bx_4 (i := x0.toInt) (s := 4) (by omega) ⟨by omega, by omega⟩ (by omega))
                rw [nr_15] at ex_47
                rw [ev_45, upr_s, pk_un (by omega), ev_39, upr_s, pk_un (by omega), ev_21, upr_s, pk_un (by omega)] at ex_47
                obtain rfl : x_16 = x_47 := (ex_47.trans ex_16.symm).symm
                refine lv_iconst (v := 1) hx hb dX8_offer_196 (by decide) ?_
                refine lv_iadd hx hb dX8_offer_197 ?_
                refine lv_topi (fun x_48 ex_48 => ?_)
                have tx_48 : x_48.toInt = x_16.toInt + (1 : Int32).toInt := by rw [ex_48]; exact t_add ⟨by omega, by omega⟩
                refine va_iast hx hb hK hP hD hS (1) 0 (wm_at (by decide) rc_1) rfl (vp_in_iff.mpr ⟨by omega, by omega⟩) dX8_offer_198 (fun H locs hP hD hS => ?_)
                obtain ⟨v_49, ev_49⟩ : ∃ u : Nat → Nat → Int32, u = upr v_45 1 (upd (v_45 1) (r_15.toNatClampNeg) x_48) := ⟨_, rfl⟩
                have hP : va_P (dC, dI) vwCl (wm ad cy v_49) H := by rw [ev_49, ← wm_put (e := _) rc_1]; exact hP
                have hD : va_D A (wm ad cy v_49) := by rw [ev_49, ← wm_put (e := _) rc_1]; exact hD
                have hv : Ir v_49 := by rw [ev_49]; exact hv.put (k := 1) (fun h q => by rw [show br 1 _ = _ from (bx_4 (i := x0.toInt) (s := 4) (by omega) ⟨by omega, by omega⟩ (by omega))] at q; cases q; exact ⟨by omega, by omega⟩)
                rw [nr_15] at ev_49
                refine lv_aload_n hx hb dX8_offer_199 rfl (lv_at hl 3 rfl) ?_
                refine va_get (D := (dC, dI)) (ci := 8) (v := .ref (ad 1)) (C := RX8) (T := TX8) (N := 11) hx hb hts iwX8_offer_X8 hown hK hP (0) (wm_at (by decide) rc_0) rfl 0 (by decide) (hts (.fieldLink RX8 7 "QuietStairsModel" "s" "[I") fwX8_offer_1) (fun _ h9 => h9) rfl dX8_offer_200 ?_
                refine lv_bipush (v := 74) hx hb dX8_offer_203 (by decide) ?_
                refine lv_iconst (v := 2) hx hb dX8_offer_205 (by decide) ?_
                refine lv_iload_n hx hb dX8_offer_206 rfl (lv_at hl 4 rfl) ?_
                refine lv_imul hx hb dX8_offer_207 ?_
                refine lv_topi (fun x_50 ex_50 => ?_)
                obtain rfl : x_10 = x_50 := ex_10.trans ex_50.symm
                refine lv_iadd hx hb dX8_offer_208 ?_
                refine lv_topi (fun x_51 ex_51 => ?_)
                obtain rfl : x_11 = x_51 := ex_11.trans ex_51.symm
                refine lv_bipush (v := (-5)) hx hb dX8_offer_209 (by decide) ?_
                refine va_iast hx hb hK hP hD hS (1) 0 (wm_at (by decide) rc_1) rfl (vp_in_iff.mpr ⟨by omega, by omega⟩) dX8_offer_211 (fun H locs hP hD hS => ?_)
                have k_m5 : ((-5) : Int32).toInt = -5 := by decide
                obtain ⟨v_52, ev_52⟩ : ∃ u : Nat → Nat → Int32, u = upr v_49 1 (upd (v_49 1) (x_11.toNatClampNeg) (-5)) := ⟨_, rfl⟩
                have hP : va_P (dC, dI) vwCl (wm ad cy v_52) H := by rw [ev_52, ← wm_put (e := _) rc_1]; exact hP
                have hD : va_D A (wm ad cy v_52) := by rw [ev_52, ← wm_put (e := _) rc_1]; exact hD
                have hv : Ir v_52 := by rw [ev_52]; exact hv.put (k := 1) (fun h q => by rw [show br 1 _ = _ from (bx_n (by omega))] at q; cases q)
                rw [nx_11] at ev_52
                refine lv_aload_n hx hb dX8_offer_212 rfl (lv_at hl 3 rfl) ?_
                refine va_get (D := (dC, dI)) (ci := 8) (v := .ref (ad 1)) (C := RX8) (T := TX8) (N := 11) hx hb hts iwX8_offer_X8 hown hK hP (0) (wm_at (by decide) rc_0) rfl 0 (by decide) (hts (.fieldLink RX8 7 "QuietStairsModel" "s" "[I") fwX8_offer_1) (fun _ h9 => h9) rfl dX8_offer_213 ?_
                refine lv_bipush (v := 74) hx hb dX8_offer_216 (by decide) ?_
                refine lv_iconst (v := 2) hx hb dX8_offer_218 (by decide) ?_
                refine lv_iload_n hx hb dX8_offer_219 rfl (lv_at hl 4 rfl) ?_
                refine lv_imul hx hb dX8_offer_220 ?_
                refine lv_topi (fun x_53 ex_53 => ?_)
                obtain rfl : x_10 = x_53 := ex_10.trans ex_53.symm
                refine lv_iadd hx hb dX8_offer_221 ?_
                refine lv_topi (fun x_54 ex_54 => ?_)
                obtain rfl : x_11 = x_54 := ex_11.trans ex_54.symm
                refine lv_iconst (v := 1) hx hb dX8_offer_222 (by decide) ?_
                refine lv_iadd hx hb dX8_offer_223 ?_
                refine lv_topi (fun x_55 ex_55 => ?_)
                obtain rfl : x_12 = x_55 := ex_12.trans ex_55.symm
                refine lv_bipush (v := (-5)) hx hb dX8_offer_224 (by decide) ?_
                refine va_iast hx hb hK hP hD hS (1) 0 (wm_at (by decide) rc_1) rfl (vp_in_iff.mpr ⟨by omega, by omega⟩) dX8_offer_226 (fun H locs hP hD hS => ?_)
                obtain ⟨v_56, ev_56⟩ : ∃ u : Nat → Nat → Int32, u = upr v_52 1 (upd (v_52 1) (x_12.toNatClampNeg) (-5)) := ⟨_, rfl⟩
                have hP : va_P (dC, dI) vwCl (wm ad cy v_56) H := by rw [ev_56, ← wm_put (e := _) rc_1]; exact hP
                have hD : va_D A (wm ad cy v_56) := by rw [ev_56, ← wm_put (e := _) rc_1]; exact hD
                have hv : Ir v_56 := by rw [ev_56]; exact hv.put (k := 1) (fun h q => by rw [show br 1 _ = _ from (bx_n (by omega))] at q; cases q)
                rw [nx_12] at ev_56
                refine lv_iload hx hb dX8_offer_227 (lv_at hl 0 rfl) ?_
                refine lv_iload hx hb dX8_offer_229 (lv_at hl 1 rfl) ?_
                refine lv_icmp_ge (tgt := 236) hx hb dX8_offer_231 (by decide) (fun c_57 => ?_) (fun c_57 => ?_)
                · have tc_57 : x1.toInt ≥ x_26.toInt := Int32.le_iff_toInt_le.mp c_57
                  refine lv_aload_n hx hb dX8_offer_236 rfl (lv_at hl 3 rfl) ?_
                  refine va_get (D := (dC, dI)) (ci := 8) (v := .ref (ad 1)) (C := RX8) (T := TX8) (N := 11) hx hb hts iwX8_offer_X8 hown hK hP (0) (wm_at (by decide) rc_0) rfl 0 (by decide) (hts (.fieldLink RX8 7 "QuietStairsModel" "s" "[I") fwX8_offer_1) (fun _ h9 => h9) rfl dX8_offer_237 ?_
                  refine lv_iload_n hx hb dX8_offer_240 rfl (lv_at hl 4 rfl) ?_
                  refine lv_iconst (v := 2) hx hb dX8_offer_241 (by decide) ?_
                  refine yc_p hP hS (va_runS (As := [.int x0, .int 2]) (rest := [.ref (ad 1)]) ⟨hx, hb, hml, hown, hts⟩ (c_X8_at l x0 2) (cwS 2 hts gX8_offer_X8_at rfl rfl rfl hd_S_X8_at_2 ⟨Nat.le_of_ble_eq_true rfl, Nat.le_of_ble_eq_true rfl⟩) ex_preP rfl rfl hl.1 rfl (lv_room (Nat.le_of_ble_eq_true rfl)) dX8_offer_242 ⟨Nat.le_of_ble_eq_true rfl, Nat.le_of_ble_eq_true rfl⟩) (fun r_58 H locs hw_58 hP hS => ?_)
                  obtain rfl : r_7 = r_58 := hw_7.trans hw_58.symm
                  refine lv_iconst (v := 1) hx hb dX8_offer_245 (by decide) ?_
                  refine va_iast hx hb hK hP hD hS (1) 0 (wm_at (by decide) rc_1) rfl (vp_in_iff.mpr ⟨by omega, by omega⟩) dX8_offer_246 (fun H locs hP hD hS => ?_)
                  obtain ⟨v_59, ev_59⟩ : ∃ u : Nat → Nat → Int32, u = upr v_56 1 (upd (v_56 1) (r_7.toNatClampNeg) 1) := ⟨_, rfl⟩
                  have hP : va_P (dC, dI) vwCl (wm ad cy v_59) H := by rw [ev_59, ← wm_put (e := _) rc_1]; exact hP
                  have hD : va_D A (wm ad cy v_59) := by rw [ev_59, ← wm_put (e := _) rc_1]; exact hD
                  have hv : Ir v_59 := by rw [ev_59]; exact hv.put (k := 1) (fun h q => by rw [show br 1 _ = _ from (bx_2 (i := x0.toInt) (s := 2) (by omega) ⟨by omega, by omega⟩ (by omega))] at q; cases q)
                  rw [nr_7] at ev_59
                  refine lv_aload_n hx hb dX8_offer_247 rfl (lv_at hl 3 rfl) ?_
                  refine va_get (D := (dC, dI)) (ci := 8) (v := .ref (ad 1)) (C := RX8) (T := TX8) (N := 11) hx hb hts iwX8_offer_X8 hown hK hP (0) (wm_at (by decide) rc_0) rfl 0 (by decide) (hts (.fieldLink RX8 7 "QuietStairsModel" "s" "[I") fwX8_offer_1) (fun _ h9 => h9) rfl dX8_offer_248 ?_
                  refine lv_iload_n hx hb dX8_offer_251 rfl (lv_at hl 4 rfl) ?_
                  refine lv_iconst (v := 3) hx hb dX8_offer_252 (by decide) ?_
                  refine yc_p hP hS (va_runS (As := [.int x0, .int 3]) (rest := [.ref (ad 1)]) ⟨hx, hb, hml, hown, hts⟩ (c_X8_at l x0 3) (cwS 2 hts gX8_offer_X8_at rfl rfl rfl hd_S_X8_at_2 ⟨Nat.le_of_ble_eq_true rfl, Nat.le_of_ble_eq_true rfl⟩) ex_preP rfl rfl hl.1 rfl (lv_room (Nat.le_of_ble_eq_true rfl)) dX8_offer_253 ⟨Nat.le_of_ble_eq_true rfl, Nat.le_of_ble_eq_true rfl⟩) (fun r_60 H locs hw_60 hP hS => ?_)
                  have k_3 : (3 : Int32).toInt = 3 := by decide
                  have tr_60 : r_60.toInt = 32 + 7 * x0.toInt + (3 : Int32).toInt := t_at hw_60 ⟨by omega, by omega⟩ ⟨by omega, by omega⟩
                  refine lv_iload hx hb dX8_offer_256 (lv_at hl 1 rfl) ?_
                  refine lv_iload hx hb dX8_offer_258 (lv_at hl 0 rfl) ?_
                  refine lv_iadd hx hb dX8_offer_260 ?_
                  refine lv_topi (fun x_61 ex_61 => ?_)
                  refine lv_iconst (v := 2) hx hb dX8_offer_261 (by decide) ?_
                  refine lv_idiv hx hb dX8_offer_262 (by decide) ?_
                  refine lv_topi (fun x_62 ex_62 => ?_)
                  refine va_iast hx hb hK hP hD hS (1) 0 (wm_at (by decide) rc_1) rfl (vp_in_iff.mpr ⟨by omega, by omega⟩) dX8_offer_263 (fun H locs hP hD hS => ?_)
                  have nr_60 : r_60.toNatClampNeg = 35 + 7 * x0.toNatClampNeg := by have z1 := t_nn (x := r_60) (by omega); omega
                  obtain ⟨v_63, ev_63⟩ : ∃ u : Nat → Nat → Int32, u = upr v_59 1 (upd (v_59 1) (r_60.toNatClampNeg) x_62) := ⟨_, rfl⟩
                  have hP : va_P (dC, dI) vwCl (wm ad cy v_63) H := by rw [ev_63, ← wm_put (e := _) rc_1]; exact hP
                  have hD : va_D A (wm ad cy v_63) := by rw [ev_63, ← wm_put (e := _) rc_1]; exact hD
                  have hv : Ir v_63 := by rw [ev_63]; exact hv.put (k := 1) (fun h q => by rw [show br 1 _ = _ from (bx_2 (i := x0.toInt) (s := 3) (by omega) ⟨by omega, by omega⟩ (by omega))] at q; cases q)
                  rw [nr_60] at ev_63
                  refine lv_iconst (v := 1) hx hb dX8_offer_264 (by decide) ?_
                  have hpost : (¬ ((0 ≤ x0.toInt ∧ x0.toInt < (v 1 2).toInt) ∧ 0 ≤ x1.toInt ∧ x1.toInt ≤ 100) → (1 : Int32) = -1 ∧ v_63 = v) ∧ (((0 ≤ x0.toInt ∧ x0.toInt < (v 1 2).toInt) ∧ 0 ≤ x1.toInt ∧ x1.toInt ≤ 100) ∧ (v 1 (34 + 7 * x0.toNatClampNeg)).toInt ≠ 0 → (1 : Int32) = -4 ∧ v_63 = v) ∧ (((0 ≤ x0.toInt ∧ x0.toInt < (v 1 2).toInt) ∧ 0 ≤ x1.toInt ∧ x1.toInt ≤ 100) ∧ (v 1 (34 + 7 * x0.toNatClampNeg)).toInt = 0 ∧ 0 ≤ (v 1 (75 + 2 * x0.toNatClampNeg)).toInt → (1 : Int32) = -3 ∧ v_63 = v) ∧ (((0 ≤ x0.toInt ∧ x0.toInt < (v 1 2).toInt) ∧ 0 ≤ x1.toInt ∧ x1.toInt ≤ 100) ∧ (v 1 (34 + 7 * x0.toNatClampNeg)).toInt = 0 ∧ (v 1 (75 + 2 * x0.toNatClampNeg)).toInt < 0 ∧ (v 1 (36 + 7 * x0.toNatClampNeg)).toInt = 5 → (1 : Int32) = -2 ∧ v_63 = v) ∧ (((0 ≤ x0.toInt ∧ x0.toInt < (v 1 2).toInt) ∧ 0 ≤ x1.toInt ∧ x1.toInt ≤ 100) ∧ (v 1 (34 + 7 * x0.toNatClampNeg)).toInt = 0 ∧ (v 1 (75 + 2 * x0.toNatClampNeg)).toInt < 0 ∧ (v 1 (36 + 7 * x0.toNatClampNeg)).toInt ≠ 5 ∧ (v 1 (74 + 2 * x0.toNatClampNeg)).toInt < 0 → (1 : Int32) = 0 ∧ (∀ n : Nat, v_63 1 n = if n = 75 + 2 * x0.toNatClampNeg then x1 else v 1 n) ∧ (∀ k : Nat, k ≠ 1 → v_63 k = v k)) ∧ (((0 ≤ x0.toInt ∧ x0.toInt < (v 1 2).toInt) ∧ 0 ≤ x1.toInt ∧ x1.toInt ≤ 100) ∧ (v 1 (34 + 7 * x0.toNatClampNeg)).toInt = 0 ∧ (v 1 (75 + 2 * x0.toNatClampNeg)).toInt < 0 ∧ (v 1 (36 + 7 * x0.toNatClampNeg)).toInt ≠ 5 ∧ 0 ≤ (v 1 (74 + 2 * x0.toNatClampNeg)).toInt ∧ x1.toInt < (v 1 (74 + 2 * x0.toNatClampNeg)).toInt → (1 : Int32) = 2 ∧ (∀ n : Nat, v_63 1 n = if n = 75 + 2 * x0.toNatClampNeg then -5 else if n = 74 + 2 * x0.toNatClampNeg then -5 else if n = 36 + 7 * x0.toNatClampNeg then v 1 (36 + 7 * x0.toNatClampNeg) + 1 else if n = 87 + 10 * x0.toNatClampNeg + 2 * (v 1 (36 + 7 * x0.toNatClampNeg)).toNatClampNeg then x1 else if n = 86 + 10 * x0.toNatClampNeg + 2 * (v 1 (36 + 7 * x0.toNatClampNeg)).toNatClampNeg then v 1 (74 + 2 * x0.toNatClampNeg) else if n = 75 + 2 * x0.toNatClampNeg then x1 else v 1 n) ∧ (∀ k : Nat, k ≠ 1 → v_63 k = v k)) ∧ (((0 ≤ x0.toInt ∧ x0.toInt < (v 1 2).toInt) ∧ 0 ≤ x1.toInt ∧ x1.toInt ≤ 100) ∧ (v 1 (34 + 7 * x0.toNatClampNeg)).toInt = 0 ∧ (v 1 (75 + 2 * x0.toNatClampNeg)).toInt < 0 ∧ (v 1 (36 + 7 * x0.toNatClampNeg)).toInt ≠ 5 ∧ 0 ≤ (v 1 (74 + 2 * x0.toNatClampNeg)).toInt ∧ (v 1 (74 + 2 * x0.toNatClampNeg)).toInt ≤ x1.toInt → (1 : Int32) = 1 ∧ (∀ n : Nat, v_63 1 n = if n = 35 + 7 * x0.toNatClampNeg then (v 1 (74 + 2 * x0.toNatClampNeg) + x1) / 2 else if n = 34 + 7 * x0.toNatClampNeg then 1 else if n = 75 + 2 * x0.toNatClampNeg then -5 else if n = 74 + 2 * x0.toNatClampNeg then -5 else if n = 36 + 7 * x0.toNatClampNeg then v 1 (36 + 7 * x0.toNatClampNeg) + 1 else if n = 87 + 10 * x0.toNatClampNeg + 2 * (v 1 (36 + 7 * x0.toNatClampNeg)).toNatClampNeg then x1 else if n = 86 + 10 * x0.toNatClampNeg + 2 * (v 1 (36 + 7 * x0.toNatClampNeg)).toNatClampNeg then v 1 (74 + 2 * x0.toNatClampNeg) else if n = 75 + 2 * x0.toNatClampNeg then x1 else v 1 n) ∧ (∀ k : Nat, k ≠ 1 → v_63 k = v k)) := by
                    refine ⟨fun hq => ?_, fun hq => ?_, fun hq => ?_, fun hq => ?_, fun hq => ?_, fun hq => ?_, fun hq => ?_⟩
                    · exfalso; omega
                    · exfalso; omega
                    · exfalso; omega
                    · exfalso; omega
                    · exfalso; omega
                    · exfalso; omega
                    · exact ⟨rfl, fun n => by rw [ev_63, up1, ev_59, up1, ev_56, up1, ev_52, up1, ev_49, up1, ev_45, up1, ev_39, up1, ev_21, up1, ex_62, ex_61, ex_26, ex_48, ex_16], fun k hk => by rw [ev_63, upr_n hk, ev_59, upr_n hk, ev_56, upr_n hk, ev_52, upr_n hk, ev_49, upr_n hk, ev_45, upr_n hk, ev_39, upr_n hk, ev_21, upr_n hk]⟩
                  exact W.iret (v := 1) hx hb hr (fun t ht hW => ⟨⟨1, v_63, rfl, ⟨hv, hpost⟩, by rw [ht]; exact hP, hD⟩, hS.F ht⟩) hS.2.2 dX8_offer_265
                · have tc_57 : x1.toInt < x_26.toInt := Int32.lt_iff_toInt_lt.mp (Int32.not_le.mp c_57)
                  refine lv_iconst (v := 2) hx hb dX8_offer_234 (by decide) ?_
                  have hpost : (¬ ((0 ≤ x0.toInt ∧ x0.toInt < (v 1 2).toInt) ∧ 0 ≤ x1.toInt ∧ x1.toInt ≤ 100) → (2 : Int32) = -1 ∧ v_56 = v) ∧ (((0 ≤ x0.toInt ∧ x0.toInt < (v 1 2).toInt) ∧ 0 ≤ x1.toInt ∧ x1.toInt ≤ 100) ∧ (v 1 (34 + 7 * x0.toNatClampNeg)).toInt ≠ 0 → (2 : Int32) = -4 ∧ v_56 = v) ∧ (((0 ≤ x0.toInt ∧ x0.toInt < (v 1 2).toInt) ∧ 0 ≤ x1.toInt ∧ x1.toInt ≤ 100) ∧ (v 1 (34 + 7 * x0.toNatClampNeg)).toInt = 0 ∧ 0 ≤ (v 1 (75 + 2 * x0.toNatClampNeg)).toInt → (2 : Int32) = -3 ∧ v_56 = v) ∧ (((0 ≤ x0.toInt ∧ x0.toInt < (v 1 2).toInt) ∧ 0 ≤ x1.toInt ∧ x1.toInt ≤ 100) ∧ (v 1 (34 + 7 * x0.toNatClampNeg)).toInt = 0 ∧ (v 1 (75 + 2 * x0.toNatClampNeg)).toInt < 0 ∧ (v 1 (36 + 7 * x0.toNatClampNeg)).toInt = 5 → (2 : Int32) = -2 ∧ v_56 = v) ∧ (((0 ≤ x0.toInt ∧ x0.toInt < (v 1 2).toInt) ∧ 0 ≤ x1.toInt ∧ x1.toInt ≤ 100) ∧ (v 1 (34 + 7 * x0.toNatClampNeg)).toInt = 0 ∧ (v 1 (75 + 2 * x0.toNatClampNeg)).toInt < 0 ∧ (v 1 (36 + 7 * x0.toNatClampNeg)).toInt ≠ 5 ∧ (v 1 (74 + 2 * x0.toNatClampNeg)).toInt < 0 → (2 : Int32) = 0 ∧ (∀ n : Nat, v_56 1 n = if n = 75 + 2 * x0.toNatClampNeg then x1 else v 1 n) ∧ (∀ k : Nat, k ≠ 1 → v_56 k = v k)) ∧ (((0 ≤ x0.toInt ∧ x0.toInt < (v 1 2).toInt) ∧ 0 ≤ x1.toInt ∧ x1.toInt ≤ 100) ∧ (v 1 (34 + 7 * x0.toNatClampNeg)).toInt = 0 ∧ (v 1 (75 + 2 * x0.toNatClampNeg)).toInt < 0 ∧ (v 1 (36 + 7 * x0.toNatClampNeg)).toInt ≠ 5 ∧ 0 ≤ (v 1 (74 + 2 * x0.toNatClampNeg)).toInt ∧ x1.toInt < (v 1 (74 + 2 * x0.toNatClampNeg)).toInt → (2 : Int32) = 2 ∧ (∀ n : Nat, v_56 1 n = if n = 75 + 2 * x0.toNatClampNeg then -5 else if n = 74 + 2 * x0.toNatClampNeg then -5 else if n = 36 + 7 * x0.toNatClampNeg then v 1 (36 + 7 * x0.toNatClampNeg) + 1 else if n = 87 + 10 * x0.toNatClampNeg + 2 * (v 1 (36 + 7 * x0.toNatClampNeg)).toNatClampNeg then x1 else if n = 86 + 10 * x0.toNatClampNeg + 2 * (v 1 (36 + 7 * x0.toNatClampNeg)).toNatClampNeg then v 1 (74 + 2 * x0.toNatClampNeg) else if n = 75 + 2 * x0.toNatClampNeg then x1 else v 1 n) ∧ (∀ k : Nat, k ≠ 1 → v_56 k = v k)) ∧ (((0 ≤ x0.toInt ∧ x0.toInt < (v 1 2).toInt) ∧ 0 ≤ x1.toInt ∧ x1.toInt ≤ 100) ∧ (v 1 (34 + 7 * x0.toNatClampNeg)).toInt = 0 ∧ (v 1 (75 + 2 * x0.toNatClampNeg)).toInt < 0 ∧ (v 1 (36 + 7 * x0.toNatClampNeg)).toInt ≠ 5 ∧ 0 ≤ (v 1 (74 + 2 * x0.toNatClampNeg)).toInt ∧ (v 1 (74 + 2 * x0.toNatClampNeg)).toInt ≤ x1.toInt → (2 : Int32) = 1 ∧ (∀ n : Nat, v_56 1 n = if n = 35 + 7 * x0.toNatClampNeg then (v 1 (74 + 2 * x0.toNatClampNeg) + x1) / 2 else if n = 34 + 7 * x0.toNatClampNeg then 1 else if n = 75 + 2 * x0.toNatClampNeg then -5 else if n = 74 + 2 * x0.toNatClampNeg then -5 else if n = 36 + 7 * x0.toNatClampNeg then v 1 (36 + 7 * x0.toNatClampNeg) + 1 else if n = 87 + 10 * x0.toNatClampNeg + 2 * (v 1 (36 + 7 * x0.toNatClampNeg)).toNatClampNeg then x1 else if n = 86 + 10 * x0.toNatClampNeg + 2 * (v 1 (36 + 7 * x0.toNatClampNeg)).toNatClampNeg then v 1 (74 + 2 * x0.toNatClampNeg) else if n = 75 + 2 * x0.toNatClampNeg then x1 else v 1 n) ∧ (∀ k : Nat, k ≠ 1 → v_56 k = v k)) := by
                    refine ⟨fun hq => ?_, fun hq => ?_, fun hq => ?_, fun hq => ?_, fun hq => ?_, fun hq => ?_, fun hq => ?_⟩
                    · exfalso; omega
                    · exfalso; omega
                    · exfalso; omega
                    · exfalso; omega
                    · exfalso; omega
                    · exact ⟨rfl, fun n => by rw [ev_56, up1, ev_52, up1, ev_49, up1, ev_45, up1, ev_39, up1, ev_21, up1, ex_48, ex_16, ex_26], fun k hk => by rw [ev_56, upr_n hk, ev_52, upr_n hk, ev_49, upr_n hk, ev_45, upr_n hk, ev_39, upr_n hk, ev_21, upr_n hk]⟩
                    · exfalso; omega
                  exact W.iret (v := 2) hx hb hr (fun t ht hW => ⟨⟨2, v_56, rfl, ⟨hv, hpost⟩, by rw [ht]; exact hP, hD⟩, hS.F ht⟩) hS.2.2 dX8_offer_235
              · have tc_27 : x_26.toInt < (0 : Int32).toInt := Int32.lt_iff_toInt_lt.mp (Int32.not_le.mp c_27)
                refine lv_iconst (v := 0) hx hb dX8_offer_115 (by decide) ?_
                have hpost : (¬ ((0 ≤ x0.toInt ∧ x0.toInt < (v 1 2).toInt) ∧ 0 ≤ x1.toInt ∧ x1.toInt ≤ 100) → (0 : Int32) = -1 ∧ v_21 = v) ∧ (((0 ≤ x0.toInt ∧ x0.toInt < (v 1 2).toInt) ∧ 0 ≤ x1.toInt ∧ x1.toInt ≤ 100) ∧ (v 1 (34 + 7 * x0.toNatClampNeg)).toInt ≠ 0 → (0 : Int32) = -4 ∧ v_21 = v) ∧ (((0 ≤ x0.toInt ∧ x0.toInt < (v 1 2).toInt) ∧ 0 ≤ x1.toInt ∧ x1.toInt ≤ 100) ∧ (v 1 (34 + 7 * x0.toNatClampNeg)).toInt = 0 ∧ 0 ≤ (v 1 (75 + 2 * x0.toNatClampNeg)).toInt → (0 : Int32) = -3 ∧ v_21 = v) ∧ (((0 ≤ x0.toInt ∧ x0.toInt < (v 1 2).toInt) ∧ 0 ≤ x1.toInt ∧ x1.toInt ≤ 100) ∧ (v 1 (34 + 7 * x0.toNatClampNeg)).toInt = 0 ∧ (v 1 (75 + 2 * x0.toNatClampNeg)).toInt < 0 ∧ (v 1 (36 + 7 * x0.toNatClampNeg)).toInt = 5 → (0 : Int32) = -2 ∧ v_21 = v) ∧ (((0 ≤ x0.toInt ∧ x0.toInt < (v 1 2).toInt) ∧ 0 ≤ x1.toInt ∧ x1.toInt ≤ 100) ∧ (v 1 (34 + 7 * x0.toNatClampNeg)).toInt = 0 ∧ (v 1 (75 + 2 * x0.toNatClampNeg)).toInt < 0 ∧ (v 1 (36 + 7 * x0.toNatClampNeg)).toInt ≠ 5 ∧ (v 1 (74 + 2 * x0.toNatClampNeg)).toInt < 0 → (0 : Int32) = 0 ∧ (∀ n : Nat, v_21 1 n = if n = 75 + 2 * x0.toNatClampNeg then x1 else v 1 n) ∧ (∀ k : Nat, k ≠ 1 → v_21 k = v k)) ∧ (((0 ≤ x0.toInt ∧ x0.toInt < (v 1 2).toInt) ∧ 0 ≤ x1.toInt ∧ x1.toInt ≤ 100) ∧ (v 1 (34 + 7 * x0.toNatClampNeg)).toInt = 0 ∧ (v 1 (75 + 2 * x0.toNatClampNeg)).toInt < 0 ∧ (v 1 (36 + 7 * x0.toNatClampNeg)).toInt ≠ 5 ∧ 0 ≤ (v 1 (74 + 2 * x0.toNatClampNeg)).toInt ∧ x1.toInt < (v 1 (74 + 2 * x0.toNatClampNeg)).toInt → (0 : Int32) = 2 ∧ (∀ n : Nat, v_21 1 n = if n = 75 + 2 * x0.toNatClampNeg then -5 else if n = 74 + 2 * x0.toNatClampNeg then -5 else if n = 36 + 7 * x0.toNatClampNeg then v 1 (36 + 7 * x0.toNatClampNeg) + 1 else if n = 87 + 10 * x0.toNatClampNeg + 2 * (v 1 (36 + 7 * x0.toNatClampNeg)).toNatClampNeg then x1 else if n = 86 + 10 * x0.toNatClampNeg + 2 * (v 1 (36 + 7 * x0.toNatClampNeg)).toNatClampNeg then v 1 (74 + 2 * x0.toNatClampNeg) else if n = 75 + 2 * x0.toNatClampNeg then x1 else v 1 n) ∧ (∀ k : Nat, k ≠ 1 → v_21 k = v k)) ∧ (((0 ≤ x0.toInt ∧ x0.toInt < (v 1 2).toInt) ∧ 0 ≤ x1.toInt ∧ x1.toInt ≤ 100) ∧ (v 1 (34 + 7 * x0.toNatClampNeg)).toInt = 0 ∧ (v 1 (75 + 2 * x0.toNatClampNeg)).toInt < 0 ∧ (v 1 (36 + 7 * x0.toNatClampNeg)).toInt ≠ 5 ∧ 0 ≤ (v 1 (74 + 2 * x0.toNatClampNeg)).toInt ∧ (v 1 (74 + 2 * x0.toNatClampNeg)).toInt ≤ x1.toInt → (0 : Int32) = 1 ∧ (∀ n : Nat, v_21 1 n = if n = 35 + 7 * x0.toNatClampNeg then (v 1 (74 + 2 * x0.toNatClampNeg) + x1) / 2 else if n = 34 + 7 * x0.toNatClampNeg then 1 else if n = 75 + 2 * x0.toNatClampNeg then -5 else if n = 74 + 2 * x0.toNatClampNeg then -5 else if n = 36 + 7 * x0.toNatClampNeg then v 1 (36 + 7 * x0.toNatClampNeg) + 1 else if n = 87 + 10 * x0.toNatClampNeg + 2 * (v 1 (36 + 7 * x0.toNatClampNeg)).toNatClampNeg then x1 else if n = 86 + 10 * x0.toNatClampNeg + 2 * (v 1 (36 + 7 * x0.toNatClampNeg)).toNatClampNeg then v 1 (74 + 2 * x0.toNatClampNeg) else if n = 75 + 2 * x0.toNatClampNeg then x1 else v 1 n) ∧ (∀ k : Nat, k ≠ 1 → v_21 k = v k)) := by
                  refine ⟨fun hq => ?_, fun hq => ?_, fun hq => ?_, fun hq => ?_, fun hq => ?_, fun hq => ?_, fun hq => ?_⟩
                  · exfalso; omega
                  · exfalso; omega
                  · exfalso; omega
                  · exfalso; omega
                  · exact ⟨rfl, fun n => by rw [ev_21, up1], fun k hk => by rw [ev_21, upr_n hk]⟩
                  · exfalso; omega
                  · exfalso; omega
                exact W.iret (v := 0) hx hb hr (fun t ht hW => ⟨⟨0, v_21, rfl, ⟨hv, hpost⟩, by rw [ht]; exact hP, hD⟩, hS.F ht⟩) hS.2.2 dX8_offer_116
            · have tc_17 : x_16.toInt = (5 : Int32).toInt := by rw [c_17]
              refine lv_bipush (v := (-2)) hx hb dX8_offer_80 (by decide) ?_
              have hpost : (¬ ((0 ≤ x0.toInt ∧ x0.toInt < (v 1 2).toInt) ∧ 0 ≤ x1.toInt ∧ x1.toInt ≤ 100) → ((-2) : Int32) = -1 ∧ v = v) ∧ (((0 ≤ x0.toInt ∧ x0.toInt < (v 1 2).toInt) ∧ 0 ≤ x1.toInt ∧ x1.toInt ≤ 100) ∧ (v 1 (34 + 7 * x0.toNatClampNeg)).toInt ≠ 0 → ((-2) : Int32) = -4 ∧ v = v) ∧ (((0 ≤ x0.toInt ∧ x0.toInt < (v 1 2).toInt) ∧ 0 ≤ x1.toInt ∧ x1.toInt ≤ 100) ∧ (v 1 (34 + 7 * x0.toNatClampNeg)).toInt = 0 ∧ 0 ≤ (v 1 (75 + 2 * x0.toNatClampNeg)).toInt → ((-2) : Int32) = -3 ∧ v = v) ∧ (((0 ≤ x0.toInt ∧ x0.toInt < (v 1 2).toInt) ∧ 0 ≤ x1.toInt ∧ x1.toInt ≤ 100) ∧ (v 1 (34 + 7 * x0.toNatClampNeg)).toInt = 0 ∧ (v 1 (75 + 2 * x0.toNatClampNeg)).toInt < 0 ∧ (v 1 (36 + 7 * x0.toNatClampNeg)).toInt = 5 → ((-2) : Int32) = -2 ∧ v = v) ∧ (((0 ≤ x0.toInt ∧ x0.toInt < (v 1 2).toInt) ∧ 0 ≤ x1.toInt ∧ x1.toInt ≤ 100) ∧ (v 1 (34 + 7 * x0.toNatClampNeg)).toInt = 0 ∧ (v 1 (75 + 2 * x0.toNatClampNeg)).toInt < 0 ∧ (v 1 (36 + 7 * x0.toNatClampNeg)).toInt ≠ 5 ∧ (v 1 (74 + 2 * x0.toNatClampNeg)).toInt < 0 → ((-2) : Int32) = 0 ∧ (∀ n : Nat, v 1 n = if n = 75 + 2 * x0.toNatClampNeg then x1 else v 1 n) ∧ (∀ k : Nat, k ≠ 1 → v k = v k)) ∧ (((0 ≤ x0.toInt ∧ x0.toInt < (v 1 2).toInt) ∧ 0 ≤ x1.toInt ∧ x1.toInt ≤ 100) ∧ (v 1 (34 + 7 * x0.toNatClampNeg)).toInt = 0 ∧ (v 1 (75 + 2 * x0.toNatClampNeg)).toInt < 0 ∧ (v 1 (36 + 7 * x0.toNatClampNeg)).toInt ≠ 5 ∧ 0 ≤ (v 1 (74 + 2 * x0.toNatClampNeg)).toInt ∧ x1.toInt < (v 1 (74 + 2 * x0.toNatClampNeg)).toInt → ((-2) : Int32) = 2 ∧ (∀ n : Nat, v 1 n = if n = 75 + 2 * x0.toNatClampNeg then -5 else if n = 74 + 2 * x0.toNatClampNeg then -5 else if n = 36 + 7 * x0.toNatClampNeg then v 1 (36 + 7 * x0.toNatClampNeg) + 1 else if n = 87 + 10 * x0.toNatClampNeg + 2 * (v 1 (36 + 7 * x0.toNatClampNeg)).toNatClampNeg then x1 else if n = 86 + 10 * x0.toNatClampNeg + 2 * (v 1 (36 + 7 * x0.toNatClampNeg)).toNatClampNeg then v 1 (74 + 2 * x0.toNatClampNeg) else if n = 75 + 2 * x0.toNatClampNeg then x1 else v 1 n) ∧ (∀ k : Nat, k ≠ 1 → v k = v k)) ∧ (((0 ≤ x0.toInt ∧ x0.toInt < (v 1 2).toInt) ∧ 0 ≤ x1.toInt ∧ x1.toInt ≤ 100) ∧ (v 1 (34 + 7 * x0.toNatClampNeg)).toInt = 0 ∧ (v 1 (75 + 2 * x0.toNatClampNeg)).toInt < 0 ∧ (v 1 (36 + 7 * x0.toNatClampNeg)).toInt ≠ 5 ∧ 0 ≤ (v 1 (74 + 2 * x0.toNatClampNeg)).toInt ∧ (v 1 (74 + 2 * x0.toNatClampNeg)).toInt ≤ x1.toInt → ((-2) : Int32) = 1 ∧ (∀ n : Nat, v 1 n = if n = 35 + 7 * x0.toNatClampNeg then (v 1 (74 + 2 * x0.toNatClampNeg) + x1) / 2 else if n = 34 + 7 * x0.toNatClampNeg then 1 else if n = 75 + 2 * x0.toNatClampNeg then -5 else if n = 74 + 2 * x0.toNatClampNeg then -5 else if n = 36 + 7 * x0.toNatClampNeg then v 1 (36 + 7 * x0.toNatClampNeg) + 1 else if n = 87 + 10 * x0.toNatClampNeg + 2 * (v 1 (36 + 7 * x0.toNatClampNeg)).toNatClampNeg then x1 else if n = 86 + 10 * x0.toNatClampNeg + 2 * (v 1 (36 + 7 * x0.toNatClampNeg)).toNatClampNeg then v 1 (74 + 2 * x0.toNatClampNeg) else if n = 75 + 2 * x0.toNatClampNeg then x1 else v 1 n) ∧ (∀ k : Nat, k ≠ 1 → v k = v k)) := by
                refine ⟨fun hq => ?_, fun hq => ?_, fun hq => ?_, fun hq => ?_, fun hq => ?_, fun hq => ?_, fun hq => ?_⟩
                · exfalso; omega
                · exfalso; omega
                · exfalso; omega
                · exact ⟨rfl, rfl⟩
                · exfalso; omega
                · exfalso; omega
                · exfalso; omega
              exact W.iret (v := (-2)) hx hb hr (fun t ht hW => ⟨⟨(-2), v, rfl, ⟨hv, hpost⟩, by rw [ht]; exact hP, hD⟩, hS.F ht⟩) hS.2.2 dX8_offer_82
          · have tc_14 : x_13.toInt ≥ (0 : Int32).toInt := Int32.le_iff_toInt_le.mp (Int32.not_lt.mp c_14)
            refine lv_bipush (v := (-3)) hx hb dX8_offer_59 (by decide) ?_
            have hpost : (¬ ((0 ≤ x0.toInt ∧ x0.toInt < (v 1 2).toInt) ∧ 0 ≤ x1.toInt ∧ x1.toInt ≤ 100) → ((-3) : Int32) = -1 ∧ v = v) ∧ (((0 ≤ x0.toInt ∧ x0.toInt < (v 1 2).toInt) ∧ 0 ≤ x1.toInt ∧ x1.toInt ≤ 100) ∧ (v 1 (34 + 7 * x0.toNatClampNeg)).toInt ≠ 0 → ((-3) : Int32) = -4 ∧ v = v) ∧ (((0 ≤ x0.toInt ∧ x0.toInt < (v 1 2).toInt) ∧ 0 ≤ x1.toInt ∧ x1.toInt ≤ 100) ∧ (v 1 (34 + 7 * x0.toNatClampNeg)).toInt = 0 ∧ 0 ≤ (v 1 (75 + 2 * x0.toNatClampNeg)).toInt → ((-3) : Int32) = -3 ∧ v = v) ∧ (((0 ≤ x0.toInt ∧ x0.toInt < (v 1 2).toInt) ∧ 0 ≤ x1.toInt ∧ x1.toInt ≤ 100) ∧ (v 1 (34 + 7 * x0.toNatClampNeg)).toInt = 0 ∧ (v 1 (75 + 2 * x0.toNatClampNeg)).toInt < 0 ∧ (v 1 (36 + 7 * x0.toNatClampNeg)).toInt = 5 → ((-3) : Int32) = -2 ∧ v = v) ∧ (((0 ≤ x0.toInt ∧ x0.toInt < (v 1 2).toInt) ∧ 0 ≤ x1.toInt ∧ x1.toInt ≤ 100) ∧ (v 1 (34 + 7 * x0.toNatClampNeg)).toInt = 0 ∧ (v 1 (75 + 2 * x0.toNatClampNeg)).toInt < 0 ∧ (v 1 (36 + 7 * x0.toNatClampNeg)).toInt ≠ 5 ∧ (v 1 (74 + 2 * x0.toNatClampNeg)).toInt < 0 → ((-3) : Int32) = 0 ∧ (∀ n : Nat, v 1 n = if n = 75 + 2 * x0.toNatClampNeg then x1 else v 1 n) ∧ (∀ k : Nat, k ≠ 1 → v k = v k)) ∧ (((0 ≤ x0.toInt ∧ x0.toInt < (v 1 2).toInt) ∧ 0 ≤ x1.toInt ∧ x1.toInt ≤ 100) ∧ (v 1 (34 + 7 * x0.toNatClampNeg)).toInt = 0 ∧ (v 1 (75 + 2 * x0.toNatClampNeg)).toInt < 0 ∧ (v 1 (36 + 7 * x0.toNatClampNeg)).toInt ≠ 5 ∧ 0 ≤ (v 1 (74 + 2 * x0.toNatClampNeg)).toInt ∧ x1.toInt < (v 1 (74 + 2 * x0.toNatClampNeg)).toInt → ((-3) : Int32) = 2 ∧ (∀ n : Nat, v 1 n = if n = 75 + 2 * x0.toNatClampNeg then -5 else if n = 74 + 2 * x0.toNatClampNeg then -5 else if n = 36 + 7 * x0.toNatClampNeg then v 1 (36 + 7 * x0.toNatClampNeg) + 1 else if n = 87 + 10 * x0.toNatClampNeg + 2 * (v 1 (36 + 7 * x0.toNatClampNeg)).toNatClampNeg then x1 else if n = 86 + 10 * x0.toNatClampNeg + 2 * (v 1 (36 + 7 * x0.toNatClampNeg)).toNatClampNeg then v 1 (74 + 2 * x0.toNatClampNeg) else if n = 75 + 2 * x0.toNatClampNeg then x1 else v 1 n) ∧ (∀ k : Nat, k ≠ 1 → v k = v k)) ∧ (((0 ≤ x0.toInt ∧ x0.toInt < (v 1 2).toInt) ∧ 0 ≤ x1.toInt ∧ x1.toInt ≤ 100) ∧ (v 1 (34 + 7 * x0.toNatClampNeg)).toInt = 0 ∧ (v 1 (75 + 2 * x0.toNatClampNeg)).toInt < 0 ∧ (v 1 (36 + 7 * x0.toNatClampNeg)).toInt ≠ 5 ∧ 0 ≤ (v 1 (74 + 2 * x0.toNatClampNeg)).toInt ∧ (v 1 (74 + 2 * x0.toNatClampNeg)).toInt ≤ x1.toInt → ((-3) : Int32) = 1 ∧ (∀ n : Nat, v 1 n = if n = 35 + 7 * x0.toNatClampNeg then (v 1 (74 + 2 * x0.toNatClampNeg) + x1) / 2 else if n = 34 + 7 * x0.toNatClampNeg then 1 else if n = 75 + 2 * x0.toNatClampNeg then -5 else if n = 74 + 2 * x0.toNatClampNeg then -5 else if n = 36 + 7 * x0.toNatClampNeg then v 1 (36 + 7 * x0.toNatClampNeg) + 1 else if n = 87 + 10 * x0.toNatClampNeg + 2 * (v 1 (36 + 7 * x0.toNatClampNeg)).toNatClampNeg then x1 else if n = 86 + 10 * x0.toNatClampNeg + 2 * (v 1 (36 + 7 * x0.toNatClampNeg)).toNatClampNeg then v 1 (74 + 2 * x0.toNatClampNeg) else if n = 75 + 2 * x0.toNatClampNeg then x1 else v 1 n) ∧ (∀ k : Nat, k ≠ 1 → v k = v k)) := by
              refine ⟨fun hq => ?_, fun hq => ?_, fun hq => ?_, fun hq => ?_, fun hq => ?_, fun hq => ?_, fun hq => ?_⟩
              · exfalso; omega
              · exfalso; omega
              · exact ⟨rfl, rfl⟩
              · exfalso; omega
              · exfalso; omega
              · exfalso; omega
              · exfalso; omega
            exact W.iret (v := (-3)) hx hb hr (fun t ht hW => ⟨⟨(-3), v, rfl, ⟨hv, hpost⟩, by rw [ht]; exact hP, hD⟩, hS.F ht⟩) hS.2.2 dX8_offer_61
        · have tc_9 : x_8.toInt ≠ (0 : Int32).toInt := fun q => absurd (Int32.toInt_inj.mp q) c_9
          refine lv_bipush (v := (-4)) hx hb dX8_offer_40 (by decide) ?_
          have hpost : (¬ ((0 ≤ x0.toInt ∧ x0.toInt < (v 1 2).toInt) ∧ 0 ≤ x1.toInt ∧ x1.toInt ≤ 100) → ((-4) : Int32) = -1 ∧ v = v) ∧ (((0 ≤ x0.toInt ∧ x0.toInt < (v 1 2).toInt) ∧ 0 ≤ x1.toInt ∧ x1.toInt ≤ 100) ∧ (v 1 (34 + 7 * x0.toNatClampNeg)).toInt ≠ 0 → ((-4) : Int32) = -4 ∧ v = v) ∧ (((0 ≤ x0.toInt ∧ x0.toInt < (v 1 2).toInt) ∧ 0 ≤ x1.toInt ∧ x1.toInt ≤ 100) ∧ (v 1 (34 + 7 * x0.toNatClampNeg)).toInt = 0 ∧ 0 ≤ (v 1 (75 + 2 * x0.toNatClampNeg)).toInt → ((-4) : Int32) = -3 ∧ v = v) ∧ (((0 ≤ x0.toInt ∧ x0.toInt < (v 1 2).toInt) ∧ 0 ≤ x1.toInt ∧ x1.toInt ≤ 100) ∧ (v 1 (34 + 7 * x0.toNatClampNeg)).toInt = 0 ∧ (v 1 (75 + 2 * x0.toNatClampNeg)).toInt < 0 ∧ (v 1 (36 + 7 * x0.toNatClampNeg)).toInt = 5 → ((-4) : Int32) = -2 ∧ v = v) ∧ (((0 ≤ x0.toInt ∧ x0.toInt < (v 1 2).toInt) ∧ 0 ≤ x1.toInt ∧ x1.toInt ≤ 100) ∧ (v 1 (34 + 7 * x0.toNatClampNeg)).toInt = 0 ∧ (v 1 (75 + 2 * x0.toNatClampNeg)).toInt < 0 ∧ (v 1 (36 + 7 * x0.toNatClampNeg)).toInt ≠ 5 ∧ (v 1 (74 + 2 * x0.toNatClampNeg)).toInt < 0 → ((-4) : Int32) = 0 ∧ (∀ n : Nat, v 1 n = if n = 75 + 2 * x0.toNatClampNeg then x1 else v 1 n) ∧ (∀ k : Nat, k ≠ 1 → v k = v k)) ∧ (((0 ≤ x0.toInt ∧ x0.toInt < (v 1 2).toInt) ∧ 0 ≤ x1.toInt ∧ x1.toInt ≤ 100) ∧ (v 1 (34 + 7 * x0.toNatClampNeg)).toInt = 0 ∧ (v 1 (75 + 2 * x0.toNatClampNeg)).toInt < 0 ∧ (v 1 (36 + 7 * x0.toNatClampNeg)).toInt ≠ 5 ∧ 0 ≤ (v 1 (74 + 2 * x0.toNatClampNeg)).toInt ∧ x1.toInt < (v 1 (74 + 2 * x0.toNatClampNeg)).toInt → ((-4) : Int32) = 2 ∧ (∀ n : Nat, v 1 n = if n = 75 + 2 * x0.toNatClampNeg then -5 else if n = 74 + 2 * x0.toNatClampNeg then -5 else if n = 36 + 7 * x0.toNatClampNeg then v 1 (36 + 7 * x0.toNatClampNeg) + 1 else if n = 87 + 10 * x0.toNatClampNeg + 2 * (v 1 (36 + 7 * x0.toNatClampNeg)).toNatClampNeg then x1 else if n = 86 + 10 * x0.toNatClampNeg + 2 * (v 1 (36 + 7 * x0.toNatClampNeg)).toNatClampNeg then v 1 (74 + 2 * x0.toNatClampNeg) else if n = 75 + 2 * x0.toNatClampNeg then x1 else v 1 n) ∧ (∀ k : Nat, k ≠ 1 → v k = v k)) ∧ (((0 ≤ x0.toInt ∧ x0.toInt < (v 1 2).toInt) ∧ 0 ≤ x1.toInt ∧ x1.toInt ≤ 100) ∧ (v 1 (34 + 7 * x0.toNatClampNeg)).toInt = 0 ∧ (v 1 (75 + 2 * x0.toNatClampNeg)).toInt < 0 ∧ (v 1 (36 + 7 * x0.toNatClampNeg)).toInt ≠ 5 ∧ 0 ≤ (v 1 (74 + 2 * x0.toNatClampNeg)).toInt ∧ (v 1 (74 + 2 * x0.toNatClampNeg)).toInt ≤ x1.toInt → ((-4) : Int32) = 1 ∧ (∀ n : Nat, v 1 n = if n = 35 + 7 * x0.toNatClampNeg then (v 1 (74 + 2 * x0.toNatClampNeg) + x1) / 2 else if n = 34 + 7 * x0.toNatClampNeg then 1 else if n = 75 + 2 * x0.toNatClampNeg then -5 else if n = 74 + 2 * x0.toNatClampNeg then -5 else if n = 36 + 7 * x0.toNatClampNeg then v 1 (36 + 7 * x0.toNatClampNeg) + 1 else if n = 87 + 10 * x0.toNatClampNeg + 2 * (v 1 (36 + 7 * x0.toNatClampNeg)).toNatClampNeg then x1 else if n = 86 + 10 * x0.toNatClampNeg + 2 * (v 1 (36 + 7 * x0.toNatClampNeg)).toNatClampNeg then v 1 (74 + 2 * x0.toNatClampNeg) else if n = 75 + 2 * x0.toNatClampNeg then x1 else v 1 n) ∧ (∀ k : Nat, k ≠ 1 → v k = v k)) := by
            refine ⟨fun hq => ?_, fun hq => ?_, fun hq => ?_, fun hq => ?_, fun hq => ?_, fun hq => ?_, fun hq => ?_⟩
            · exfalso; omega
            · exact ⟨rfl, rfl⟩
            · exfalso; omega
            · exfalso; omega
            · exfalso; omega
            · exfalso; omega
            · exfalso; omega
          exact W.iret (v := (-4)) hx hb hr (fun t ht hW => ⟨⟨(-4), v, rfl, ⟨hv, hpost⟩, by rw [ht]; exact hP, hD⟩, hS.F ht⟩) hS.2.2 dX8_offer_42
      · have k_100 : (100 : Int32).toInt = 100 := by decide
        have tc_6 : ¬ ((0 : Int32).toInt ≤ x1.toInt ∧ x1.toInt ≤ (100 : Int32).toInt) := fun q => hc_6 ⟨Int32.le_iff_toInt_le.mpr q.1, Int32.le_iff_toInt_le.mpr q.2⟩
        refine lv_if_ne (tgt := 27) hx hb dX8_offer_22 (by decide) (fun c9 => absurd c9 (by decide)) (fun _ => ?_)
        refine lv_iconst (v := (-1)) hx hb dX8_offer_25 (by decide) ?_
        have hpost : (¬ ((0 ≤ x0.toInt ∧ x0.toInt < (v 1 2).toInt) ∧ 0 ≤ x1.toInt ∧ x1.toInt ≤ 100) → ((-1) : Int32) = -1 ∧ v = v) ∧ (((0 ≤ x0.toInt ∧ x0.toInt < (v 1 2).toInt) ∧ 0 ≤ x1.toInt ∧ x1.toInt ≤ 100) ∧ (v 1 (34 + 7 * x0.toNatClampNeg)).toInt ≠ 0 → ((-1) : Int32) = -4 ∧ v = v) ∧ (((0 ≤ x0.toInt ∧ x0.toInt < (v 1 2).toInt) ∧ 0 ≤ x1.toInt ∧ x1.toInt ≤ 100) ∧ (v 1 (34 + 7 * x0.toNatClampNeg)).toInt = 0 ∧ 0 ≤ (v 1 (75 + 2 * x0.toNatClampNeg)).toInt → ((-1) : Int32) = -3 ∧ v = v) ∧ (((0 ≤ x0.toInt ∧ x0.toInt < (v 1 2).toInt) ∧ 0 ≤ x1.toInt ∧ x1.toInt ≤ 100) ∧ (v 1 (34 + 7 * x0.toNatClampNeg)).toInt = 0 ∧ (v 1 (75 + 2 * x0.toNatClampNeg)).toInt < 0 ∧ (v 1 (36 + 7 * x0.toNatClampNeg)).toInt = 5 → ((-1) : Int32) = -2 ∧ v = v) ∧ (((0 ≤ x0.toInt ∧ x0.toInt < (v 1 2).toInt) ∧ 0 ≤ x1.toInt ∧ x1.toInt ≤ 100) ∧ (v 1 (34 + 7 * x0.toNatClampNeg)).toInt = 0 ∧ (v 1 (75 + 2 * x0.toNatClampNeg)).toInt < 0 ∧ (v 1 (36 + 7 * x0.toNatClampNeg)).toInt ≠ 5 ∧ (v 1 (74 + 2 * x0.toNatClampNeg)).toInt < 0 → ((-1) : Int32) = 0 ∧ (∀ n : Nat, v 1 n = if n = 75 + 2 * x0.toNatClampNeg then x1 else v 1 n) ∧ (∀ k : Nat, k ≠ 1 → v k = v k)) ∧ (((0 ≤ x0.toInt ∧ x0.toInt < (v 1 2).toInt) ∧ 0 ≤ x1.toInt ∧ x1.toInt ≤ 100) ∧ (v 1 (34 + 7 * x0.toNatClampNeg)).toInt = 0 ∧ (v 1 (75 + 2 * x0.toNatClampNeg)).toInt < 0 ∧ (v 1 (36 + 7 * x0.toNatClampNeg)).toInt ≠ 5 ∧ 0 ≤ (v 1 (74 + 2 * x0.toNatClampNeg)).toInt ∧ x1.toInt < (v 1 (74 + 2 * x0.toNatClampNeg)).toInt → ((-1) : Int32) = 2 ∧ (∀ n : Nat, v 1 n = if n = 75 + 2 * x0.toNatClampNeg then -5 else if n = 74 + 2 * x0.toNatClampNeg then -5 else if n = 36 + 7 * x0.toNatClampNeg then v 1 (36 + 7 * x0.toNatClampNeg) + 1 else if n = 87 + 10 * x0.toNatClampNeg + 2 * (v 1 (36 + 7 * x0.toNatClampNeg)).toNatClampNeg then x1 else if n = 86 + 10 * x0.toNatClampNeg + 2 * (v 1 (36 + 7 * x0.toNatClampNeg)).toNatClampNeg then v 1 (74 + 2 * x0.toNatClampNeg) else if n = 75 + 2 * x0.toNatClampNeg then x1 else v 1 n) ∧ (∀ k : Nat, k ≠ 1 → v k = v k)) ∧ (((0 ≤ x0.toInt ∧ x0.toInt < (v 1 2).toInt) ∧ 0 ≤ x1.toInt ∧ x1.toInt ≤ 100) ∧ (v 1 (34 + 7 * x0.toNatClampNeg)).toInt = 0 ∧ (v 1 (75 + 2 * x0.toNatClampNeg)).toInt < 0 ∧ (v 1 (36 + 7 * x0.toNatClampNeg)).toInt ≠ 5 ∧ 0 ≤ (v 1 (74 + 2 * x0.toNatClampNeg)).toInt ∧ (v 1 (74 + 2 * x0.toNatClampNeg)).toInt ≤ x1.toInt → ((-1) : Int32) = 1 ∧ (∀ n : Nat, v 1 n = if n = 35 + 7 * x0.toNatClampNeg then (v 1 (74 + 2 * x0.toNatClampNeg) + x1) / 2 else if n = 34 + 7 * x0.toNatClampNeg then 1 else if n = 75 + 2 * x0.toNatClampNeg then -5 else if n = 74 + 2 * x0.toNatClampNeg then -5 else if n = 36 + 7 * x0.toNatClampNeg then v 1 (36 + 7 * x0.toNatClampNeg) + 1 else if n = 87 + 10 * x0.toNatClampNeg + 2 * (v 1 (36 + 7 * x0.toNatClampNeg)).toNatClampNeg then x1 else if n = 86 + 10 * x0.toNatClampNeg + 2 * (v 1 (36 + 7 * x0.toNatClampNeg)).toNatClampNeg then v 1 (74 + 2 * x0.toNatClampNeg) else if n = 75 + 2 * x0.toNatClampNeg then x1 else v 1 n) ∧ (∀ k : Nat, k ≠ 1 → v k = v k)) := by
          refine ⟨fun hq => ?_, fun hq => ?_, fun hq => ?_, fun hq => ?_, fun hq => ?_, fun hq => ?_, fun hq => ?_⟩
          · exact ⟨rfl, rfl⟩
          · exfalso; omega
          · exfalso; omega
          · exfalso; omega
          · exfalso; omega
          · exfalso; omega
          · exfalso; omega
        exact W.iret (v := (-1)) hx hb hr (fun t ht hW => ⟨⟨(-1), v, rfl, ⟨hv, hpost⟩, by rw [ht]; exact hP, hD⟩, hS.F ht⟩) hS.2.2 dX8_offer_26
    · have k_0 : (0 : Int32).toInt = 0 := by decide
      have k_1 : (1 : Int32).toInt = 1 := by decide
      have tc_4 : ¬ ((0 : Int32).toInt ≤ (1 : Int32).toInt ∧ (1 : Int32).toInt ≤ (1 : Int32).toInt) := fun q => hc_4 ⟨Int32.le_iff_toInt_le.mpr q.1, Int32.le_iff_toInt_le.mpr q.2⟩
      refine lv_if_eq (tgt := 25) hx hb dX8_offer_12 (by decide) (fun _ => ?_) (fun c9 => absurd c9 (by decide))
      refine lv_iconst (v := (-1)) hx hb dX8_offer_25 (by decide) ?_
      have hpost : (¬ ((0 ≤ x0.toInt ∧ x0.toInt < (v 1 2).toInt) ∧ 0 ≤ x1.toInt ∧ x1.toInt ≤ 100) → ((-1) : Int32) = -1 ∧ v = v) ∧ (((0 ≤ x0.toInt ∧ x0.toInt < (v 1 2).toInt) ∧ 0 ≤ x1.toInt ∧ x1.toInt ≤ 100) ∧ (v 1 (34 + 7 * x0.toNatClampNeg)).toInt ≠ 0 → ((-1) : Int32) = -4 ∧ v = v) ∧ (((0 ≤ x0.toInt ∧ x0.toInt < (v 1 2).toInt) ∧ 0 ≤ x1.toInt ∧ x1.toInt ≤ 100) ∧ (v 1 (34 + 7 * x0.toNatClampNeg)).toInt = 0 ∧ 0 ≤ (v 1 (75 + 2 * x0.toNatClampNeg)).toInt → ((-1) : Int32) = -3 ∧ v = v) ∧ (((0 ≤ x0.toInt ∧ x0.toInt < (v 1 2).toInt) ∧ 0 ≤ x1.toInt ∧ x1.toInt ≤ 100) ∧ (v 1 (34 + 7 * x0.toNatClampNeg)).toInt = 0 ∧ (v 1 (75 + 2 * x0.toNatClampNeg)).toInt < 0 ∧ (v 1 (36 + 7 * x0.toNatClampNeg)).toInt = 5 → ((-1) : Int32) = -2 ∧ v = v) ∧ (((0 ≤ x0.toInt ∧ x0.toInt < (v 1 2).toInt) ∧ 0 ≤ x1.toInt ∧ x1.toInt ≤ 100) ∧ (v 1 (34 + 7 * x0.toNatClampNeg)).toInt = 0 ∧ (v 1 (75 + 2 * x0.toNatClampNeg)).toInt < 0 ∧ (v 1 (36 + 7 * x0.toNatClampNeg)).toInt ≠ 5 ∧ (v 1 (74 + 2 * x0.toNatClampNeg)).toInt < 0 → ((-1) : Int32) = 0 ∧ (∀ n : Nat, v 1 n = if n = 75 + 2 * x0.toNatClampNeg then x1 else v 1 n) ∧ (∀ k : Nat, k ≠ 1 → v k = v k)) ∧ (((0 ≤ x0.toInt ∧ x0.toInt < (v 1 2).toInt) ∧ 0 ≤ x1.toInt ∧ x1.toInt ≤ 100) ∧ (v 1 (34 + 7 * x0.toNatClampNeg)).toInt = 0 ∧ (v 1 (75 + 2 * x0.toNatClampNeg)).toInt < 0 ∧ (v 1 (36 + 7 * x0.toNatClampNeg)).toInt ≠ 5 ∧ 0 ≤ (v 1 (74 + 2 * x0.toNatClampNeg)).toInt ∧ x1.toInt < (v 1 (74 + 2 * x0.toNatClampNeg)).toInt → ((-1) : Int32) = 2 ∧ (∀ n : Nat, v 1 n = if n = 75 + 2 * x0.toNatClampNeg then -5 else if n = 74 + 2 * x0.toNatClampNeg then -5 else if n = 36 + 7 * x0.toNatClampNeg then v 1 (36 + 7 * x0.toNatClampNeg) + 1 else if n = 87 + 10 * x0.toNatClampNeg + 2 * (v 1 (36 + 7 * x0.toNatClampNeg)).toNatClampNeg then x1 else if n = 86 + 10 * x0.toNatClampNeg + 2 * (v 1 (36 + 7 * x0.toNatClampNeg)).toNatClampNeg then v 1 (74 + 2 * x0.toNatClampNeg) else if n = 75 + 2 * x0.toNatClampNeg then x1 else v 1 n) ∧ (∀ k : Nat, k ≠ 1 → v k = v k)) ∧ (((0 ≤ x0.toInt ∧ x0.toInt < (v 1 2).toInt) ∧ 0 ≤ x1.toInt ∧ x1.toInt ≤ 100) ∧ (v 1 (34 + 7 * x0.toNatClampNeg)).toInt = 0 ∧ (v 1 (75 + 2 * x0.toNatClampNeg)).toInt < 0 ∧ (v 1 (36 + 7 * x0.toNatClampNeg)).toInt ≠ 5 ∧ 0 ≤ (v 1 (74 + 2 * x0.toNatClampNeg)).toInt ∧ (v 1 (74 + 2 * x0.toNatClampNeg)).toInt ≤ x1.toInt → ((-1) : Int32) = 1 ∧ (∀ n : Nat, v 1 n = if n = 35 + 7 * x0.toNatClampNeg then (v 1 (74 + 2 * x0.toNatClampNeg) + x1) / 2 else if n = 34 + 7 * x0.toNatClampNeg then 1 else if n = 75 + 2 * x0.toNatClampNeg then -5 else if n = 74 + 2 * x0.toNatClampNeg then -5 else if n = 36 + 7 * x0.toNatClampNeg then v 1 (36 + 7 * x0.toNatClampNeg) + 1 else if n = 87 + 10 * x0.toNatClampNeg + 2 * (v 1 (36 + 7 * x0.toNatClampNeg)).toNatClampNeg then x1 else if n = 86 + 10 * x0.toNatClampNeg + 2 * (v 1 (36 + 7 * x0.toNatClampNeg)).toNatClampNeg then v 1 (74 + 2 * x0.toNatClampNeg) else if n = 75 + 2 * x0.toNatClampNeg then x1 else v 1 n) ∧ (∀ k : Nat, k ≠ 1 → v k = v k)) := by
        refine ⟨fun hq => ?_, fun hq => ?_, fun hq => ?_, fun hq => ?_, fun hq => ?_, fun hq => ?_, fun hq => ?_⟩
        · exact ⟨rfl, rfl⟩
        · exfalso; omega
        · exfalso; omega
        · exfalso; omega
        · exfalso; omega
        · exfalso; omega
        · exfalso; omega
      exact W.iret (v := (-1)) hx hb hr (fun t ht hW => ⟨⟨(-1), v, rfl, ⟨hv, hpost⟩, by rw [ht]; exact hP, hD⟩, hS.F ht⟩) hS.2.2 dX8_offer_26
  · refine lv_if_eq (tgt := 25) hx hb dX8_offer_5 (by decide) (fun _ => ?_) (fun c9 => absurd c9 (by decide))
    refine lv_iconst (v := (-1)) hx hb dX8_offer_25 (by decide) ?_
    have hpost : (¬ ((0 ≤ x0.toInt ∧ x0.toInt < (v 1 2).toInt) ∧ 0 ≤ x1.toInt ∧ x1.toInt ≤ 100) → ((-1) : Int32) = -1 ∧ v = v) ∧ (((0 ≤ x0.toInt ∧ x0.toInt < (v 1 2).toInt) ∧ 0 ≤ x1.toInt ∧ x1.toInt ≤ 100) ∧ (v 1 (34 + 7 * x0.toNatClampNeg)).toInt ≠ 0 → ((-1) : Int32) = -4 ∧ v = v) ∧ (((0 ≤ x0.toInt ∧ x0.toInt < (v 1 2).toInt) ∧ 0 ≤ x1.toInt ∧ x1.toInt ≤ 100) ∧ (v 1 (34 + 7 * x0.toNatClampNeg)).toInt = 0 ∧ 0 ≤ (v 1 (75 + 2 * x0.toNatClampNeg)).toInt → ((-1) : Int32) = -3 ∧ v = v) ∧ (((0 ≤ x0.toInt ∧ x0.toInt < (v 1 2).toInt) ∧ 0 ≤ x1.toInt ∧ x1.toInt ≤ 100) ∧ (v 1 (34 + 7 * x0.toNatClampNeg)).toInt = 0 ∧ (v 1 (75 + 2 * x0.toNatClampNeg)).toInt < 0 ∧ (v 1 (36 + 7 * x0.toNatClampNeg)).toInt = 5 → ((-1) : Int32) = -2 ∧ v = v) ∧ (((0 ≤ x0.toInt ∧ x0.toInt < (v 1 2).toInt) ∧ 0 ≤ x1.toInt ∧ x1.toInt ≤ 100) ∧ (v 1 (34 + 7 * x0.toNatClampNeg)).toInt = 0 ∧ (v 1 (75 + 2 * x0.toNatClampNeg)).toInt < 0 ∧ (v 1 (36 + 7 * x0.toNatClampNeg)).toInt ≠ 5 ∧ (v 1 (74 + 2 * x0.toNatClampNeg)).toInt < 0 → ((-1) : Int32) = 0 ∧ (∀ n : Nat, v 1 n = if n = 75 + 2 * x0.toNatClampNeg then x1 else v 1 n) ∧ (∀ k : Nat, k ≠ 1 → v k = v k)) ∧ (((0 ≤ x0.toInt ∧ x0.toInt < (v 1 2).toInt) ∧ 0 ≤ x1.toInt ∧ x1.toInt ≤ 100) ∧ (v 1 (34 + 7 * x0.toNatClampNeg)).toInt = 0 ∧ (v 1 (75 + 2 * x0.toNatClampNeg)).toInt < 0 ∧ (v 1 (36 + 7 * x0.toNatClampNeg)).toInt ≠ 5 ∧ 0 ≤ (v 1 (74 + 2 * x0.toNatClampNeg)).toInt ∧ x1.toInt < (v 1 (74 + 2 * x0.toNatClampNeg)).toInt → ((-1) : Int32) = 2 ∧ (∀ n : Nat, v 1 n = if n = 75 + 2 * x0.toNatClampNeg then -5 else if n = 74 + 2 * x0.toNatClampNeg then -5 else if n = 36 + 7 * x0.toNatClampNeg then v 1 (36 + 7 * x0.toNatClampNeg) + 1 else if n = 87 + 10 * x0.toNatClampNeg + 2 * (v 1 (36 + 7 * x0.toNatClampNeg)).toNatClampNeg then x1 else if n = 86 + 10 * x0.toNatClampNeg + 2 * (v 1 (36 + 7 * x0.toNatClampNeg)).toNatClampNeg then v 1 (74 + 2 * x0.toNatClampNeg) else if n = 75 + 2 * x0.toNatClampNeg then x1 else v 1 n) ∧ (∀ k : Nat, k ≠ 1 → v k = v k)) ∧ (((0 ≤ x0.toInt ∧ x0.toInt < (v 1 2).toInt) ∧ 0 ≤ x1.toInt ∧ x1.toInt ≤ 100) ∧ (v 1 (34 + 7 * x0.toNatClampNeg)).toInt = 0 ∧ (v 1 (75 + 2 * x0.toNatClampNeg)).toInt < 0 ∧ (v 1 (36 + 7 * x0.toNatClampNeg)).toInt ≠ 5 ∧ 0 ≤ (v 1 (74 + 2 * x0.toNatClampNeg)).toInt ∧ (v 1 (74 + 2 * x0.toNatClampNeg)).toInt ≤ x1.toInt → ((-1) : Int32) = 1 ∧ (∀ n : Nat, v 1 n = if n = 35 + 7 * x0.toNatClampNeg then (v 1 (74 + 2 * x0.toNatClampNeg) + x1) / 2 else if n = 34 + 7 * x0.toNatClampNeg then 1 else if n = 75 + 2 * x0.toNatClampNeg then -5 else if n = 74 + 2 * x0.toNatClampNeg then -5 else if n = 36 + 7 * x0.toNatClampNeg then v 1 (36 + 7 * x0.toNatClampNeg) + 1 else if n = 87 + 10 * x0.toNatClampNeg + 2 * (v 1 (36 + 7 * x0.toNatClampNeg)).toNatClampNeg then x1 else if n = 86 + 10 * x0.toNatClampNeg + 2 * (v 1 (36 + 7 * x0.toNatClampNeg)).toNatClampNeg then v 1 (74 + 2 * x0.toNatClampNeg) else if n = 75 + 2 * x0.toNatClampNeg then x1 else v 1 n) ∧ (∀ k : Nat, k ≠ 1 → v k = v k)) := by
      refine ⟨fun hq => ?_, fun hq => ?_, fun hq => ?_, fun hq => ?_, fun hq => ?_, fun hq => ?_, fun hq => ?_⟩
      · exact ⟨rfl, rfl⟩
      · exfalso; omega
      · exfalso; omega
      · exfalso; omega
      · exfalso; omega
      · exfalso; omega
      · exfalso; omega
    exact W.iret (v := (-1)) hx hb hr (fun t ht hW => ⟨⟨(-1), v, rfl, ⟨hv, hpost⟩, by rw [ht]; exact hP, hD⟩, hS.F ht⟩) hS.2.2 dX8_offer_26
