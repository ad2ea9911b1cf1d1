set_option maxRecDepth 20000 in
theorem db_X7_close_0 : (decode cX7_close 0 = .ok (.aload_n 0, 1)) ∧ (decode cX7_close 1 = .ok (.iload_n 1, 1)) ∧ (decode cX7_close 2 = .ok (.invokevirtual 96, 3)) ∧ (decode cX7_close 5 = .ok (.ifCond .ne 5, 3)) ∧ (decode cX7_close 10 = .ok (.aload_n 0, 1)) ∧ (decode cX7_close 11 = .ok (.getfield 12, 3)) ∧ (decode cX7_close 14 = .ok (.getfield 86, 3)) ∧ (decode cX7_close 17 = .ok (.iload_n 1, 1)) := by decide +kernel
theorem dX7_close_0 : decode cX7_close 0 = .ok (.aload_n 0, 1) := db_X7_close_0.1
theorem dX7_close_1 : decode cX7_close 1 = .ok (.iload_n 1, 1) := db_X7_close_0.2.1
set_option maxRecDepth 20000 in
theorem ggX7_close_X7_isCase : GoodIn wsX7_close wsX7_isCase := goodIn_r _ [8, 1, 9, 10, 11, 7, 12, 13, 14, 15, 16, 17, 18, 19, 20, 21, 22, 23, 24] rfl (by decide +kernel)
set_option maxRecDepth 20000 in
theorem gX7_close_X7_isCase : GoodIn wsX7_close (wsV RX7 96 RX7 yX7_isCase wsX7_isCase) := goodIn_app (goodIn_r _ [4, 5, 6, 7] rfl (by decide +kernel)) ggX7_close_X7_isCase
theorem dX7_close_2 : decode cX7_close 2 = .ok (.invokevirtual 96, 3) := db_X7_close_0.2.2.1
theorem dX7_close_5 : decode cX7_close 5 = .ok (.ifCond .ne 5, 3) := db_X7_close_0.2.2.2.1
theorem dX7_close_10 : decode cX7_close 10 = .ok (.aload_n 0, 1) := db_X7_close_0.2.2.2.2.1
theorem dX7_close_11 : decode cX7_close 11 = .ok (.getfield 12, 3) := db_X7_close_0.2.2.2.2.2.1
theorem dX7_close_14 : decode cX7_close 14 = .ok (.getfield 86, 3) := db_X7_close_0.2.2.2.2.2.2.1
theorem dX7_close_17 : decode cX7_close 17 = .ok (.iload_n 1, 1) := db_X7_close_0.2.2.2.2.2.2.2
set_option maxRecDepth 20000 in
theorem db_X7_close_18 : (decode cX7_close 18 = .ok (.aaload, 1)) ∧ (decode cX7_close 19 = .ok (.getfield 99, 3)) ∧ (decode cX7_close 22 = .ok (.ifCond .eq 6, 3)) ∧ (decode cX7_close 28 = .ok (.aload_n 0, 1)) ∧ (decode cX7_close 29 = .ok (.getfield 12, 3)) ∧ (decode cX7_close 32 = .ok (.getfield 86, 3)) ∧ (decode cX7_close 35 = .ok (.iload_n 1, 1)) ∧ (decode cX7_close 36 = .ok (.aaload, 1)) := by decide +kernel
theorem dX7_close_18 : decode cX7_close 18 = .ok (.aaload, 1) := db_X7_close_18.1
theorem dX7_close_19 : decode cX7_close 19 = .ok (.getfield 99, 3) := db_X7_close_18.2.1
theorem dX7_close_22 : decode cX7_close 22 = .ok (.ifCond .eq 6, 3) := db_X7_close_18.2.2.1
theorem dX7_close_28 : decode cX7_close 28 = .ok (.aload_n 0, 1) := db_X7_close_18.2.2.2.1
theorem dX7_close_29 : decode cX7_close 29 = .ok (.getfield 12, 3) := db_X7_close_18.2.2.2.2.1
theorem dX7_close_32 : decode cX7_close 32 = .ok (.getfield 86, 3) := db_X7_close_18.2.2.2.2.2.1
theorem dX7_close_35 : decode cX7_close 35 = .ok (.iload_n 1, 1) := db_X7_close_18.2.2.2.2.2.2.1
theorem dX7_close_36 : decode cX7_close 36 = .ok (.aaload, 1) := db_X7_close_18.2.2.2.2.2.2.2
set_option maxRecDepth 20000 in
theorem db_X7_close_37 : (decode cX7_close 37 = .ok (.iconst 2, 1)) ∧ (decode cX7_close 38 = .ok (.putfield 99, 3)) ∧ (decode cX7_close 41 = .ok (.iconst 1, 1)) ∧ (decode cX7_close 42 = .ok (.ireturn, 1)) ∧ (decode cX7_close 25 = .ok (.bipush (-4), 2)) ∧ (decode cX7_close 27 = .ok (.ireturn, 1)) ∧ (decode cX7_close 8 = .ok (.iconst (-1), 1)) ∧ (decode cX7_close 9 = .ok (.ireturn, 1)) := by decide +kernel
theorem dX7_close_37 : decode cX7_close 37 = .ok (.iconst 2, 1) := db_X7_close_37.1
theorem dX7_close_38 : decode cX7_close 38 = .ok (.putfield 99, 3) := db_X7_close_37.2.1
theorem dX7_close_41 : decode cX7_close 41 = .ok (.iconst 1, 1) := db_X7_close_37.2.2.1
theorem dX7_close_42 : decode cX7_close 42 = .ok (.ireturn, 1) := db_X7_close_37.2.2.2.1
theorem dX7_close_25 : decode cX7_close 25 = .ok (.bipush (-4), 2) := db_X7_close_37.2.2.2.2.1
theorem dX7_close_27 : decode cX7_close 27 = .ok (.ireturn, 1) := db_X7_close_37.2.2.2.2.2.1
theorem dX7_close_8 : decode cX7_close 8 = .ok (.iconst (-1), 1) := db_X7_close_37.2.2.2.2.2.2.1
theorem dX7_close_9 : decode cX7_close 9 = .ok (.ireturn, 1) := db_X7_close_37.2.2.2.2.2.2.2
set_option maxRecDepth 20000 in
theorem db_X7_weight_0 : (decode cX7_weight 0 = .ok (.aload_n 0, 1)) ∧ (decode cX7_weight 1 = .ok (.iload_n 1, 1)) ∧ (decode cX7_weight 2 = .ok (.invokevirtual 96, 3)) ∧ (decode cX7_weight 5 = .ok (.ifCond .eq 13, 3)) ∧ (decode cX7_weight 8 = .ok (.iload_n 2, 1)) ∧ (decode cX7_weight 9 = .ok (.iconst 1, 1)) ∧ (decode cX7_weight 10 = .ok (.bipush 9, 2)) ∧ (decode cX7_weight 12 = .ok (.invokestatic 37, 3)) := by decide +kernel
theorem dX7_weight_0 : decode cX7_weight 0 = .ok (.aload_n 0, 1) := db_X7_weight_0.1
theorem dX7_weight_1 : decode cX7_weight 1 = .ok (.iload_n 1, 1) := db_X7_weight_0.2.1
set_option maxRecDepth 20000 in
theorem ggX7_weight_X7_isCase : GoodIn wsX7_weight wsX7_isCase := goodIn_r _ [8, 1, 9, 10, 11, 7, 12, 13, 14, 15, 16, 17, 18, 19, 20, 21, 22, 23, 24] rfl (by decide +kernel)
set_option maxRecDepth 20000 in
theorem gX7_weight_X7_isCase : GoodIn wsX7_weight (wsV RX7 96 RX7 yX7_isCase wsX7_isCase) := goodIn_app (goodIn_r _ [4, 5, 6, 7] rfl (by decide +kernel)) ggX7_weight_X7_isCase
theorem dX7_weight_2 : decode cX7_weight 2 = .ok (.invokevirtual 96, 3) := db_X7_weight_0.2.2.1
theorem dX7_weight_5 : decode cX7_weight 5 = .ok (.ifCond .eq 13, 3) := db_X7_weight_0.2.2.2.1
theorem dX7_weight_8 : decode cX7_weight 8 = .ok (.iload_n 2, 1) := db_X7_weight_0.2.2.2.2.1
theorem dX7_weight_9 : decode cX7_weight 9 = .ok (.iconst 1, 1) := db_X7_weight_0.2.2.2.2.2.1
theorem dX7_weight_10 : decode cX7_weight 10 = .ok (.bipush 9, 2) := db_X7_weight_0.2.2.2.2.2.2.1
set_option maxRecDepth 20000 in
theorem ggX7_weight_X7_isWithin : GoodIn wsX7_weight wsX7_isWithin := goodIn_r _ [12] rfl (by decide +kernel)
set_option maxRecDepth 20000 in
theorem gX7_weight_X7_isWithin : GoodIn wsX7_weight (va_wsS RX7 37 yX7_isWithin wsX7_isWithin) := goodIn_app (goodIn_r _ [10, 11, 7] rfl (by decide +kernel)) ggX7_weight_X7_isWithin
theorem dX7_weight_12 : decode cX7_weight 12 = .ok (.invokestatic 37, 3) := db_X7_weight_0.2.2.2.2.2.2.2
set_option maxRecDepth 20000 in
theorem db_X7_weight_15 : (decode cX7_weight 15 = .ok (.ifCond .ne 5, 3)) ∧ (decode cX7_weight 20 = .ok (.aload_n 0, 1)) ∧ (decode cX7_weight 21 = .ok (.getfield 12, 3)) ∧ (decode cX7_weight 24 = .ok (.getfield 86, 3)) ∧ (decode cX7_weight 27 = .ok (.iload_n 1, 1)) ∧ (decode cX7_weight 28 = .ok (.aaload, 1)) ∧ (decode cX7_weight 29 = .ok (.getfield 102, 3)) ∧ (decode cX7_weight 32 = .ok (.istore_n 3, 1)) := by decide +kernel
theorem dX7_weight_15 : decode cX7_weight 15 = .ok (.ifCond .ne 5, 3) := db_X7_weight_15.1
theorem dX7_weight_20 : decode cX7_weight 20 = .ok (.aload_n 0, 1) := db_X7_weight_15.2.1
theorem dX7_weight_21 : decode cX7_weight 21 = .ok (.getfield 12, 3) := db_X7_weight_15.2.2.1
theorem dX7_weight_24 : decode cX7_weight 24 = .ok (.getfield 86, 3) := db_X7_weight_15.2.2.2.1
theorem dX7_weight_27 : decode cX7_weight 27 = .ok (.iload_n 1, 1) := db_X7_weight_15.2.2.2.2.1
theorem dX7_weight_28 : decode cX7_weight 28 = .ok (.aaload, 1) := db_X7_weight_15.2.2.2.2.2.1
theorem dX7_weight_29 : decode cX7_weight 29 = .ok (.getfield 102, 3) := db_X7_weight_15.2.2.2.2.2.2.1
theorem dX7_weight_32 : decode cX7_weight 32 = .ok (.istore_n 3, 1) := db_X7_weight_15.2.2.2.2.2.2.2
set_option maxRecDepth 20000 in
theorem db_X7_weight_33 : (decode cX7_weight 33 = .ok (.aload_n 0, 1)) ∧ (decode cX7_weight 34 = .ok (.getfield 12, 3)) ∧ (decode cX7_weight 37 = .ok (.getfield 86, 3)) ∧ (decode cX7_weight 40 = .ok (.iload_n 1, 1)) ∧ (decode cX7_weight 41 = .ok (.aaload, 1)) ∧ (decode cX7_weight 42 = .ok (.iload_n 2, 1)) ∧ (decode cX7_weight 43 = .ok (.putfield 102, 3)) ∧ (decode cX7_weight 46 = .ok (.iload_n 3, 1)) := by decide +kernel
theorem dX7_weight_33 : decode cX7_weight 33 = .ok (.aload_n 0, 1) := db_X7_weight_33.1
theorem dX7_weight_34 : decode cX7_weight 34 = .ok (.getfield 12, 3) := db_X7_weight_33.2.1
theorem dX7_weight_37 : decode cX7_weight 37 = .ok (.getfield 86, 3) := db_X7_weight_33.2.2.1
theorem dX7_weight_40 : decode cX7_weight 40 = .ok (.iload_n 1, 1) := db_X7_weight_33.2.2.2.1
theorem dX7_weight_41 : decode cX7_weight 41 = .ok (.aaload, 1) := db_X7_weight_33.2.2.2.2.1
theorem dX7_weight_42 : decode cX7_weight 42 = .ok (.iload_n 2, 1) := db_X7_weight_33.2.2.2.2.2.1
theorem dX7_weight_43 : decode cX7_weight 43 = .ok (.putfield 102, 3) := db_X7_weight_33.2.2.2.2.2.2.1
theorem dX7_weight_46 : decode cX7_weight 46 = .ok (.iload_n 3, 1) := db_X7_weight_33.2.2.2.2.2.2.2
set_option maxRecDepth 20000 in
theorem db_X7_weight_47 : (decode cX7_weight 47 = .ok (.ireturn, 1)) ∧ (decode cX7_weight 18 = .ok (.iconst (-1), 1)) ∧ (decode cX7_weight 19 = .ok (.ireturn, 1)) := by decide +kernel
theorem dX7_weight_47 : decode cX7_weight 47 = .ok (.ireturn, 1) := db_X7_weight_47.1
theorem dX7_weight_18 : decode cX7_weight 18 = .ok (.iconst (-1), 1) := db_X7_weight_47.2.1
theorem dX7_weight_19 : decode cX7_weight 19 = .ok (.ireturn, 1) := db_X7_weight_47.2.2
set_option maxRecDepth 20000 in
theorem db_X7_strike_0 : (decode cX7_strike 0 = .ok (.aload_n 0, 1)) ∧ (decode cX7_strike 1 = .ok (.iload_n 1, 1)) ∧ (decode cX7_strike 2 = .ok (.invokevirtual 96, 3)) ∧ (decode cX7_strike 5 = .ok (.ifCond .ne 5, 3)) ∧ (decode cX7_strike 10 = .ok (.aload_n 0, 1)) ∧ (decode cX7_strike 11 = .ok (.getfield 12, 3)) ∧ (decode cX7_strike 14 = .ok (.getfield 86, 3)) ∧ (decode cX7_strike 17 = .ok (.iload_n 1, 1)) := by decide +kernel
theorem dX7_strike_0 : decode cX7_strike 0 = .ok (.aload_n 0, 1) := db_X7_strike_0.1
theorem dX7_strike_1 : decode cX7_strike 1 = .ok (.iload_n 1, 1) := db_X7_strike_0.2.1
set_option maxRecDepth 20000 in
theorem ggX7_strike_X7_isCase : GoodIn wsX7_strike wsX7_isCase := goodIn_r _ [8, 1, 9, 10, 11, 7, 12, 13, 14, 15, 16, 17, 18, 19, 20, 21, 22, 23, 24] rfl (by decide +kernel)
set_option maxRecDepth 20000 in
theorem gX7_strike_X7_isCase : GoodIn wsX7_strike (wsV RX7 96 RX7 yX7_isCase wsX7_isCase) := goodIn_app (goodIn_r _ [4, 5, 6, 7] rfl (by decide +kernel)) ggX7_strike_X7_isCase
theorem dX7_strike_2 : decode cX7_strike 2 = .ok (.invokevirtual 96, 3) := db_X7_strike_0.2.2.1
theorem dX7_strike_5 : decode cX7_strike 5 = .ok (.ifCond .ne 5, 3) := db_X7_strike_0.2.2.2.1
theorem dX7_strike_10 : decode cX7_strike 10 = .ok (.aload_n 0, 1) := db_X7_strike_0.2.2.2.2.1
theorem dX7_strike_11 : decode cX7_strike 11 = .ok (.getfield 12, 3) := db_X7_strike_0.2.2.2.2.2.1
theorem dX7_strike_14 : decode cX7_strike 14 = .ok (.getfield 86, 3) := db_X7_strike_0.2.2.2.2.2.2.1
theorem dX7_strike_17 : decode cX7_strike 17 = .ok (.iload_n 1, 1) := db_X7_strike_0.2.2.2.2.2.2.2
set_option maxRecDepth 20000 in
theorem db_X7_strike_18 : (decode cX7_strike 18 = .ok (.aaload, 1)) ∧ (decode cX7_strike 19 = .ok (.getfield 169, 3)) ∧ (decode cX7_strike 22 = .ok (.ifCond .ne 6, 3)) ∧ (decode cX7_strike 28 = .ok (.aload_n 0, 1)) ∧ (decode cX7_strike 29 = .ok (.getfield 12, 3)) ∧ (decode cX7_strike 32 = .ok (.getfield 86, 3)) ∧ (decode cX7_strike 35 = .ok (.iload_n 1, 1)) ∧ (decode cX7_strike 36 = .ok (.aaload, 1)) := by decide +kernel
theorem dX7_strike_18 : decode cX7_strike 18 = .ok (.aaload, 1) := db_X7_strike_18.1
theorem dX7_strike_19 : decode cX7_strike 19 = .ok (.getfield 169, 3) := db_X7_strike_18.2.1
theorem dX7_strike_22 : decode cX7_strike 22 = .ok (.ifCond .ne 6, 3) := db_X7_strike_18.2.2.1
theorem dX7_strike_28 : decode cX7_strike 28 = .ok (.aload_n 0, 1) := db_X7_strike_18.2.2.2.1
theorem dX7_strike_29 : decode cX7_strike 29 = .ok (.getfield 12, 3) := db_X7_strike_18.2.2.2.2.1
theorem dX7_strike_32 : decode cX7_strike 32 = .ok (.getfield 86, 3) := db_X7_strike_18.2.2.2.2.2.1
theorem dX7_strike_35 : decode cX7_strike 35 = .ok (.iload_n 1, 1) := db_X7_strike_18.2.2.2.2.2.2.1
theorem dX7_strike_36 : decode cX7_strike 36 = .ok (.aaload, 1) := db_X7_strike_18.2.2.2.2.2.2.2
set_option maxRecDepth 20000 in
theorem db_X7_strike_37 : (decode cX7_strike 37 = .ok (.dup, 1)) ∧ (decode cX7_strike 38 = .ok (.getfield 169, 3)) ∧ (decode cX7_strike 41 = .ok (.iconst 1, 1)) ∧ (decode cX7_strike 42 = .ok (.isub, 1)) ∧ (decode cX7_strike 43 = .ok (.putfield 169, 3)) ∧ (decode cX7_strike 46 = .ok (.aload_n 0, 1)) ∧ (decode cX7_strike 47 = .ok (.getfield 12, 3)) ∧ (decode cX7_strike 50 = .ok (.getfield 86, 3)) := by decide +kernel
theorem dX7_strike_37 : decode cX7_strike 37 = .ok (.dup, 1) := db_X7_strike_37.1
theorem dX7_strike_38 : decode cX7_strike 38 = .ok (.getfield 169, 3) := db_X7_strike_37.2.1
theorem dX7_strike_41 : decode cX7_strike 41 = .ok (.iconst 1, 1) := db_X7_strike_37.2.2.1
theorem dX7_strike_42 : decode cX7_strike 42 = .ok (.isub, 1) := db_X7_strike_37.2.2.2.1
theorem dX7_strike_43 : decode cX7_strike 43 = .ok (.putfield 169, 3) := db_X7_strike_37.2.2.2.2.1
theorem dX7_strike_46 : decode cX7_strike 46 = .ok (.aload_n 0, 1) := db_X7_strike_37.2.2.2.2.2.1
theorem dX7_strike_47 : decode cX7_strike 47 = .ok (.getfield 12, 3) := db_X7_strike_37.2.2.2.2.2.2.1
theorem dX7_strike_50 : decode cX7_strike 50 = .ok (.getfield 86, 3) := db_X7_strike_37.2.2.2.2.2.2.2
set_option maxRecDepth 20000 in
theorem db_X7_strike_53 : (decode cX7_strike 53 = .ok (.iload_n 1, 1)) ∧ (decode cX7_strike 54 = .ok (.aaload, 1)) ∧ (decode cX7_strike 55 = .ok (.getfield 169, 3)) ∧ (decode cX7_strike 58 = .ok (.ireturn, 1)) ∧ (decode cX7_strike 25 = .ok (.bipush (-5), 2)) ∧ (decode cX7_strike 27 = .ok (.ireturn, 1)) ∧ (decode cX7_strike 8 = .ok (.iconst (-1), 1)) ∧ (decode cX7_strike 9 = .ok (.ireturn, 1)) := by decide +kernel
theorem dX7_strike_53 : decode cX7_strike 53 = .ok (.iload_n 1, 1) := db_X7_strike_53.1
theorem dX7_strike_54 : decode cX7_strike 54 = .ok (.aaload, 1) := db_X7_strike_53.2.1
theorem dX7_strike_55 : decode cX7_strike 55 = .ok (.getfield 169, 3) := db_X7_strike_53.2.2.1
theorem dX7_strike_58 : decode cX7_strike 58 = .ok (.ireturn, 1) := db_X7_strike_53.2.2.2.1
theorem dX7_strike_25 : decode cX7_strike 25 = .ok (.bipush (-5), 2) := db_X7_strike_53.2.2.2.2.1
theorem dX7_strike_27 : decode cX7_strike 27 = .ok (.ireturn, 1) := db_X7_strike_53.2.2.2.2.2.1
theorem dX7_strike_8 : decode cX7_strike 8 = .ok (.iconst (-1), 1) := db_X7_strike_53.2.2.2.2.2.2.1
theorem dX7_strike_9 : decode cX7_strike 9 = .ok (.ireturn, 1) := db_X7_strike_53.2.2.2.2.2.2.2
set_option maxRecDepth 20000 in
theorem db_X7_log_0 : (decode cX7_log 0 = .ok (.aload_n 0, 1)) ∧ (decode cX7_log 1 = .ok (.iload_n 1, 1)) ∧ (decode cX7_log 2 = .ok (.invokevirtual 96, 3)) ∧ (decode cX7_log 5 = .ok (.ifCond .eq 28, 3)) ∧ (decode cX7_log 8 = .ok (.iload_n 2, 1)) ∧ (decode cX7_log 9 = .ok (.invokestatic 132, 3)) ∧ (decode cX7_log 12 = .ok (.ifCond .eq 21, 3)) ∧ (decode cX7_log 15 = .ok (.iload_n 3, 1)) := by decide +kernel
theorem dX7_log_0 : decode cX7_log 0 = .ok (.aload_n 0, 1) := db_X7_log_0.1
theorem dX7_log_1 : decode cX7_log 1 = .ok (.iload_n 1, 1) := db_X7_log_0.2.1
set_option maxRecDepth 20000 in
theorem ggX7_log_X7_isCase : GoodIn wsX7_log wsX7_isCase := goodIn_r _ [8, 1, 9, 10, 11, 7, 12, 19, 20, 21, 22, 23, 24, 25, 26, 27, 28, 29, 30] rfl (by decide +kernel)
set_option maxRecDepth 20000 in
theorem gX7_log_X7_isCase : GoodIn wsX7_log (wsV RX7 96 RX7 yX7_isCase wsX7_isCase) := goodIn_app (goodIn_r _ [4, 5, 6, 7] rfl (by decide +kernel)) ggX7_log_X7_isCase
theorem dX7_log_2 : decode cX7_log 2 = .ok (.invokevirtual 96, 3) := db_X7_log_0.2.2.1
theorem dX7_log_5 : decode cX7_log 5 = .ok (.ifCond .eq 28, 3) := db_X7_log_0.2.2.2.1
theorem dX7_log_8 : decode cX7_log 8 = .ok (.iload_n 2, 1) := db_X7_log_0.2.2.2.2.1
set_option maxRecDepth 20000 in
theorem ggX7_log_X7_isSide : GoodIn wsX7_log wsX7_isSide := goodIn_r _ [15, 10, 11, 7, 12] rfl (by decide +kernel)
set_option maxRecDepth 20000 in
theorem gX7_log_X7_isSide : GoodIn wsX7_log (va_wsS RX7 132 yX7_isSide wsX7_isSide) := goodIn_app (goodIn_r _ [13, 14, 7] rfl (by decide +kernel)) ggX7_log_X7_isSide
theorem dX7_log_9 : decode cX7_log 9 = .ok (.invokestatic 132, 3) := db_X7_log_0.2.2.2.2.2.1
theorem dX7_log_12 : decode cX7_log 12 = .ok (.ifCond .eq 21, 3) := db_X7_log_0.2.2.2.2.2.2.1
theorem dX7_log_15 : decode cX7_log 15 = .ok (.iload_n 3, 1) := db_X7_log_0.2.2.2.2.2.2.2
set_option maxRecDepth 20000 in
theorem ggX7_log_X7_isHour : GoodIn wsX7_log wsX7_isHour := goodIn_r _ [18, 10, 11, 7, 12] rfl (by decide +kernel)
set_option maxRecDepth 20000 in
theorem gX7_log_X7_isHour : GoodIn wsX7_log (va_wsS RX7 166 yX7_isHour wsX7_isHour) := goodIn_app (goodIn_r _ [16, 17, 7] rfl (by decide +kernel)) ggX7_log_X7_isHour
set_option maxRecDepth 20000 in
theorem db_X7_log_16 : (decode cX7_log 16 = .ok (.invokestatic 166, 3)) ∧ (decode cX7_log 19 = .ok (.ifCond .eq 14, 3)) ∧ (decode cX7_log 22 = .ok (.iload 4, 2)) ∧ (decode cX7_log 24 = .ok (.iconst 0, 1)) ∧ (decode cX7_log 25 = .ok (.bipush 7, 2)) ∧ (decode cX7_log 27 = .ok (.invokestatic 37, 3)) ∧ (decode cX7_log 30 = .ok (.ifCond .ne 5, 3)) ∧ (decode cX7_log 35 = .ok (.aload_n 0, 1)) := by decide +kernel
theorem dX7_log_16 : decode cX7_log 16 = .ok (.invokestatic 166, 3) := db_X7_log_16.1
theorem dX7_log_19 : decode cX7_log 19 = .ok (.ifCond .eq 14, 3) := db_X7_log_16.2.1
theorem dX7_log_22 : decode cX7_log 22 = .ok (.iload 4, 2) := db_X7_log_16.2.2.1
theorem dX7_log_24 : decode cX7_log 24 = .ok (.iconst 0, 1) := db_X7_log_16.2.2.2.1
theorem dX7_log_25 : decode cX7_log 25 = .ok (.bipush 7, 2) := db_X7_log_16.2.2.2.2.1
set_option maxRecDepth 20000 in
theorem ggX7_log_X7_isWithin : GoodIn wsX7_log wsX7_isWithin := goodIn_r _ [12] rfl (by decide +kernel)
set_option maxRecDepth 20000 in
theorem gX7_log_X7_isWithin : GoodIn wsX7_log (va_wsS RX7 37 yX7_isWithin wsX7_isWithin) := goodIn_app (goodIn_r _ [10, 11, 7] rfl (by decide +kernel)) ggX7_log_X7_isWithin
theorem dX7_log_27 : decode cX7_log 27 = .ok (.invokestatic 37, 3) := db_X7_log_16.2.2.2.2.2.1
theorem dX7_log_30 : decode cX7_log 30 = .ok (.ifCond .ne 5, 3) := db_X7_log_16.2.2.2.2.2.2.1
theorem dX7_log_35 : decode cX7_log 35 = .ok (.aload_n 0, 1) := db_X7_log_16.2.2.2.2.2.2.2
set_option maxRecDepth 20000 in
theorem db_X7_log_36 : (decode cX7_log 36 = .ok (.getfield 12, 3)) ∧ (decode cX7_log 39 = .ok (.getfield 86, 3)) ∧ (decode cX7_log 42 = .ok (.iload_n 1, 1)) ∧ (decode cX7_log 43 = .ok (.aaload, 1)) ∧ (decode cX7_log 44 = .ok (.getfield 207, 3)) ∧ (decode cX7_log 47 = .ok (.iload_n 2, 1)) ∧ (decode cX7_log 48 = .ok (.aaload, 1)) ∧ (decode cX7_log 49 = .ok (.astore 5, 2)) := by decide +kernel
theorem dX7_log_36 : decode cX7_log 36 = .ok (.getfield 12, 3) := db_X7_log_36.1
theorem dX7_log_39 : decode cX7_log 39 = .ok (.getfield 86, 3) := db_X7_log_36.2.1
theorem dX7_log_42 : decode cX7_log 42 = .ok (.iload_n 1, 1) := db_X7_log_36.2.2.1
theorem dX7_log_43 : decode cX7_log 43 = .ok (.aaload, 1) := db_X7_log_36.2.2.2.1
theorem dX7_log_44 : decode cX7_log 44 = .ok (.getfield 207, 3) := db_X7_log_36.2.2.2.2.1
theorem dX7_log_47 : decode cX7_log 47 = .ok (.iload_n 2, 1) := db_X7_log_36.2.2.2.2.2.1
theorem dX7_log_48 : decode cX7_log 48 = .ok (.aaload, 1) := db_X7_log_36.2.2.2.2.2.2.1
theorem dX7_log_49 : decode cX7_log 49 = .ok (.astore 5, 2) := db_X7_log_36.2.2.2.2.2.2.2
set_option maxRecDepth 20000 in
theorem db_X7_log_51 : (decode cX7_log 51 = .ok (.aload 5, 2)) ∧ (decode cX7_log 53 = .ok (.iload_n 3, 1)) ∧ (decode cX7_log 54 = .ok (.iaload, 1)) ∧ (decode cX7_log 55 = .ok (.istore 6, 2)) ∧ (decode cX7_log 57 = .ok (.aload 5, 2)) ∧ (decode cX7_log 59 = .ok (.iload_n 3, 1)) ∧ (decode cX7_log 60 = .ok (.iload 4, 2)) ∧ (decode cX7_log 62 = .ok (.iastore, 1)) := by decide +kernel
theorem dX7_log_51 : decode cX7_log 51 = .ok (.aload 5, 2) := db_X7_log_51.1
theorem dX7_log_53 : decode cX7_log 53 = .ok (.iload_n 3, 1) := db_X7_log_51.2.1
theorem dX7_log_54 : decode cX7_log 54 = .ok (.iaload, 1) := db_X7_log_51.2.2.1
theorem dX7_log_55 : decode cX7_log 55 = .ok (.istore 6, 2) := db_X7_log_51.2.2.2.1
theorem dX7_log_57 : decode cX7_log 57 = .ok (.aload 5, 2) := db_X7_log_51.2.2.2.2.1
theorem dX7_log_59 : decode cX7_log 59 = .ok (.iload_n 3, 1) := db_X7_log_51.2.2.2.2.2.1
theorem dX7_log_60 : decode cX7_log 60 = .ok (.iload 4, 2) := db_X7_log_51.2.2.2.2.2.2.1
theorem dX7_log_62 : decode cX7_log 62 = .ok (.iastore, 1) := db_X7_log_51.2.2.2.2.2.2.2
set_option maxRecDepth 20000 in
theorem db_X7_log_63 : (decode cX7_log 63 = .ok (.iload 6, 2)) ∧ (decode cX7_log 65 = .ok (.ireturn, 1)) ∧ (decode cX7_log 33 = .ok (.iconst (-1), 1)) ∧ (decode cX7_log 34 = .ok (.ireturn, 1)) := by decide +kernel
theorem dX7_log_63 : decode cX7_log 63 = .ok (.iload 6, 2) := db_X7_log_63.1
theorem dX7_log_65 : decode cX7_log 65 = .ok (.ireturn, 1) := db_X7_log_63.2.1
theorem dX7_log_33 : decode cX7_log 33 = .ok (.iconst (-1), 1) := db_X7_log_63.2.2.1
theorem dX7_log_34 : decode cX7_log 34 = .ok (.ireturn, 1) := db_X7_log_63.2.2.2
set_option maxRecDepth 20000 in
theorem db_X7_kin_0 : (decode cX7_kin 0 = .ok (.aload_n 0, 1)) ∧ (decode cX7_kin 1 = .ok (.iload_n 1, 1)) ∧ (decode cX7_kin 2 = .ok (.invokevirtual 72, 3)) ∧ (decode cX7_kin 5 = .ok (.ifCond .eq 11, 3)) ∧ (decode cX7_kin 8 = .ok (.aload_n 0, 1)) ∧ (decode cX7_kin 9 = .ok (.iload_n 2, 1)) ∧ (decode cX7_kin 10 = .ok (.invokevirtual 76, 3)) ∧ (decode cX7_kin 13 = .ok (.ifCond .ne 5, 3)) := by decide +kernel
theorem dX7_kin_0 : decode cX7_kin 0 = .ok (.aload_n 0, 1) := db_X7_kin_0.1
theorem dX7_kin_1 : decode cX7_kin 1 = .ok (.iload_n 1, 1) := db_X7_kin_0.2.1
set_option maxRecDepth 20000 in
theorem ggX7_kin_X7_isMediator : GoodIn wsX7_kin wsX7_isMediator := goodIn_r _ [8, 1, 9, 10, 11, 7, 12, 21, 22, 23, 24, 25, 26, 27, 28, 29, 30, 31, 32] rfl (by decide +kernel)
set_option maxRecDepth 20000 in
theorem gX7_kin_X7_isMediator : GoodIn wsX7_kin (wsV RX7 72 RX7 yX7_isMediator wsX7_isMediator) := goodIn_app (goodIn_r _ [4, 5, 6, 7] rfl (by decide +kernel)) ggX7_kin_X7_isMediator
theorem dX7_kin_2 : decode cX7_kin 2 = .ok (.invokevirtual 72, 3) := db_X7_kin_0.2.2.1
theorem dX7_kin_5 : decode cX7_kin 5 = .ok (.ifCond .eq 11, 3) := db_X7_kin_0.2.2.2.1
theorem dX7_kin_8 : decode cX7_kin 8 = .ok (.aload_n 0, 1) := db_X7_kin_0.2.2.2.2.1
theorem dX7_kin_9 : decode cX7_kin 9 = .ok (.iload_n 2, 1) := db_X7_kin_0.2.2.2.2.2.1
set_option maxRecDepth 20000 in
theorem ggX7_kin_X7_isParty : GoodIn wsX7_kin wsX7_isParty := goodIn_r _ [16, 1, 17, 10, 11, 7, 12, 21, 22, 23, 24, 25, 26, 27, 28, 29, 30, 31, 32] rfl (by decide +kernel)
set_option maxRecDepth 20000 in
theorem gX7_kin_X7_isParty : GoodIn wsX7_kin (wsV RX7 76 RX7 yX7_isParty wsX7_isParty) := goodIn_app (goodIn_r _ [13, 14, 15, 7] rfl (by decide +kernel)) ggX7_kin_X7_isParty
theorem dX7_kin_10 : decode cX7_kin 10 = .ok (.invokevirtual 76, 3) := db_X7_kin_0.2.2.2.2.2.2.1
theorem dX7_kin_13 : decode cX7_kin 13 = .ok (.ifCond .ne 5, 3) := db_X7_kin_0.2.2.2.2.2.2.2
set_option maxRecDepth 20000 in
theorem db_X7_kin_18 : (decode cX7_kin 18 = .ok (.aload_n 0, 1)) ∧ (decode cX7_kin 19 = .ok (.getfield 12, 3)) ∧ (decode cX7_kin 22 = .ok (.getfield 59, 3)) ∧ (decode cX7_kin 25 = .ok (.iload_n 1, 1)) ∧ (decode cX7_kin 26 = .ok (.aaload, 1)) ∧ (decode cX7_kin 27 = .ok (.astore 4, 2)) ∧ (decode cX7_kin 29 = .ok (.aload 4, 2)) ∧ (decode cX7_kin 31 = .ok (.getfield 69, 3)) := by decide +kernel
theorem dX7_kin_18 : decode cX7_kin 18 = .ok (.aload_n 0, 1) := db_X7_kin_18.1
theorem dX7_kin_19 : decode cX7_kin 19 = .ok (.getfield 12, 3) := db_X7_kin_18.2.1
theorem dX7_kin_22 : decode cX7_kin 22 = .ok (.getfield 59, 3) := db_X7_kin_18.2.2.1
theorem dX7_kin_25 : decode cX7_kin 25 = .ok (.iload_n 1, 1) := db_X7_kin_18.2.2.2.1
theorem dX7_kin_26 : decode cX7_kin 26 = .ok (.aaload, 1) := db_X7_kin_18.2.2.2.2.1
theorem dX7_kin_27 : decode cX7_kin 27 = .ok (.astore 4, 2) := db_X7_kin_18.2.2.2.2.2.1
theorem dX7_kin_29 : decode cX7_kin 29 = .ok (.aload 4, 2) := db_X7_kin_18.2.2.2.2.2.2.1
theorem dX7_kin_31 : decode cX7_kin 31 = .ok (.getfield 69, 3) := db_X7_kin_18.2.2.2.2.2.2.2
set_option maxRecDepth 20000 in
theorem db_X7_kin_34 : (decode cX7_kin 34 = .ok (.iload_n 2, 1)) ∧ (decode cX7_kin 35 = .ok (.invokestatic 79, 3)) ∧ (decode cX7_kin 38 = .ok (.iload_n 3, 1)) ∧ (decode cX7_kin 39 = .ok (.if_icmp .ne 5, 3)) ∧ (decode cX7_kin 44 = .ok (.aload 4, 2)) ∧ (decode cX7_kin 46 = .ok (.dup, 1)) ∧ (decode cX7_kin 47 = .ok (.getfield 69, 3)) ∧ (decode cX7_kin 50 = .ok (.iconst 1, 1)) := by decide +kernel
theorem dX7_kin_34 : decode cX7_kin 34 = .ok (.iload_n 2, 1) := db_X7_kin_34.1
set_option maxRecDepth 20000 in
theorem ggX7_kin_X7_hasBit : GoodIn wsX7_kin wsX7_hasBit := goodIn_r _ [20] rfl (by decide +kernel)
set_option maxRecDepth 20000 in
theorem gX7_kin_X7_hasBit : GoodIn wsX7_kin (va_wsS RX7 79 yX7_hasBit wsX7_hasBit) := goodIn_app (goodIn_r _ [18, 19, 7] rfl (by decide +kernel)) ggX7_kin_X7_hasBit
theorem dX7_kin_35 : decode cX7_kin 35 = .ok (.invokestatic 79, 3) := db_X7_kin_34.2.1
theorem dX7_kin_38 : decode cX7_kin 38 = .ok (.iload_n 3, 1) := db_X7_kin_34.2.2.1
theorem dX7_kin_39 : decode cX7_kin 39 = .ok (.if_icmp .ne 5, 3) := db_X7_kin_34.2.2.2.1
theorem dX7_kin_44 : decode cX7_kin 44 = .ok (.aload 4, 2) := db_X7_kin_34.2.2.2.2.1
theorem dX7_kin_46 : decode cX7_kin 46 = .ok (.dup, 1) := db_X7_kin_34.2.2.2.2.2.1
theorem dX7_kin_47 : decode cX7_kin 47 = .ok (.getfield 69, 3) := db_X7_kin_34.2.2.2.2.2.2.1
theorem dX7_kin_50 : decode cX7_kin 50 = .ok (.iconst 1, 1) := db_X7_kin_34.2.2.2.2.2.2.2
set_option maxRecDepth 20000 in
theorem db_X7_kin_51 : (decode cX7_kin 51 = .ok (.iload_n 2, 1)) ∧ (decode cX7_kin 52 = .ok (.ishl, 1)) ∧ (decode cX7_kin 53 = .ok (.ixor, 1)) ∧ (decode cX7_kin 54 = .ok (.putfield 69, 3)) ∧ (decode cX7_kin 57 = .ok (.iconst 1, 1)) ∧ (decode cX7_kin 58 = .ok (.ireturn, 1)) ∧ (decode cX7_kin 42 = .ok (.iconst 0, 1)) ∧ (decode cX7_kin 43 = .ok (.ireturn, 1)) := by decide +kernel
theorem dX7_kin_51 : decode cX7_kin 51 = .ok (.iload_n 2, 1) := db_X7_kin_51.1
theorem dX7_kin_52 : decode cX7_kin 52 = .ok (.ishl, 1) := db_X7_kin_51.2.1
theorem dX7_kin_53 : decode cX7_kin 53 = .ok (.ixor, 1) := db_X7_kin_51.2.2.1
theorem dX7_kin_54 : decode cX7_kin 54 = .ok (.putfield 69, 3) := db_X7_kin_51.2.2.2.1
theorem dX7_kin_57 : decode cX7_kin 57 = .ok (.iconst 1, 1) := db_X7_kin_51.2.2.2.2.1
theorem dX7_kin_58 : decode cX7_kin 58 = .ok (.ireturn, 1) := db_X7_kin_51.2.2.2.2.2.1
theorem dX7_kin_42 : decode cX7_kin 42 = .ok (.iconst 0, 1) := db_X7_kin_51.2.2.2.2.2.2.1
theorem dX7_kin_43 : decode cX7_kin 43 = .ok (.ireturn, 1) := db_X7_kin_51.2.2.2.2.2.2.2
set_option maxRecDepth 20000 in
theorem db_X7_kin_16 : (decode cX7_kin 16 = .ok (.iconst (-1), 1)) ∧ (decode cX7_kin 17 = .ok (.ireturn, 1)) := by decide +kernel
theorem dX7_kin_16 : decode cX7_kin 16 = .ok (.iconst (-1), 1) := db_X7_kin_16.1
theorem dX7_kin_17 : decode cX7_kin 17 = .ok (.ireturn, 1) := db_X7_kin_16.2
set_option maxRecDepth 20000 in
theorem db_X7_party_0 : (decode cX7_party 0 = .ok (.iload_n 1, 1)) ∧ (decode cX7_party 1 = .ok (.iconst 0, 1)) ∧ (decode cX7_party 2 = .ok (.bipush 9, 2)) ∧ (decode cX7_party 4 = .ok (.invokestatic 37, 3)) ∧ (decode cX7_party 7 = .ok (.ifCond .eq 12, 3)) ∧ (decode cX7_party 10 = .ok (.iload_n 2, 1)) ∧ (decode cX7_party 11 = .ok (.iconst 0, 1)) ∧ (decode cX7_party 12 = .ok (.iconst 2, 1)) := by decide +kernel
theorem dX7_party_0 : decode cX7_party 0 = .ok (.iload_n 1, 1) := db_X7_party_0.1
theorem dX7_party_1 : decode cX7_party 1 = .ok (.iconst 0, 1) := db_X7_party_0.2.1
theorem dX7_party_2 : decode cX7_party 2 = .ok (.bipush 9, 2) := db_X7_party_0.2.2.1
set_option maxRecDepth 20000 in
theorem ggX7_party_X7_isWithin : GoodIn wsX7_party wsX7_isWithin := goodIn_r _ [9] rfl (by decide +kernel)
set_option maxRecDepth 20000 in
theorem gX7_party_X7_isWithin : GoodIn wsX7_party (va_wsS RX7 37 yX7_isWithin wsX7_isWithin) := goodIn_app (goodIn_r _ [6, 7, 8] rfl (by decide +kernel)) ggX7_party_X7_isWithin
theorem dX7_party_4 : decode cX7_party 4 = .ok (.invokestatic 37, 3) := db_X7_party_0.2.2.2.1
theorem dX7_party_7 : decode cX7_party 7 = .ok (.ifCond .eq 12, 3) := db_X7_party_0.2.2.2.2.1
theorem dX7_party_10 : decode cX7_party 10 = .ok (.iload_n 2, 1) := db_X7_party_0.2.2.2.2.2.1
theorem dX7_party_11 : decode cX7_party 11 = .ok (.iconst 0, 1) := db_X7_party_0.2.2.2.2.2.2.1
theorem dX7_party_12 : decode cX7_party 12 = .ok (.iconst 2, 1) := db_X7_party_0.2.2.2.2.2.2.2
set_option maxRecDepth 20000 in
theorem db_X7_party_13 : (decode cX7_party 13 = .ok (.invokestatic 37, 3)) ∧ (decode cX7_party 16 = .ok (.ifCond .ne 5, 3)) ∧ (decode cX7_party 21 = .ok (.aload_n 0, 1)) ∧ (decode cX7_party 22 = .ok (.getfield 12, 3)) ∧ (decode cX7_party 25 = .ok (.getfield 41, 3)) ∧ (decode cX7_party 28 = .ok (.bipush 8, 2)) ∧ (decode cX7_party 30 = .ok (.if_icmp .lt 6, 3)) ∧ (decode cX7_party 36 = .ok (.aload_n 0, 1)) := by decide +kernel
theorem dX7_party_13 : decode cX7_party 13 = .ok (.invokestatic 37, 3) := db_X7_party_13.1
theorem dX7_party_16 : decode cX7_party 16 = .ok (.ifCond .ne 5, 3) := db_X7_party_13.2.1
theorem dX7_party_21 : decode cX7_party 21 = .ok (.aload_n 0, 1) := db_X7_party_13.2.2.1
theorem dX7_party_22 : decode cX7_party 22 = .ok (.getfield 12, 3) := db_X7_party_13.2.2.2.1
theorem dX7_party_25 : decode cX7_party 25 = .ok (.getfield 41, 3) := db_X7_party_13.2.2.2.2.1
theorem dX7_party_28 : decode cX7_party 28 = .ok (.bipush 8, 2) := db_X7_party_13.2.2.2.2.2.1
theorem dX7_party_30 : decode cX7_party 30 = .ok (.if_icmp .lt 6, 3) := db_X7_party_13.2.2.2.2.2.2.1
theorem dX7_party_36 : decode cX7_party 36 = .ok (.aload_n 0, 1) := db_X7_party_13.2.2.2.2.2.2.2
set_option maxRecDepth 20000 in
theorem db_X7_party_37 : (decode cX7_party 37 = .ok (.getfield 12, 3)) ∧ (decode cX7_party 40 = .ok (.getfield 44, 3)) ∧ (decode cX7_party 43 = .ok (.aload_n 0, 1)) ∧ (decode cX7_party 44 = .ok (.getfield 12, 3)) ∧ (decode cX7_party 47 = .ok (.getfield 41, 3)) ∧ (decode cX7_party 50 = .ok (.aaload, 1)) ∧ (decode cX7_party 51 = .ok (.astore_n 3, 1)) ∧ (decode cX7_party 52 = .ok (.aload_n 3, 1)) := by decide +kernel
theorem dX7_party_37 : decode cX7_party 37 = .ok (.getfield 12, 3) := db_X7_party_37.1
theorem dX7_party_40 : decode cX7_party 40 = .ok (.getfield 44, 3) := db_X7_party_37.2.1
theorem dX7_party_43 : decode cX7_party 43 = .ok (.aload_n 0, 1) := db_X7_party_37.2.2.1
theorem dX7_party_44 : decode cX7_party 44 = .ok (.getfield 12, 3) := db_X7_party_37.2.2.2.1
theorem dX7_party_47 : decode cX7_party 47 = .ok (.getfield 41, 3) := db_X7_party_37.2.2.2.2.1
theorem dX7_party_50 : decode cX7_party 50 = .ok (.aaload, 1) := db_X7_party_37.2.2.2.2.2.1
theorem dX7_party_51 : decode cX7_party 51 = .ok (.astore_n 3, 1) := db_X7_party_37.2.2.2.2.2.2.1
theorem dX7_party_52 : decode cX7_party 52 = .ok (.aload_n 3, 1) := db_X7_party_37.2.2.2.2.2.2.2
set_option maxRecDepth 20000 in
theorem db_X7_party_53 : (decode cX7_party 53 = .ok (.iload_n 1, 1)) ∧ (decode cX7_party 54 = .ok (.putfield 48, 3)) ∧ (decode cX7_party 57 = .ok (.aload_n 3, 1)) ∧ (decode cX7_party 58 = .ok (.iload_n 2, 1)) ∧ (decode cX7_party 59 = .ok (.putfield 53, 3)) ∧ (decode cX7_party 62 = .ok (.aload_n 0, 1)) ∧ (decode cX7_party 63 = .ok (.getfield 12, 3)) ∧ (decode cX7_party 66 = .ok (.dup, 1)) := by decide +kernel
theorem dX7_party_53 : decode cX7_party 53 = .ok (.iload_n 1, 1) := db_X7_party_53.1
theorem dX7_party_54 : decode cX7_party 54 = .ok (.putfield 48, 3) := db_X7_party_53.2.1
theorem dX7_party_57 : decode cX7_party 57 = .ok (.aload_n 3, 1) := db_X7_party_53.2.2.1
theorem dX7_party_58 : decode cX7_party 58 = .ok (.iload_n 2, 1) := db_X7_party_53.2.2.2.1
theorem dX7_party_59 : decode cX7_party 59 = .ok (.putfield 53, 3) := db_X7_party_53.2.2.2.2.1
theorem dX7_party_62 : decode cX7_party 62 = .ok (.aload_n 0, 1) := db_X7_party_53.2.2.2.2.2.1
theorem dX7_party_63 : decode cX7_party 63 = .ok (.getfield 12, 3) := db_X7_party_53.2.2.2.2.2.2.1
theorem dX7_party_66 : decode cX7_party 66 = .ok (.dup, 1) := db_X7_party_53.2.2.2.2.2.2.2
set_option maxRecDepth 20000 in
theorem db_X7_party_67 : (decode cX7_party 67 = .ok (.getfield 41, 3)) ∧ (decode cX7_party 70 = .ok (.dup_x1, 1)) ∧ (decode cX7_party 71 = .ok (.iconst 1, 1)) ∧ (decode cX7_party 72 = .ok (.iadd, 1)) ∧ (decode cX7_party 73 = .ok (.putfield 41, 3)) ∧ (decode cX7_party 76 = .ok (.ireturn, 1)) ∧ (decode cX7_party 33 = .ok (.bipush (-2), 2)) ∧ (decode cX7_party 35 = .ok (.ireturn, 1)) := by decide +kernel
theorem dX7_party_67 : decode cX7_party 67 = .ok (.getfield 41, 3) := db_X7_party_67.1
theorem dX7_party_70 : decode cX7_party 70 = .ok (.dup_x1, 1) := db_X7_party_67.2.1
theorem dX7_party_71 : decode cX7_party 71 = .ok (.iconst 1, 1) := db_X7_party_67.2.2.1
theorem dX7_party_72 : decode cX7_party 72 = .ok (.iadd, 1) := db_X7_party_67.2.2.2.1
theorem dX7_party_73 : decode cX7_party 73 = .ok (.putfield 41, 3) := db_X7_party_67.2.2.2.2.1
theorem dX7_party_76 : decode cX7_party 76 = .ok (.ireturn, 1) := db_X7_party_67.2.2.2.2.2.1
theorem dX7_party_33 : decode cX7_party 33 = .ok (.bipush (-2), 2) := db_X7_party_67.2.2.2.2.2.2.1
theorem dX7_party_35 : decode cX7_party 35 = .ok (.ireturn, 1) := db_X7_party_67.2.2.2.2.2.2.2
set_option maxRecDepth 20000 in
theorem db_X7_party_19 : (decode cX7_party 19 = .ok (.iconst (-1), 1)) ∧ (decode cX7_party 20 = .ok (.ireturn, 1)) := by decide +kernel
theorem dX7_party_19 : decode cX7_party 19 = .ok (.iconst (-1), 1) := db_X7_party_19.1
theorem dX7_party_20 : decode cX7_party 20 = .ok (.ireturn, 1) := db_X7_party_19.2
set_option maxRecDepth 20000 in
theorem db_X7_mediator_0 : (decode cX7_mediator 0 = .ok (.iload_n 1, 1)) ∧ (decode cX7_mediator 1 = .ok (.iconst 0, 1)) ∧ (decode cX7_mediator 2 = .ok (.bipush 9, 2)) ∧ (decode cX7_mediator 4 = .ok (.invokestatic 37, 3)) ∧ (decode cX7_mediator 7 = .ok (.ifCond .eq 13, 3)) ∧ (decode cX7_mediator 10 = .ok (.iload_n 2, 1)) ∧ (decode cX7_mediator 11 = .ok (.iconst 1, 1)) ∧ (decode cX7_mediator 12 = .ok (.bipush 7, 2)) := by decide +kernel
theorem dX7_mediator_0 : decode cX7_mediator 0 = .ok (.iload_n 1, 1) := db_X7_mediator_0.1
theorem dX7_mediator_1 : decode cX7_mediator 1 = .ok (.iconst 0, 1) := db_X7_mediator_0.2.1
theorem dX7_mediator_2 : decode cX7_mediator 2 = .ok (.bipush 9, 2) := db_X7_mediator_0.2.2.1
set_option maxRecDepth 20000 in
theorem ggX7_mediator_X7_isWithin : GoodIn wsX7_mediator wsX7_isWithin := goodIn_r _ [10] rfl (by decide +kernel)
set_option maxRecDepth 20000 in
theorem gX7_mediator_X7_isWithin : GoodIn wsX7_mediator (va_wsS RX7 37 yX7_isWithin wsX7_isWithin) := goodIn_app (goodIn_r _ [7, 8, 9] rfl (by decide +kernel)) ggX7_mediator_X7_isWithin
theorem dX7_mediator_4 : decode cX7_mediator 4 = .ok (.invokestatic 37, 3) := db_X7_mediator_0.2.2.2.1
theorem dX7_mediator_7 : decode cX7_mediator 7 = .ok (.ifCond .eq 13, 3) := db_X7_mediator_0.2.2.2.2.1
theorem dX7_mediator_10 : decode cX7_mediator 10 = .ok (.iload_n 2, 1) := db_X7_mediator_0.2.2.2.2.2.1
theorem dX7_mediator_11 : decode cX7_mediator 11 = .ok (.iconst 1, 1) := db_X7_mediator_0.2.2.2.2.2.2.1
theorem dX7_mediator_12 : decode cX7_mediator 12 = .ok (.bipush 7, 2) := db_X7_mediator_0.2.2.2.2.2.2.2
set_option maxRecDepth 20000 in
theorem db_X7_mediator_14 : (decode cX7_mediator 14 = .ok (.invokestatic 37, 3)) ∧ (decode cX7_mediator 17 = .ok (.ifCond .ne 5, 3)) ∧ (decode cX7_mediator 22 = .ok (.aload_n 0, 1)) ∧ (decode cX7_mediator 23 = .ok (.getfield 12, 3)) ∧ (decode cX7_mediator 26 = .ok (.getfield 56, 3)) ∧ (decode cX7_mediator 29 = .ok (.iconst 4, 1)) ∧ (decode cX7_mediator 30 = .ok (.if_icmp .lt 6, 3)) ∧ (decode cX7_mediator 36 = .ok (.aload_n 0, 1)) := by decide +kernel
theorem dX7_mediator_14 : decode cX7_mediator 14 = .ok (.invokestatic 37, 3) := db_X7_mediator_14.1
theorem dX7_mediator_17 : decode cX7_mediator 17 = .ok (.ifCond .ne 5, 3) := db_X7_mediator_14.2.1
theorem dX7_mediator_22 : decode cX7_mediator 22 = .ok (.aload_n 0, 1) := db_X7_mediator_14.2.2.1
theorem dX7_mediator_23 : decode cX7_mediator 23 = .ok (.getfield 12, 3) := db_X7_mediator_14.2.2.2.1
theorem dX7_mediator_26 : decode cX7_mediator 26 = .ok (.getfield 56, 3) := db_X7_mediator_14.2.2.2.2.1
theorem dX7_mediator_29 : decode cX7_mediator 29 = .ok (.iconst 4, 1) := db_X7_mediator_14.2.2.2.2.2.1
theorem dX7_mediator_30 : decode cX7_mediator 30 = .ok (.if_icmp .lt 6, 3) := db_X7_mediator_14.2.2.2.2.2.2.1
theorem dX7_mediator_36 : decode cX7_mediator 36 = .ok (.aload_n 0, 1) := db_X7_mediator_14.2.2.2.2.2.2.2
set_option maxRecDepth 20000 in
theorem db_X7_mediator_37 : (decode cX7_mediator 37 = .ok (.getfield 12, 3)) ∧ (decode cX7_mediator 40 = .ok (.getfield 59, 3)) ∧ (decode cX7_mediator 43 = .ok (.aload_n 0, 1)) ∧ (decode cX7_mediator 44 = .ok (.getfield 12, 3)) ∧ (decode cX7_mediator 47 = .ok (.getfield 56, 3)) ∧ (decode cX7_mediator 50 = .ok (.aaload, 1)) ∧ (decode cX7_mediator 51 = .ok (.astore_n 3, 1)) ∧ (decode cX7_mediator 52 = .ok (.aload_n 3, 1)) := by decide +kernel
theorem dX7_mediator_37 : decode cX7_mediator 37 = .ok (.getfield 12, 3) := db_X7_mediator_37.1
theorem dX7_mediator_40 : decode cX7_mediator 40 = .ok (.getfield 59, 3) := db_X7_mediator_37.2.1
theorem dX7_mediator_43 : decode cX7_mediator 43 = .ok (.aload_n 0, 1) := db_X7_mediator_37.2.2.1
theorem dX7_mediator_44 : decode cX7_mediator 44 = .ok (.getfield 12, 3) := db_X7_mediator_37.2.2.2.1
theorem dX7_mediator_47 : decode cX7_mediator 47 = .ok (.getfield 56, 3) := db_X7_mediator_37.2.2.2.2.1
theorem dX7_mediator_50 : decode cX7_mediator 50 = .ok (.aaload, 1) := db_X7_mediator_37.2.2.2.2.2.1
theorem dX7_mediator_51 : decode cX7_mediator 51 = .ok (.astore_n 3, 1) := db_X7_mediator_37.2.2.2.2.2.2.1
theorem dX7_mediator_52 : decode cX7_mediator 52 = .ok (.aload_n 3, 1) := db_X7_mediator_37.2.2.2.2.2.2.2
set_option maxRecDepth 20000 in
theorem db_X7_mediator_53 : (decode cX7_mediator 53 = .ok (.iload_n 1, 1)) ∧ (decode cX7_mediator 54 = .ok (.putfield 63, 3)) ∧ (decode cX7_mediator 57 = .ok (.aload_n 3, 1)) ∧ (decode cX7_mediator 58 = .ok (.iload_n 2, 1)) ∧ (decode cX7_mediator 59 = .ok (.putfield 66, 3)) ∧ (decode cX7_mediator 62 = .ok (.aload_n 3, 1)) ∧ (decode cX7_mediator 63 = .ok (.iconst 0, 1)) ∧ (decode cX7_mediator 64 = .ok (.putfield 69, 3)) := by decide +kernel
theorem dX7_mediator_53 : decode cX7_mediator 53 = .ok (.iload_n 1, 1) := db_X7_mediator_53.1
theorem dX7_mediator_54 : decode cX7_mediator 54 = .ok (.putfield 63, 3) := db_X7_mediator_53.2.1
theorem dX7_mediator_57 : decode cX7_mediator 57 = .ok (.aload_n 3, 1) := db_X7_mediator_53.2.2.1
theorem dX7_mediator_58 : decode cX7_mediator 58 = .ok (.iload_n 2, 1) := db_X7_mediator_53.2.2.2.1
theorem dX7_mediator_59 : decode cX7_mediator 59 = .ok (.putfield 66, 3) := db_X7_mediator_53.2.2.2.2.1
theorem dX7_mediator_62 : decode cX7_mediator 62 = .ok (.aload_n 3, 1) := db_X7_mediator_53.2.2.2.2.2.1
theorem dX7_mediator_63 : decode cX7_mediator 63 = .ok (.iconst 0, 1) := db_X7_mediator_53.2.2.2.2.2.2.1
theorem dX7_mediator_64 : decode cX7_mediator 64 = .ok (.putfield 69, 3) := db_X7_mediator_53.2.2.2.2.2.2.2
set_option maxRecDepth 20000 in
theorem db_X7_mediator_67 : (decode cX7_mediator 67 = .ok (.aload_n 0, 1)) ∧ (decode cX7_mediator 68 = .ok (.getfield 12, 3)) ∧ (decode cX7_mediator 71 = .ok (.dup, 1)) ∧ (decode cX7_mediator 72 = .ok (.getfield 56, 3)) ∧ (decode cX7_mediator 75 = .ok (.dup_x1, 1)) ∧ (decode cX7_mediator 76 = .ok (.iconst 1, 1)) ∧ (decode cX7_mediator 77 = .ok (.iadd, 1)) ∧ (decode cX7_mediator 78 = .ok (.putfield 56, 3)) := by decide +kernel
theorem dX7_mediator_67 : decode cX7_mediator 67 = .ok (.aload_n 0, 1) := db_X7_mediator_67.1
theorem dX7_mediator_68 : decode cX7_mediator 68 = .ok (.getfield 12, 3) := db_X7_mediator_67.2.1
theorem dX7_mediator_71 : decode cX7_mediator 71 = .ok (.dup, 1) := db_X7_mediator_67.2.2.1
theorem dX7_mediator_72 : decode cX7_mediator 72 = .ok (.getfield 56, 3) := db_X7_mediator_67.2.2.2.1
theorem dX7_mediator_75 : decode cX7_mediator 75 = .ok (.dup_x1, 1) := db_X7_mediator_67.2.2.2.2.1
theorem dX7_mediator_76 : decode cX7_mediator 76 = .ok (.iconst 1, 1) := db_X7_mediator_67.2.2.2.2.2.1
theorem dX7_mediator_77 : decode cX7_mediator 77 = .ok (.iadd, 1) := db_X7_mediator_67.2.2.2.2.2.2.1
theorem dX7_mediator_78 : decode cX7_mediator 78 = .ok (.putfield 56, 3) := db_X7_mediator_67.2.2.2.2.2.2.2
set_option maxRecDepth 20000 in
theorem db_X7_mediator_81 : (decode cX7_mediator 81 = .ok (.ireturn, 1)) ∧ (decode cX7_mediator 33 = .ok (.bipush (-2), 2)) ∧ (decode cX7_mediator 35 = .ok (.ireturn, 1)) ∧ (decode cX7_mediator 20 = .ok (.iconst (-1), 1)) ∧ (decode cX7_mediator 21 = .ok (.ireturn, 1)) := by decide +kernel
theorem dX7_mediator_81 : decode cX7_mediator 81 = .ok (.ireturn, 1) := db_X7_mediator_81.1
theorem dX7_mediator_33 : decode cX7_mediator 33 = .ok (.bipush (-2), 2) := db_X7_mediator_81.2.1
theorem dX7_mediator_35 : decode cX7_mediator 35 = .ok (.ireturn, 1) := db_X7_mediator_81.2.2.1
theorem dX7_mediator_20 : decode cX7_mediator 20 = .ok (.iconst (-1), 1) := db_X7_mediator_81.2.2.2.1
theorem dX7_mediator_21 : decode cX7_mediator 21 = .ok (.ireturn, 1) := db_X7_mediator_81.2.2.2.2
set_option maxRecDepth 20000 in
theorem db_X7_rooms_0 : (decode cX7_rooms 0 = .ok (.iload_n 1, 1)) ∧ (decode cX7_rooms 1 = .ok (.iconst 1, 1)) ∧ (decode cX7_rooms 2 = .ok (.iconst 2, 1)) ∧ (decode cX7_rooms 3 = .ok (.invokestatic 37, 3)) ∧ (decode cX7_rooms 6 = .ok (.ifCond .ne 5, 3)) ∧ (decode cX7_rooms 11 = .ok (.aload_n 0, 1)) ∧ (decode cX7_rooms 12 = .ok (.getfield 33, 3)) ∧ (decode cX7_rooms 15 = .ok (.istore_n 2, 1)) := by decide +kernel
theorem dX7_rooms_0 : decode cX7_rooms 0 = .ok (.iload_n 1, 1) := db_X7_rooms_0.1
theorem dX7_rooms_1 : decode cX7_rooms 1 = .ok (.iconst 1, 1) := db_X7_rooms_0.2.1
theorem dX7_rooms_2 : decode cX7_rooms 2 = .ok (.iconst 2, 1) := db_X7_rooms_0.2.2.1
set_option maxRecDepth 20000 in
theorem ggX7_rooms_X7_isWithin : GoodIn wsX7_rooms wsX7_isWithin := goodIn_r _ [5] rfl (by decide +kernel)
set_option maxRecDepth 20000 in
theorem gX7_rooms_X7_isWithin : GoodIn wsX7_rooms (va_wsS RX7 37 yX7_isWithin wsX7_isWithin) := goodIn_app (goodIn_r _ [2, 3, 4] rfl (by decide +kernel)) ggX7_rooms_X7_isWithin
theorem dX7_rooms_3 : decode cX7_rooms 3 = .ok (.invokestatic 37, 3) := db_X7_rooms_0.2.2.2.1
theorem dX7_rooms_6 : decode cX7_rooms 6 = .ok (.ifCond .ne 5, 3) := db_X7_rooms_0.2.2.2.2.1
theorem dX7_rooms_11 : decode cX7_rooms 11 = .ok (.aload_n 0, 1) := db_X7_rooms_0.2.2.2.2.2.1
theorem dX7_rooms_12 : decode cX7_rooms 12 = .ok (.getfield 33, 3) := db_X7_rooms_0.2.2.2.2.2.2.1
theorem dX7_rooms_15 : decode cX7_rooms 15 = .ok (.istore_n 2, 1) := db_X7_rooms_0.2.2.2.2.2.2.2
set_option maxRecDepth 20000 in
theorem db_X7_rooms_16 : (decode cX7_rooms 16 = .ok (.aload_n 0, 1)) ∧ (decode cX7_rooms 17 = .ok (.iload_n 1, 1)) ∧ (decode cX7_rooms 18 = .ok (.putfield 33, 3)) ∧ (decode cX7_rooms 21 = .ok (.iload_n 2, 1)) ∧ (decode cX7_rooms 22 = .ok (.ireturn, 1)) ∧ (decode cX7_rooms 9 = .ok (.iconst (-1), 1)) ∧ (decode cX7_rooms 10 = .ok (.ireturn, 1)) := by decide +kernel
theorem dX7_rooms_16 : decode cX7_rooms 16 = .ok (.aload_n 0, 1) := db_X7_rooms_16.1
theorem dX7_rooms_17 : decode cX7_rooms 17 = .ok (.iload_n 1, 1) := db_X7_rooms_16.2.1
theorem dX7_rooms_18 : decode cX7_rooms 18 = .ok (.putfield 33, 3) := db_X7_rooms_16.2.2.1
theorem dX7_rooms_21 : decode cX7_rooms 21 = .ok (.iload_n 2, 1) := db_X7_rooms_16.2.2.2.1
theorem dX7_rooms_22 : decode cX7_rooms 22 = .ok (.ireturn, 1) := db_X7_rooms_16.2.2.2.2.1
theorem dX7_rooms_9 : decode cX7_rooms 9 = .ok (.iconst (-1), 1) := db_X7_rooms_16.2.2.2.2.2.1
theorem dX7_rooms_10 : decode cX7_rooms 10 = .ok (.ireturn, 1) := db_X7_rooms_16.2.2.2.2.2.2
set_option maxRecDepth 20000 in
theorem db_X7_term_0 : (decode cX7_term 0 = .ok (.aload_n 0, 1)) ∧ (decode cX7_term 1 = .ok (.iload_n 1, 1)) ∧ (decode cX7_term 2 = .ok (.invokevirtual 96, 3)) ∧ (decode cX7_term 5 = .ok (.ifCond .eq 43, 3)) ∧ (decode cX7_term 8 = .ok (.iload_n 2, 1)) ∧ (decode cX7_term 9 = .ok (.invokestatic 132, 3)) ∧ (decode cX7_term 12 = .ok (.ifCond .eq 36, 3)) ∧ (decode cX7_term 15 = .ok (.iload 4, 2)) := by decide +kernel
theorem dX7_term_0 : decode cX7_term 0 = .ok (.aload_n 0, 1) := db_X7_term_0.1
theorem dX7_term_1 : decode cX7_term 1 = .ok (.iload_n 1, 1) := db_X7_term_0.2.1
set_option maxRecDepth 20000 in
theorem ggX7_term_X7_isCase : GoodIn wsX7_term wsX7_isCase := goodIn_r _ [15, 1, 16, 17, 18, 14, 19, 26, 27, 28, 29, 30, 31, 32, 33, 34, 35, 36, 37] rfl (by decide +kernel)
set_option maxRecDepth 20000 in
theorem gX7_term_X7_isCase : GoodIn wsX7_term (wsV RX7 96 RX7 yX7_isCase wsX7_isCase) := goodIn_app (goodIn_r _ [11, 12, 13, 14] rfl (by decide +kernel)) ggX7_term_X7_isCase
theorem dX7_term_2 : decode cX7_term 2 = .ok (.invokevirtual 96, 3) := db_X7_term_0.2.2.1
theorem dX7_term_5 : decode cX7_term 5 = .ok (.ifCond .eq 43, 3) := db_X7_term_0.2.2.2.1
theorem dX7_term_8 : decode cX7_term 8 = .ok (.iload_n 2, 1) := db_X7_term_0.2.2.2.2.1
set_option maxRecDepth 20000 in
theorem ggX7_term_X7_isSide : GoodIn wsX7_term wsX7_isSide := goodIn_r _ [22, 17, 18, 14, 19] rfl (by decide +kernel)
set_option maxRecDepth 20000 in
theorem gX7_term_X7_isSide : GoodIn wsX7_term (va_wsS RX7 132 yX7_isSide wsX7_isSide) := goodIn_app (goodIn_r _ [20, 21, 14] rfl (by decide +kernel)) ggX7_term_X7_isSide
theorem dX7_term_9 : decode cX7_term 9 = .ok (.invokestatic 132, 3) := db_X7_term_0.2.2.2.2.2.1
theorem dX7_term_12 : decode cX7_term 12 = .ok (.ifCond .eq 36, 3) := db_X7_term_0.2.2.2.2.2.2.1
theorem dX7_term_15 : decode cX7_term 15 = .ok (.iload 4, 2) := db_X7_term_0.2.2.2.2.2.2.2
set_option maxRecDepth 20000 in
theorem db_X7_term_17 : (decode cX7_term 17 = .ok (.iconst 0, 1)) ∧ (decode cX7_term 18 = .ok (.iconst 5, 1)) ∧ (decode cX7_term 19 = .ok (.invokestatic 37, 3)) ∧ (decode cX7_term 22 = .ok (.ifCond .eq 26, 3)) ∧ (decode cX7_term 25 = .ok (.iload 5, 2)) ∧ (decode cX7_term 27 = .ok (.invokestatic 166, 3)) ∧ (decode cX7_term 30 = .ok (.ifCond .eq 18, 3)) ∧ (decode cX7_term 33 = .ok (.iload 6, 2)) := by decide +kernel
theorem dX7_term_17 : decode cX7_term 17 = .ok (.iconst 0, 1) := db_X7_term_17.1
theorem dX7_term_18 : decode cX7_term 18 = .ok (.iconst 5, 1) := db_X7_term_17.2.1
set_option maxRecDepth 20000 in
theorem ggX7_term_X7_isWithin : GoodIn wsX7_term wsX7_isWithin := goodIn_r _ [19] rfl (by decide +kernel)
set_option maxRecDepth 20000 in
theorem gX7_term_X7_isWithin : GoodIn wsX7_term (va_wsS RX7 37 yX7_isWithin wsX7_isWithin) := goodIn_app (goodIn_r _ [17, 18, 14] rfl (by decide +kernel)) ggX7_term_X7_isWithin
theorem dX7_term_19 : decode cX7_term 19 = .ok (.invokestatic 37, 3) := db_X7_term_17.2.2.1
theorem dX7_term_22 : decode cX7_term 22 = .ok (.ifCond .eq 26, 3) := db_X7_term_17.2.2.2.1
theorem dX7_term_25 : decode cX7_term 25 = .ok (.iload 5, 2) := db_X7_term_17.2.2.2.2.1
set_option maxRecDepth 20000 in
theorem ggX7_term_X7_isHour : GoodIn wsX7_term wsX7_isHour := goodIn_r _ [25, 17, 18, 14, 19] rfl (by decide +kernel)
set_option maxRecDepth 20000 in
theorem gX7_term_X7_isHour : GoodIn wsX7_term (va_wsS RX7 166 yX7_isHour wsX7_isHour) := goodIn_app (goodIn_r _ [23, 24, 14] rfl (by decide +kernel)) ggX7_term_X7_isHour
theorem dX7_term_27 : decode cX7_term 27 = .ok (.invokestatic 166, 3) := db_X7_term_17.2.2.2.2.2.1
theorem dX7_term_30 : decode cX7_term 30 = .ok (.ifCond .eq 18, 3) := db_X7_term_17.2.2.2.2.2.2.1
theorem dX7_term_33 : decode cX7_term 33 = .ok (.iload 6, 2) := db_X7_term_17.2.2.2.2.2.2.2
set_option maxRecDepth 20000 in
theorem db_X7_term_35 : (decode cX7_term 35 = .ok (.invokestatic 166, 3)) ∧ (decode cX7_term 38 = .ok (.ifCond .eq 10, 3)) ∧ (decode cX7_term 41 = .ok (.iload 5, 2)) ∧ (decode cX7_term 43 = .ok (.iload 6, 2)) ∧ (decode cX7_term 45 = .ok (.if_icmp .le 5, 3)) ∧ (decode cX7_term 50 = .ok (.aload_n 0, 1)) ∧ (decode cX7_term 51 = .ok (.getfield 12, 3)) ∧ (decode cX7_term 54 = .ok (.getfield 86, 3)) := by decide +kernel
theorem dX7_term_35 : decode cX7_term 35 = .ok (.invokestatic 166, 3) := db_X7_term_35.1
theorem dX7_term_38 : decode cX7_term 38 = .ok (.ifCond .eq 10, 3) := db_X7_term_35.2.1
theorem dX7_term_41 : decode cX7_term 41 = .ok (.iload 5, 2) := db_X7_term_35.2.2.1
theorem dX7_term_43 : decode cX7_term 43 = .ok (.iload 6, 2) := db_X7_term_35.2.2.2.1
theorem dX7_term_45 : decode cX7_term 45 = .ok (.if_icmp .le 5, 3) := db_X7_term_35.2.2.2.2.1
theorem dX7_term_50 : decode cX7_term 50 = .ok (.aload_n 0, 1) := db_X7_term_35.2.2.2.2.2.1
theorem dX7_term_51 : decode cX7_term 51 = .ok (.getfield 12, 3) := db_X7_term_35.2.2.2.2.2.2.1
theorem dX7_term_54 : decode cX7_term 54 = .ok (.getfield 86, 3) := db_X7_term_35.2.2.2.2.2.2.2
set_option maxRecDepth 20000 in
theorem db_X7_term_57 : (decode cX7_term 57 = .ok (.iload_n 1, 1)) ∧ (decode cX7_term 58 = .ok (.aaload, 1)) ∧ (decode cX7_term 59 = .ok (.astore 7, 2)) ∧ (decode cX7_term 61 = .ok (.aload 7, 2)) ∧ (decode cX7_term 63 = .ok (.getfield 99, 3)) ∧ (decode cX7_term 66 = .ok (.iconst 1, 1)) ∧ (decode cX7_term 67 = .ok (.if_icmp .eq 6, 3)) ∧ (decode cX7_term 73 = .ok (.aload 7, 2)) := by decide +kernel
theorem dX7_term_57 : decode cX7_term 57 = .ok (.iload_n 1, 1) := db_X7_term_57.1
theorem dX7_term_58 : decode cX7_term 58 = .ok (.aaload, 1) := db_X7_term_57.2.1
theorem dX7_term_59 : decode cX7_term 59 = .ok (.astore 7, 2) := db_X7_term_57.2.2.1
theorem dX7_term_61 : decode cX7_term 61 = .ok (.aload 7, 2) := db_X7_term_57.2.2.2.1
theorem dX7_term_63 : decode cX7_term 63 = .ok (.getfield 99, 3) := db_X7_term_57.2.2.2.2.1
theorem dX7_term_66 : decode cX7_term 66 = .ok (.iconst 1, 1) := db_X7_term_57.2.2.2.2.2.1
theorem dX7_term_67 : decode cX7_term 67 = .ok (.if_icmp .eq 6, 3) := db_X7_term_57.2.2.2.2.2.2.1
theorem dX7_term_73 : decode cX7_term 73 = .ok (.aload 7, 2) := db_X7_term_57.2.2.2.2.2.2.2
set_option maxRecDepth 20000 in
theorem db_X7_term_75 : (decode cX7_term 75 = .ok (.getfield 169, 3)) ∧ (decode cX7_term 78 = .ok (.iconst 5, 1)) ∧ (decode cX7_term 79 = .ok (.if_icmp .lt 6, 3)) ∧ (decode cX7_term 85 = .ok (.aload 7, 2)) ∧ (decode cX7_term 87 = .ok (.getfield 172, 3)) ∧ (decode cX7_term 90 = .ok (.aload 7, 2)) ∧ (decode cX7_term 92 = .ok (.getfield 169, 3)) ∧ (decode cX7_term 95 = .ok (.aaload, 1)) := by decide +kernel
theorem dX7_term_75 : decode cX7_term 75 = .ok (.getfield 169, 3) := db_X7_term_75.1
theorem dX7_term_78 : decode cX7_term 78 = .ok (.iconst 5, 1) := db_X7_term_75.2.1
theorem dX7_term_79 : decode cX7_term 79 = .ok (.if_icmp .lt 6, 3) := db_X7_term_75.2.2.1
theorem dX7_term_85 : decode cX7_term 85 = .ok (.aload 7, 2) := db_X7_term_75.2.2.2.1
theorem dX7_term_87 : decode cX7_term 87 = .ok (.getfield 172, 3) := db_X7_term_75.2.2.2.2.1
theorem dX7_term_90 : decode cX7_term 90 = .ok (.aload 7, 2) := db_X7_term_75.2.2.2.2.2.1
theorem dX7_term_92 : decode cX7_term 92 = .ok (.getfield 169, 3) := db_X7_term_75.2.2.2.2.2.2.1
theorem dX7_term_95 : decode cX7_term 95 = .ok (.aaload, 1) := db_X7_term_75.2.2.2.2.2.2.2
set_option maxRecDepth 20000 in
theorem db_X7_term_96 : (decode cX7_term 96 = .ok (.astore 8, 2)) ∧ (decode cX7_term 98 = .ok (.aload 8, 2)) ∧ (decode cX7_term 100 = .ok (.iload_n 2, 1)) ∧ (decode cX7_term 101 = .ok (.putfield 176, 3)) ∧ (decode cX7_term 104 = .ok (.aload 8, 2)) ∧ (decode cX7_term 106 = .ok (.iload_n 3, 1)) ∧ (decode cX7_term 107 = .ok (.putfield 181, 3)) ∧ (decode cX7_term 110 = .ok (.aload 8, 2)) := by decide +kernel
theorem dX7_term_96 : decode cX7_term 96 = .ok (.astore 8, 2) := db_X7_term_96.1
theorem dX7_term_98 : decode cX7_term 98 = .ok (.aload 8, 2) := db_X7_term_96.2.1
theorem dX7_term_100 : decode cX7_term 100 = .ok (.iload_n 2, 1) := db_X7_term_96.2.2.1
theorem dX7_term_101 : decode cX7_term 101 = .ok (.putfield 176, 3) := db_X7_term_96.2.2.2.1
theorem dX7_term_104 : decode cX7_term 104 = .ok (.aload 8, 2) := db_X7_term_96.2.2.2.2.1
theorem dX7_term_106 : decode cX7_term 106 = .ok (.iload_n 3, 1) := db_X7_term_96.2.2.2.2.2.1
theorem dX7_term_107 : decode cX7_term 107 = .ok (.putfield 181, 3) := db_X7_term_96.2.2.2.2.2.2.1
theorem dX7_term_110 : decode cX7_term 110 = .ok (.aload 8, 2) := db_X7_term_96.2.2.2.2.2.2.2
set_option maxRecDepth 20000 in
theorem db_X7_term_112 : (decode cX7_term 112 = .ok (.iload 4, 2)) ∧ (decode cX7_term 114 = .ok (.putfield 185, 3)) ∧ (decode cX7_term 117 = .ok (.aload 8, 2)) ∧ (decode cX7_term 119 = .ok (.iload 5, 2)) ∧ (decode cX7_term 121 = .ok (.putfield 188, 3)) ∧ (decode cX7_term 124 = .ok (.aload 8, 2)) ∧ (decode cX7_term 126 = .ok (.iload 6, 2)) ∧ (decode cX7_term 128 = .ok (.putfield 191, 3)) := by decide +kernel
theorem dX7_term_112 : decode cX7_term 112 = .ok (.iload 4, 2) := db_X7_term_112.1
theorem dX7_term_114 : decode cX7_term 114 = .ok (.putfield 185, 3) := db_X7_term_112.2.1
theorem dX7_term_117 : decode cX7_term 117 = .ok (.aload 8, 2) := db_X7_term_112.2.2.1
theorem dX7_term_119 : decode cX7_term 119 = .ok (.iload 5, 2) := db_X7_term_112.2.2.2.1
theorem dX7_term_121 : decode cX7_term 121 = .ok (.putfield 188, 3) := db_X7_term_112.2.2.2.2.1
theorem dX7_term_124 : decode cX7_term 124 = .ok (.aload 8, 2) := db_X7_term_112.2.2.2.2.2.1
theorem dX7_term_126 : decode cX7_term 126 = .ok (.iload 6, 2) := db_X7_term_112.2.2.2.2.2.2.1
theorem dX7_term_128 : decode cX7_term 128 = .ok (.putfield 191, 3) := db_X7_term_112.2.2.2.2.2.2.2
set_option maxRecDepth 20000 in
theorem db_X7_term_131 : (decode cX7_term 131 = .ok (.aload 7, 2)) ∧ (decode cX7_term 133 = .ok (.dup, 1)) ∧ (decode cX7_term 134 = .ok (.getfield 169, 3)) ∧ (decode cX7_term 137 = .ok (.dup_x1, 1)) ∧ (decode cX7_term 138 = .ok (.iconst 1, 1)) ∧ (decode cX7_term 139 = .ok (.iadd, 1)) ∧ (decode cX7_term 140 = .ok (.putfield 169, 3)) ∧ (decode cX7_term 143 = .ok (.ireturn, 1)) := by decide +kernel
theorem dX7_term_131 : decode cX7_term 131 = .ok (.aload 7, 2) := db_X7_term_131.1
theorem dX7_term_133 : decode cX7_term 133 = .ok (.dup, 1) := db_X7_term_131.2.1
theorem dX7_term_134 : decode cX7_term 134 = .ok (.getfield 169, 3) := db_X7_term_131.2.2.1
theorem dX7_term_137 : decode cX7_term 137 = .ok (.dup_x1, 1) := db_X7_term_131.2.2.2.1
theorem dX7_term_138 : decode cX7_term 138 = .ok (.iconst 1, 1) := db_X7_term_131.2.2.2.2.1
theorem dX7_term_139 : decode cX7_term 139 = .ok (.iadd, 1) := db_X7_term_131.2.2.2.2.2.1
theorem dX7_term_140 : decode cX7_term 140 = .ok (.putfield 169, 3) := db_X7_term_131.2.2.2.2.2.2.1
theorem dX7_term_143 : decode cX7_term 143 = .ok (.ireturn, 1) := db_X7_term_131.2.2.2.2.2.2.2
set_option maxRecDepth 20000 in
theorem db_X7_term_82 : (decode cX7_term 82 = .ok (.bipush (-2), 2)) ∧ (decode cX7_term 84 = .ok (.ireturn, 1)) ∧ (decode cX7_term 70 = .ok (.bipush (-4), 2)) ∧ (decode cX7_term 72 = .ok (.ireturn, 1)) ∧ (decode cX7_term 48 = .ok (.iconst (-1), 1)) ∧ (decode cX7_term 49 = .ok (.ireturn, 1)) := by decide +kernel
theorem dX7_term_82 : decode cX7_term 82 = .ok (.bipush (-2), 2) := db_X7_term_82.1
theorem dX7_term_84 : decode cX7_term 84 = .ok (.ireturn, 1) := db_X7_term_82.2.1
theorem dX7_term_70 : decode cX7_term 70 = .ok (.bipush (-4), 2) := db_X7_term_82.2.2.1
theorem dX7_term_72 : decode cX7_term 72 = .ok (.ireturn, 1) := db_X7_term_82.2.2.2.1
theorem dX7_term_48 : decode cX7_term 48 = .ok (.iconst (-1), 1) := db_X7_term_82.2.2.2.2.1
theorem dX7_term_49 : decode cX7_term 49 = .ok (.ireturn, 1) := db_X7_term_82.2.2.2.2.2
set_option maxRecDepth 20000 in
theorem db_X7_mark_0 : (decode cX7_mark 0 = .ok (.aload_n 0, 1)) ∧ (decode cX7_mark 1 = .ok (.iload_n 1, 1)) ∧ (decode cX7_mark 2 = .ok (.invokevirtual 96, 3)) ∧ (decode cX7_mark 5 = .ok (.ifCond .eq 16, 3)) ∧ (decode cX7_mark 8 = .ok (.aload_n 0, 1)) ∧ (decode cX7_mark 9 = .ok (.iload_n 2, 1)) ∧ (decode cX7_mark 10 = .ok (.invokevirtual 96, 3)) ∧ (decode cX7_mark 13 = .ok (.ifCond .eq 8, 3)) := by decide +kernel
theorem dX7_mark_0 : decode cX7_mark 0 = .ok (.aload_n 0, 1) := db_X7_mark_0.1
theorem dX7_mark_1 : decode cX7_mark 1 = .ok (.iload_n 1, 1) := db_X7_mark_0.2.1
set_option maxRecDepth 20000 in
theorem ggX7_mark_X7_isCase : GoodIn wsX7_mark wsX7_isCase := goodIn_r _ [9, 1, 10, 11, 12, 8, 13, 17, 18, 19, 20, 21, 22, 23, 24, 25, 26, 27, 28] rfl (by decide +kernel)
set_option maxRecDepth 20000 in
theorem gX7_mark_X7_isCase : GoodIn wsX7_mark (wsV RX7 96 RX7 yX7_isCase wsX7_isCase) := goodIn_app (goodIn_r _ [5, 6, 7, 8] rfl (by decide +kernel)) ggX7_mark_X7_isCase
theorem dX7_mark_2 : decode cX7_mark 2 = .ok (.invokevirtual 96, 3) := db_X7_mark_0.2.2.1
theorem dX7_mark_5 : decode cX7_mark 5 = .ok (.ifCond .eq 16, 3) := db_X7_mark_0.2.2.2.1
theorem dX7_mark_8 : decode cX7_mark 8 = .ok (.aload_n 0, 1) := db_X7_mark_0.2.2.2.2.1
theorem dX7_mark_9 : decode cX7_mark 9 = .ok (.iload_n 2, 1) := db_X7_mark_0.2.2.2.2.2.1
theorem dX7_mark_10 : decode cX7_mark 10 = .ok (.invokevirtual 96, 3) := db_X7_mark_0.2.2.2.2.2.2.1
theorem dX7_mark_13 : decode cX7_mark 13 = .ok (.ifCond .eq 8, 3) := db_X7_mark_0.2.2.2.2.2.2.2
set_option maxRecDepth 20000 in
theorem db_X7_mark_16 : (decode cX7_mark 16 = .ok (.iload_n 1, 1)) ∧ (decode cX7_mark 17 = .ok (.iload_n 2, 1)) ∧ (decode cX7_mark 18 = .ok (.if_icmp .ne 5, 3)) ∧ (decode cX7_mark 23 = .ok (.aload_n 0, 1)) ∧ (decode cX7_mark 24 = .ok (.getfield 12, 3)) ∧ (decode cX7_mark 27 = .ok (.getfield 86, 3)) ∧ (decode cX7_mark 30 = .ok (.iload_n 1, 1)) ∧ (decode cX7_mark 31 = .ok (.aaload, 1)) := by decide +kernel
theorem dX7_mark_16 : decode cX7_mark 16 = .ok (.iload_n 1, 1) := db_X7_mark_16.1
theorem dX7_mark_17 : decode cX7_mark 17 = .ok (.iload_n 2, 1) := db_X7_mark_16.2.1
theorem dX7_mark_18 : decode cX7_mark 18 = .ok (.if_icmp .ne 5, 3) := db_X7_mark_16.2.2.1
theorem dX7_mark_23 : decode cX7_mark 23 = .ok (.aload_n 0, 1) := db_X7_mark_16.2.2.2.1
theorem dX7_mark_24 : decode cX7_mark 24 = .ok (.getfield 12, 3) := db_X7_mark_16.2.2.2.2.1
theorem dX7_mark_27 : decode cX7_mark 27 = .ok (.getfield 86, 3) := db_X7_mark_16.2.2.2.2.2.1
theorem dX7_mark_30 : decode cX7_mark 30 = .ok (.iload_n 1, 1) := db_X7_mark_16.2.2.2.2.2.2.1
theorem dX7_mark_31 : decode cX7_mark 31 = .ok (.aaload, 1) := db_X7_mark_16.2.2.2.2.2.2.2
set_option maxRecDepth 20000 in
theorem db_X7_mark_32 : (decode cX7_mark 32 = .ok (.getfield 105, 3)) ∧ (decode cX7_mark 35 = .ok (.iload_n 2, 1)) ∧ (decode cX7_mark 36 = .ok (.invokestatic 79, 3)) ∧ (decode cX7_mark 39 = .ok (.ifCond .eq 6, 3)) ∧ (decode cX7_mark 42 = .ok (.bipush (-3), 2)) ∧ (decode cX7_mark 44 = .ok (.ireturn, 1)) ∧ (decode cX7_mark 45 = .ok (.aload_n 0, 1)) ∧ (decode cX7_mark 46 = .ok (.getfield 12, 3)) := by decide +kernel
theorem dX7_mark_32 : decode cX7_mark 32 = .ok (.getfield 105, 3) := db_X7_mark_32.1
theorem dX7_mark_35 : decode cX7_mark 35 = .ok (.iload_n 2, 1) := db_X7_mark_32.2.1
set_option maxRecDepth 20000 in
theorem ggX7_mark_X7_hasBit : GoodIn wsX7_mark wsX7_hasBit := goodIn_r _ [16] rfl (by decide +kernel)
set_option maxRecDepth 20000 in
theorem gX7_mark_X7_hasBit : GoodIn wsX7_mark (va_wsS RX7 79 yX7_hasBit wsX7_hasBit) := goodIn_app (goodIn_r _ [14, 15, 8] rfl (by decide +kernel)) ggX7_mark_X7_hasBit
theorem dX7_mark_36 : decode cX7_mark 36 = .ok (.invokestatic 79, 3) := db_X7_mark_32.2.2.1
theorem dX7_mark_39 : decode cX7_mark 39 = .ok (.ifCond .eq 6, 3) := db_X7_mark_32.2.2.2.1
theorem dX7_mark_42 : decode cX7_mark 42 = .ok (.bipush (-3), 2) := db_X7_mark_32.2.2.2.2.1
theorem dX7_mark_44 : decode cX7_mark 44 = .ok (.ireturn, 1) := db_X7_mark_32.2.2.2.2.2.1
theorem dX7_mark_45 : decode cX7_mark 45 = .ok (.aload_n 0, 1) := db_X7_mark_32.2.2.2.2.2.2.1
theorem dX7_mark_46 : decode cX7_mark 46 = .ok (.getfield 12, 3) := db_X7_mark_32.2.2.2.2.2.2.2
set_option maxRecDepth 20000 in
theorem db_X7_mark_49 : (decode cX7_mark 49 = .ok (.getfield 108, 3)) ∧ (decode cX7_mark 52 = .ok (.bipush 6, 2)) ∧ (decode cX7_mark 54 = .ok (.if_icmp .lt 6, 3)) ∧ (decode cX7_mark 60 = .ok (.aload_n 0, 1)) ∧ (decode cX7_mark 61 = .ok (.getfield 12, 3)) ∧ (decode cX7_mark 64 = .ok (.getfield 86, 3)) ∧ (decode cX7_mark 67 = .ok (.iload_n 1, 1)) ∧ (decode cX7_mark 68 = .ok (.aaload, 1)) := by decide +kernel
theorem dX7_mark_49 : decode cX7_mark 49 = .ok (.getfield 108, 3) := db_X7_mark_49.1
theorem dX7_mark_52 : decode cX7_mark 52 = .ok (.bipush 6, 2) := db_X7_mark_49.2.1
theorem dX7_mark_54 : decode cX7_mark 54 = .ok (.if_icmp .lt 6, 3) := db_X7_mark_49.2.2.1
theorem dX7_mark_60 : decode cX7_mark 60 = .ok (.aload_n 0, 1) := db_X7_mark_49.2.2.2.1
theorem dX7_mark_61 : decode cX7_mark 61 = .ok (.getfield 12, 3) := db_X7_mark_49.2.2.2.2.1
theorem dX7_mark_64 : decode cX7_mark 64 = .ok (.getfield 86, 3) := db_X7_mark_49.2.2.2.2.2.1
theorem dX7_mark_67 : decode cX7_mark 67 = .ok (.iload_n 1, 1) := db_X7_mark_49.2.2.2.2.2.2.1
theorem dX7_mark_68 : decode cX7_mark 68 = .ok (.aaload, 1) := db_X7_mark_49.2.2.2.2.2.2.2
set_option maxRecDepth 20000 in
theorem db_X7_mark_69 : (decode cX7_mark 69 = .ok (.dup, 1)) ∧ (decode cX7_mark 70 = .ok (.getfield 105, 3)) ∧ (decode cX7_mark 73 = .ok (.iconst 1, 1)) ∧ (decode cX7_mark 74 = .ok (.iload_n 2, 1)) ∧ (decode cX7_mark 75 = .ok (.ishl, 1)) ∧ (decode cX7_mark 76 = .ok (.ior, 1)) ∧ (decode cX7_mark 77 = .ok (.putfield 105, 3)) ∧ (decode cX7_mark 80 = .ok (.aload_n 0, 1)) := by decide +kernel
theorem dX7_mark_69 : decode cX7_mark 69 = .ok (.dup, 1) := db_X7_mark_69.1
theorem dX7_mark_70 : decode cX7_mark 70 = .ok (.getfield 105, 3) := db_X7_mark_69.2.1
theorem dX7_mark_73 : decode cX7_mark 73 = .ok (.iconst 1, 1) := db_X7_mark_69.2.2.1
theorem dX7_mark_74 : decode cX7_mark 74 = .ok (.iload_n 2, 1) := db_X7_mark_69.2.2.2.1
theorem dX7_mark_75 : decode cX7_mark 75 = .ok (.ishl, 1) := db_X7_mark_69.2.2.2.2.1
theorem dX7_mark_76 : decode cX7_mark 76 = .ok (.ior, 1) := db_X7_mark_69.2.2.2.2.2.1
theorem dX7_mark_77 : decode cX7_mark 77 = .ok (.putfield 105, 3) := db_X7_mark_69.2.2.2.2.2.2.1
theorem dX7_mark_80 : decode cX7_mark 80 = .ok (.aload_n 0, 1) := db_X7_mark_69.2.2.2.2.2.2.2
set_option maxRecDepth 20000 in
theorem db_X7_mark_81 : (decode cX7_mark 81 = .ok (.getfield 12, 3)) ∧ (decode cX7_mark 84 = .ok (.getfield 86, 3)) ∧ (decode cX7_mark 87 = .ok (.iload_n 2, 1)) ∧ (decode cX7_mark 88 = .ok (.aaload, 1)) ∧ (decode cX7_mark 89 = .ok (.dup, 1)) ∧ (decode cX7_mark 90 = .ok (.getfield 105, 3)) ∧ (decode cX7_mark 93 = .ok (.iconst 1, 1)) ∧ (decode cX7_mark 94 = .ok (.iload_n 1, 1)) := by decide +kernel
theorem dX7_mark_81 : decode cX7_mark 81 = .ok (.getfield 12, 3) := db_X7_mark_81.1
theorem dX7_mark_84 : decode cX7_mark 84 = .ok (.getfield 86, 3) := db_X7_mark_81.2.1
theorem dX7_mark_87 : decode cX7_mark 87 = .ok (.iload_n 2, 1) := db_X7_mark_81.2.2.1
theorem dX7_mark_88 : decode cX7_mark 88 = .ok (.aaload, 1) := db_X7_mark_81.2.2.2.1
theorem dX7_mark_89 : decode cX7_mark 89 = .ok (.dup, 1) := db_X7_mark_81.2.2.2.2.1
theorem dX7_mark_90 : decode cX7_mark 90 = .ok (.getfield 105, 3) := db_X7_mark_81.2.2.2.2.2.1
theorem dX7_mark_93 : decode cX7_mark 93 = .ok (.iconst 1, 1) := db_X7_mark_81.2.2.2.2.2.2.1
theorem dX7_mark_94 : decode cX7_mark 94 = .ok (.iload_n 1, 1) := db_X7_mark_81.2.2.2.2.2.2.2
set_option maxRecDepth 20000 in
theorem db_X7_mark_95 : (decode cX7_mark 95 = .ok (.ishl, 1)) ∧ (decode cX7_mark 96 = .ok (.ior, 1)) ∧ (decode cX7_mark 97 = .ok (.putfield 105, 3)) ∧ (decode cX7_mark 100 = .ok (.aload_n 0, 1)) ∧ (decode cX7_mark 101 = .ok (.getfield 12, 3)) ∧ (decode cX7_mark 104 = .ok (.dup, 1)) ∧ (decode cX7_mark 105 = .ok (.getfield 108, 3)) ∧ (decode cX7_mark 108 = .ok (.iconst 1, 1)) := by decide +kernel
theorem dX7_mark_95 : decode cX7_mark 95 = .ok (.ishl, 1) := db_X7_mark_95.1
theorem dX7_mark_96 : decode cX7_mark 96 = .ok (.ior, 1) := db_X7_mark_95.2.1
theorem dX7_mark_97 : decode cX7_mark 97 = .ok (.putfield 105, 3) := db_X7_mark_95.2.2.1
theorem dX7_mark_100 : decode cX7_mark 100 = .ok (.aload_n 0, 1) := db_X7_mark_95.2.2.2.1
theorem dX7_mark_101 : decode cX7_mark 101 = .ok (.getfield 12, 3) := db_X7_mark_95.2.2.2.2.1
theorem dX7_mark_104 : decode cX7_mark 104 = .ok (.dup, 1) := db_X7_mark_95.2.2.2.2.2.1
theorem dX7_mark_105 : decode cX7_mark 105 = .ok (.getfield 108, 3) := db_X7_mark_95.2.2.2.2.2.2.1
theorem dX7_mark_108 : decode cX7_mark 108 = .ok (.iconst 1, 1) := db_X7_mark_95.2.2.2.2.2.2.2
set_option maxRecDepth 20000 in
theorem db_X7_mark_109 : (decode cX7_mark 109 = .ok (.iadd, 1)) ∧ (decode cX7_mark 110 = .ok (.putfield 108, 3)) ∧ (decode cX7_mark 113 = .ok (.aload_n 0, 1)) ∧ (decode cX7_mark 114 = .ok (.getfield 12, 3)) ∧ (decode cX7_mark 117 = .ok (.getfield 108, 3)) ∧ (decode cX7_mark 120 = .ok (.ireturn, 1)) ∧ (decode cX7_mark 57 = .ok (.bipush (-2), 2)) ∧ (decode cX7_mark 59 = .ok (.ireturn, 1)) := by decide +kernel
theorem dX7_mark_109 : decode cX7_mark 109 = .ok (.iadd, 1) := db_X7_mark_109.1
theorem dX7_mark_110 : decode cX7_mark 110 = .ok (.putfield 108, 3) := db_X7_mark_109.2.1
theorem dX7_mark_113 : decode cX7_mark 113 = .ok (.aload_n 0, 1) := db_X7_mark_109.2.2.1
theorem dX7_mark_114 : decode cX7_mark 114 = .ok (.getfield 12, 3) := db_X7_mark_109.2.2.2.1
theorem dX7_mark_117 : decode cX7_mark 117 = .ok (.getfield 108, 3) := db_X7_mark_109.2.2.2.2.1
theorem dX7_mark_120 : decode cX7_mark 120 = .ok (.ireturn, 1) := db_X7_mark_109.2.2.2.2.2.1
theorem dX7_mark_57 : decode cX7_mark 57 = .ok (.bipush (-2), 2) := db_X7_mark_109.2.2.2.2.2.2.1
theorem dX7_mark_59 : decode cX7_mark 59 = .ok (.ireturn, 1) := db_X7_mark_109.2.2.2.2.2.2.2
set_option maxRecDepth 20000 in
theorem db_X7_mark_21 : (decode cX7_mark 21 = .ok (.iconst (-1), 1)) ∧ (decode cX7_mark 22 = .ok (.ireturn, 1)) := by decide +kernel
theorem dX7_mark_21 : decode cX7_mark 21 = .ok (.iconst (-1), 1) := db_X7_mark_21.1
theorem dX7_mark_22 : decode cX7_mark 22 = .ok (.ireturn, 1) := db_X7_mark_21.2
set_option maxHeartbeats 4000000 in
set_option maxRecDepth 100000 in
theorem e_X7_hasBit (l : Launch) (x0 x1 : Int32) : Met l yX7_hasBit wsX7_hasBit ({ frames := 0, cells := 0, slots := 0, locals := 0 }) (va_Pc [.int x0, .int x1] (fun _ => True)) (va_Qi (fun (r : Int32) (_ : Unit) => (r = 1 ∧ (btx x0 x1).toInt = 1) ∨ (r = 0 ∧ (btx x0 x1).toInt ≠ 1)) (fun _ _ => True) (fun _ => False)) 0 0 (fun _ => False) := by
  refine Met.ofW (cc := cX7_hasBit) (maxL := 2) (ret := (some .boolean)) (by decide) rfl ?_
  intro p e s m args below meth c s₁ B hml hv
  obtain ⟨rfl, -⟩ := hv
  have hx := B.exec
  have hb := B.bytes
  have hr := B.returns
  have hts := atoms_spec (ws := wsX7_hasBit) B.pre
  have hown : s.vm.findClass RX7 = some m.cls := findClass_of_methodNamed B.named
  have hlocks := B.notSynchronized
  have hl := lv_entry ([.int x0, .int x1]) (n := 2) (Nat.le_of_ble_eq_true rfl)
  rw [lg_entry_eq]
  generalize (lg_sl ([.int x0, .int x1]) ++ List.replicate (2 - (lg_sl ([.int x0, .int x1])).length) Slot.unset).toArray = ls at hl ⊢
  have hl : lv_has ls 2 [(0, .int x0), (1, .int x1)] := hl
  have hS : va_S (fun _ => False) s.heap s.heap [] := va_S.rf
  refine lv_iload_n hx hb dX7_hasBit_0 rfl (lv_at hl 0 rfl) ?_
  refine lv_iload_n hx hb dX7_hasBit_1 rfl (lv_at hl 1 rfl) ?_
  refine lv_ishr hx hb dX7_hasBit_2 ?_
  refine lv_topi (fun x_1 ex_1 => ?_)
  refine lv_iconst (v := 1) hx hb dX7_hasBit_3 (by decide) ?_
  refine lv_iand hx hb dX7_hasBit_4 ?_
  refine lv_topi (fun x_2 ex_2 => ?_)
  refine lv_iconst (v := 1) hx hb dX7_hasBit_5 (by decide) ?_
  refine lv_icmp_ne (tgt := 13) hx hb dX7_hasBit_6 (by decide) (fun c_3 => ?_) (fun c_3 => ?_)
  · refine lv_iconst (v := 0) hx hb dX7_hasBit_13 (by decide) ?_
    have hh : btx x0 x1 = x_2 := by unfold btx; rw [ex_2, ex_1]
    exact W.zret (ty := .boolean) (v := 0) hx hb hr rfl (fun t ht hW => ⟨⟨0, (), rfl, Or.inr ⟨rfl, fun q9 => c_3 (Int32.toInt_inj.mp ((congrArg Int32.toInt hh).symm.trans (q9.trans (by decide))))⟩, trivial⟩, hS.F ht⟩) hS.2.2 dX7_hasBit_14
  · refine lv_iconst (v := 1) hx hb dX7_hasBit_9 (by decide) ?_
    refine lv_goto (tgt := 14) hx hb dX7_hasBit_10 (by decide) ?_
    have hh : btx x0 x1 = x_2 := by unfold btx; rw [ex_2, ex_1]
    exact W.zret (ty := .boolean) (v := 1) hx hb hr rfl (fun t ht hW => ⟨⟨1, (), rfl, Or.inl ⟨rfl, by rw [hh, show x_2 = 1 from c_3]; decide⟩, trivial⟩, hS.F ht⟩) hS.2.2 dX7_hasBit_14

set_option maxHeartbeats 4000000 in
set_option maxRecDepth 100000 in
theorem e_X7_close (l : Launch) (dC : Nat → ClassId) (dI : Nat → Nat → Nat) (cy : Nat → ClassId) (sz : Nat) (ad : Nat → Nat) (kv : Value) (N : Nat) (hN : 119 ≤ N) (v : Nat → Nat → Int32) (hv : Iv v) (x0 : Int32) : Met l yX7_close wsX7_close ({ frames := 3, cells := 0, slots := 0, locals := 192 }) (va_Pc [.ref (ad 0), .int x0] (ex_Pre dC dI cy sz (wl ad kv cy N v))) (va_Qi (fun (r : Int32) (u : Nat → Nat → Int32) => Iv u ∧ (¬ (0 ≤ x0.toInt ∧ x0.toInt < (v 13 2).toInt) → r = -1 ∧ u = v) ∧ ((0 ≤ x0.toInt ∧ x0.toInt < (v 13 2).toInt) ∧ (v (29 + 15 * x0.toNatClampNeg) 0).toInt ≠ 0 → r = -4 ∧ u = v) ∧ ((0 ≤ x0.toInt ∧ x0.toInt < (v 13 2).toInt) ∧ (v (29 + 15 * x0.toNatClampNeg) 0).toInt = 0 → r = 1 ∧ (∀ k j : Nat, u k j = if k = 29 + 15 * x0.toNatClampNeg ∧ j = 0 then 2 else v k j))) (fun u t => ex_Pst dC dI (va_A (wl ad kv cy N v) sz) (wl ad kv cy N u) t) (va_A (wl ad kv cy N v) sz)) 0 0 (va_A (wl ad kv cy N v) sz) := by
  refine Met.ofW (cc := cX7_close) (maxL := 2) (ret := (some .int)) (by decide) rfl ?_
  intro p e s m args below meth c s₁ B hml hv
  obtain ⟨rfl, hsz, hE, hP, hK, hD0⟩ := hv
  have hx := B.exec
  have hb := B.bytes
  have hr := B.returns
  have hts := atoms_spec (ws := wsX7_close) B.pre
  have hown : s.vm.findClass RX7 = some m.cls := findClass_of_methodNamed B.named
  have hlocks := B.notSynchronized
  subst hsz
  have hD := hD0.self (sz := s.heap.size)
  generalize hAe : va_A (wl ad kv cy N v) s.heap.size = A at hD ⊢
  have hA : ∀ q : Nat, s.heap.size ≤ q → A q := fun q h => by rw [← hAe]; exact Or.inr h
  have hS : va_S A s.heap s.heap [] := va_S.rf
  have hP : va_P (dC, dI) vwCl (wl ad kv cy N v) s.heap := hP
  have hl := lv_entry ([.ref (ad 0), .int x0]) (n := 2) (Nat.le_of_ble_eq_true rfl)
  rw [lg_entry_eq]
  generalize (lg_sl ([.ref (ad 0), .int x0]) ++ List.replicate (2 - (lg_sl ([.ref (ad 0), .int x0])).length) Slot.unset).toArray = ls at hl ⊢
  have hl : lv_has ls 2 [(0, .ref (ad 0)), (1, .int x0)] := hl
  refine lv_aload_n hx hb dX7_close_0 rfl (lv_at hl 0 rfl) ?_
  refine lv_iload_n hx hb dX7_close_1 rfl (lv_at hl 1 rfl) ?_
  refine yw_i (w1 := fun (u : Nat → Nat → Int32) => wl ad kv cy N u) hD hS hA (va_runV (As := [.int x0]) (rest := []) ⟨hx, hb, hml, hown, hts⟩ (g_X7_isCase l dC dI cy _ ad kv N hN v hv x0) (cwV 1 hts gX7_close_X7_isCase rfl rfl rfl hd_V_X7_isCase_1 ⟨Nat.le_of_ble_eq_true rfl, Nat.le_of_ble_eq_true rfl⟩) (yw_preV hE hK hP hD (ci := 7) (q := (RX7, TX7, 5)) (q0 := 0) rfl (wl_at (by omega) (ce_0 (by decide)))) rfl rfl hl.1 rfl (lv_room (Nat.le_of_ble_eq_true rfl)) dX7_close_2 ⟨Nat.le_of_ble_eq_true rfl, Nat.le_of_ble_eq_true rfl⟩) (fun r_1 v_1 H locs hw_1 hP hD hS => ?_)
  obtain ⟨-, hu_1, hw_1⟩ := hw_1
  replace hu_1 := hu_1.symm
  subst hu_1
  rcases hw_1 with ⟨rfl, ha_2⟩ | ⟨rfl, ha_2⟩
  · have hb_2 := hv.at (k := 13) (j := 2) (K := 3) (by decide) rfl
    have hj_2 : 0 ≤ x0.toInt ∧ x0.toInt ≤ 5 := ⟨by omega, by omega⟩
    refine lv_if_ne (tgt := 10) hx hb dX7_close_5 (by decide) (fun _ => ?_) (fun c9 => absurd c9 (by decide))
    refine lv_aload_n hx hb dX7_close_10 rfl (lv_at hl 0 rfl) ?_
    refine va_get (D := (dC, dI)) (ci := 7) (v := .ref (ad 13)) (C := RX7) (T := TX7) (N := 5) hx hb hts iwX7_close_X7 hown hK hP (0) (wl_at (by omega) (ce_0 (by decide))) rfl 0 (by decide) (hts (.fieldLink RX7 12 "QuietStairs" "now" "LQuietStairs$House;") fwX7_close_1) (fun _ h9 => h9) rfl dX7_close_11 ?_
    refine va_get (D := (dC, dI)) (ci := 1) (v := .ref (ad 16)) (C := RX1) (T := TX1) (N := 7) hx hb hts iwX7_close_X1 hown hK hP (13) (wl_at (by omega) (ce_3 (by decide))) rfl 6 (by decide) (hts (.fieldLink RX7 86 "QuietStairs$House" "cases" "[LQuietStairs$Case;") fwX7_close_2) (fun _ h9 => h9) rfl dX7_close_14 ?_
    refine lv_iload_n hx hb dX7_close_17 rfl (lv_at hl 1 rfl) ?_
    have zn_x0 : (x0.toNatClampNeg : Int) = x0.toInt := t_nn (by omega)
    have hx_3 : x0.toNatClampNeg < 6 := by omega
    refine va_aldq hx hb hK hP (16) 3 (wl_at (by omega) (ce_6 (by decide))) rfl (vp_in_iff.mpr ⟨by omega, by omega⟩) dX7_close_18 ?_
    refine W.eq (g2 := F0 m 19 ls [.ref (ad (29 + 15 * x0.toNatClampNeg))]) (by rw [if_pos hx_3, show 16 + 13 + 15 * x0.toNatClampNeg = 29 + 15 * x0.toNatClampNeg from by omega]; rfl) ?_
    refine va_get (D := (dC, dI)) (ci := 0) (v := .int (v (29 + 15 * x0.toNatClampNeg) 0)) (C := RX0) (T := TX0) (N := 11) hx hb hts iwX7_close_X0 hown hK hP (29 + 15 * x0.toNatClampNeg) (wl_at (by omega) (ce_9 (kd_c _ hx_3).1.1)) rfl 0 (by decide) (hts (.fieldLink RX7 99 "QuietStairs$Case" "state" "I") fwX7_close_3) (fun _ h9 => h9) rfl dX7_close_19 ?_
    refine lv_topi (fun x_4 ex_4 => ?_)
    have qx_4 : x_4.toInt = (v (29 + 15 * x0.toNatClampNeg) (0)).toInt := congrArg Int32.toInt ex_4
    have k_0 : (0 : Int32).toInt = 0 := by decide
    refine lv_if_eq (tgt := 28) hx hb dX7_close_22 (by decide) (fun c_5 => ?_) (fun c_5 => ?_)
    · have tc_5 : x_4.toInt = (0 : Int32).toInt := by rw [c_5]
      refine lv_aload_n hx hb dX7_close_28 rfl (lv_at hl 0 rfl) ?_
      refine va_get (D := (dC, dI)) (ci := 7) (v := .ref (ad 13)) (C := RX7) (T := TX7) (N := 5) hx hb hts iwX7_close_X7 hown hK hP (0) (wl_at (by omega) (ce_0 (by decide))) rfl 0 (by decide) (hts (.fieldLink RX7 12 "QuietStairs" "now" "LQuietStairs$House;") fwX7_close_1) (fun _ h9 => h9) rfl dX7_close_29 ?_
      refine va_get (D := (dC, dI)) (ci := 1) (v := .ref (ad 16)) (C := RX1) (T := TX1) (N := 7) hx hb hts iwX7_close_X1 hown hK hP (13) (wl_at (by omega) (ce_3 (by decide))) rfl 6 (by decide) (hts (.fieldLink RX7 86 "QuietStairs$House" "cases" "[LQuietStairs$Case;") fwX7_close_2) (fun _ h9 => h9) rfl dX7_close_32 ?_
      refine lv_iload_n hx hb dX7_close_35 rfl (lv_at hl 1 rfl) ?_
      refine va_aldq hx hb hK hP (16) 3 (wl_at (by omega) (ce_6 (by decide))) rfl (vp_in_iff.mpr ⟨by omega, by omega⟩) dX7_close_36 ?_
      refine W.eq (g2 := F0 m 37 ls [.ref (ad (29 + 15 * x0.toNatClampNeg))]) (by rw [if_pos hx_3, show 16 + 13 + 15 * x0.toNatClampNeg = 29 + 15 * x0.toNatClampNeg from by omega]; rfl) ?_
      refine lv_iconst (v := 2) hx hb dX7_close_37 (by decide) ?_
      refine va_put (D := (dC, dI)) (ci := 0) (v := .int 2) (ty := .int) (C := RX0) (T := TX0) (N := 11) hx hb hts iwX7_close_X0 tyX0 tyX0_ok nmX0 hown hK hP hD hS (29 + 15 * x0.toNatClampNeg) (wl_at (by omega) (ce_9 (kd_c _ hx_3).1.1)) rfl 0 (by decide) (hts (.fieldLink RX7 99 "QuietStairs$Case" "state" "I") fwX7_close_3) (fun _ h9 => h9) rfl (by decide +kernel) rfl rfl (Nat.le_of_ble_eq_true rfl) dX7_close_38 (fun H locs hP hD hS => ?_)
      have k_2 : (2 : Int32).toInt = 2 := by decide
      obtain ⟨v_6, ev_6⟩ : ∃ u : Nat → Nat → Int32, u = upr v (29 + 15 * x0.toNatClampNeg) (upd (v (29 + 15 * x0.toNatClampNeg)) 0 2) := ⟨_, rfl⟩
      have hP : va_P (dC, dI) vwCl (wl ad kv cy N v_6) H := by rw [ev_6, ← wl_put (e := _) (ce_9 (kd_c _ hx_3).1.1)]; exact hP
      have hD : va_D A (wl ad kv cy N v_6) := by rw [ev_6, ← wl_put (e := _) (ce_9 (kd_c _ hx_3).1.1)]; exact hD
      have hv : Iv v_6 := by rw [ev_6]; exact hv.put (K := 9) (kd_c _ hx_3).1.1 (fun h q => by simp [bd] at q)
      refine lv_iconst (v := 1) hx hb dX7_close_41 (by decide) ?_
      have hpost : (¬ (0 ≤ x0.toInt ∧ x0.toInt < (v 13 2).toInt) → (1 : Int32) = -1 ∧ v_6 = v) ∧ ((0 ≤ x0.toInt ∧ x0.toInt < (v 13 2).toInt) ∧ (v (29 + 15 * x0.toNatClampNeg) 0).toInt ≠ 0 → (1 : Int32) = -4 ∧ v_6 = v) ∧ ((0 ≤ x0.toInt ∧ x0.toInt < (v 13 2).toInt) ∧ (v (29 + 15 * x0.toNatClampNeg) 0).toInt = 0 → (1 : Int32) = 1 ∧ (∀ k j : Nat, v_6 k j = if k = 29 + 15 * x0.toNatClampNeg ∧ j = 0 then 2 else v k j)) := by
        refine ⟨fun hq => ?_, fun hq => ?_, fun hq => ?_⟩
        · exfalso; omega
        · exfalso; omega
        · exact ⟨rfl, fun k j => by rw [ev_6, up2]⟩
      exact W.iret (v := 1) hx hb hr (fun t ht hW => ⟨⟨1, v_6, rfl, ⟨hv, hpost⟩, by rw [ht]; exact hP, hD⟩, hS.F ht⟩) hS.2.2 dX7_close_42
    · have tc_5 : x_4.toInt ≠ (0 : Int32).toInt := fun q => absurd (Int32.toInt_inj.mp q) c_5
      refine lv_bipush (v := (-4)) hx hb dX7_close_25 (by decide) ?_
      have hpost : (¬ (0 ≤ x0.toInt ∧ x0.toInt < (v 13 2).toInt) → ((-4) : Int32) = -1 ∧ v = v) ∧ ((0 ≤ x0.toInt ∧ x0.toInt < (v 13 2).toInt) ∧ (v (29 + 15 * x0.toNatClampNeg) 0).toInt ≠ 0 → ((-4) : Int32) = -4 ∧ v = v) ∧ ((0 ≤ x0.toInt ∧ x0.toInt < (v 13 2).toInt) ∧ (v (29 + 15 * x0.toNatClampNeg) 0).toInt = 0 → ((-4) : Int32) = 1 ∧ (∀ k j : Nat, v k j = if k = 29 + 15 * x0.toNatClampNeg ∧ j = 0 then 2 else v k j)) := by
        refine ⟨fun hq => ?_, fun hq => ?_, fun hq => ?_⟩
        · exfalso; omega
        · exact ⟨rfl, rfl⟩
        · exfalso; omega
      exact W.iret (v := (-4)) hx hb hr (fun t ht hW => ⟨⟨(-4), v, rfl, ⟨hv, hpost⟩, by rw [ht]; exact hP, hD⟩, hS.F ht⟩) hS.2.2 dX7_close_27
  · refine lv_if_ne (tgt := 10) hx hb dX7_close_5 (by decide) (fun c9 => absurd c9 (by decide)) (fun _ => ?_)
    refine lv_iconst (v := (-1)) hx hb dX7_close_8 (by decide) ?_
    have hpost : (¬ (0 ≤ x0.toInt ∧ x0.toInt < (v 13 2).toInt) → ((-1) : Int32) = -1 ∧ v = v) ∧ ((0 ≤ x0.toInt ∧ x0.toInt < (v 13 2).toInt) ∧ (v (29 + 15 * x0.toNatClampNeg) 0).toInt ≠ 0 → ((-1) : Int32) = -4 ∧ v = v) ∧ ((0 ≤ x0.toInt ∧ x0.toInt < (v 13 2).toInt) ∧ (v (29 + 15 * x0.toNatClampNeg) 0).toInt = 0 → ((-1) : Int32) = 1 ∧ (∀ k j : Nat, v k j = if k = 29 + 15 * x0.toNatClampNeg ∧ j = 0 then 2 else v k j)) := by
      refine ⟨fun hq => ?_, fun hq => ?_, fun hq => ?_⟩
      · exact ⟨rfl, rfl⟩
      · exfalso; omega
      · exfalso; omega
    exact W.iret (v := (-1)) hx hb hr (fun t ht hW => ⟨⟨(-1), v, rfl, ⟨hv, hpost⟩, by rw [ht]; exact hP, hD⟩, hS.F ht⟩) hS.2.2 dX7_close_9

set_option maxHeartbeats 4000000 in
set_option maxRecDepth 100000 in
theorem e_X7_weight (l : Launch) (dC : Nat → ClassId) (dI : Nat → Nat → Nat) (cy : Nat → ClassId) (sz : Nat) (ad : Nat → Nat) (kv : Value) (N : Nat) (hN : 119 ≤ N) (v : Nat → Nat → Int32) (hv : Iv v) (x0 x1 : Int32) : Met l yX7_weight wsX7_weight ({ frames := 3, cells := 0, slots := 0, locals := 192 }) (va_Pc [.ref (ad 0), .int x0, .int x1] (ex_Pre dC dI cy sz (wl ad kv cy N v))) (va_Qi (fun (r : Int32) (u : Nat → Nat → Int32) => Iv u ∧ (¬ ((0 ≤ x0.toInt ∧ x0.toInt < (v 13 2).toInt) ∧ 1 ≤ x1.toInt ∧ x1.toInt ≤ 9) → r = -1 ∧ u = v) ∧ ((0 ≤ x0.toInt ∧ x0.toInt < (v 13 2).toInt) ∧ 1 ≤ x1.toInt ∧ x1.toInt ≤ 9 → r = v (29 + 15 * x0.toNatClampNeg) 3 ∧ (∀ k j : Nat, u k j = if k = 29 + 15 * x0.toNatClampNeg ∧ j = 3 then x1 else v k j))) (fun u t => ex_Pst dC dI (va_A (wl ad kv cy N v) sz) (wl ad kv cy N u) t) (va_A (wl ad kv cy N v) sz)) 0 0 (va_A (wl ad kv cy N v) sz) := by
  refine Met.ofW (cc := cX7_weight) (maxL := 4) (ret := (some .int)) (by decide) rfl ?_
  intro p e s m args below meth c s₁ B hml hv
  obtain ⟨rfl, hsz, hE, hP, hK, hD0⟩ := hv
  have hx := B.exec
  have hb := B.bytes
  have hr := B.returns
  have hts := atoms_spec (ws := wsX7_weight) B.pre
  have hown : s.vm.findClass RX7 = some m.cls := findClass_of_methodNamed B.named
  have hlocks := B.notSynchronized
  subst hsz
  have hD := hD0.self (sz := s.heap.size)
  generalize hAe : va_A (wl ad kv cy N v) s.heap.size = A at hD ⊢
  have hA : ∀ q : Nat, s.heap.size ≤ q → A q := fun q h => by rw [← hAe]; exact Or.inr h
  have hS : va_S A s.heap s.heap [] := va_S.rf
  have hP : va_P (dC, dI) vwCl (wl ad kv cy N v) s.heap := hP
  have hl := lv_entry ([.ref (ad 0), .int x0, .int x1]) (n := 4) (Nat.le_of_ble_eq_true rfl)
  rw [lg_entry_eq]
  generalize (lg_sl ([.ref (ad 0), .int x0, .int x1]) ++ List.replicate (4 - (lg_sl ([.ref (ad 0), .int x0, .int x1])).length) Slot.unset).toArray = ls at hl ⊢
  have hl : lv_has ls 4 [(0, .ref (ad 0)), (1, .int x0), (2, .int x1)] := hl
  refine lv_aload_n hx hb dX7_weight_0 rfl (lv_at hl 0 rfl) ?_
  refine lv_iload_n hx hb dX7_weight_1 rfl (lv_at hl 1 rfl) ?_
  refine yw_i (w1 := fun (u : Nat → Nat → Int32) => wl ad kv cy N u) hD hS hA (va_runV (As := [.int x0]) (rest := []) ⟨hx, hb, hml, hown, hts⟩ (g_X7_isCase l dC dI cy _ ad kv N hN v hv x0) (cwV 1 hts gX7_weight_X7_isCase rfl rfl rfl hd_V_X7_isCase_1 ⟨Nat.le_of_ble_eq_true rfl, Nat.le_of_ble_eq_true rfl⟩) (yw_preV hE hK hP hD (ci := 7) (q := (RX7, TX7, 5)) (q0 := 0) rfl (wl_at (by omega) (ce_0 (by decide)))) rfl rfl hl.1 rfl (lv_room (Nat.le_of_ble_eq_true rfl)) dX7_weight_2 ⟨Nat.le_of_ble_eq_true rfl, Nat.le_of_ble_eq_true rfl⟩) (fun r_1 v_1 H locs hw_1 hP hD hS => ?_)
  obtain ⟨-, hu_1, hw_1⟩ := hw_1
  replace hu_1 := hu_1.symm
  subst hu_1
  rcases hw_1 with ⟨rfl, ha_2⟩ | ⟨rfl, ha_2⟩
  · have hb_2 := hv.at (k := 13) (j := 2) (K := 3) (by decide) rfl
    have hj_2 : 0 ≤ x0.toInt ∧ x0.toInt ≤ 5 := ⟨by omega, by omega⟩
    refine lv_if_eq (tgt := 18) hx hb dX7_weight_5 (by decide) (fun c9 => absurd c9 (by decide)) (fun _ => ?_)
    refine lv_iload_n hx hb dX7_weight_8 rfl (lv_at hl 2 rfl) ?_
    refine lv_iconst (v := 1) hx hb dX7_weight_9 (by decide) ?_
    refine lv_bipush (v := 9) hx hb dX7_weight_10 (by decide) ?_
    refine yc_p hP hS (va_runS (As := [.int x1, .int 1, .int 9]) (rest := []) ⟨hx, hb, hml, hown, hts⟩ (c_X7_isWithin l x1 1 9) (cwS 3 hts gX7_weight_X7_isWithin rfl rfl rfl hd_S_X7_isWithin_3 ⟨Nat.le_of_ble_eq_true rfl, Nat.le_of_ble_eq_true rfl⟩) ex_preP rfl rfl hl.1 rfl (lv_room (Nat.le_of_ble_eq_true rfl)) dX7_weight_12 ⟨Nat.le_of_ble_eq_true rfl, Nat.le_of_ble_eq_true rfl⟩) (fun r_3 H locs hw_3 hP hS => ?_)
    rcases wi_ca hw_3 with ⟨rfl, hc_4⟩ | ⟨rfl, hc_4⟩
    · have k_1 : (1 : Int32).toInt = 1 := by decide
      have k_9 : (9 : Int32).toInt = 9 := by decide
      have tc_4 := wi_tl hc_4
      refine lv_if_ne (tgt := 20) hx hb dX7_weight_15 (by decide) (fun _ => ?_) (fun c9 => absurd c9 (by decide))
      refine lv_aload_n hx hb dX7_weight_20 rfl (lv_at hl 0 rfl) ?_
      refine va_get (D := (dC, dI)) (ci := 7) (v := .ref (ad 13)) (C := RX7) (T := TX7) (N := 5) hx hb hts iwX7_weight_X7 hown hK hP (0) (wl_at (by omega) (ce_0 (by decide))) rfl 0 (by decide) (hts (.fieldLink RX7 12 "QuietStairs" "now" "LQuietStairs$House;") fwX7_weight_1) (fun _ h9 => h9) rfl dX7_weight_21 ?_
      refine va_get (D := (dC, dI)) (ci := 1) (v := .ref (ad 16)) (C := RX1) (T := TX1) (N := 7) hx hb hts iwX7_weight_X1 hown hK hP (13) (wl_at (by omega) (ce_3 (by decide))) rfl 6 (by decide) (hts (.fieldLink RX7 86 "QuietStairs$House" "cases" "[LQuietStairs$Case;") fwX7_weight_2) (fun _ h9 => h9) rfl dX7_weight_24 ?_
      refine lv_iload_n hx hb dX7_weight_27 rfl (lv_at hl 1 rfl) ?_
      have zn_x0 : (x0.toNatClampNeg : Int) = x0.toInt := t_nn (by omega)
      have hx_5 : x0.toNatClampNeg < 6 := by omega
      refine va_aldq hx hb hK hP (16) 3 (wl_at (by omega) (ce_6 (by decide))) rfl (vp_in_iff.mpr ⟨by omega, by omega⟩) dX7_weight_28 ?_
      refine W.eq (g2 := F0 m 29 ls [.ref (ad (29 + 15 * x0.toNatClampNeg))]) (by rw [if_pos hx_5, show 16 + 13 + 15 * x0.toNatClampNeg = 29 + 15 * x0.toNatClampNeg from by omega]; rfl) ?_
      refine va_get (D := (dC, dI)) (ci := 0) (v := .int (v (29 + 15 * x0.toNatClampNeg) 3)) (C := RX0) (T := TX0) (N := 11) hx hb hts iwX7_weight_X0 hown hK hP (29 + 15 * x0.toNatClampNeg) (wl_at (by omega) (ce_9 (kd_c _ hx_5).1.1)) rfl 3 (by decide) (hts (.fieldLink RX7 102 "QuietStairs$Case" "weight" "I") fwX7_weight_3) (fun _ h9 => h9) rfl dX7_weight_29 ?_
      refine lv_topi (fun x_6 ex_6 => ?_)
      have qx_6 : x_6.toInt = (v (29 + 15 * x0.toNatClampNeg) (3)).toInt := congrArg Int32.toInt ex_6
      refine lv_istore_n (lv' := [(3, .int x_6), (0, .ref (ad 0)), (1, .int x0), (2, .int x1)]) hx hb dX7_weight_32 rfl hl (by decide) rfl (fun ls hl => ?_)
      refine lv_aload_n hx hb dX7_weight_33 rfl (lv_at hl 1 rfl) ?_
      refine va_get (D := (dC, dI)) (ci := 7) (v := .ref (ad 13)) (C := RX7) (T := TX7) (N := 5) hx hb hts iwX7_weight_X7 hown hK hP (0) (wl_at (by omega) (ce_0 (by decide))) rfl 0 (by decide) (hts (.fieldLink RX7 12 "QuietStairs" "now" "LQuietStairs$House;") fwX7_weight_1) (fun _ h9 => h9) rfl dX7_weight_34 ?_
      refine va_get (D := (dC, dI)) (ci := 1) (v := .ref (ad 16)) (C := RX1) (T := TX1) (N := 7) hx hb hts iwX7_weight_X1 hown hK hP (13) (wl_at (by omega) (ce_3 (by decide))) rfl 6 (by decide) (hts (.fieldLink RX7 86 "QuietStairs$House" "cases" "[LQuietStairs$Case;") fwX7_weight_2) (fun _ h9 => h9) rfl dX7_weight_37 ?_
      refine lv_iload_n hx hb dX7_weight_40 rfl (lv_at hl 2 rfl) ?_
      refine va_aldq hx hb hK hP (16) 3 (wl_at (by omega) (ce_6 (by decide))) rfl (vp_in_iff.mpr ⟨by omega, by omega⟩) dX7_weight_41 ?_
      refine W.eq (g2 := F0 m 42 ls [.ref (ad (29 + 15 * x0.toNatClampNeg))]) (by rw [if_pos hx_5, show 16 + 13 + 15 * x0.toNatClampNeg = 29 + 15 * x0.toNatClampNeg from by omega]; rfl) ?_
      refine lv_iload_n hx hb dX7_weight_42 rfl (lv_at hl 3 rfl) ?_
      refine va_put (D := (dC, dI)) (ci := 0) (v := .int x1) (ty := .int) (C := RX0) (T := TX0) (N := 11) hx hb hts iwX7_weight_X0 tyX0 tyX0_ok nmX0 hown hK hP hD hS (29 + 15 * x0.toNatClampNeg) (wl_at (by omega) (ce_9 (kd_c _ hx_5).1.1)) rfl 3 (by decide) (hts (.fieldLink RX7 102 "QuietStairs$Case" "weight" "I") fwX7_weight_3) (fun _ h9 => h9) rfl (by decide +kernel) rfl rfl (Nat.le_of_ble_eq_true rfl) dX7_weight_43 (fun H locs hP hD hS => ?_)
      obtain ⟨v_7, ev_7⟩ : ∃ u : Nat → Nat → Int32, u = upr v (29 + 15 * x0.toNatClampNeg) (upd (v (29 + 15 * x0.toNatClampNeg)) 3 x1) := ⟨_, rfl⟩
      have hP : va_P (dC, dI) vwCl (wl ad kv cy N v_7) H := by rw [ev_7, ← wl_put (e := _) (ce_9 (kd_c _ hx_5).1.1)]; exact hP
      have hD : va_D A (wl ad kv cy N v_7) := by rw [ev_7, ← wl_put (e := _) (ce_9 (kd_c _ hx_5).1.1)]; exact hD
      have hv : Iv v_7 := by rw [ev_7]; exact hv.put (K := 9) (kd_c _ hx_5).1.1 (fun h q => by simp [bd] at q)
      refine lv_iload_n hx hb dX7_weight_46 rfl (lv_at hl 0 rfl) ?_
      have hpost : (¬ ((0 ≤ x0.toInt ∧ x0.toInt < (v 13 2).toInt) ∧ 1 ≤ x1.toInt ∧ x1.toInt ≤ 9) → x_6 = -1 ∧ v_7 = v) ∧ ((0 ≤ x0.toInt ∧ x0.toInt < (v 13 2).toInt) ∧ 1 ≤ x1.toInt ∧ x1.toInt ≤ 9 → x_6 = v (29 + 15 * x0.toNatClampNeg) 3 ∧ (∀ k j : Nat, v_7 k j = if k = 29 + 15 * x0.toNatClampNeg ∧ j = 3 then x1 else v k j)) := by
        refine ⟨fun hq => ?_, fun hq => ?_⟩
        · exfalso; omega
        · exact ⟨by rw [ex_6], fun k j => by rw [ev_7, up2]⟩
      exact W.iret (v := x_6) hx hb hr (fun t ht hW => ⟨⟨x_6, v_7, rfl, ⟨hv, hpost⟩, by rw [ht]; exact hP, hD⟩, hS.F ht⟩) hS.2.2 dX7_weight_47
    · have k_1 : (1 : Int32).toInt = 1 := by decide
      have k_9 : (9 : Int32).toInt = 9 := by decide
      have tc_4 : ¬ ((1 : Int32).toInt ≤ x1.toInt ∧ x1.toInt ≤ (9 : Int32).toInt) := fun q => hc_4 ⟨Int32.le_iff_toInt_le.mpr q.1, Int32.le_iff_toInt_le.mpr q.2⟩
      refine lv_if_ne (tgt := 20) hx hb dX7_weight_15 (by decide) (fun c9 => absurd c9 (by decide)) (fun _ => ?_)
      refine lv_iconst (v := (-1)) hx hb dX7_weight_18 (by decide) ?_
      have hpost : (¬ ((0 ≤ x0.toInt ∧ x0.toInt < (v 13 2).toInt) ∧ 1 ≤ x1.toInt ∧ x1.toInt ≤ 9) → ((-1) : Int32) = -1 ∧ v = v) ∧ ((0 ≤ x0.toInt ∧ x0.toInt < (v 13 2).toInt) ∧ 1 ≤ x1.toInt ∧ x1.toInt ≤ 9 → ((-1) : Int32) = v (29 + 15 * x0.toNatClampNeg) 3 ∧ (∀ k j : Nat, v k j = if k = 29 + 15 * x0.toNatClampNeg ∧ j = 3 then x1 else v k j)) := by
        refine ⟨fun hq => ?_, fun hq => ?_⟩
        · exact ⟨rfl, rfl⟩
        · exfalso; omega
      exact W.iret (v := (-1)) hx hb hr (fun t ht hW => ⟨⟨(-1), v, rfl, ⟨hv, hpost⟩, by rw [ht]; exact hP, hD⟩, hS.F ht⟩) hS.2.2 dX7_weight_19
  · refine lv_if_eq (tgt := 18) hx hb dX7_weight_5 (by decide) (fun _ => ?_) (fun c9 => absurd c9 (by decide))
    refine lv_iconst (v := (-1)) hx hb dX7_weight_18 (by decide) ?_
    have hpost : (¬ ((0 ≤ x0.toInt ∧ x0.toInt < (v 13 2).toInt) ∧ 1 ≤ x1.toInt ∧ x1.toInt ≤ 9) → ((-1) : Int32) = -1 ∧ v = v) ∧ ((0 ≤ x0.toInt ∧ x0.toInt < (v 13 2).toInt) ∧ 1 ≤ x1.toInt ∧ x1.toInt ≤ 9 → ((-1) : Int32) = v (29 + 15 * x0.toNatClampNeg) 3 ∧ (∀ k j : Nat, v k j = if k = 29 + 15 * x0.toNatClampNeg ∧ j = 3 then x1 else v k j)) := by
      refine ⟨fun hq => ?_, fun hq => ?_⟩
      · exact ⟨rfl, rfl⟩
      · exfalso; omega
    exact W.iret (v := (-1)) hx hb hr (fun t ht hW => ⟨⟨(-1), v, rfl, ⟨hv, hpost⟩, by rw [ht]; exact hP, hD⟩, hS.F ht⟩) hS.2.2 dX7_weight_19

set_option maxHeartbeats 4000000 in
set_option maxRecDepth 100000 in
theorem e_X7_strike (l : Launch) (dC : Nat → ClassId) (dI : Nat → Nat → Nat) (cy : Nat → ClassId) (sz : Nat) (ad : Nat → Nat) (kv : Value) (N : Nat) (hN : 119 ≤ N) (v : Nat → Nat → Int32) (hv : Iv v) (x0 : Int32) : Met l yX7_strike wsX7_strike ({ frames := 3, cells := 0, slots := 0, locals := 192 }) (va_Pc [.ref (ad 0), .int x0] (ex_Pre dC dI cy sz (wl ad kv cy N v))) (va_Qi (fun (r : Int32) (u : Nat → Nat → Int32) => Iv u ∧ (¬ (0 ≤ x0.toInt ∧ x0.toInt < (v 13 2).toInt) → r = -1 ∧ u = v) ∧ ((0 ≤ x0.toInt ∧ x0.toInt < (v 13 2).toInt) ∧ (v (29 + 15 * x0.toNatClampNeg) 5).toInt = 0 → r = -5 ∧ u = v) ∧ ((0 ≤ x0.toInt ∧ x0.toInt < (v 13 2).toInt) ∧ (v (29 + 15 * x0.toNatClampNeg) 5).toInt ≠ 0 → r = v (29 + 15 * x0.toNatClampNeg) 5 - 1 ∧ (∀ k j : Nat, u k j = if k = 29 + 15 * x0.toNatClampNeg ∧ j = 5 then v (29 + 15 * x0.toNatClampNeg) 5 - 1 else v k j))) (fun u t => ex_Pst dC dI (va_A (wl ad kv cy N v) sz) (wl ad kv cy N u) t) (va_A (wl ad kv cy N v) sz)) 0 0 (va_A (wl ad kv cy N v) sz) := by
  refine Met.ofW (cc := cX7_strike) (maxL := 2) (ret := (some .int)) (by decide) rfl ?_
  intro p e s m args below meth c s₁ B hml hv
  obtain ⟨rfl, hsz, hE, hP, hK, hD0⟩ := hv
  have hx := B.exec
  have hb := B.bytes
  have hr := B.returns
  have hts := atoms_spec (ws := wsX7_strike) B.pre
  have hown : s.vm.findClass RX7 = some m.cls := findClass_of_methodNamed B.named
  have hlocks := B.notSynchronized
  subst hsz
  have hD := hD0.self (sz := s.heap.size)
  generalize hAe : va_A (wl ad kv cy N v) s.heap.size = A at hD ⊢
  have hA : ∀ q : Nat, s.heap.size ≤ q → A q := fun q h => by rw [← hAe]; exact Or.inr h
  have hS : va_S A s.heap s.heap [] := va_S.rf
  have hP : va_P (dC, dI) vwCl (wl ad kv cy N v) s.heap := hP
  have hl := lv_entry ([.ref (ad 0), .int x0]) (n := 2) (Nat.le_of_ble_eq_true rfl)
  rw [lg_entry_eq]
  generalize (lg_sl ([.ref (ad 0), .int x0]) ++ List.replicate (2 - (lg_sl ([.ref (ad 0), .int x0])).length) Slot.unset).toArray = ls at hl ⊢
  have hl : lv_has ls 2 [(0, .ref (ad 0)), (1, .int x0)] := hl
  refine lv_aload_n hx hb dX7_strike_0 rfl (lv_at hl 0 rfl) ?_
  refine lv_iload_n hx hb dX7_strike_1 rfl (lv_at hl 1 rfl) ?_
  refine yw_i (w1 := fun (u : Nat → Nat → Int32) => wl ad kv cy N u) hD hS hA (va_runV (As := [.int x0]) (rest := []) ⟨hx, hb, hml, hown, hts⟩ (g_X7_isCase l dC dI cy _ ad kv N hN v hv x0) (cwV 1 hts gX7_strike_X7_isCase rfl rfl rfl hd_V_X7_isCase_1 ⟨Nat.le_of_ble_eq_true rfl, Nat.le_of_ble_eq_true rfl⟩) (yw_preV hE hK hP hD (ci := 7) (q := (RX7, TX7, 5)) (q0 := 0) rfl (wl_at (by omega) (ce_0 (by decide)))) rfl rfl hl.1 rfl (lv_room (Nat.le_of_ble_eq_true rfl)) dX7_strike_2 ⟨Nat.le_of_ble_eq_true rfl, Nat.le_of_ble_eq_true rfl⟩) (fun r_1 v_1 H locs hw_1 hP hD hS => ?_)
  obtain ⟨-, hu_1, hw_1⟩ := hw_1
  replace hu_1 := hu_1.symm
  subst hu_1
  rcases hw_1 with ⟨rfl, ha_2⟩ | ⟨rfl, ha_2⟩
  · have hb_2 := hv.at (k := 13) (j := 2) (K := 3) (by decide) rfl
    have hj_2 : 0 ≤ x0.toInt ∧ x0.toInt ≤ 5 := ⟨by omega, by omega⟩
    refine lv_if_ne (tgt := 10) hx hb dX7_strike_5 (by decide) (fun _ => ?_) (fun c9 => absurd c9 (by decide))
    refine lv_aload_n hx hb dX7_strike_10 rfl (lv_at hl 0 rfl) ?_
    refine va_get (D := (dC, dI)) (ci := 7) (v := .ref (ad 13)) (C := RX7) (T := TX7) (N := 5) hx hb hts iwX7_strike_X7 hown hK hP (0) (wl_at (by omega) (ce_0 (by decide))) rfl 0 (by decide) (hts (.fieldLink RX7 12 "QuietStairs" "now" "LQuietStairs$House;") fwX7_strike_1) (fun _ h9 => h9) rfl dX7_strike_11 ?_
    refine va_get (D := (dC, dI)) (ci := 1) (v := .ref (ad 16)) (C := RX1) (T := TX1) (N := 7) hx hb hts iwX7_strike_X1 hown hK hP (13) (wl_at (by omega) (ce_3 (by decide))) rfl 6 (by decide) (hts (.fieldLink RX7 86 "QuietStairs$House" "cases" "[LQuietStairs$Case;") fwX7_strike_2) (fun _ h9 => h9) rfl dX7_strike_14 ?_
    refine lv_iload_n hx hb dX7_strike_17 rfl (lv_at hl 1 rfl) ?_
    have zn_x0 : (x0.toNatClampNeg : Int) = x0.toInt := t_nn (by omega)
    have hx_3 : x0.toNatClampNeg < 6 := by omega
    refine va_aldq hx hb hK hP (16) 3 (wl_at (by omega) (ce_6 (by decide))) rfl (vp_in_iff.mpr ⟨by omega, by omega⟩) dX7_strike_18 ?_
    refine W.eq (g2 := F0 m 19 ls [.ref (ad (29 + 15 * x0.toNatClampNeg))]) (by rw [if_pos hx_3, show 16 + 13 + 15 * x0.toNatClampNeg = 29 + 15 * x0.toNatClampNeg from by omega]; rfl) ?_
    refine va_get (D := (dC, dI)) (ci := 0) (v := .int (v (29 + 15 * x0.toNatClampNeg) 5)) (C := RX0) (T := TX0) (N := 11) hx hb hts iwX7_strike_X0 hown hK hP (29 + 15 * x0.toNatClampNeg) (wl_at (by omega) (ce_9 (kd_c _ hx_3).1.1)) rfl 5 (by decide) (hts (.fieldLink RX7 169 "QuietStairs$Case" "termCount" "I") fwX7_strike_3) (fun _ h9 => h9) rfl dX7_strike_19 ?_
    refine lv_topi (fun x_4 ex_4 => ?_)
    have bzx_4 : 0 ≤ x_4.toInt ∧ x_4.toInt ≤ 5 := by rw [ex_4]; exact hv.at (K := 9) (kd_c _ hx_3).1.1 rfl
    have qx_4 : x_4.toInt = (v (29 + 15 * x0.toNatClampNeg) (5)).toInt := congrArg Int32.toInt ex_4
    have k_0 : (0 : Int32).toInt = 0 := by decide
    refine lv_if_ne (tgt := 28) hx hb dX7_strike_22 (by decide) (fun c_5 => ?_) (fun c_5 => ?_)
    · have tc_5 : x_4.toInt ≠ (0 : Int32).toInt := fun q => absurd (Int32.toInt_inj.mp q) c_5
      refine lv_aload_n hx hb dX7_strike_28 rfl (lv_at hl 0 rfl) ?_
      refine va_get (D := (dC, dI)) (ci := 7) (v := .ref (ad 13)) (C := RX7) (T := TX7) (N := 5) hx hb hts iwX7_strike_X7 hown hK hP (0) (wl_at (by omega) (ce_0 (by decide))) rfl 0 (by decide) (hts (.fieldLink RX7 12 "QuietStairs" "now" "LQuietStairs$House;") fwX7_strike_1) (fun _ h9 => h9) rfl dX7_strike_29 ?_
      refine va_get (D := (dC, dI)) (ci := 1) (v := .ref (ad 16)) (C := RX1) (T := TX1) (N := 7) hx hb hts iwX7_strike_X1 hown hK hP (13) (wl_at (by omega) (ce_3 (by decide))) rfl 6 (by decide) (hts (.fieldLink RX7 86 "QuietStairs$House" "cases" "[LQuietStairs$Case;") fwX7_strike_2) (fun _ h9 => h9) rfl dX7_strike_32 ?_
      refine lv_iload_n hx hb dX7_strike_35 rfl (lv_at hl 1 rfl) ?_
      refine va_aldq hx hb hK hP (16) 3 (wl_at (by omega) (ce_6 (by decide))) rfl (vp_in_iff.mpr ⟨by omega, by omega⟩) dX7_strike_36 ?_
      refine W.eq (g2 := F0 m 37 ls [.ref (ad (29 + 15 * x0.toNatClampNeg))]) (by rw [if_pos hx_3, show 16 + 13 + 15 * x0.toNatClampNeg = 29 + 15 * x0.toNatClampNeg from by omega]; rfl) ?_
      refine lv_dup hx hb dX7_strike_37 rfl ?_
      refine va_get (D := (dC, dI)) (ci := 0) (v := .int (v (29 + 15 * x0.toNatClampNeg) 5)) (C := RX0) (T := TX0) (N := 11) hx hb hts iwX7_strike_X0 hown hK hP (29 + 15 * x0.toNatClampNeg) (wl_at (by omega) (ce_9 (kd_c _ hx_3).1.1)) rfl 5 (by decide) (hts (.fieldLink RX7 169 "QuietStairs$Case" "termCount" "I") fwX7_strike_3) (fun _ h9 => h9) rfl dX7_strike_38 ?_
      refine lv_topi (fun x_6 ex_6 => ?_)
      have bzx_6 : 0 ≤ x_6.toInt ∧ x_6.toInt ≤ 5 := by rw [ex_6]; exact hv.at (K := 9) (kd_c _ hx_3).1.1 rfl
      obtain rfl : x_4 = x_6 := (ex_6.trans ex_4.symm).symm
      refine lv_iconst (v := 1) hx hb dX7_strike_41 (by decide) ?_
      refine lv_isub hx hb dX7_strike_42 ?_
      refine lv_topi (fun x_7 ex_7 => ?_)
      have k_1 : (1 : Int32).toInt = 1 := by decide
      have tx_7 : x_7.toInt = x_4.toInt - (1 : Int32).toInt := by rw [ex_7]; exact t_sub ⟨by omega, by omega⟩
      refine va_put (D := (dC, dI)) (ci := 0) (v := .int x_7) (ty := .int) (C := RX0) (T := TX0) (N := 11) hx hb hts iwX7_strike_X0 tyX0 tyX0_ok nmX0 hown hK hP hD hS (29 + 15 * x0.toNatClampNeg) (wl_at (by omega) (ce_9 (kd_c _ hx_3).1.1)) rfl 5 (by decide) (hts (.fieldLink RX7 169 "QuietStairs$Case" "termCount" "I") fwX7_strike_3) (fun _ h9 => h9) rfl (by decide +kernel) rfl rfl (Nat.le_of_ble_eq_true rfl) dX7_strike_43 (fun H locs hP hD hS => ?_)
      obtain ⟨v_8, ev_8⟩ : ∃ u : Nat → Nat → Int32, u = upr v (29 + 15 * x0.toNatClampNeg) (upd (v (29 + 15 * x0.toNatClampNeg)) 5 x_7) := ⟨_, rfl⟩
      have hP : va_P (dC, dI) vwCl (wl ad kv cy N v_8) H := by rw [ev_8, ← wl_put (e := _) (ce_9 (kd_c _ hx_3).1.1)]; exact hP
      have hD : va_D A (wl ad kv cy N v_8) := by rw [ev_8, ← wl_put (e := _) (ce_9 (kd_c _ hx_3).1.1)]; exact hD
      have hv : Iv v_8 := by rw [ev_8]; exact hv.put (K := 9) (kd_c _ hx_3).1.1 (fun h q => by cases q; exact ⟨by omega, by omega⟩)
      refine lv_aload_n hx hb dX7_strike_46 rfl (lv_at hl 0 rfl) ?_
      refine va_get (D := (dC, dI)) (ci := 7) (v := .ref (ad 13)) (C := RX7) (T := TX7) (N := 5) hx hb hts iwX7_strike_X7 hown hK hP (0) (wl_at (by omega) (ce_0 (by decide))) rfl 0 (by decide) (hts (.fieldLink RX7 12 "QuietStairs" "now" "LQuietStairs$House;") fwX7_strike_1) (fun _ h9 => h9) rfl dX7_strike_47 ?_
      refine va_get (D := (dC, dI)) (ci := 1) (v := .ref (ad 16)) (C := RX1) (T := TX1) (N := 7) hx hb hts iwX7_strike_X1 hown hK hP (13) (wl_at (by omega) (ce_3 (by decide))) rfl 6 (by decide) (hts (.fieldLink RX7 86 "QuietStairs$House" "cases" "[LQuietStairs$Case;") fwX7_strike_2) (fun _ h9 => h9) rfl dX7_strike_50 ?_
      refine lv_iload_n hx hb dX7_strike_53 rfl (lv_at hl 1 rfl) ?_
      refine va_aldq hx hb hK hP (16) 3 (wl_at (by omega) (ce_6 (by decide))) rfl (vp_in_iff.mpr ⟨by omega, by omega⟩) dX7_strike_54 ?_
      refine W.eq (g2 := F0 m 55 ls [.ref (ad (29 + 15 * x0.toNatClampNeg))]) (by rw [if_pos hx_3, show 16 + 13 + 15 * x0.toNatClampNeg = 29 + 15 * x0.toNatClampNeg from by omega]; rfl) ?_
      refine va_get (D := (dC, dI)) (ci := 0) (v := .int (v_8 (29 + 15 * x0.toNatClampNeg) 5)) (C := RX0) (T := TX0) (N := 11) hx hb hts iwX7_strike_X0 hown hK hP (29 + 15 * x0.toNatClampNeg) (wl_at (by omega) (ce_9 (kd_c _ hx_3).1.1)) rfl 5 (by decide) (hts (.fieldLink RX7 169 "QuietStairs$Case" "termCount" "I") fwX7_strike_3) (fun _ h9 => h9) rfl dX7_strike_55 ?_
      refine lv_topi (fun x_9 ex_9 => ?_)
      have bzx_9 : 0 ≤ x_9.toInt ∧ x_9.toInt ≤ 5 := by rw [ex_9]; exact hv.at (K := 9) (kd_c _ hx_3).1.1 rfl
      rw [ev_8, upr_s, pk_us] at ex_9
      obtain rfl : x_7 = x_9 := ex_9.symm
      have hpost : (¬ (0 ≤ x0.toInt ∧ x0.toInt < (v 13 2).toInt) → x_7 = -1 ∧ v_8 = v) ∧ ((0 ≤ x0.toInt ∧ x0.toInt < (v 13 2).toInt) ∧ (v (29 + 15 * x0.toNatClampNeg) 5).toInt = 0 → x_7 = -5 ∧ v_8 = v) ∧ ((0 ≤ x0.toInt ∧ x0.toInt < (v 13 2).toInt) ∧ (v (29 + 15 * x0.toNatClampNeg) 5).toInt ≠ 0 → x_7 = v (29 + 15 * x0.toNatClampNeg) 5 - 1 ∧ (∀ k j : Nat, v_8 k j = if k = 29 + 15 * x0.toNatClampNeg ∧ j = 5 then v (29 + 15 * x0.toNatClampNeg) 5 - 1 else v k j)) := by
        refine ⟨fun hq => ?_, fun hq => ?_, fun hq => ?_⟩
        · exfalso; omega
        · exfalso; omega
        · exact ⟨by rw [ex_7, ex_4], fun k j => by rw [ev_8, up2, ex_7, ex_4]⟩
      exact W.iret (v := x_7) hx hb hr (fun t ht hW => ⟨⟨x_7, v_8, rfl, ⟨hv, hpost⟩, by rw [ht]; exact hP, hD⟩, hS.F ht⟩) hS.2.2 dX7_strike_58
    · have tc_5 : x_4.toInt = (0 : Int32).toInt := by rw [c_5]
      refine lv_bipush (v := (-5)) hx hb dX7_strike_25 (by decide) ?_
      have hpost : (¬ (0 ≤ x0.toInt ∧ x0.toInt < (v 13 2).toInt) → ((-5) : Int32) = -1 ∧ v = v) ∧ ((0 ≤ x0.toInt ∧ x0.toInt < (v 13 2).toInt) ∧ (v (29 + 15 * x0.toNatClampNeg) 5).toInt = 0 → ((-5) : Int32) = -5 ∧ v = v) ∧ ((0 ≤ x0.toInt ∧ x0.toInt < (v 13 2).toInt) ∧ (v (29 + 15 * x0.toNatClampNeg) 5).toInt ≠ 0 → ((-5) : Int32) = v (29 + 15 * x0.toNatClampNeg) 5 - 1 ∧ (∀ k j : Nat, v k j = if k = 29 + 15 * x0.toNatClampNeg ∧ j = 5 then v (29 + 15 * x0.toNatClampNeg) 5 - 1 else v k j)) := by
        refine ⟨fun hq => ?_, fun hq => ?_, fun hq => ?_⟩
        · exfalso; omega
        · exact ⟨rfl, rfl⟩
        · exfalso; omega
      exact W.iret (v := (-5)) hx hb hr (fun t ht hW => ⟨⟨(-5), v, rfl, ⟨hv, hpost⟩, by rw [ht]; exact hP, hD⟩, hS.F ht⟩) hS.2.2 dX7_strike_27
  · refine lv_if_ne (tgt := 10) hx hb dX7_strike_5 (by decide) (fun c9 => absurd c9 (by decide)) (fun _ => ?_)
    refine lv_iconst (v := (-1)) hx hb dX7_strike_8 (by decide) ?_
    have hpost : (¬ (0 ≤ x0.toInt ∧ x0.toInt < (v 13 2).toInt) → ((-1) : Int32) = -1 ∧ v = v) ∧ ((0 ≤ x0.toInt ∧ x0.toInt < (v 13 2).toInt) ∧ (v (29 + 15 * x0.toNatClampNeg) 5).toInt = 0 → ((-1) : Int32) = -5 ∧ v = v) ∧ ((0 ≤ x0.toInt ∧ x0.toInt < (v 13 2).toInt) ∧ (v (29 + 15 * x0.toNatClampNeg) 5).toInt ≠ 0 → ((-1) : Int32) = v (29 + 15 * x0.toNatClampNeg) 5 - 1 ∧ (∀ k j : Nat, v k j = if k = 29 + 15 * x0.toNatClampNeg ∧ j = 5 then v (29 + 15 * x0.toNatClampNeg) 5 - 1 else v k j)) := by
      refine ⟨fun hq => ?_, fun hq => ?_, fun hq => ?_⟩
      · exact ⟨rfl, rfl⟩
      · exfalso; omega
      · exfalso; omega
    exact W.iret (v := (-1)) hx hb hr (fun t ht hW => ⟨⟨(-1), v, rfl, ⟨hv, hpost⟩, by rw [ht]; exact hP, hD⟩, hS.F ht⟩) hS.2.2 dX7_strike_9

set_option maxHeartbeats 4000000 in
set_option maxRecDepth 100000 in
theorem e_X7_log (l : Launch) (dC : Nat → ClassId) (dI : Nat → Nat → Nat) (cy : Nat → ClassId) (sz : Nat) (ad : Nat → Nat) (kv : Value) (N : Nat) (hN : 119 ≤ N) (v : Nat → Nat → Int32) (hv : Iv v) (x0 x1 x2 x3 : Int32) : Met l yX7_log wsX7_log ({ frames := 3, cells := 0, slots := 0, locals := 192 }) (va_Pc [.ref (ad 0), .int x0, .int x1, .int x2, .int x3] (ex_Pre dC dI cy sz (wl ad kv cy N v))) (va_Qi (fun (r : Int32) (u : Nat → Nat → Int32) => Iv u ∧ (¬ ((0 ≤ x0.toInt ∧ x0.toInt < (v 13 2).toInt) ∧ (0 ≤ x1.toInt ∧ x1.toInt ≤ 1) ∧ (0 ≤ x2.toInt ∧ x2.toInt ≤ 23) ∧ 0 ≤ x3.toInt ∧ x3.toInt ≤ 7) → r = -1 ∧ u = v) ∧ ((0 ≤ x0.toInt ∧ x0.toInt < (v 13 2).toInt) ∧ (0 ≤ x1.toInt ∧ x1.toInt ≤ 1) ∧ (0 ≤ x2.toInt ∧ x2.toInt ≤ 23) ∧ 0 ≤ x3.toInt ∧ x3.toInt ≤ 7 → r = v (36 + 15 * x0.toNatClampNeg + x1.toNatClampNeg) x2.toNatClampNeg ∧ (∀ k j : Nat, u k j = if k = 36 + 15 * x0.toNatClampNeg + x1.toNatClampNeg ∧ j = x2.toNatClampNeg then x3 else v k j))) (fun u t => ex_Pst dC dI (va_A (wl ad kv cy N v) sz) (wl ad kv cy N u) t) (va_A (wl ad kv cy N v) sz)) 0 0 (va_A (wl ad kv cy N v) sz) := by
  refine Met.ofW (cc := cX7_log) (maxL := 7) (ret := (some .int)) (by decide) rfl ?_
  intro p e s m args below meth c s₁ B hml hv
  obtain ⟨rfl, hsz, hE, hP, hK, hD0⟩ := hv
  have hx := B.exec
  have hb := B.bytes
  have hr := B.returns
  have hts := atoms_spec (ws := wsX7_log) B.pre
  have hown : s.vm.findClass RX7 = some m.cls := findClass_of_methodNamed B.named
  have hlocks := B.notSynchronized
  subst hsz
  have hD := hD0.self (sz := s.heap.size)
  generalize hAe : va_A (wl ad kv cy N v) s.heap.size = A at hD ⊢
  have hA : ∀ q : Nat, s.heap.size ≤ q → A q := fun q h => by rw [← hAe]; exact Or.inr h
  have hS : va_S A s.heap s.heap [] := va_S.rf
  have hP : va_P (dC, dI) vwCl (wl ad kv cy N v) s.heap := hP
  have hl := lv_entry ([.ref (ad 0), .int x0, .int x1, .int x2, .int x3]) (n := 7) (Nat.le_of_ble_eq_true rfl)
  rw [lg_entry_eq]
  generalize (lg_sl ([.ref (ad 0), .int x0, .int x1, .int x2, .int x3]) ++ List.replicate (7 - (lg_sl ([.ref (ad 0), .int x0, .int x1, .int x2, .int x3])).length) Slot.unset).toArray = ls at hl ⊢
  have hl : lv_has ls 7 [(0, .ref (ad 0)), (1, .int x0), (2, .int x1), (3, .int x2), (4, .int x3)] := hl
  refine lv_aload_n hx hb dX7_log_0 rfl (lv_at hl 0 rfl) ?_
  refine lv_iload_n hx hb dX7_log_1 rfl (lv_at hl 1 rfl) ?_
  refine yw_i (w1 := fun (u : Nat → Nat → Int32) => wl ad kv cy N u) hD hS hA (va_runV (As := [.int x0]) (rest := []) ⟨hx, hb, hml, hown, hts⟩ (g_X7_isCase l dC dI cy _ ad kv N hN v hv x0) (cwV 1 hts gX7_log_X7_isCase rfl rfl rfl hd_V_X7_isCase_1 ⟨Nat.le_of_ble_eq_true rfl, Nat.le_of_ble_eq_true rfl⟩) (yw_preV hE hK hP hD (ci := 7) (q := (RX7, TX7, 5)) (q0 := 0) rfl (wl_at (by omega) (ce_0 (by decide)))) rfl rfl hl.1 rfl (lv_room (Nat.le_of_ble_eq_true rfl)) dX7_log_2 ⟨Nat.le_of_ble_eq_true rfl, Nat.le_of_ble_eq_true rfl⟩) (fun r_1 v_1 H locs hw_1 hP hD hS => ?_)
  obtain ⟨-, hu_1, hw_1⟩ := hw_1
  replace hu_1 := hu_1.symm
  subst hu_1
  rcases hw_1 with ⟨rfl, ha_2⟩ | ⟨rfl, ha_2⟩
  · have hb_2 := hv.at (k := 13) (j := 2) (K := 3) (by decide) rfl
    have hj_2 : 0 ≤ x0.toInt ∧ x0.toInt ≤ 5 := ⟨by omega, by omega⟩
    refine lv_if_eq (tgt := 33) hx hb dX7_log_5 (by decide) (fun c9 => absurd c9 (by decide)) (fun _ => ?_)
    refine lv_iload_n hx hb dX7_log_8 rfl (lv_at hl 2 rfl) ?_
    refine yc_p hP hS (va_runS (As := [.int x1]) (rest := []) ⟨hx, hb, hml, hown, hts⟩ (c_X7_isSide l x1) (cwS 1 hts gX7_log_X7_isSide rfl rfl rfl hd_S_X7_isSide_1 ⟨Nat.le_of_ble_eq_true rfl, Nat.le_of_ble_eq_true rfl⟩) ex_preP rfl rfl hl.1 rfl (lv_room (Nat.le_of_ble_eq_true rfl)) dX7_log_9 ⟨Nat.le_of_ble_eq_true rfl, Nat.le_of_ble_eq_true rfl⟩) (fun r_3 H locs hw_3 hP hS => ?_)
    rcases wi_ca hw_3 with ⟨rfl, hc_4⟩ | ⟨rfl, hc_4⟩
    · have k_0 : (0 : Int32).toInt = 0 := by decide
      have k_1 : (1 : Int32).toInt = 1 := by decide
      have tc_4 := wi_tl hc_4
      refine lv_if_eq (tgt := 33) hx hb dX7_log_12 (by decide) (fun c9 => absurd c9 (by decide)) (fun _ => ?_)
      refine lv_iload_n hx hb dX7_log_15 rfl (lv_at hl 3 rfl) ?_
      refine yc_p hP hS (va_runS (As := [.int x2]) (rest := []) ⟨hx, hb, hml, hown, hts⟩ (c_X7_isHour l x2) (cwS 1 hts gX7_log_X7_isHour rfl rfl rfl hd_S_X7_isHour_1 ⟨Nat.le_of_ble_eq_true rfl, Nat.le_of_ble_eq_true rfl⟩) ex_preP rfl rfl hl.1 rfl (lv_room (Nat.le_of_ble_eq_true rfl)) dX7_log_16 ⟨Nat.le_of_ble_eq_true rfl, Nat.le_of_ble_eq_true rfl⟩) (fun r_5 H locs hw_5 hP hS => ?_)
      rcases wi_ca hw_5 with ⟨rfl, hc_6⟩ | ⟨rfl, hc_6⟩
      · have k_23 : (23 : Int32).toInt = 23 := by decide
        have tc_6 := wi_tl hc_6
        refine lv_if_eq (tgt := 33) hx hb dX7_log_19 (by decide) (fun c9 => absurd c9 (by decide)) (fun _ => ?_)
        refine lv_iload hx hb dX7_log_22 (lv_at hl 4 rfl) ?_
        refine lv_iconst (v := 0) hx hb dX7_log_24 (by decide) ?_
        refine lv_bipush (v := 7) hx hb dX7_log_25 (by decide) ?_
        refine yc_p hP hS (va_runS (As := [.int x3, .int 0, .int 7]) (rest := []) ⟨hx, hb, hml, hown, hts⟩ (c_X7_isWithin l x3 0 7) (cwS 3 hts gX7_log_X7_isWithin rfl rfl rfl hd_S_X7_isWithin_3 ⟨Nat.le_of_ble_eq_true rfl, Nat.le_of_ble_eq_true rfl⟩) ex_preP rfl rfl hl.1 rfl (lv_room (Nat.le_of_ble_eq_true rfl)) dX7_log_27 ⟨Nat.le_of_ble_eq_true rfl, Nat.le_of_ble_eq_true rfl⟩) (fun r_7 H locs hw_7 hP hS => ?_)
        rcases wi_ca hw_7 with ⟨rfl, hc_8⟩ | ⟨rfl, hc_8⟩
        · have k_7 : (7 : Int32).toInt = 7 := by decide
          have tc_8 := wi_tl hc_8
          refine lv_if_ne (tgt := 35) hx hb dX7_log_30 (by decide) (fun _ => ?_) (fun c9 => absurd c9 (by decide))
          refine lv_aload_n hx hb dX7_log_35 rfl (lv_at hl 0 rfl) ?_
          refine va_get (D := (dC, dI)) (ci := 7) (v := .ref (ad 13)) (C := RX7) (T := TX7) (N := 5) hx hb hts iwX7_log_X7 hown hK hP (0) (wl_at (by omega) (ce_0 (by decide))) rfl 0 (by decide) (hts (.fieldLink RX7 12 "QuietStairs" "now" "LQuietStairs$House;") fwX7_log_1) (fun _ h9 => h9) rfl dX7_log_36 ?_
          refine va_get (D := (dC, dI)) (ci := 1) (v := .ref (ad 16)) (C := RX1) (T := TX1) (N := 7) hx hb hts iwX7_log_X1 hown hK hP (13) (wl_at (by omega) (ce_3 (by decide))) rfl 6 (by decide) (hts (.fieldLink RX7 86 "QuietStairs$House" "cases" "[LQuietStairs$Case;") fwX7_log_2) (fun _ h9 => h9) rfl dX7_log_39 ?_
          refine lv_iload_n hx hb dX7_log_42 rfl (lv_at hl 1 rfl) ?_
          have zn_x0 : (x0.toNatClampNeg : Int) = x0.toInt := t_nn (by omega)
          have hx_9 : x0.toNatClampNeg < 6 := by omega
          refine va_aldq hx hb hK hP (16) 3 (wl_at (by omega) (ce_6 (by decide))) rfl (vp_in_iff.mpr ⟨by omega, by omega⟩) dX7_log_43 ?_
          refine W.eq (g2 := F0 m 44 ls [.ref (ad (29 + 15 * x0.toNatClampNeg))]) (by rw [if_pos hx_9, show 16 + 13 + 15 * x0.toNatClampNeg = 29 + 15 * x0.toNatClampNeg from by omega]; rfl) ?_
          refine va_get (D := (dC, dI)) (ci := 0) (v := .ref (ad (29 + 15 * x0.toNatClampNeg + 6))) (C := RX0) (T := TX0) (N := 11) hx hb hts iwX7_log_X0 hown hK hP (29 + 15 * x0.toNatClampNeg) (wl_at (by omega) (ce_9 (kd_c _ hx_9).1.1)) rfl 9 (by decide) (hts (.fieldLink RX7 207 "QuietStairs$Case" "logs" "[[I") fwX7_log_3) (fun _ h9 => h9) rfl dX7_log_44 ?_
          refine W.eq (g2 := F0 m 47 ls [.ref (ad (35 + 15 * x0.toNatClampNeg))]) (by rw [show 29 + 15 * x0.toNatClampNeg + 6 = 35 + 15 * x0.toNatClampNeg from by omega]) ?_
          refine lv_iload_n hx hb dX7_log_47 rfl (lv_at hl 2 rfl) ?_
          have zn_x1 : (x1.toNatClampNeg : Int) = x1.toInt := t_nn (by omega)
          have hx_10 : x1.toNatClampNeg < 2 := by omega
          refine ya_ald hx hb hK hP (35 + 15 * x0.toNatClampNeg) (wl_at (by omega) (ce_13 (kd_c _ hx_9).1.2.2.2.2.1)) (vp_in_iff.mpr ⟨by omega, by omega⟩) dX7_log_48 ?_
          refine W.eq (g2 := F0 m 49 ls [.ref (ad (36 + 15 * x0.toNatClampNeg + x1.toNatClampNeg))]) (by rw [if_pos hx_10, show 35 + 15 * x0.toNatClampNeg + 1 + x1.toNatClampNeg = 36 + 15 * x0.toNatClampNeg + x1.toNatClampNeg from by omega]; rfl) ?_
          refine lv_astore (lv' := [(5, .ref (ad (36 + 15 * x0.toNatClampNeg + x1.toNatClampNeg))), (0, .ref (ad 0)), (1, .int x0), (2, .int x1), (3, .int x2), (4, .int x3)]) hx hb dX7_log_49 hl (by decide) rfl (fun ls hl => ?_)
          refine lv_aload hx hb dX7_log_51 (lv_at hl 0 rfl) ?_
          refine lv_iload_n hx hb dX7_log_53 rfl (lv_at hl 4 rfl) ?_
          have zn_x2 : (x2.toNatClampNeg : Int) = x2.toInt := t_nn (by omega)
          have hx_11 : x2.toNatClampNeg < 24 := by omega
          refine va_iald hx hb hK hP (36 + 15 * x0.toNatClampNeg + x1.toNatClampNeg) 0 (wl_at (by omega) (ce_14 (kd_o _ hx_9 _ hx_10).1.2)) rfl (vp_in_iff.mpr ⟨by omega, by omega⟩) dX7_log_54 ?_
          refine lv_topi (fun x_12 ex_12 => ?_)
          have qx_12 : x_12.toInt = (v (36 + 15 * x0.toNatClampNeg + x1.toNatClampNeg) (x2.toNatClampNeg)).toInt := congrArg Int32.toInt ex_12
          refine lv_istore (lv' := [(6, .int x_12), (5, .ref (ad (36 + 15 * x0.toNatClampNeg + x1.toNatClampNeg))), (0, .ref (ad 0)), (1, .int x0), (2, .int x1), (3, .int x2), (4, .int x3)]) hx hb dX7_log_55 hl (by decide) rfl (fun ls hl => ?_)
          refine lv_aload hx hb dX7_log_57 (lv_at hl 1 rfl) ?_
          refine lv_iload_n hx hb dX7_log_59 rfl (lv_at hl 5 rfl) ?_
          refine lv_iload hx hb dX7_log_60 (lv_at hl 6 rfl) ?_
          refine va_iast hx hb hK hP hD hS (36 + 15 * x0.toNatClampNeg + x1.toNatClampNeg) 0 (wl_at (by omega) (ce_14 (kd_o _ hx_9 _ hx_10).1.2)) rfl (vp_in_iff.mpr ⟨by omega, by omega⟩) dX7_log_62 (fun H locs hP hD hS => ?_)
          obtain ⟨v_13, ev_13⟩ : ∃ u : Nat → Nat → Int32, u = upr v (36 + 15 * x0.toNatClampNeg + x1.toNatClampNeg) (upd (v (36 + 15 * x0.toNatClampNeg + x1.toNatClampNeg)) (x2.toNatClampNeg) x3) := ⟨_, rfl⟩
          have hP : va_P (dC, dI) vwCl (wl ad kv cy N v_13) H := by rw [ev_13, ← wl_put (e := _) (ce_14 (kd_o _ hx_9 _ hx_10).1.2)]; exact hP
          have hD : va_D A (wl ad kv cy N v_13) := by rw [ev_13, ← wl_put (e := _) (ce_14 (kd_o _ hx_9 _ hx_10).1.2)]; exact hD
          have hv : Iv v_13 := by rw [ev_13]; exact hv.put (K := 14) (kd_o _ hx_9 _ hx_10).1.2 (fun h q => by simp [bd] at q)
          refine lv_iload hx hb dX7_log_63 (lv_at hl 0 rfl) ?_
          have hpost : (¬ ((0 ≤ x0.toInt ∧ x0.toInt < (v 13 2).toInt) ∧ (0 ≤ x1.toInt ∧ x1.toInt ≤ 1) ∧ (0 ≤ x2.toInt ∧ x2.toInt ≤ 23) ∧ 0 ≤ x3.toInt ∧ x3.toInt ≤ 7) → x_12 = -1 ∧ v_13 = v) ∧ ((0 ≤ x0.toInt ∧ x0.toInt < (v 13 2).toInt) ∧ (0 ≤ x1.toInt ∧ x1.toInt ≤ 1) ∧ (0 ≤ x2.toInt ∧ x2.toInt ≤ 23) ∧ 0 ≤ x3.toInt ∧ x3.toInt ≤ 7 → x_12 = v (36 + 15 * x0.toNatClampNeg + x1.toNatClampNeg) x2.toNatClampNeg ∧ (∀ k j : Nat, v_13 k j = if k = 36 + 15 * x0.toNatClampNeg + x1.toNatClampNeg ∧ j = x2.toNatClampNeg then x3 else v k j)) := by
            refine ⟨fun hq => ?_, fun hq => ?_⟩
            · exfalso; omega
            · exact ⟨by rw [ex_12], fun k j => by rw [ev_13, up2]⟩
          exact W.iret (v := x_12) hx hb hr (fun t ht hW => ⟨⟨x_12, v_13, rfl, ⟨hv, hpost⟩, by rw [ht]; exact hP, hD⟩, hS.F ht⟩) hS.2.2 dX7_log_65
        · have k_7 : (7 : Int32).toInt = 7 := by decide
          have tc_8 : ¬ ((0 : Int32).toInt ≤ x3.toInt ∧ x3.toInt ≤ (7 : Int32).toInt) := fun q => hc_8 ⟨Int32.le_iff_toInt_le.mpr q.1, Int32.le_iff_toInt_le.mpr q.2⟩
          refine lv_if_ne (tgt := 35) hx hb dX7_log_30 (by decide) (fun c9 => absurd c9 (by decide)) (fun _ => ?_)
          refine lv_iconst (v := (-1)) hx hb dX7_log_33 (by decide) ?_
          have hpost : (¬ ((0 ≤ x0.toInt ∧ x0.toInt < (v 13 2).toInt) ∧ (0 ≤ x1.toInt ∧ x1.toInt ≤ 1) ∧ (0 ≤ x2.toInt ∧ x2.toInt ≤ 23) ∧ 0 ≤ x3.toInt ∧ x3.toInt ≤ 7) → ((-1) : Int32) = -1 ∧ v = v) ∧ ((0 ≤ x0.toInt ∧ x0.toInt < (v 13 2).toInt) ∧ (0 ≤ x1.toInt ∧ x1.toInt ≤ 1) ∧ (0 ≤ x2.toInt ∧ x2.toInt ≤ 23) ∧ 0 ≤ x3.toInt ∧ x3.toInt ≤ 7 → ((-1) : Int32) = v (36 + 15 * x0.toNatClampNeg + x1.toNatClampNeg) x2.toNatClampNeg ∧ (∀ k j : Nat, v k j = if k = 36 + 15 * x0.toNatClampNeg + x1.toNatClampNeg ∧ j = x2.toNatClampNeg then x3 else v k j)) := by
            refine ⟨fun hq => ?_, fun hq => ?_⟩
            · exact ⟨rfl, rfl⟩
            · exfalso; omega
          exact W.iret (v := (-1)) hx hb hr (fun t ht hW => ⟨⟨(-1), v, rfl, ⟨hv, hpost⟩, by rw [ht]; exact hP, hD⟩, hS.F ht⟩) hS.2.2 dX7_log_34
      · have k_23 : (23 : Int32).toInt = 23 := by decide
        have tc_6 : ¬ ((0 : Int32).toInt ≤ x2.toInt ∧ x2.toInt ≤ (23 : Int32).toInt) := fun q => hc_6 ⟨Int32.le_iff_toInt_le.mpr q.1, Int32.le_iff_toInt_le.mpr q.2⟩
        refine lv_if_eq (tgt := 33) hx hb dX7_log_19 (by decide) (fun _ => ?_) (fun c9 => absurd c9 (by decide))
        refine lv_iconst (v := (-1)) hx hb dX7_log_33 (by decide) ?_
        have hpost : (¬ ((0 ≤ x0.toInt ∧ x0.toInt < (v 13 2).toInt) ∧ (0 ≤ x1.toInt ∧ x1.toInt ≤ 1) ∧ (0 ≤ x2.toInt ∧ x2.toInt ≤ 23) ∧ 0 ≤ x3.toInt ∧ x3.toInt ≤ 7) → ((-1) : Int32) = -1 ∧ v = v) ∧ ((0 ≤ x0.toInt ∧ x0.toInt < (v 13 2).toInt) ∧ (0 ≤ x1.toInt ∧ x1.toInt ≤ 1) ∧ (0 ≤ x2.toInt ∧ x2.toInt ≤ 23) ∧ 0 ≤ x3.toInt ∧ x3.toInt ≤ 7 → ((-1) : Int32) = v (36 + 15 * x0.toNatClampNeg + x1.toNatClampNeg) x2.toNatClampNeg ∧ (∀ k j : Nat, v k j = if k = 36 + 15 * x0.toNatClampNeg + x1.toNatClampNeg ∧ j = x2.toNatClampNeg then x3 else v k j)) := by
          refine ⟨fun hq => ?_, fun hq => ?_⟩
          · exact ⟨rfl, rfl⟩
          · exfalso; omega
        exact W.iret (v := (-1)) hx hb hr (fun t ht hW => ⟨⟨(-1), v, rfl, ⟨hv, hpost⟩, by rw [ht]; exact hP, hD⟩, hS.F ht⟩) hS.2.2 dX7_log_34
    · have k_0 : (0 : Int32).toInt = 0 := by decide
      have k_1 : (1 : Int32).toInt = 1 := by decide
      have tc_4 : ¬ ((0 : Int32).toInt ≤ x1.toInt ∧ x1.toInt ≤ (1 : Int32).toInt) := fun q => hc_4 ⟨Int32.le_iff_toInt_le.mpr q.1, Int32.le_iff_toInt_le.mpr q.2⟩
      refine lv_if_eq (tgt := 33) hx hb dX7_log_12 (by decide) (fun _ => ?_) (fun c9 => absurd c9 (by decide))
      refine lv_iconst (v := (-1)) hx hb dX7_log_33 (by decide) ?_
      have hpost : (¬ ((0 ≤ x0.toInt ∧ x0.toInt < (v 13 2).toInt) ∧ (0 ≤ x1.toInt ∧ x1.toInt ≤ 1) ∧ (0 ≤ x2.toInt ∧ x2.toInt ≤ 23) ∧ 0 ≤ x3.toInt ∧ x3.toInt ≤ 7) → ((-1) : Int32) = -1 ∧ v = v) ∧ ((0 ≤ x0.toInt ∧ x0.toInt < (v 13 2).toInt) ∧ (0 ≤ x1.toInt ∧ x1.toInt ≤ 1) ∧ (0 ≤ x2.toInt ∧ x2.toInt ≤ 23) ∧ 0 ≤ x3.toInt ∧ x3.toInt ≤ 7 → ((-1) : Int32) = v (36 + 15 * x0.toNatClampNeg + x1.toNatClampNeg) x2.toNatClampNeg ∧ (∀ k j : Nat, v k j = if k = 36 + 15 * x0.toNatClampNeg + x1.toNatClampNeg ∧ j = x2.toNatClampNeg then x3 else v k j)) := by
        refine ⟨fun hq => ?_, fun hq => ?_⟩
        · exact ⟨rfl, rfl⟩
        · exfalso; omega
      exact W.iret (v := (-1)) hx hb hr (fun t ht hW => ⟨⟨(-1), v, rfl, ⟨hv, hpost⟩, by rw [ht]; exact hP, hD⟩, hS.F ht⟩) hS.2.2 dX7_log_34
  · refine lv_if_eq (tgt := 33) hx hb dX7_log_5 (by decide) (fun _ => ?_) (fun c9 => absurd c9 (by decide))
    refine lv_iconst (v := (-1)) hx hb dX7_log_33 (by decide) ?_
    have hpost : (¬ ((0 ≤ x0.toInt ∧ x0.toInt < (v 13 2).toInt) ∧ (0 ≤ x1.toInt ∧ x1.toInt ≤ 1) ∧ (0 ≤ x2.toInt ∧ x2.toInt ≤ 23) ∧ 0 ≤ x3.toInt ∧ x3.toInt ≤ 7) → ((-1) : Int32) = -1 ∧ v = v) ∧ ((0 ≤ x0.toInt ∧ x0.toInt < (v 13 2).toInt) ∧ (0 ≤ x1.toInt ∧ x1.toInt ≤ 1) ∧ (0 ≤ x2.toInt ∧ x2.toInt ≤ 23) ∧ 0 ≤ x3.toInt ∧ x3.toInt ≤ 7 → ((-1) : Int32) = v (36 + 15 * x0.toNatClampNeg + x1.toNatClampNeg) x2.toNatClampNeg ∧ (∀ k j : Nat, v k j = if k = 36 + 15 * x0.toNatClampNeg + x1.toNatClampNeg ∧ j = x2.toNatClampNeg then x3 else v k j)) := by
      refine ⟨fun hq => ?_, fun hq => ?_⟩
      · exact ⟨rfl, rfl⟩
      · exfalso; omega
    exact W.iret (v := (-1)) hx hb hr (fun t ht hW => ⟨⟨(-1), v, rfl, ⟨hv, hpost⟩, by rw [ht]; exact hP, hD⟩, hS.F ht⟩) hS.2.2 dX7_log_34

set_option maxHeartbeats 4000000 in
set_option maxRecDepth 100000 in
theorem e_X7_kin_0 (l : Launch) (dC : Nat → ClassId) (dI : Nat → Nat → Nat) (cy : Nat → ClassId) (sz : Nat) (ad : Nat → Nat) (kv : Value) (N : Nat) (hN : 119 ≤ N) (v : Nat → Nat → Int32) (hv : Iv v) (x0 x1 : Int32) : Met l yX7_kin wsX7_kin ({ frames := 3, cells := 0, slots := 0, locals := 192 }) (va_Pc [.ref (ad 0), .int x0, .int x1, .int 0] (ex_Pre dC dI cy sz (wl ad kv cy N v))) (va_Qi (fun (r : Int32) (u : Nat → Nat → Int32) => Iv u ∧ (¬ ((0 ≤ x0.toInt ∧ x0.toInt < (v 13 1).toInt) ∧ 0 ≤ x1.toInt ∧ x1.toInt < (v 13 0).toInt) → r = -1 ∧ u = v) ∧ (((0 ≤ x0.toInt ∧ x0.toInt < (v 13 1).toInt) ∧ 0 ≤ x1.toInt ∧ x1.toInt < (v 13 0).toInt) ∧ (btx (v (25 + x0.toNatClampNeg) 2) x1).toInt = 1 → r = 1 ∧ (∀ k j : Nat, u k j = if k = 25 + x0.toNatClampNeg ∧ j = 2 then v (25 + x0.toNatClampNeg) 2 ^^^ (1 <<< (x1 &&& 31)) else v k j)) ∧ (((0 ≤ x0.toInt ∧ x0.toInt < (v 13 1).toInt) ∧ 0 ≤ x1.toInt ∧ x1.toInt < (v 13 0).toInt) ∧ (btx (v (25 + x0.toNatClampNeg) 2) x1).toInt ≠ 1 → r = 0 ∧ u = v)) (fun u t => ex_Pst dC dI (va_A (wl ad kv cy N v) sz) (wl ad kv cy N u) t) (va_A (wl ad kv cy N v) sz)) 0 0 (va_A (wl ad kv cy N v) sz) := by
  refine Met.ofW (cc := cX7_kin) (maxL := 5) (ret := (some .int)) (by decide) rfl ?_
  intro p e s m args below meth c s₁ B hml hv
  obtain ⟨rfl, hsz, hE, hP, hK, hD0⟩ := hv
  have hx := B.exec
  have hb := B.bytes
  have hr := B.returns
  have hts := atoms_spec (ws := wsX7_kin) B.pre
  have hown : s.vm.findClass RX7 = some m.cls := findClass_of_methodNamed B.named
  have hlocks := B.notSynchronized
  subst hsz
  have hD := hD0.self (sz := s.heap.size)
  generalize hAe : va_A (wl ad kv cy N v) s.heap.size = A at hD ⊢
  have hA : ∀ q : Nat, s.heap.size ≤ q → A q := fun q h => by rw [← hAe]; exact Or.inr h
  have hS : va_S A s.heap s.heap [] := va_S.rf
  have hP : va_P (dC, dI) vwCl (wl ad kv cy N v) s.heap := hP
  have hl := lv_entry ([.ref (ad 0), .int x0, .int x1, .int 0]) (n := 5) (Nat.le_of_ble_eq_true rfl)
  rw [lg_entry_eq]
  generalize (lg_sl ([.ref (ad 0), .int x0, .int x1, .int 0]) ++ List.replicate (5 - (lg_sl ([.ref (ad 0), .int x0, .int x1, .int 0])).length) Slot.unset).toArray = ls at hl ⊢
  have hl : lv_has ls 5 [(0, .ref (ad 0)), (1, .int x0), (2, .int x1), (3, .int 0)] := hl
  refine lv_aload_n hx hb dX7_kin_0 rfl (lv_at hl 0 rfl) ?_
  refine lv_iload_n hx hb dX7_kin_1 rfl (lv_at hl 1 rfl) ?_
  refine yw_i (w1 := fun (u : Nat → Nat → Int32) => wl ad kv cy N u) hD hS hA (va_runV (As := [.int x0]) (rest := []) ⟨hx, hb, hml, hown, hts⟩ (g_X7_isMediator l dC dI cy _ ad kv N hN v hv x0) (cwV 1 hts gX7_kin_X7_isMediator rfl rfl rfl hd_V_X7_isMediator_1 ⟨Nat.le_of_ble_eq_true rfl, Nat.le_of_ble_eq_true rfl⟩) (yw_preV hE hK hP hD (ci := 7) (q := (RX7, TX7, 5)) (q0 := 0) rfl (wl_at (by omega) (ce_0 (by decide)))) rfl rfl hl.1 rfl (lv_room (Nat.le_of_ble_eq_true rfl)) dX7_kin_2 ⟨Nat.le_of_ble_eq_true rfl, Nat.le_of_ble_eq_true rfl⟩) (fun r_1 v_1 H locs hw_1 hP hD hS => ?_)
  obtain ⟨-, hu_1, hw_1⟩ := hw_1
  replace hu_1 := hu_1.symm
  subst hu_1
  rcases hw_1 with ⟨rfl, ha_2⟩ | ⟨rfl, ha_2⟩
  · have hb_2 := hv.at (k := 13) (j := 1) (K := 3) (by decide) rfl
    have hj_2 : 0 ≤ x0.toInt ∧ x0.toInt ≤ 3 := ⟨by omega, by omega⟩
    refine lv_if_eq (tgt := 16) hx hb dX7_kin_5 (by decide) (fun c9 => absurd c9 (by decide)) (fun _ => ?_)
    refine lv_aload_n hx hb dX7_kin_8 rfl (lv_at hl 0 rfl) ?_
    refine lv_iload_n hx hb dX7_kin_9 rfl (lv_at hl 2 rfl) ?_
    refine yw_i (w1 := fun (u : Nat → Nat → Int32) => wl ad kv cy N u) hD hS hA (va_runV (As := [.int x1]) (rest := []) ⟨hx, hb, hml, hown, hts⟩ (g_X7_isParty l dC dI cy _ ad kv N hN v hv x1) (cwV 1 hts gX7_kin_X7_isParty rfl rfl rfl hd_V_X7_isParty_1 ⟨Nat.le_of_ble_eq_true rfl, Nat.le_of_ble_eq_true rfl⟩) (yw_preV hE hK hP hD (ci := 7) (q := (RX7, TX7, 5)) (q0 := 0) rfl (wl_at (by omega) (ce_0 (by decide)))) rfl rfl hl.1 rfl (lv_room (Nat.le_of_ble_eq_true rfl)) dX7_kin_10 ⟨Nat.le_of_ble_eq_true rfl, Nat.le_of_ble_eq_true rfl⟩) (fun r_3 v_3 H locs hw_3 hP hD hS => ?_)
    obtain ⟨-, hu_3, hw_3⟩ := hw_3
    replace hu_3 := hu_3.symm
    subst hu_3
    rcases hw_3 with ⟨rfl, ha_4⟩ | ⟨rfl, ha_4⟩
    · have hb_4 := hv.at (k := 13) (j := 0) (K := 3) (by decide) rfl
      have hj_4 : 0 ≤ x1.toInt ∧ x1.toInt ≤ 7 := ⟨by omega, by omega⟩
      refine lv_if_ne (tgt := 18) hx hb dX7_kin_13 (by decide) (fun _ => ?_) (fun c9 => absurd c9 (by decide))
      refine lv_aload_n hx hb dX7_kin_18 rfl (lv_at hl 0 rfl) ?_
      refine va_get (D := (dC, dI)) (ci := 7) (v := .ref (ad 13)) (C := RX7) (T := TX7) (N := 5) hx hb hts iwX7_kin_X7 hown hK hP (0) (wl_at (by omega) (ce_0 (by decide))) rfl 0 (by decide) (hts (.fieldLink RX7 12 "QuietStairs" "now" "LQuietStairs$House;") fwX7_kin_1) (fun _ h9 => h9) rfl dX7_kin_19 ?_
      refine va_get (D := (dC, dI)) (ci := 1) (v := .ref (ad 15)) (C := RX1) (T := TX1) (N := 7) hx hb hts iwX7_kin_X1 hown hK hP (13) (wl_at (by omega) (ce_3 (by decide))) rfl 5 (by decide) (hts (.fieldLink RX7 59 "QuietStairs$House" "mediators" "[LQuietStairs$Mediator;") fwX7_kin_2) (fun _ h9 => h9) rfl dX7_kin_22 ?_
      refine lv_iload_n hx hb dX7_kin_25 rfl (lv_at hl 1 rfl) ?_
      have zn_x0 : (x0.toNatClampNeg : Int) = x0.toInt := t_nn (by omega)
      have hx_5 : x0.toNatClampNeg < 4 := by omega
      refine va_aldq hx hb hK hP (15) 2 (wl_at (by omega) (ce_5 (by decide))) rfl (vp_in_iff.mpr ⟨by omega, by omega⟩) dX7_kin_26 ?_
      refine W.eq (g2 := F0 m 27 ls [.ref (ad (25 + x0.toNatClampNeg))]) (by rw [if_pos hx_5, show 15 + 10 + x0.toNatClampNeg = 25 + x0.toNatClampNeg from by omega]; rfl) ?_
      refine lv_astore (lv' := [(4, .ref (ad (25 + x0.toNatClampNeg))), (0, .ref (ad 0)), (1, .int x0), (2, .int x1), (3, .int 0)]) hx hb dX7_kin_27 hl (by decide) rfl (fun ls hl => ?_)
      refine lv_aload hx hb dX7_kin_29 (lv_at hl 0 rfl) ?_
      refine va_get (D := (dC, dI)) (ci := 2) (v := .int (v (25 + x0.toNatClampNeg) 2)) (C := RX2) (T := TX2) (N := 3) hx hb hts iwX7_kin_X2 hown hK hP (25 + x0.toNatClampNeg) (wl_at (by omega) (ce_8 (kd_m _ hx_5).1)) rfl 2 (by decide) (hts (.fieldLink RX7 69 "QuietStairs$Mediator" "kinBits" "I") fwX7_kin_3) (fun _ h9 => h9) rfl dX7_kin_31 ?_
      refine lv_topi (fun x_6 ex_6 => ?_)
      have qx_6 : x_6.toInt = (v (25 + x0.toNatClampNeg) (2)).toInt := congrArg Int32.toInt ex_6
      refine lv_iload_n hx hb dX7_kin_34 rfl (lv_at hl 3 rfl) ?_
      refine yc_p hP hS (va_runS (As := [.int x_6, .int x1]) (rest := []) ⟨hx, hb, hml, hown, hts⟩ (e_X7_hasBit l x_6 x1) (cwS 2 hts gX7_kin_X7_hasBit rfl rfl rfl hd_S_X7_hasBit_2 ⟨Nat.le_of_ble_eq_true rfl, Nat.le_of_ble_eq_true rfl⟩) ex_preP rfl rfl hl.1 rfl (lv_room (Nat.le_of_ble_eq_true rfl)) dX7_kin_35 ⟨Nat.le_of_ble_eq_true rfl, Nat.le_of_ble_eq_true rfl⟩) (fun r_7 H locs hw_7 hP hS => ?_)
      rcases hw_7 with ⟨rfl, hh_8⟩ | ⟨rfl, hh_8⟩
      · have hd_8 : (btx (v (25 + x0.toNatClampNeg) 2) x1).toInt = 1 := by rw [← ex_6]; exact hh_8
        refine lv_iload_n hx hb dX7_kin_38 rfl (lv_at hl 4 rfl) ?_
        refine lv_icmp_ne (tgt := 44) hx hb dX7_kin_39 (by decide) (fun _ => ?_) (fun c9 => absurd c9 (by decide))
        refine lv_aload hx hb dX7_kin_44 (lv_at hl 0 rfl) ?_
        refine lv_dup hx hb dX7_kin_46 rfl ?_
        refine va_get (D := (dC, dI)) (ci := 2) (v := .int (v (25 + x0.toNatClampNeg) 2)) (C := RX2) (T := TX2) (N := 3) hx hb hts iwX7_kin_X2 hown hK hP (25 + x0.toNatClampNeg) (wl_at (by omega) (ce_8 (kd_m _ hx_5).1)) rfl 2 (by decide) (hts (.fieldLink RX7 69 "QuietStairs$Mediator" "kinBits" "I") fwX7_kin_3) (fun _ h9 => h9) rfl dX7_kin_47 ?_
        refine lv_topi (fun x_9 ex_9 => ?_)
        obtain rfl : x_6 = x_9 := (ex_9.trans ex_6.symm).symm
        refine lv_iconst (v := 1) hx hb dX7_kin_50 (by decide) ?_
        refine lv_iload_n hx hb dX7_kin_51 rfl (lv_at hl 3 rfl) ?_
        refine lv_ishl hx hb dX7_kin_52 ?_
        refine lv_topi (fun x_10 ex_10 => ?_)
        refine lv_ixor hx hb dX7_kin_53 ?_
        refine lv_topi (fun x_11 ex_11 => ?_)
        refine va_put (D := (dC, dI)) (ci := 2) (v := .int x_11) (ty := .int) (C := RX2) (T := TX2) (N := 3) hx hb hts iwX7_kin_X2 tyX2 tyX2_ok nmX2 hown hK hP hD hS (25 + x0.toNatClampNeg) (wl_at (by omega) (ce_8 (kd_m _ hx_5).1)) rfl 2 (by decide) (hts (.fieldLink RX7 69 "QuietStairs$Mediator" "kinBits" "I") fwX7_kin_3) (fun _ h9 => h9) rfl (by decide +kernel) rfl rfl (Nat.le_of_ble_eq_true rfl) dX7_kin_54 (fun H locs hP hD hS => ?_)
        obtain ⟨v_12, ev_12⟩ : ∃ u : Nat → Nat → Int32, u = upr v (25 + x0.toNatClampNeg) (upd (v (25 + x0.toNatClampNeg)) 2 x_11) := ⟨_, rfl⟩
        have hP : va_P (dC, dI) vwCl (wl ad kv cy N v_12) H := by rw [ev_12, ← wl_put (e := _) (ce_8 (kd_m _ hx_5).1)]; exact hP
        have hD : va_D A (wl ad kv cy N v_12) := by rw [ev_12, ← wl_put (e := _) (ce_8 (kd_m _ hx_5).1)]; exact hD
        have hv : Iv v_12 := by rw [ev_12]; exact hv.put (K := 8) (kd_m _ hx_5).1 (fun h q => by simp [bd] at q)
        refine lv_iconst (v := 1) hx hb dX7_kin_57 (by decide) ?_
        have hpost : (¬ ((0 ≤ x0.toInt ∧ x0.toInt < (v 13 1).toInt) ∧ 0 ≤ x1.toInt ∧ x1.toInt < (v 13 0).toInt) → (1 : Int32) = -1 ∧ v_12 = v) ∧ (((0 ≤ x0.toInt ∧ x0.toInt < (v 13 1).toInt) ∧ 0 ≤ x1.toInt ∧ x1.toInt < (v 13 0).toInt) ∧ (btx (v (25 + x0.toNatClampNeg) 2) x1).toInt = 1 → (1 : Int32) = 1 ∧ (∀ k j : Nat, v_12 k j = if k = 25 + x0.toNatClampNeg ∧ j = 2 then v (25 + x0.toNatClampNeg) 2 ^^^ (1 <<< (x1 &&& 31)) else v k j)) ∧ (((0 ≤ x0.toInt ∧ x0.toInt < (v 13 1).toInt) ∧ 0 ≤ x1.toInt ∧ x1.toInt < (v 13 0).toInt) ∧ (btx (v (25 + x0.toNatClampNeg) 2) x1).toInt ≠ 1 → (1 : Int32) = 0 ∧ v_12 = v) := by
          refine ⟨fun hq => ?_, fun hq => ?_, fun hq => ?_⟩
          · exfalso; omega
          · exact ⟨rfl, fun k j => by rw [ev_12, up2, ex_11, ex_6, ex_10]⟩
          · exfalso; omega
        exact W.iret (v := 1) hx hb hr (fun t ht hW => ⟨⟨1, v_12, rfl, ⟨hv, hpost⟩, by rw [ht]; exact hP, hD⟩, hS.F ht⟩) hS.2.2 dX7_kin_58
      · have hd_8 : (btx (v (25 + x0.toNatClampNeg) 2) x1).toInt ≠ 1 := by rw [← ex_6]; exact hh_8
        refine lv_iload_n hx hb dX7_kin_38 rfl (lv_at hl 4 rfl) ?_
        refine lv_icmp_ne (tgt := 44) hx hb dX7_kin_39 (by decide) (fun c9 => absurd c9 (by decide)) (fun _ => ?_)
        refine lv_iconst (v := 0) hx hb dX7_kin_42 (by decide) ?_
        have hpost : (¬ ((0 ≤ x0.toInt ∧ x0.toInt < (v 13 1).toInt) ∧ 0 ≤ x1.toInt ∧ x1.toInt < (v 13 0).toInt) → (0 : Int32) = -1 ∧ v = v) ∧ (((0 ≤ x0.toInt ∧ x0.toInt < (v 13 1).toInt) ∧ 0 ≤ x1.toInt ∧ x1.toInt < (v 13 0).toInt) ∧ (btx (v (25 + x0.toNatClampNeg) 2) x1).toInt = 1 → (0 : Int32) = 1 ∧ (∀ k j : Nat, v k j = if k = 25 + x0.toNatClampNeg ∧ j = 2 then v (25 + x0.toNatClampNeg) 2 ^^^ (1 <<< (x1 &&& 31)) else v k j)) ∧ (((0 ≤ x0.toInt ∧ x0.toInt < (v 13 1).toInt) ∧ 0 ≤ x1.toInt ∧ x1.toInt < (v 13 0).toInt) ∧ (btx (v (25 + x0.toNatClampNeg) 2) x1).toInt ≠ 1 → (0 : Int32) = 0 ∧ v = v) := by
          refine ⟨fun hq => ?_, fun hq => ?_, fun hq => ?_⟩
          · exfalso; omega
          · exfalso; omega
          · exact ⟨rfl, rfl⟩
        exact W.iret (v := 0) hx hb hr (fun t ht hW => ⟨⟨0, v, rfl, ⟨hv, hpost⟩, by rw [ht]; exact hP, hD⟩, hS.F ht⟩) hS.2.2 dX7_kin_43
    · refine lv_if_ne (tgt := 18) hx hb dX7_kin_13 (by decide) (fun c9 => absurd c9 (by decide)) (fun _ => ?_)
      refine lv_iconst (v := (-1)) hx hb dX7_kin_16 (by decide) ?_
      have hpost : (¬ ((0 ≤ x0.toInt ∧ x0.toInt < (v 13 1).toInt) ∧ 0 ≤ x1.toInt ∧ x1.toInt < (v 13 0).toInt) → ((-1) : Int32) = -1 ∧ v = v) ∧ (((0 ≤ x0.toInt ∧ x0.toInt < (v 13 1).toInt) ∧ 0 ≤ x1.toInt ∧ x1.toInt < (v 13 0).toInt) ∧ (btx (v (25 + x0.toNatClampNeg) 2) x1).toInt = 1 → ((-1) : Int32) = 1 ∧ (∀ k j : Nat, v k j = if k = 25 + x0.toNatClampNeg ∧ j = 2 then v (25 + x0.toNatClampNeg) 2 ^^^ (1 <<< (x1 &&& 31)) else v k j)) ∧ (((0 ≤ x0.toInt ∧ x0.toInt < (v 13 1).toInt) ∧ 0 ≤ x1.toInt ∧ x1.toInt < (v 13 0).toInt) ∧ (btx (v (25 + x0.toNatClampNeg) 2) x1).toInt ≠ 1 → ((-1) : Int32) = 0 ∧ v = v) := by
        refine ⟨fun hq => ?_, fun hq => ?_, fun hq => ?_⟩
        · exact ⟨rfl, rfl⟩
        · exfalso; omega
        · exfalso; omega
      exact W.iret (v := (-1)) hx hb hr (fun t ht hW => ⟨⟨(-1), v, rfl, ⟨hv, hpost⟩, by rw [ht]; exact hP, hD⟩, hS.F ht⟩) hS.2.2 dX7_kin_17
  · refine lv_if_eq (tgt := 16) hx hb dX7_kin_5 (by decide) (fun _ => ?_) (fun c9 => absurd c9 (by decide))
    refine lv_iconst (v := (-1)) hx hb dX7_kin_16 (by decide) ?_
    have hpost : (¬ ((0 ≤ x0.toInt ∧ x0.toInt < (v 13 1).toInt) ∧ 0 ≤ x1.toInt ∧ x1.toInt < (v 13 0).toInt) → ((-1) : Int32) = -1 ∧ v = v) ∧ (((0 ≤ x0.toInt ∧ x0.toInt < (v 13 1).toInt) ∧ 0 ≤ x1.toInt ∧ x1.toInt < (v 13 0).toInt) ∧ (btx (v (25 + x0.toNatClampNeg) 2) x1).toInt = 1 → ((-1) : Int32) = 1 ∧ (∀ k j : Nat, v k j = if k = 25 + x0.toNatClampNeg ∧ j = 2 then v (25 + x0.toNatClampNeg) 2 ^^^ (1 <<< (x1 &&& 31)) else v k j)) ∧ (((0 ≤ x0.toInt ∧ x0.toInt < (v 13 1).toInt) ∧ 0 ≤ x1.toInt ∧ x1.toInt < (v 13 0).toInt) ∧ (btx (v (25 + x0.toNatClampNeg) 2) x1).toInt ≠ 1 → ((-1) : Int32) = 0 ∧ v = v) := by
      refine ⟨fun hq => ?_, fun hq => ?_, fun hq => ?_⟩
      · exact ⟨rfl, rfl⟩
      · exfalso; omega
      · exfalso; omega
    exact W.iret (v := (-1)) hx hb hr (fun t ht hW => ⟨⟨(-1), v, rfl, ⟨hv, hpost⟩, by rw [ht]; exact hP, hD⟩, hS.F ht⟩) hS.2.2 dX7_kin_17

set_option maxHeartbeats 4000000 in
set_option maxRecDepth 100000 in
theorem e_X7_kin_1 (l : Launch) (dC : Nat → ClassId) (dI : Nat → Nat → Nat) (cy : Nat → ClassId) (sz : Nat) (ad : Nat → Nat) (kv : Value) (N : Nat) (hN : 119 ≤ N) (v : Nat → Nat → Int32) (hv : Iv v) (x0 x1 : Int32) : Met l yX7_kin wsX7_kin ({ frames := 3, cells := 0, slots := 0, locals := 192 }) (va_Pc [.ref (ad 0), .int x0, .int x1, .int 1] (ex_Pre dC dI cy sz (wl ad kv cy N v))) (va_Qi (fun (r : Int32) (u : Nat → Nat → Int32) => Iv u ∧ (¬ ((0 ≤ x0.toInt ∧ x0.toInt < (v 13 1).toInt) ∧ 0 ≤ x1.toInt ∧ x1.toInt < (v 13 0).toInt) → r = -1 ∧ u = v) ∧ (((0 ≤ x0.toInt ∧ x0.toInt < (v 13 1).toInt) ∧ 0 ≤ x1.toInt ∧ x1.toInt < (v 13 0).toInt) ∧ (btx (v (25 + x0.toNatClampNeg) 2) x1).toInt = 1 → r = 0 ∧ u = v) ∧ (((0 ≤ x0.toInt ∧ x0.toInt < (v 13 1).toInt) ∧ 0 ≤ x1.toInt ∧ x1.toInt < (v 13 0).toInt) ∧ (btx (v (25 + x0.toNatClampNeg) 2) x1).toInt ≠ 1 → r = 1 ∧ (∀ k j : Nat, u k j = if k = 25 + x0.toNatClampNeg ∧ j = 2 then v (25 + x0.toNatClampNeg) 2 ^^^ (1 <<< (x1 &&& 31)) else v k j))) (fun u t => ex_Pst dC dI (va_A (wl ad kv cy N v) sz) (wl ad kv cy N u) t) (va_A (wl ad kv cy N v) sz)) 0 0 (va_A (wl ad kv cy N v) sz) := by
  refine Met.ofW (cc := cX7_kin) (maxL := 5) (ret := (some .int)) (by decide) rfl ?_
  intro p e s m args below meth c s₁ B hml hv
  obtain ⟨rfl, hsz, hE, hP, hK, hD0⟩ := hv
  have hx := B.exec
  have hb := B.bytes
  have hr := B.returns
  have hts := atoms_spec (ws := wsX7_kin) B.pre
  have hown : s.vm.findClass RX7 = some m.cls := findClass_of_methodNamed B.named
  have hlocks := B.notSynchronized
  subst hsz
  have hD := hD0.self (sz := s.heap.size)
  generalize hAe : va_A (wl ad kv cy N v) s.heap.size = A at hD ⊢
  have hA : ∀ q : Nat, s.heap.size ≤ q → A q := fun q h => by rw [← hAe]; exact Or.inr h
  have hS : va_S A s.heap s.heap [] := va_S.rf
  have hP : va_P (dC, dI) vwCl (wl ad kv cy N v) s.heap := hP
  have hl := lv_entry ([.ref (ad 0), .int x0, .int x1, .int 1]) (n := 5) (Nat.le_of_ble_eq_true rfl)
  rw [lg_entry_eq]
  generalize (lg_sl ([.ref (ad 0), .int x0, .int x1, .int 1]) ++ List.replicate (5 - (lg_sl ([.ref (ad 0), .int x0, .int x1, .int 1])).length) Slot.unset).toArray = ls at hl ⊢
  have hl : lv_has ls 5 [(0, .ref (ad 0)), (1, .int x0), (2, .int x1), (3, .int 1)] := hl
  refine lv_aload_n hx hb dX7_kin_0 rfl (lv_at hl 0 rfl) ?_
  refine lv_iload_n hx hb dX7_kin_1 rfl (lv_at hl 1 rfl) ?_
  refine yw_i (w1 := fun (u : Nat → Nat → Int32) => wl ad kv cy N u) hD hS hA (va_runV (As := [.int x0]) (rest := []) ⟨hx, hb, hml, hown, hts⟩ (g_X7_isMediator l dC dI cy _ ad kv N hN v hv x0) (cwV 1 hts gX7_kin_X7_isMediator rfl rfl rfl hd_V_X7_isMediator_1 ⟨Nat.le_of_ble_eq_true rfl, Nat.le_of_ble_eq_true rfl⟩) (yw_preV hE hK hP hD (ci := 7) (q := (RX7, TX7, 5)) (q0 := 0) rfl (wl_at (by omega) (ce_0 (by decide)))) rfl rfl hl.1 rfl (lv_room (Nat.le_of_ble_eq_true rfl)) dX7_kin_2 ⟨Nat.le_of_ble_eq_true rfl, Nat.le_of_ble_eq_true rfl⟩) (fun r_1 v_1 H locs hw_1 hP hD hS => ?_)
  obtain ⟨-, hu_1, hw_1⟩ := hw_1
  replace hu_1 := hu_1.symm
  subst hu_1
  rcases hw_1 with ⟨rfl, ha_2⟩ | ⟨rfl, ha_2⟩
  · have hb_2 := hv.at (k := 13) (j := 1) (K := 3) (by decide) rfl
    have hj_2 : 0 ≤ x0.toInt ∧ x0.toInt ≤ 3 := ⟨by omega, by omega⟩
    refine lv_if_eq (tgt := 16) hx hb dX7_kin_5 (by decide) (fun c9 => absurd c9 (by decide)) (fun _ => ?_)
    refine lv_aload_n hx hb dX7_kin_8 rfl (lv_at hl 0 rfl) ?_
    refine lv_iload_n hx hb dX7_kin_9 rfl (lv_at hl 2 rfl) ?_
    refine yw_i (w1 := fun (u : Nat → Nat → Int32) => wl ad kv cy N u) hD hS hA (va_runV (As := [.int x1]) (rest := []) ⟨hx, hb, hml, hown, hts⟩ (g_X7_isParty l dC dI cy _ ad kv N hN v hv x1) (cwV 1 hts gX7_kin_X7_isParty rfl rfl rfl hd_V_X7_isParty_1 ⟨Nat.le_of_ble_eq_true rfl, Nat.le_of_ble_eq_true rfl⟩) (yw_preV hE hK hP hD (ci := 7) (q := (RX7, TX7, 5)) (q0 := 0) rfl (wl_at (by omega) (ce_0 (by decide)))) rfl rfl hl.1 rfl (lv_room (Nat.le_of_ble_eq_true rfl)) dX7_kin_10 ⟨Nat.le_of_ble_eq_true rfl, Nat.le_of_ble_eq_true rfl⟩) (fun r_3 v_3 H locs hw_3 hP hD hS => ?_)
    obtain ⟨-, hu_3, hw_3⟩ := hw_3
    replace hu_3 := hu_3.symm
    subst hu_3
    rcases hw_3 with ⟨rfl, ha_4⟩ | ⟨rfl, ha_4⟩
    · have hb_4 := hv.at (k := 13) (j := 0) (K := 3) (by decide) rfl
      have hj_4 : 0 ≤ x1.toInt ∧ x1.toInt ≤ 7 := ⟨by omega, by omega⟩
      refine lv_if_ne (tgt := 18) hx hb dX7_kin_13 (by decide) (fun _ => ?_) (fun c9 => absurd c9 (by decide))
      refine lv_aload_n hx hb dX7_kin_18 rfl (lv_at hl 0 rfl) ?_
      refine va_get (D := (dC, dI)) (ci := 7) (v := .ref (ad 13)) (C := RX7) (T := TX7) (N := 5) hx hb hts iwX7_kin_X7 hown hK hP (0) (wl_at (by omega) (ce_0 (by decide))) rfl 0 (by decide) (hts (.fieldLink RX7 12 "QuietStairs" "now" "LQuietStairs$House;") fwX7_kin_1) (fun _ h9 => h9) rfl dX7_kin_19 ?_
      refine va_get (D := (dC, dI)) (ci := 1) (v := .ref (ad 15)) (C := RX1) (T := TX1) (N := 7) hx hb hts iwX7_kin_X1 hown hK hP (13) (wl_at (by omega) (ce_3 (by decide))) rfl 5 (by decide) (hts (.fieldLink RX7 59 "QuietStairs$House" "mediators" "[LQuietStairs$Mediator;") fwX7_kin_2) (fun _ h9 => h9) rfl dX7_kin_22 ?_
      refine lv_iload_n hx hb dX7_kin_25 rfl (lv_at hl 1 rfl) ?_
      have zn_x0 : (x0.toNatClampNeg : Int) = x0.toInt := t_nn (by omega)
      have hx_5 : x0.toNatClampNeg < 4 := by omega
      refine va_aldq hx hb hK hP (15) 2 (wl_at (by omega) (ce_5 (by decide))) rfl (vp_in_iff.mpr ⟨by omega, by omega⟩) dX7_kin_26 ?_
      refine W.eq (g2 := F0 m 27 ls [.ref (ad (25 + x0.toNatClampNeg))]) (by rw [if_pos hx_5, show 15 + 10 + x0.toNatClampNeg = 25 + x0.toNatClampNeg from by omega]; rfl) ?_
      refine lv_astore (lv' := [(4, .ref (ad (25 + x0.toNatClampNeg))), (0, .ref (ad 0)), (1, .int x0), (2, .int x1), (3, .int 1)]) hx hb dX7_kin_27 hl (by decide) rfl (fun ls hl => ?_)
      refine lv_aload hx hb dX7_kin_29 (lv_at hl 0 rfl) ?_
      refine va_get (D := (dC, dI)) (ci := 2) (v := .int (v (25 + x0.toNatClampNeg) 2)) (C := RX2) (T := TX2) (N := 3) hx hb hts iwX7_kin_X2 hown hK hP (25 + x0.toNatClampNeg) (wl_at (by omega) (ce_8 (kd_m _ hx_5).1)) rfl 2 (by decide) (hts (.fieldLink RX7 69 "QuietStairs$Mediator" "kinBits" "I") fwX7_kin_3) (fun _ h9 => h9) rfl dX7_kin_31 ?_
      refine lv_topi (fun x_6 ex_6 => ?_)
      have qx_6 : x_6.toInt = (v (25 + x0.toNatClampNeg) (2)).toInt := congrArg Int32.toInt ex_6
      refine lv_iload_n hx hb dX7_kin_34 rfl (lv_at hl 3 rfl) ?_
      refine yc_p hP hS (va_runS (As := [.int x_6, .int x1]) (rest := []) ⟨hx, hb, hml, hown, hts⟩ (e_X7_hasBit l x_6 x1) (cwS 2 hts gX7_kin_X7_hasBit rfl rfl rfl hd_S_X7_hasBit_2 ⟨Nat.le_of_ble_eq_true rfl, Nat.le_of_ble_eq_true rfl⟩) ex_preP rfl rfl hl.1 rfl (lv_room (Nat.le_of_ble_eq_true rfl)) dX7_kin_35 ⟨Nat.le_of_ble_eq_true rfl, Nat.le_of_ble_eq_true rfl⟩) (fun r_7 H locs hw_7 hP hS => ?_)
      rcases hw_7 with ⟨rfl, hh_8⟩ | ⟨rfl, hh_8⟩
      · have hd_8 : (btx (v (25 + x0.toNatClampNeg) 2) x1).toInt = 1 := by rw [← ex_6]; exact hh_8
        refine lv_iload_n hx hb dX7_kin_38 rfl (lv_at hl 4 rfl) ?_
        refine lv_icmp_ne (tgt := 44) hx hb dX7_kin_39 (by decide) (fun c9 => absurd c9 (by decide)) (fun _ => ?_)
        refine lv_iconst (v := 0) hx hb dX7_kin_42 (by decide) ?_
        have hpost : (¬ ((0 ≤ x0.toInt ∧ x0.toInt < (v 13 1).toInt) ∧ 0 ≤ x1.toInt ∧ x1.toInt < (v 13 0).toInt) → (0 : Int32) = -1 ∧ v = v) ∧ (((0 ≤ x0.toInt ∧ x0.toInt < (v 13 1).toInt) ∧ 0 ≤ x1.toInt ∧ x1.toInt < (v 13 0).toInt) ∧ (btx (v (25 + x0.toNatClampNeg) 2) x1).toInt = 1 → (0 : Int32) = 0 ∧ v = v) ∧ (((0 ≤ x0.toInt ∧ x0.toInt < (v 13 1).toInt) ∧ 0 ≤ x1.toInt ∧ x1.toInt < (v 13 0).toInt) ∧ (btx (v (25 + x0.toNatClampNeg) 2) x1).toInt ≠ 1 → (0 : Int32) = 1 ∧ (∀ k j : Nat, v k j = if k = 25 + x0.toNatClampNeg ∧ j = 2 then v (25 + x0.toNatClampNeg) 2 ^^^ (1 <<< (x1 &&& 31)) else v k j)) := by
          refine ⟨fun hq => ?_, fun hq => ?_, fun hq => ?_⟩
          · exfalso; omega
          · exact ⟨rfl, rfl⟩
          · exfalso; omega
        exact W.iret (v := 0) hx hb hr (fun t ht hW => ⟨⟨0, v, rfl, ⟨hv, hpost⟩, by rw [ht]; exact hP, hD⟩, hS.F ht⟩) hS.2.2 dX7_kin_43
      · have hd_8 : (btx (v (25 + x0.toNatClampNeg) 2) x1).toInt ≠ 1 := by rw [← ex_6]; exact hh_8
        refine lv_iload_n hx hb dX7_kin_38 rfl (lv_at hl 4 rfl) ?_
        refine lv_icmp_ne (tgt := 44) hx hb dX7_kin_39 (by decide) (fun _ => ?_) (fun c9 => absurd c9 (by decide))
        refine lv_aload hx hb dX7_kin_44 (lv_at hl 0 rfl) ?_
        refine lv_dup hx hb dX7_kin_46 rfl ?_
        refine va_get (D := (dC, dI)) (ci := 2) (v := .int (v (25 + x0.toNatClampNeg) 2)) (C := RX2) (T := TX2) (N := 3) hx hb hts iwX7_kin_X2 hown hK hP (25 + x0.toNatClampNeg) (wl_at (by omega) (ce_8 (kd_m _ hx_5).1)) rfl 2 (by decide) (hts (.fieldLink RX7 69 "QuietStairs$Mediator" "kinBits" "I") fwX7_kin_3) (fun _ h9 => h9) rfl dX7_kin_47 ?_
        refine lv_topi (fun x_9 ex_9 => ?_)
        obtain rfl : x_6 = x_9 := (ex_9.trans ex_6.symm).symm
        refine lv_iconst (v := 1) hx hb dX7_kin_50 (by decide) ?_
        refine lv_iload_n hx hb dX7_kin_51 rfl (lv_at hl 3 rfl) ?_
        refine lv_ishl hx hb dX7_kin_52 ?_
        refine lv_topi (fun x_10 ex_10 => ?_)
        refine lv_ixor hx hb dX7_kin_53 ?_
        refine lv_topi (fun x_11 ex_11 => ?_)
        refine va_put (D := (dC, dI)) (ci := 2) (v := .int x_11) (ty := .int) (C := RX2) (T := TX2) (N := 3) hx hb hts iwX7_kin_X2 tyX2 tyX2_ok nmX2 hown hK hP hD hS (25 + x0.toNatClampNeg) (wl_at (by omega) (ce_8 (kd_m _ hx_5).1)) rfl 2 (by decide) (hts (.fieldLink RX7 69 "QuietStairs$Mediator" "kinBits" "I") fwX7_kin_3) (fun _ h9 => h9) rfl (by decide +kernel) rfl rfl (Nat.le_of_ble_eq_true rfl) dX7_kin_54 (fun H locs hP hD hS => ?_)
        obtain ⟨v_12, ev_12⟩ : ∃ u : Nat → Nat → Int32, u = upr v (25 + x0.toNatClampNeg) (upd (v (25 + x0.toNatClampNeg)) 2 x_11) := ⟨_, rfl⟩
        have hP : va_P (dC, dI) vwCl (wl ad kv cy N v_12) H := by rw [ev_12, ← wl_put (e := _) (ce_8 (kd_m _ hx_5).1)]; exact hP
        have hD : va_D A (wl ad kv cy N v_12) := by rw [ev_12, ← wl_put (e := _) (ce_8 (kd_m _ hx_5).1)]; exact hD
        have hv : Iv v_12 := by rw [ev_12]; exact hv.put (K := 8) (kd_m _ hx_5).1 (fun h q => by simp [bd] at q)
        refine lv_iconst (v := 1) hx hb dX7_kin_57 (by decide) ?_
        have hpost : (¬ ((0 ≤ x0.toInt ∧ x0.toInt < (v 13 1).toInt) ∧ 0 ≤ x1.toInt ∧ x1.toInt < (v 13 0).toInt) → (1 : Int32) = -1 ∧ v_12 = v) ∧ (((0 ≤ x0.toInt ∧ x0.toInt < (v 13 1).toInt) ∧ 0 ≤ x1.toInt ∧ x1.toInt < (v 13 0).toInt) ∧ (btx (v (25 + x0.toNatClampNeg) 2) x1).toInt = 1 → (1 : Int32) = 0 ∧ v_12 = v) ∧ (((0 ≤ x0.toInt ∧ x0.toInt < (v 13 1).toInt) ∧ 0 ≤ x1.toInt ∧ x1.toInt < (v 13 0).toInt) ∧ (btx (v (25 + x0.toNatClampNeg) 2) x1).toInt ≠ 1 → (1 : Int32) = 1 ∧ (∀ k j : Nat, v_12 k j = if k = 25 + x0.toNatClampNeg ∧ j = 2 then v (25 + x0.toNatClampNeg) 2 ^^^ (1 <<< (x1 &&& 31)) else v k j)) := by
          refine ⟨fun hq => ?_, fun hq => ?_, fun hq => ?_⟩
          · exfalso; omega
          · exfalso; omega
          · exact ⟨rfl, fun k j => by rw [ev_12, up2, ex_11, ex_6, ex_10]⟩
        exact W.iret (v := 1) hx hb hr (fun t ht hW => ⟨⟨1, v_12, rfl, ⟨hv, hpost⟩, by rw [ht]; exact hP, hD⟩, hS.F ht⟩) hS.2.2 dX7_kin_58
    · refine lv_if_ne (tgt := 18) hx hb dX7_kin_13 (by decide) (fun c9 => absurd c9 (by decide)) (fun _ => ?_)
      refine lv_iconst (v := (-1)) hx hb dX7_kin_16 (by decide) ?_
      have hpost : (¬ ((0 ≤ x0.toInt ∧ x0.toInt < (v 13 1).toInt) ∧ 0 ≤ x1.toInt ∧ x1.toInt < (v 13 0).toInt) → ((-1) : Int32) = -1 ∧ v = v) ∧ (((0 ≤ x0.toInt ∧ x0.toInt < (v 13 1).toInt) ∧ 0 ≤ x1.toInt ∧ x1.toInt < (v 13 0).toInt) ∧ (btx (v (25 + x0.toNatClampNeg) 2) x1).toInt = 1 → ((-1) : Int32) = 0 ∧ v = v) ∧ (((0 ≤ x0.toInt ∧ x0.toInt < (v 13 1).toInt) ∧ 0 ≤ x1.toInt ∧ x1.toInt < (v 13 0).toInt) ∧ (btx (v (25 + x0.toNatClampNeg) 2) x1).toInt ≠ 1 → ((-1) : Int32) = 1 ∧ (∀ k j : Nat, v k j = if k = 25 + x0.toNatClampNeg ∧ j = 2 then v (25 + x0.toNatClampNeg) 2 ^^^ (1 <<< (x1 &&& 31)) else v k j)) := by
        refine ⟨fun hq => ?_, fun hq => ?_, fun hq => ?_⟩
        · exact ⟨rfl, rfl⟩
        · exfalso; omega
        · exfalso; omega
      exact W.iret (v := (-1)) hx hb hr (fun t ht hW => ⟨⟨(-1), v, rfl, ⟨hv, hpost⟩, by rw [ht]; exact hP, hD⟩, hS.F ht⟩) hS.2.2 dX7_kin_17
  · refine lv_if_eq (tgt := 16) hx hb dX7_kin_5 (by decide) (fun _ => ?_) (fun c9 => absurd c9 (by decide))
    refine lv_iconst (v := (-1)) hx hb dX7_kin_16 (by decide) ?_
    have hpost : (¬ ((0 ≤ x0.toInt ∧ x0.toInt < (v 13 1).toInt) ∧ 0 ≤ x1.toInt ∧ x1.toInt < (v 13 0).toInt) → ((-1) : Int32) = -1 ∧ v = v) ∧ (((0 ≤ x0.toInt ∧ x0.toInt < (v 13 1).toInt) ∧ 0 ≤ x1.toInt ∧ x1.toInt < (v 13 0).toInt) ∧ (btx (v (25 + x0.toNatClampNeg) 2) x1).toInt = 1 → ((-1) : Int32) = 0 ∧ v = v) ∧ (((0 ≤ x0.toInt ∧ x0.toInt < (v 13 1).toInt) ∧ 0 ≤ x1.toInt ∧ x1.toInt < (v 13 0).toInt) ∧ (btx (v (25 + x0.toNatClampNeg) 2) x1).toInt ≠ 1 → ((-1) : Int32) = 1 ∧ (∀ k j : Nat, v k j = if k = 25 + x0.toNatClampNeg ∧ j = 2 then v (25 + x0.toNatClampNeg) 2 ^^^ (1 <<< (x1 &&& 31)) else v k j)) := by
      refine ⟨fun hq => ?_, fun hq => ?_, fun hq => ?_⟩
      · exact ⟨rfl, rfl⟩
      · exfalso; omega
      · exfalso; omega
    exact W.iret (v := (-1)) hx hb hr (fun t ht hW => ⟨⟨(-1), v, rfl, ⟨hv, hpost⟩, by rw [ht]; exact hP, hD⟩, hS.F ht⟩) hS.2.2 dX7_kin_17

set_option maxHeartbeats 4000000 in
set_option maxRecDepth 100000 in
theorem e_X7_party (l : Launch) (dC : Nat → ClassId) (dI : Nat → Nat → Nat) (cy : Nat → ClassId) (sz : Nat) (ad : Nat → Nat) (kv : Value) (N : Nat) (hN : 119 ≤ N) (v : Nat → Nat → Int32) (hv : Iv v) (x0 x1 : Int32) : Met l yX7_party wsX7_party ({ frames := 3, cells := 0, slots := 0, locals := 192 }) (va_Pc [.ref (ad 0), .int x0, .int x1] (ex_Pre dC dI cy sz (wl ad kv cy N v))) (va_Qi (fun (r : Int32) (u : Nat → Nat → Int32) => Iv u ∧ (¬ ((0 ≤ x0.toInt ∧ x0.toInt ≤ 9) ∧ 0 ≤ x1.toInt ∧ x1.toInt ≤ 2) → r = -1 ∧ u = v) ∧ (((0 ≤ x0.toInt ∧ x0.toInt ≤ 9) ∧ 0 ≤ x1.toInt ∧ x1.toInt ≤ 2) ∧ 8 ≤ (v 13 0).toInt → r = -2 ∧ u = v) ∧ (((0 ≤ x0.toInt ∧ x0.toInt ≤ 9) ∧ 0 ≤ x1.toInt ∧ x1.toInt ≤ 2) ∧ (v 13 0).toInt < 8 → r = v 13 0 ∧ (∀ k j : Nat, u k j = if k = 13 ∧ j = 0 then v 13 0 + 1 else if k = 17 + (v 13 0).toNatClampNeg ∧ j = 1 then x1 else if k = 17 + (v 13 0).toNatClampNeg ∧ j = 0 then x0 else v k j))) (fun u t => ex_Pst dC dI (va_A (wl ad kv cy N v) sz) (wl ad kv cy N u) t) (va_A (wl ad kv cy N v) sz)) 0 0 (va_A (wl ad kv cy N v) sz) := by
  refine Met.ofW (cc := cX7_party) (maxL := 4) (ret := (some .int)) (by decide) rfl ?_
  intro p e s m args below meth c s₁ B hml hv
  obtain ⟨rfl, hsz, hE, hP, hK, hD0⟩ := hv
  have hx := B.exec
  have hb := B.bytes
  have hr := B.returns
  have hts := atoms_spec (ws := wsX7_party) B.pre
  have hown : s.vm.findClass RX7 = some m.cls := findClass_of_methodNamed B.named
  have hlocks := B.notSynchronized
  subst hsz
  have hD := hD0.self (sz := s.heap.size)
  generalize hAe : va_A (wl ad kv cy N v) s.heap.size = A at hD ⊢
  have hA : ∀ q : Nat, s.heap.size ≤ q → A q := fun q h => by rw [← hAe]; exact Or.inr h
  have hS : va_S A s.heap s.heap [] := va_S.rf
  have hP : va_P (dC, dI) vwCl (wl ad kv cy N v) s.heap := hP
  have hl := lv_entry ([.ref (ad 0), .int x0, .int x1]) (n := 4) (Nat.le_of_ble_eq_true rfl)
  rw [lg_entry_eq]
  generalize (lg_sl ([.ref (ad 0), .int x0, .int x1]) ++ List.replicate (4 - (lg_sl ([.ref (ad 0), .int x0, .int x1])).length) Slot.unset).toArray = ls at hl ⊢
  have hl : lv_has ls 4 [(0, .ref (ad 0)), (1, .int x0), (2, .int x1)] := hl
  refine lv_iload_n hx hb dX7_party_0 rfl (lv_at hl 1 rfl) ?_
  refine lv_iconst (v := 0) hx hb dX7_party_1 (by decide) ?_
  refine lv_bipush (v := 9) hx hb dX7_party_2 (by decide) ?_
  refine yc_p hP hS (va_runS (As := [.int x0, .int 0, .int 9]) (rest := []) ⟨hx, hb, hml, hown, hts⟩ (c_X7_isWithin l x0 0 9) (cwS 3 hts gX7_party_X7_isWithin rfl rfl rfl hd_S_X7_isWithin_3 ⟨Nat.le_of_ble_eq_true rfl, Nat.le_of_ble_eq_true rfl⟩) ex_preP rfl rfl hl.1 rfl (lv_room (Nat.le_of_ble_eq_true rfl)) dX7_party_4 ⟨Nat.le_of_ble_eq_true rfl, Nat.le_of_ble_eq_true rfl⟩) (fun r_1 H locs hw_1 hP hS => ?_)
  rcases wi_ca hw_1 with ⟨rfl, hc_2⟩ | ⟨rfl, hc_2⟩
  · have k_0 : (0 : Int32).toInt = 0 := by decide
    have k_9 : (9 : Int32).toInt = 9 := by decide
    have tc_2 := wi_tl hc_2
    refine lv_if_eq (tgt := 19) hx hb dX7_party_7 (by decide) (fun c9 => absurd c9 (by decide)) (fun _ => ?_)
    refine lv_iload_n hx hb dX7_party_10 rfl (lv_at hl 2 rfl) ?_
    refine lv_iconst (v := 0) hx hb dX7_party_11 (by decide) ?_
    refine lv_iconst (v := 2) hx hb dX7_party_12 (by decide) ?_
    refine yc_p hP hS (va_runS (As := [.int x1, .int 0, .int 2]) (rest := []) ⟨hx, hb, hml, hown, hts⟩ (c_X7_isWithin l x1 0 2) (cwS 3 hts gX7_party_X7_isWithin rfl rfl rfl hd_S_X7_isWithin_3 ⟨Nat.le_of_ble_eq_true rfl, Nat.le_of_ble_eq_true rfl⟩) ex_preP rfl rfl hl.1 rfl (lv_room (Nat.le_of_ble_eq_true rfl)) dX7_party_13 ⟨Nat.le_of_ble_eq_true rfl, Nat.le_of_ble_eq_true rfl⟩) (fun r_3 H locs hw_3 hP hS => ?_)
    rcases wi_ca hw_3 with ⟨rfl, hc_4⟩ | ⟨rfl, hc_4⟩
    · have k_2 : (2 : Int32).toInt = 2 := by decide
      have tc_4 := wi_tl hc_4
      refine lv_if_ne (tgt := 21) hx hb dX7_party_16 (by decide) (fun _ => ?_) (fun c9 => absurd c9 (by decide))
      refine lv_aload_n hx hb dX7_party_21 rfl (lv_at hl 0 rfl) ?_
      refine va_get (D := (dC, dI)) (ci := 7) (v := .ref (ad 13)) (C := RX7) (T := TX7) (N := 5) hx hb hts iwX7_party_X7 hown hK hP (0) (wl_at (by omega) (ce_0 (by decide))) rfl 0 (by decide) (hts (.fieldLink RX7 12 "QuietStairs" "now" "LQuietStairs$House;") fwX7_party_1) (fun _ h9 => h9) rfl dX7_party_22 ?_
      refine va_get (D := (dC, dI)) (ci := 1) (v := .int (v (13) 0)) (C := RX1) (T := TX1) (N := 7) hx hb hts iwX7_party_X1 hown hK hP (13) (wl_at (by omega) (ce_3 (by decide))) rfl 0 (by decide) (hts (.fieldLink RX7 41 "QuietStairs$House" "partyCount" "I") fwX7_party_2) (fun _ h9 => h9) rfl dX7_party_25 ?_
      refine lv_topi (fun x_5 ex_5 => ?_)
      have bzx_5 : 0 ≤ x_5.toInt ∧ x_5.toInt ≤ 8 := by rw [ex_5]; exact hv.at (K := 3) (by decide) rfl
      have qx_5 : x_5.toInt = (v (13) (0)).toInt := congrArg Int32.toInt ex_5
      refine lv_bipush (v := 8) hx hb dX7_party_28 (by decide) ?_
      have k_8 : (8 : Int32).toInt = 8 := by decide
      refine lv_icmp_lt (tgt := 36) hx hb dX7_party_30 (by decide) (fun c_6 => ?_) (fun c_6 => ?_)
      · have tc_6 : x_5.toInt < (8 : Int32).toInt := Int32.lt_iff_toInt_lt.mp c_6
        refine lv_aload_n hx hb dX7_party_36 rfl (lv_at hl 0 rfl) ?_
        refine va_get (D := (dC, dI)) (ci := 7) (v := .ref (ad 13)) (C := RX7) (T := TX7) (N := 5) hx hb hts iwX7_party_X7 hown hK hP (0) (wl_at (by omega) (ce_0 (by decide))) rfl 0 (by decide) (hts (.fieldLink RX7 12 "QuietStairs" "now" "LQuietStairs$House;") fwX7_party_1) (fun _ h9 => h9) rfl dX7_party_37 ?_
        refine va_get (D := (dC, dI)) (ci := 1) (v := .ref (ad 14)) (C := RX1) (T := TX1) (N := 7) hx hb hts iwX7_party_X1 hown hK hP (13) (wl_at (by omega) (ce_3 (by decide))) rfl 4 (by decide) (hts (.fieldLink RX7 44 "QuietStairs$House" "parties" "[LQuietStairs$Party;") fwX7_party_3) (fun _ h9 => h9) rfl dX7_party_40 ?_
        refine lv_aload_n hx hb dX7_party_43 rfl (lv_at hl 0 rfl) ?_
        refine va_get (D := (dC, dI)) (ci := 7) (v := .ref (ad 13)) (C := RX7) (T := TX7) (N := 5) hx hb hts iwX7_party_X7 hown hK hP (0) (wl_at (by omega) (ce_0 (by decide))) rfl 0 (by decide) (hts (.fieldLink RX7 12 "QuietStairs" "now" "LQuietStairs$House;") fwX7_party_1) (fun _ h9 => h9) rfl dX7_party_44 ?_
        refine va_get (D := (dC, dI)) (ci := 1) (v := .int (v (13) 0)) (C := RX1) (T := TX1) (N := 7) hx hb hts iwX7_party_X1 hown hK hP (13) (wl_at (by omega) (ce_3 (by decide))) rfl 0 (by decide) (hts (.fieldLink RX7 41 "QuietStairs$House" "partyCount" "I") fwX7_party_2) (fun _ h9 => h9) rfl dX7_party_47 ?_
        refine lv_topi (fun x_7 ex_7 => ?_)
        have bzx_7 : 0 ≤ x_7.toInt ∧ x_7.toInt ≤ 8 := by rw [ex_7]; exact hv.at (K := 3) (by decide) rfl
        obtain rfl : x_5 = x_7 := (ex_7.trans ex_5.symm).symm
        have zn_x_5 : (x_5.toNatClampNeg : Int) = x_5.toInt := t_nn (by omega)
        have hx_8 : x_5.toNatClampNeg < 8 := by omega
        refine va_aldq hx hb hK hP (14) 1 (wl_at (by omega) (ce_4 (by decide))) rfl (vp_in_iff.mpr ⟨by omega, by omega⟩) dX7_party_50 ?_
        refine W.eq (g2 := F0 m 51 ls [.ref (ad (17 + x_5.toNatClampNeg))]) (by rw [if_pos hx_8, show 14 + 3 + x_5.toNatClampNeg = 17 + x_5.toNatClampNeg from by omega]; rfl) ?_
        refine lv_astore_n (lv' := [(3, .ref (ad (17 + x_5.toNatClampNeg))), (0, .ref (ad 0)), (1, .int x0), (2, .int x1)]) hx hb dX7_party_51 rfl hl (by decide) rfl (fun ls hl => ?_)
        refine lv_aload_n hx hb dX7_party_52 rfl (lv_at hl 0 rfl) ?_
        refine lv_iload_n hx hb dX7_party_53 rfl (lv_at hl 2 rfl) ?_
        refine va_put (D := (dC, dI)) (ci := 3) (v := .int x0) (ty := .int) (C := RX3) (T := TX3) (N := 2) hx hb hts iwX7_party_X3 tyX3 tyX3_ok nmX3 hown hK hP hD hS (17 + x_5.toNatClampNeg) (wl_at (by omega) (ce_7 (kd_p _ hx_8).1)) rfl 0 (by decide) (hts (.fieldLink RX7 48 "QuietStairs$Party" "floor" "I") fwX7_party_4) (fun _ h9 => h9) rfl (by decide +kernel) rfl rfl (Nat.le_of_ble_eq_true rfl) dX7_party_54 (fun H locs hP hD hS => ?_)
        obtain ⟨v_9, ev_9⟩ : ∃ u : Nat → Nat → Int32, u = upr v (17 + x_5.toNatClampNeg) (upd (v (17 + x_5.toNatClampNeg)) 0 x0) := ⟨_, rfl⟩
        have hP : va_P (dC, dI) vwCl (wl ad kv cy N v_9) H := by rw [ev_9, ← wl_put (e := _) (ce_7 (kd_p _ hx_8).1)]; exact hP
        have hD : va_D A (wl ad kv cy N v_9) := by rw [ev_9, ← wl_put (e := _) (ce_7 (kd_p _ hx_8).1)]; exact hD
        have hv : Iv v_9 := by rw [ev_9]; exact hv.put (K := 7) (kd_p _ hx_8).1 (fun h q => by simp [bd] at q)
        refine lv_aload_n hx hb dX7_party_57 rfl (lv_at hl 0 rfl) ?_
        refine lv_iload_n hx hb dX7_party_58 rfl (lv_at hl 3 rfl) ?_
        refine va_put (D := (dC, dI)) (ci := 3) (v := .int x1) (ty := .int) (C := RX3) (T := TX3) (N := 2) hx hb hts iwX7_party_X3 tyX3 tyX3_ok nmX3 hown hK hP hD hS (17 + x_5.toNatClampNeg) (wl_at (by omega) (ce_7 (kd_p _ hx_8).1)) rfl 1 (by decide) (hts (.fieldLink RX7 53 "QuietStairs$Party" "tongue" "I") fwX7_party_5) (fun _ h9 => h9) rfl (by decide +kernel) rfl rfl (Nat.le_of_ble_eq_true rfl) dX7_party_59 (fun H locs hP hD hS => ?_)
        obtain ⟨v_10, ev_10⟩ : ∃ u : Nat → Nat → Int32, u = upr v_9 (17 + x_5.toNatClampNeg) (upd (v_9 (17 + x_5.toNatClampNeg)) 1 x1) := ⟨_, rfl⟩
        have hP : va_P (dC, dI) vwCl (wl ad kv cy N v_10) H := by rw [ev_10, ← wl_put (e := _) (ce_7 (kd_p _ hx_8).1)]; exact hP
        have hD : va_D A (wl ad kv cy N v_10) := by rw [ev_10, ← wl_put (e := _) (ce_7 (kd_p _ hx_8).1)]; exact hD
        have hv : Iv v_10 := by rw [ev_10]; exact hv.put (K := 7) (kd_p _ hx_8).1 (fun h q => by simp [bd] at q)
        refine lv_aload_n hx hb dX7_party_62 rfl (lv_at hl 1 rfl) ?_
        refine va_get (D := (dC, dI)) (ci := 7) (v := .ref (ad 13)) (C := RX7) (T := TX7) (N := 5) hx hb hts iwX7_party_X7 hown hK hP (0) (wl_at (by omega) (ce_0 (by decide))) rfl 0 (by decide) (hts (.fieldLink RX7 12 "QuietStairs" "now" "LQuietStairs$House;") fwX7_party_1) (fun _ h9 => h9) rfl dX7_party_63 ?_
        refine lv_dup hx hb dX7_party_66 rfl ?_
        refine va_get (D := (dC, dI)) (ci := 1) (v := .int (v_10 (13) 0)) (C := RX1) (T := TX1) (N := 7) hx hb hts iwX7_party_X1 hown hK hP (13) (wl_at (by omega) (ce_3 (by decide))) rfl 0 (by decide) (hts (.fieldLink RX7 41 "QuietStairs$House" "partyCount" "I") fwX7_party_2) (fun _ h9 => h9) rfl dX7_party_67 ?_
        refine lv_topi (fun x_11 ex_11 => ?_)
        have bzx_11 : 0 ≤ x_11.toInt ∧ x_11.toInt ≤ 8 := by rw [ex_11]; exact hv.at (K := 3) (by decide) rfl
        rw [ev_10, upr_n (by omega), ev_9, upr_n (by omega)] at ex_11
        obtain rfl : x_5 = x_11 := (ex_11.trans ex_5.symm).symm
        refine lv_dup_x1 hx hb dX7_party_70 rfl rfl ?_
        refine lv_iconst (v := 1) hx hb dX7_party_71 (by decide) ?_
        refine lv_iadd hx hb dX7_party_72 ?_
        refine lv_topi (fun x_12 ex_12 => ?_)
        have k_1 : (1 : Int32).toInt = 1 := by decide
        have tx_12 : x_12.toInt = x_5.toInt + (1 : Int32).toInt := by rw [ex_12]; exact t_add ⟨by omega, by omega⟩
        refine va_put (D := (dC, dI)) (ci := 1) (v := .int x_12) (ty := .int) (C := RX1) (T := TX1) (N := 7) hx hb hts iwX7_party_X1 tyX1 tyX1_ok nmX1 hown hK hP hD hS (13) (wl_at (by omega) (ce_3 (by decide))) rfl 0 (by decide) (hts (.fieldLink RX7 41 "QuietStairs$House" "partyCount" "I") fwX7_party_2) (fun _ h9 => h9) rfl (by decide +kernel) rfl rfl (Nat.le_of_ble_eq_true rfl) dX7_party_73 (fun H locs hP hD hS => ?_)
        obtain ⟨v_13, ev_13⟩ : ∃ u : Nat → Nat → Int32, u = upr v_10 (13) (upd (v_10 (13)) 0 x_12) := ⟨_, rfl⟩
        have hP : va_P (dC, dI) vwCl (wl ad kv cy N v_13) H := by rw [ev_13, ← wl_put (e := _) (ce_3 (by decide))]; exact hP
        have hD : va_D A (wl ad kv cy N v_13) := by rw [ev_13, ← wl_put (e := _) (ce_3 (by decide))]; exact hD
        have hv : Iv v_13 := by rw [ev_13]; exact hv.put (K := 3) (by decide) (fun h q => by cases q; exact ⟨by omega, by omega⟩)
        have hpost : (¬ ((0 ≤ x0.toInt ∧ x0.toInt ≤ 9) ∧ 0 ≤ x1.toInt ∧ x1.toInt ≤ 2) → x_5 = -1 ∧ v_13 = v) ∧ (((0 ≤ x0.toInt ∧ x0.toInt ≤ 9) ∧ 0 ≤ x1.toInt ∧ x1.toInt ≤ 2) ∧ 8 ≤ (v 13 0).toInt → x_5 = -2 ∧ v_13 = v) ∧ (((0 ≤ x0.toInt ∧ x0.toInt ≤ 9) ∧ 0 ≤ x1.toInt ∧ x1.toInt ≤ 2) ∧ (v 13 0).toInt < 8 → x_5 = v 13 0 ∧ (∀ k j : Nat, v_13 k j = if k = 13 ∧ j = 0 then v 13 0 + 1 else if k = 17 + (v 13 0).toNatClampNeg ∧ j = 1 then x1 else if k = 17 + (v 13 0).toNatClampNeg ∧ j = 0 then x0 else v k j)) := by
          refine ⟨fun hq => ?_, fun hq => ?_, fun hq => ?_⟩
          · exfalso; omega
          · exfalso; omega
          · exact ⟨by rw [ex_5], fun k j => by rw [ev_13, up2, ev_10, up2, ev_9, up2, ex_12, ex_5]⟩
        exact W.iret (v := x_5) hx hb hr (fun t ht hW => ⟨⟨x_5, v_13, rfl, ⟨hv, hpost⟩, by rw [ht]; exact hP, hD⟩, hS.F ht⟩) hS.2.2 dX7_party_76
      · have tc_6 : x_5.toInt ≥ (8 : Int32).toInt := Int32.le_iff_toInt_le.mp (Int32.not_lt.mp c_6)
        refine lv_bipush (v := (-2)) hx hb dX7_party_33 (by decide) ?_
        have hpost : (¬ ((0 ≤ x0.toInt ∧ x0.toInt ≤ 9) ∧ 0 ≤ x1.toInt ∧ x1.toInt ≤ 2) → ((-2) : Int32) = -1 ∧ v = v) ∧ (((0 ≤ x0.toInt ∧ x0.toInt ≤ 9) ∧ 0 ≤ x1.toInt ∧ x1.toInt ≤ 2) ∧ 8 ≤ (v 13 0).toInt → ((-2) : Int32) = -2 ∧ v = v) ∧ (((0 ≤ x0.toInt ∧ x0.toInt ≤ 9) ∧ 0 ≤ x1.toInt ∧ x1.toInt ≤ 2) ∧ (v 13 0).toInt < 8 → ((-2) : Int32) = v 13 0 ∧ (∀ k j : Nat, v k j = if k = 13 ∧ j = 0 then v 13 0 + 1 else if k = 17 + (v 13 0).toNatClampNeg ∧ j = 1 then x1 else if k = 17 + (v 13 0).toNatClampNeg ∧ j = 0 then x0 else v k j)) := by
          refine ⟨fun hq => ?_, fun hq => ?_, fun hq => ?_⟩
          · exfalso; omega
          · exact ⟨rfl, rfl⟩
          · exfalso; omega
        exact W.iret (v := (-2)) hx hb hr (fun t ht hW => ⟨⟨(-2), v, rfl, ⟨hv, hpost⟩, by rw [ht]; exact hP, hD⟩, hS.F ht⟩) hS.2.2 dX7_party_35
    · have k_2 : (2 : Int32).toInt = 2 := by decide
      have tc_4 : ¬ ((0 : Int32).toInt ≤ x1.toInt ∧ x1.toInt ≤ (2 : Int32).toInt) := fun q => hc_4 ⟨Int32.le_iff_toInt_le.mpr q.1, Int32.le_iff_toInt_le.mpr q.2⟩
      refine lv_if_ne (tgt := 21) hx hb dX7_party_16 (by decide) (fun c9 => absurd c9 (by decide)) (fun _ => ?_)
      refine lv_iconst (v := (-1)) hx hb dX7_party_19 (by decide) ?_
      have hpost : (¬ ((0 ≤ x0.toInt ∧ x0.toInt ≤ 9) ∧ 0 ≤ x1.toInt ∧ x1.toInt ≤ 2) → ((-1) : Int32) = -1 ∧ v = v) ∧ (((0 ≤ x0.toInt ∧ x0.toInt ≤ 9) ∧ 0 ≤ x1.toInt ∧ x1.toInt ≤ 2) ∧ 8 ≤ (v 13 0).toInt → ((-1) : Int32) = -2 ∧ v = v) ∧ (((0 ≤ x0.toInt ∧ x0.toInt ≤ 9) ∧ 0 ≤ x1.toInt ∧ x1.toInt ≤ 2) ∧ (v 13 0).toInt < 8 → ((-1) : Int32) = v 13 0 ∧ (∀ k j : Nat, v k j = if k = 13 ∧ j = 0 then v 13 0 + 1 else if k = 17 + (v 13 0).toNatClampNeg ∧ j = 1 then x1 else if k = 17 + (v 13 0).toNatClampNeg ∧ j = 0 then x0 else v k j)) := by
        refine ⟨fun hq => ?_, fun hq => ?_, fun hq => ?_⟩
        · exact ⟨rfl, rfl⟩
        · exfalso; omega
        · exfalso; omega
      exact W.iret (v := (-1)) hx hb hr (fun t ht hW => ⟨⟨(-1), v, rfl, ⟨hv, hpost⟩, by rw [ht]; exact hP, hD⟩, hS.F ht⟩) hS.2.2 dX7_party_20
  · have k_0 : (0 : Int32).toInt = 0 := by decide
    have k_9 : (9 : Int32).toInt = 9 := by decide
    have tc_2 : ¬ ((0 : Int32).toInt ≤ x0.toInt ∧ x0.toInt ≤ (9 : Int32).toInt) := fun q => hc_2 ⟨Int32.le_iff_toInt_le.mpr q.1, Int32.le_iff_toInt_le.mpr q.2⟩
    refine lv_if_eq (tgt := 19) hx hb dX7_party_7 (by decide) (fun _ => ?_) (fun c9 => absurd c9 (by decide))
    refine lv_iconst (v := (-1)) hx hb dX7_party_19 (by decide) ?_
    have hpost : (¬ ((0 ≤ x0.toInt ∧ x0.toInt ≤ 9) ∧ 0 ≤ x1.toInt ∧ x1.toInt ≤ 2) → ((-1) : Int32) = -1 ∧ v = v) ∧ (((0 ≤ x0.toInt ∧ x0.toInt ≤ 9) ∧ 0 ≤ x1.toInt ∧ x1.toInt ≤ 2) ∧ 8 ≤ (v 13 0).toInt → ((-1) : Int32) = -2 ∧ v = v) ∧ (((0 ≤ x0.toInt ∧ x0.toInt ≤ 9) ∧ 0 ≤ x1.toInt ∧ x1.toInt ≤ 2) ∧ (v 13 0).toInt < 8 → ((-1) : Int32) = v 13 0 ∧ (∀ k j : Nat, v k j = if k = 13 ∧ j = 0 then v 13 0 + 1 else if k = 17 + (v 13 0).toNatClampNeg ∧ j = 1 then x1 else if k = 17 + (v 13 0).toNatClampNeg ∧ j = 0 then x0 else v k j)) := by
      refine ⟨fun hq => ?_, fun hq => ?_, fun hq => ?_⟩
      · exact ⟨rfl, rfl⟩
      · exfalso; omega
      · exfalso; omega
    exact W.iret (v := (-1)) hx hb hr (fun t ht hW => ⟨⟨(-1), v, rfl, ⟨hv, hpost⟩, by rw [ht]; exact hP, hD⟩, hS.F ht⟩) hS.2.2 dX7_party_20

set_option maxHeartbeats 4000000 in
set_option maxRecDepth 100000 in
theorem e_X7_mediator (l : Launch) (dC : Nat → ClassId) (dI : Nat → Nat → Nat) (cy : Nat → ClassId) (sz : Nat) (ad : Nat → Nat) (kv : Value) (N : Nat) (hN : 119 ≤ N) (v : Nat → Nat → Int32) (hv : Iv v) (x0 x1 : Int32) : Met l yX7_mediator wsX7_mediator ({ frames := 3, cells := 0, slots := 0, locals := 192 }) (va_Pc [.ref (ad 0), .int x0, .int x1] (ex_Pre dC dI cy sz (wl ad kv cy N v))) (va_Qi (fun (r : Int32) (u : Nat → Nat → Int32) => Iv u ∧ (¬ ((0 ≤ x0.toInt ∧ x0.toInt ≤ 9) ∧ 1 ≤ x1.toInt ∧ x1.toInt ≤ 7) → r = -1 ∧ u = v) ∧ (((0 ≤ x0.toInt ∧ x0.toInt ≤ 9) ∧ 1 ≤ x1.toInt ∧ x1.toInt ≤ 7) ∧ 4 ≤ (v 13 1).toInt → r = -2 ∧ u = v) ∧ (((0 ≤ x0.toInt ∧ x0.toInt ≤ 9) ∧ 1 ≤ x1.toInt ∧ x1.toInt ≤ 7) ∧ (v 13 1).toInt < 4 → r = v 13 1 ∧ (∀ k j : Nat, u k j = if k = 13 ∧ j = 1 then v 13 1 + 1 else if k = 25 + (v 13 1).toNatClampNeg ∧ j = 2 then 0 else if k = 25 + (v 13 1).toNatClampNeg ∧ j = 1 then x1 else if k = 25 + (v 13 1).toNatClampNeg ∧ j = 0 then x0 else v k j))) (fun u t => ex_Pst dC dI (va_A (wl ad kv cy N v) sz) (wl ad kv cy N u) t) (va_A (wl ad kv cy N v) sz)) 0 0 (va_A (wl ad kv cy N v) sz) := by
  refine Met.ofW (cc := cX7_mediator) (maxL := 4) (ret := (some .int)) (by decide) rfl ?_
  intro p e s m args below meth c s₁ B hml hv
  obtain ⟨rfl, hsz, hE, hP, hK, hD0⟩ := hv
  have hx := B.exec
  have hb := B.bytes
  have hr := B.returns
  have hts := atoms_spec (ws := wsX7_mediator) B.pre
  have hown : s.vm.findClass RX7 = some m.cls := findClass_of_methodNamed B.named
  have hlocks := B.notSynchronized
  subst hsz
  have hD := hD0.self (sz := s.heap.size)
  generalize hAe : va_A (wl ad kv cy N v) s.heap.size = A at hD ⊢
  have hA : ∀ q : Nat, s.heap.size ≤ q → A q := fun q h => by rw [← hAe]; exact Or.inr h
  have hS : va_S A s.heap s.heap [] := va_S.rf
  have hP : va_P (dC, dI) vwCl (wl ad kv cy N v) s.heap := hP
  have hl := lv_entry ([.ref (ad 0), .int x0, .int x1]) (n := 4) (Nat.le_of_ble_eq_true rfl)
  rw [lg_entry_eq]
  generalize (lg_sl ([.ref (ad 0), .int x0, .int x1]) ++ List.replicate (4 - (lg_sl ([.ref (ad 0), .int x0, .int x1])).length) Slot.unset).toArray = ls at hl ⊢
  have hl : lv_has ls 4 [(0, .ref (ad 0)), (1, .int x0), (2, .int x1)] := hl
  refine lv_iload_n hx hb dX7_mediator_0 rfl (lv_at hl 1 rfl) ?_
  refine lv_iconst (v := 0) hx hb dX7_mediator_1 (by decide) ?_
  refine lv_bipush (v := 9) hx hb dX7_mediator_2 (by decide) ?_
  refine yc_p hP hS (va_runS (As := [.int x0, .int 0, .int 9]) (rest := []) ⟨hx, hb, hml, hown, hts⟩ (c_X7_isWithin l x0 0 9) (cwS 3 hts gX7_mediator_X7_isWithin rfl rfl rfl hd_S_X7_isWithin_3 ⟨Nat.le_of_ble_eq_true rfl, Nat.le_of_ble_eq_true rfl⟩) ex_preP rfl rfl hl.1 rfl (lv_room (Nat.le_of_ble_eq_true rfl)) dX7_mediator_4 ⟨Nat.le_of_ble_eq_true rfl, Nat.le_of_ble_eq_true rfl⟩) (fun r_1 H locs hw_1 hP hS => ?_)
  rcases wi_ca hw_1 with ⟨rfl, hc_2⟩ | ⟨rfl, hc_2⟩
  · have k_0 : (0 : Int32).toInt = 0 := by decide
    have k_9 : (9 : Int32).toInt = 9 := by decide
    have tc_2 := wi_tl hc_2
    refine lv_if_eq (tgt := 20) hx hb dX7_mediator_7 (by decide) (fun c9 => absurd c9 (by decide)) (fun _ => ?_)
    refine lv_iload_n hx hb dX7_mediator_10 rfl (lv_at hl 2 rfl) ?_
    refine lv_iconst (v := 1) hx hb dX7_mediator_11 (by decide) ?_
    refine lv_bipush (v := 7) hx hb dX7_mediator_12 (by decide) ?_
    refine yc_p hP hS (va_runS (As := [.int x1, .int 1, .int 7]) (rest := []) ⟨hx, hb, hml, hown, hts⟩ (c_X7_isWithin l x1 1 7) (cwS 3 hts gX7_mediator_X7_isWithin rfl rfl rfl hd_S_X7_isWithin_3 ⟨Nat.le_of_ble_eq_true rfl, Nat.le_of_ble_eq_true rfl⟩) ex_preP rfl rfl hl.1 rfl (lv_room (Nat.le_of_ble_eq_true rfl)) dX7_mediator_14 ⟨Nat.le_of_ble_eq_true rfl, Nat.le_of_ble_eq_true rfl⟩) (fun r_3 H locs hw_3 hP hS => ?_)
    rcases wi_ca hw_3 with ⟨rfl, hc_4⟩ | ⟨rfl, hc_4⟩
    · have k_1 : (1 : Int32).toInt = 1 := by decide
      have k_7 : (7 : Int32).toInt = 7 := by decide
      have tc_4 := wi_tl hc_4
      refine lv_if_ne (tgt := 22) hx hb dX7_mediator_17 (by decide) (fun _ => ?_) (fun c9 => absurd c9 (by decide))
      refine lv_aload_n hx hb dX7_mediator_22 rfl (lv_at hl 0 rfl) ?_
      refine va_get (D := (dC, dI)) (ci := 7) (v := .ref (ad 13)) (C := RX7) (T := TX7) (N := 5) hx hb hts iwX7_mediator_X7 hown hK hP (0) (wl_at (by omega) (ce_0 (by decide))) rfl 0 (by decide) (hts (.fieldLink RX7 12 "QuietStairs" "now" "LQuietStairs$House;") fwX7_mediator_1) (fun _ h9 => h9) rfl dX7_mediator_23 ?_
      refine va_get (D := (dC, dI)) (ci := 1) (v := .int (v (13) 1)) (C := RX1) (T := TX1) (N := 7) hx hb hts iwX7_mediator_X1 hown hK hP (13) (wl_at (by omega) (ce_3 (by decide))) rfl 1 (by decide) (hts (.fieldLink RX7 56 "QuietStairs$House" "mediatorCount" "I") fwX7_mediator_2) (fun _ h9 => h9) rfl dX7_mediator_26 ?_
      refine lv_topi (fun x_5 ex_5 => ?_)
      have bzx_5 : 0 ≤ x_5.toInt ∧ x_5.toInt ≤ 4 := by rw [ex_5]; exact hv.at (K := 3) (by decide) rfl
      have qx_5 : x_5.toInt = (v (13) (1)).toInt := congrArg Int32.toInt ex_5
      refine lv_iconst (v := 4) hx hb dX7_mediator_29 (by decide) ?_
      have k_4 : (4 : Int32).toInt = 4 := by decide
      refine lv_icmp_lt (tgt := 36) hx hb dX7_mediator_30 (by decide) (fun c_6 => ?_) (fun c_6 => ?_)
      · have tc_6 : x_5.toInt < (4 : Int32).toInt := Int32.lt_iff_toInt_lt.mp c_6
        refine lv_aload_n hx hb dX7_mediator_36 rfl (lv_at hl 0 rfl) ?_
        refine va_get (D := (dC, dI)) (ci := 7) (v := .ref (ad 13)) (C := RX7) (T := TX7) (N := 5) hx hb hts iwX7_mediator_X7 hown hK hP (0) (wl_at (by omega) (ce_0 (by decide))) rfl 0 (by decide) (hts (.fieldLink RX7 12 "QuietStairs" "now" "LQuietStairs$House;") fwX7_mediator_1) (fun _ h9 => h9) rfl dX7_mediator_37 ?_
        refine va_get (D := (dC, dI)) (ci := 1) (v := .ref (ad 15)) (C := RX1) (T := TX1) (N := 7) hx hb hts iwX7_mediator_X1 hown hK hP (13) (wl_at (by omega) (ce_3 (by decide))) rfl 5 (by decide) (hts (.fieldLink RX7 59 "QuietStairs$House" "mediators" "[LQuietStairs$Mediator;") fwX7_mediator_3) (fun _ h9 => h9) rfl dX7_mediator_40 ?_
        refine lv_aload_n hx hb dX7_mediator_43 rfl (lv_at hl 0 rfl) ?_
        refine va_get (D := (dC, dI)) (ci := 7) (v := .ref (ad 13)) (C := RX7) (T := TX7) (N := 5) hx hb hts iwX7_mediator_X7 hown hK hP (0) (wl_at (by omega) (ce_0 (by decide))) rfl 0 (by decide) (hts (.fieldLink RX7 12 "QuietStairs" "now" "LQuietStairs$House;") fwX7_mediator_1) (fun _ h9 => h9) rfl dX7_mediator_44 ?_
        refine va_get (D := (dC, dI)) (ci := 1) (v := .int (v (13) 1)) (C := RX1) (T := TX1) (N := 7) hx hb hts iwX7_mediator_X1 hown hK hP (13) (wl_at (by omega) (ce_3 (by decide))) rfl 1 (by decide) (hts (.fieldLink RX7 56 "QuietStairs$House" "mediatorCount" "I") fwX7_mediator_2) (fun _ h9 => h9) rfl dX7_mediator_47 ?_
        refine lv_topi (fun x_7 ex_7 => ?_)
        have bzx_7 : 0 ≤ x_7.toInt ∧ x_7.toInt ≤ 4 := by rw [ex_7]; exact hv.at (K := 3) (by decide) rfl
        obtain rfl : x_5 = x_7 := (ex_7.trans ex_5.symm).symm
        have zn_x_5 : (x_5.toNatClampNeg : Int) = x_5.toInt := t_nn (by omega)
        have hx_8 : x_5.toNatClampNeg < 4 := by omega
        refine va_aldq hx hb hK hP (15) 2 (wl_at (by omega) (ce_5 (by decide))) rfl (vp_in_iff.mpr ⟨by omega, by omega⟩) dX7_mediator_50 ?_
        refine W.eq (g2 := F0 m 51 ls [.ref (ad (25 + x_5.toNatClampNeg))]) (by rw [if_pos hx_8, show 15 + 10 + x_5.toNatClampNeg = 25 + x_5.toNatClampNeg from by omega]; rfl) ?_
        refine lv_astore_n (lv' := [(3, .ref (ad (25 + x_5.toNatClampNeg))), (0, .ref (ad 0)), (1, .int x0), (2, .int x1)]) hx hb dX7_mediator_51 rfl hl (by decide) rfl (fun ls hl => ?_)
        refine lv_aload_n hx hb dX7_mediator_52 rfl (lv_at hl 0 rfl) ?_
        refine lv_iload_n hx hb dX7_mediator_53 rfl (lv_at hl 2 rfl) ?_
        refine va_put (D := (dC, dI)) (ci := 2) (v := .int x0) (ty := .int) (C := RX2) (T := TX2) (N := 3) hx hb hts iwX7_mediator_X2 tyX2 tyX2_ok nmX2 hown hK hP hD hS (25 + x_5.toNatClampNeg) (wl_at (by omega) (ce_8 (kd_m _ hx_8).1)) rfl 0 (by decide) (hts (.fieldLink RX7 63 "QuietStairs$Mediator" "floor" "I") fwX7_mediator_4) (fun _ h9 => h9) rfl (by decide +kernel) rfl rfl (Nat.le_of_ble_eq_true rfl) dX7_mediator_54 (fun H locs hP hD hS => ?_)
        obtain ⟨v_9, ev_9⟩ : ∃ u : Nat → Nat → Int32, u = upr v (25 + x_5.toNatClampNeg) (upd (v (25 + x_5.toNatClampNeg)) 0 x0) := ⟨_, rfl⟩
        have hP : va_P (dC, dI) vwCl (wl ad kv cy N v_9) H := by rw [ev_9, ← wl_put (e := _) (ce_8 (kd_m _ hx_8).1)]; exact hP
        have hD : va_D A (wl ad kv cy N v_9) := by rw [ev_9, ← wl_put (e := _) (ce_8 (kd_m _ hx_8).1)]; exact hD
        have hv : Iv v_9 := by rw [ev_9]; exact hv.put (K := 8) (kd_m _ hx_8).1 (fun h q => by simp [bd] at q)
        refine lv_aload_n hx hb dX7_mediator_57 rfl (lv_at hl 0 rfl) ?_
        refine lv_iload_n hx hb dX7_mediator_58 rfl (lv_at hl 3 rfl) ?_
        refine va_put (D := (dC, dI)) (ci := 2) (v := .int x1) (ty := .int) (C := RX2) (T := TX2) (N := 3) hx hb hts iwX7_mediator_X2 tyX2 tyX2_ok nmX2 hown hK hP hD hS (25 + x_5.toNatClampNeg) (wl_at (by omega) (ce_8 (kd_m _ hx_8).1)) rfl 1 (by decide) (hts (.fieldLink RX7 66 "QuietStairs$Mediator" "tongues" "I") fwX7_mediator_5) (fun _ h9 => h9) rfl (by decide +kernel) rfl rfl (Nat.le_of_ble_eq_true rfl) dX7_mediator_59 (fun H locs hP hD hS => ?_)
        obtain ⟨v_10, ev_10⟩ : ∃ u : Nat → Nat → Int32, u = upr v_9 (25 + x_5.toNatClampNeg) (upd (v_9 (25 + x_5.toNatClampNeg)) 1 x1) := ⟨_, rfl⟩
        have hP : va_P (dC, dI) vwCl (wl ad kv cy N v_10) H := by rw [ev_10, ← wl_put (e := _) (ce_8 (kd_m _ hx_8).1)]; exact hP
        have hD : va_D A (wl ad kv cy N v_10) := by rw [ev_10, ← wl_put (e := _) (ce_8 (kd_m _ hx_8).1)]; exact hD
        have hv : Iv v_10 := by rw [ev_10]; exact hv.put (K := 8) (kd_m _ hx_8).1 (fun h q => by simp [bd] at q)
        refine lv_aload_n hx hb dX7_mediator_62 rfl (lv_at hl 0 rfl) ?_
        refine lv_iconst (v := 0) hx hb dX7_mediator_63 (by decide) ?_
        refine va_put (D := (dC, dI)) (ci := 2) (v := .int 0) (ty := .int) (C := RX2) (T := TX2) (N := 3) hx hb hts iwX7_mediator_X2 tyX2 tyX2_ok nmX2 hown hK hP hD hS (25 + x_5.toNatClampNeg) (wl_at (by omega) (ce_8 (kd_m _ hx_8).1)) rfl 2 (by decide) (hts (.fieldLink RX7 69 "QuietStairs$Mediator" "kinBits" "I") fwX7_mediator_6) (fun _ h9 => h9) rfl (by decide +kernel) rfl rfl (Nat.le_of_ble_eq_true rfl) dX7_mediator_64 (fun H locs hP hD hS => ?_)
        obtain ⟨v_11, ev_11⟩ : ∃ u : Nat → Nat → Int32, u = upr v_10 (25 + x_5.toNatClampNeg) (upd (v_10 (25 + x_5.toNatClampNeg)) 2 0) := ⟨_, rfl⟩
        have hP : va_P (dC, dI) vwCl (wl ad kv cy N v_11) H := by rw [ev_11, ← wl_put (e := _) (ce_8 (kd_m _ hx_8).1)]; exact hP
        have hD : va_D A (wl ad kv cy N v_11) := by rw [ev_11, ← wl_put (e := _) (ce_8 (kd_m _ hx_8).1)]; exact hD
        have hv : Iv v_11 := by rw [ev_11]; exact hv.put (K := 8) (kd_m _ hx_8).1 (fun h q => by simp [bd] at q)
        refine lv_aload_n hx hb dX7_mediator_67 rfl (lv_at hl 1 rfl) ?_
        refine va_get (D := (dC, dI)) (ci := 7) (v := .ref (ad 13)) (C := RX7) (T := TX7) (N := 5) hx hb hts iwX7_mediator_X7 hown hK hP (0) (wl_at (by omega) (ce_0 (by decide))) rfl 0 (by decide) (hts (.fieldLink RX7 12 "QuietStairs" "now" "LQuietStairs$House;") fwX7_mediator_1) (fun _ h9 => h9) rfl dX7_mediator_68 ?_
        refine lv_dup hx hb dX7_mediator_71 rfl ?_
        refine va_get (D := (dC, dI)) (ci := 1) (v := .int (v_11 (13) 1)) (C := RX1) (T := TX1) (N := 7) hx hb hts iwX7_mediator_X1 hown hK hP (13) (wl_at (by omega) (ce_3 (by decide))) rfl 1 (by decide) (hts (.fieldLink RX7 56 "QuietStairs$House" "mediatorCount" "I") fwX7_mediator_2) (fun _ h9 => h9) rfl dX7_mediator_72 ?_
        refine lv_topi (fun x_12 ex_12 => ?_)
        have bzx_12 : 0 ≤ x_12.toInt ∧ x_12.toInt ≤ 4 := by rw [ex_12]; exact hv.at (K := 3) (by decide) rfl
        rw [ev_11, upr_n (by omega), ev_10, upr_n (by omega), ev_9, upr_n (by omega)] at ex_12
        obtain rfl : x_5 = x_12 := (ex_12.trans ex_5.symm).symm
        refine lv_dup_x1 hx hb dX7_mediator_75 rfl rfl ?_
        refine lv_iconst (v := 1) hx hb dX7_mediator_76 (by decide) ?_
        refine lv_iadd hx hb dX7_mediator_77 ?_
        refine lv_topi (fun x_13 ex_13 => ?_)
        have tx_13 : x_13.toInt = x_5.toInt + (1 : Int32).toInt := by rw [ex_13]; exact t_add ⟨by omega, by omega⟩
        refine va_put (D := (dC, dI)) (ci := 1) (v := .int x_13) (ty := .int) (C := RX1) (T := TX1) (N := 7) hx hb hts iwX7_mediator_X1 tyX1 tyX1_ok nmX1 hown hK hP hD hS (13) (wl_at (by omega) (ce_3 (by decide))) rfl 1 (by decide) (hts (.fieldLink RX7 56 "QuietStairs$House" "mediatorCount" "I") fwX7_mediator_2) (fun _ h9 => h9) rfl (by decide +kernel) rfl rfl (Nat.le_of_ble_eq_true rfl) dX7_mediator_78 (fun H locs hP hD hS => ?_)
        obtain ⟨v_14, ev_14⟩ : ∃ u : Nat → Nat → Int32, u = upr v_11 (13) (upd (v_11 (13)) 1 x_13) := ⟨_, rfl⟩
        have hP : va_P (dC, dI) vwCl (wl ad kv cy N v_14) H := by rw [ev_14, ← wl_put (e := _) (ce_3 (by decide))]; exact hP
        have hD : va_D A (wl ad kv cy N v_14) := by rw [ev_14, ← wl_put (e := _) (ce_3 (by decide))]; exact hD
        have hv : Iv v_14 := by rw [ev_14]; exact hv.put (K := 3) (by decide) (fun h q => by cases q; exact ⟨by omega, by omega⟩)
        have hpost : (¬ ((0 ≤ x0.toInt ∧ x0.toInt ≤ 9) ∧ 1 ≤ x1.toInt ∧ x1.toInt ≤ 7) → x_5 = -1 ∧ v_14 = v) ∧ (((0 ≤ x0.toInt ∧ x0.toInt ≤ 9) ∧ 1 ≤ x1.toInt ∧ x1.toInt ≤ 7) ∧ 4 ≤ (v 13 1).toInt → x_5 = -2 ∧ v_14 = v) ∧ (((0 ≤ x0.toInt ∧ x0.toInt ≤ 9) ∧ 1 ≤ x1.toInt ∧ x1.toInt ≤ 7) ∧ (v 13 1).toInt < 4 → x_5 = v 13 1 ∧ (∀ k j : Nat, v_14 k j = if k = 13 ∧ j = 1 then v 13 1 + 1 else if k = 25 + (v 13 1).toNatClampNeg ∧ j = 2 then 0 else if k = 25 + (v 13 1).toNatClampNeg ∧ j = 1 then x1 else if k = 25 + (v 13 1).toNatClampNeg ∧ j = 0 then x0 else v k j)) := by
          refine ⟨fun hq => ?_, fun hq => ?_, fun hq => ?_⟩
          · exfalso; omega
          · exfalso; omega
          · exact ⟨by rw [ex_5], fun k j => by rw [ev_14, up2, ev_11, up2, ev_10, up2, ev_9, up2, ex_13, ex_5]⟩
        exact W.iret (v := x_5) hx hb hr (fun t ht hW => ⟨⟨x_5, v_14, rfl, ⟨hv, hpost⟩, by rw [ht]; exact hP, hD⟩, hS.F ht⟩) hS.2.2 dX7_mediator_81
      · have tc_6 : x_5.toInt ≥ (4 : Int32).toInt := Int32.le_iff_toInt_le.mp (Int32.not_lt.mp c_6)
        refine lv_bipush (v := (-2)) hx hb dX7_mediator_33 (by decide) ?_
        have hpost : (¬ ((0 ≤ x0.toInt ∧ x0.toInt ≤ 9) ∧ 1 ≤ x1.toInt ∧ x1.toInt ≤ 7) → ((-2) : Int32) = -1 ∧ v = v) ∧ (((0 ≤ x0.toInt ∧ x0.toInt ≤ 9) ∧ 1 ≤ x1.toInt ∧ x1.toInt ≤ 7) ∧ 4 ≤ (v 13 1).toInt → ((-2) : Int32) = -2 ∧ v = v) ∧ (((0 ≤ x0.toInt ∧ x0.toInt ≤ 9) ∧ 1 ≤ x1.toInt ∧ x1.toInt ≤ 7) ∧ (v 13 1).toInt < 4 → ((-2) : Int32) = v 13 1 ∧ (∀ k j : Nat, v k j = if k = 13 ∧ j = 1 then v 13 1 + 1 else if k = 25 + (v 13 1).toNatClampNeg ∧ j = 2 then 0 else if k = 25 + (v 13 1).toNatClampNeg ∧ j = 1 then x1 else if k = 25 + (v 13 1).toNatClampNeg ∧ j = 0 then x0 else v k j)) := by
          refine ⟨fun hq => ?_, fun hq => ?_, fun hq => ?_⟩
          · exfalso; omega
          · exact ⟨rfl, rfl⟩
          · exfalso; omega
        exact W.iret (v := (-2)) hx hb hr (fun t ht hW => ⟨⟨(-2), v, rfl, ⟨hv, hpost⟩, by rw [ht]; exact hP, hD⟩, hS.F ht⟩) hS.2.2 dX7_mediator_35
    · have k_1 : (1 : Int32).toInt = 1 := by decide
      have k_7 : (7 : Int32).toInt = 7 := by decide
      have tc_4 : ¬ ((1 : Int32).toInt ≤ x1.toInt ∧ x1.toInt ≤ (7 : Int32).toInt) := fun q => hc_4 ⟨Int32.le_iff_toInt_le.mpr q.1, Int32.le_iff_toInt_le.mpr q.2⟩
      refine lv_if_ne (tgt := 22) hx hb dX7_mediator_17 (by decide) (fun c9 => absurd c9 (by decide)) (fun _ => ?_)
      refine lv_iconst (v := (-1)) hx hb dX7_mediator_20 (by decide) ?_
      have hpost : (¬ ((0 ≤ x0.toInt ∧ x0.toInt ≤ 9) ∧ 1 ≤ x1.toInt ∧ x1.toInt ≤ 7) → ((-1) : Int32) = -1 ∧ v = v) ∧ (((0 ≤ x0.toInt ∧ x0.toInt ≤ 9) ∧ 1 ≤ x1.toInt ∧ x1.toInt ≤ 7) ∧ 4 ≤ (v 13 1).toInt → ((-1) : Int32) = -2 ∧ v = v) ∧ (((0 ≤ x0.toInt ∧ x0.toInt ≤ 9) ∧ 1 ≤ x1.toInt ∧ x1.toInt ≤ 7) ∧ (v 13 1).toInt < 4 → ((-1) : Int32) = v 13 1 ∧ (∀ k j : Nat, v k j = if k = 13 ∧ j = 1 then v 13 1 + 1 else if k = 25 + (v 13 1).toNatClampNeg ∧ j = 2 then 0 else if k = 25 + (v 13 1).toNatClampNeg ∧ j = 1 then x1 else if k = 25 + (v 13 1).toNatClampNeg ∧ j = 0 then x0 else v k j)) := by
        refine ⟨fun hq => ?_, fun hq => ?_, fun hq => ?_⟩
        · exact ⟨rfl, rfl⟩
        · exfalso; omega
        · exfalso; omega
      exact W.iret (v := (-1)) hx hb hr (fun t ht hW => ⟨⟨(-1), v, rfl, ⟨hv, hpost⟩, by rw [ht]; exact hP, hD⟩, hS.F ht⟩) hS.2.2 dX7_mediator_21
  · have k_0 : (0 : Int32).toInt = 0 := by decide
    have k_9 : (9 : Int32).toInt = 9 := by decide
    have tc_2 : ¬ ((0 : Int32).toInt ≤ x0.toInt ∧ x0.toInt ≤ (9 : Int32).toInt) := fun q => hc_2 ⟨Int32.le_iff_toInt_le.mpr q.1, Int32.le_iff_toInt_le.mpr q.2⟩
    refine lv_if_eq (tgt := 20) hx hb dX7_mediator_7 (by decide) (fun _ => ?_) (fun c9 => absurd c9 (by decide))
    refine lv_iconst (v := (-1)) hx hb dX7_mediator_20 (by decide) ?_
    have hpost : (¬ ((0 ≤ x0.toInt ∧ x0.toInt ≤ 9) ∧ 1 ≤ x1.toInt ∧ x1.toInt ≤ 7) → ((-1) : Int32) = -1 ∧ v = v) ∧ (((0 ≤ x0.toInt ∧ x0.toInt ≤ 9) ∧ 1 ≤ x1.toInt ∧ x1.toInt ≤ 7) ∧ 4 ≤ (v 13 1).toInt → ((-1) : Int32) = -2 ∧ v = v) ∧ (((0 ≤ x0.toInt ∧ x0.toInt ≤ 9) ∧ 1 ≤ x1.toInt ∧ x1.toInt ≤ 7) ∧ (v 13 1).toInt < 4 → ((-1) : Int32) = v 13 1 ∧ (∀ k j : Nat, v k j = if k = 13 ∧ j = 1 then v 13 1 + 1 else if k = 25 + (v 13 1).toNatClampNeg ∧ j = 2 then 0 else if k = 25 + (v 13 1).toNatClampNeg ∧ j = 1 then x1 else if k = 25 + (v 13 1).toNatClampNeg ∧ j = 0 then x0 else v k j)) := by
      refine ⟨fun hq => ?_, fun hq => ?_, fun hq => ?_⟩
      · exact ⟨rfl, rfl⟩
      · exfalso; omega
      · exfalso; omega
    exact W.iret (v := (-1)) hx hb hr (fun t ht hW => ⟨⟨(-1), v, rfl, ⟨hv, hpost⟩, by rw [ht]; exact hP, hD⟩, hS.F ht⟩) hS.2.2 dX7_mediator_21

set_option maxHeartbeats 4000000 in
set_option maxRecDepth 100000 in
theorem e_X7_rooms (l : Launch) (dC : Nat → ClassId) (dI : Nat → Nat → Nat) (cy : Nat → ClassId) (sz : Nat) (ad : Nat → Nat) (kv : Value) (N : Nat) (hN : 119 ≤ N) (v : Nat → Nat → Int32) (hv : Iv v) (x0 : Int32) : Met l yX7_rooms wsX7_rooms ({ frames := 1, cells := 0, slots := 0, locals := 64 }) (va_Pc [.ref (ad 0), .int x0] (ex_Pre dC dI cy sz (wl ad kv cy N v))) (va_Qi (fun (r : Int32) (u : Nat → Nat → Int32) => Iv u ∧ (¬ (1 ≤ x0.toInt ∧ x0.toInt ≤ 2) → r = -1 ∧ u = v) ∧ (1 ≤ x0.toInt ∧ x0.toInt ≤ 2 → r = v 0 4 ∧ (∀ k j : Nat, u k j = if k = 0 ∧ j = 4 then x0 else v k j))) (fun u t => ex_Pst dC dI (va_A (wl ad kv cy N v) sz) (wl ad kv cy N u) t) (va_A (wl ad kv cy N v) sz)) 0 0 (va_A (wl ad kv cy N v) sz) := by
  refine Met.ofW (cc := cX7_rooms) (maxL := 3) (ret := (some .int)) (by decide) rfl ?_
  intro p e s m args below meth c s₁ B hml hv
  obtain ⟨rfl, hsz, hE, hP, hK, hD0⟩ := hv
  have hx := B.exec
  have hb := B.bytes
  have hr := B.returns
  have hts := atoms_spec (ws := wsX7_rooms) B.pre
  have hown : s.vm.findClass RX7 = some m.cls := findClass_of_methodNamed B.named
  have hlocks := B.notSynchronized
  subst hsz
  have hD := hD0.self (sz := s.heap.size)
  generalize hAe : va_A (wl ad kv cy N v) s.heap.size = A at hD ⊢
  have hA : ∀ q : Nat, s.heap.size ≤ q → A q := fun q h => by rw [← hAe]; exact Or.inr h
  have hS : va_S A s.heap s.heap [] := va_S.rf
  have hP : va_P (dC, dI) vwCl (wl ad kv cy N v) s.heap := hP
  have hl := lv_entry ([.ref (ad 0), .int x0]) (n := 3) (Nat.le_of_ble_eq_true rfl)
  rw [lg_entry_eq]
  generalize (lg_sl ([.ref (ad 0), .int x0]) ++ List.replicate (3 - (lg_sl ([.ref (ad 0), .int x0])).length) Slot.unset).toArray = ls at hl ⊢
  have hl : lv_has ls 3 [(0, .ref (ad 0)), (1, .int x0)] := hl
  refine lv_iload_n hx hb dX7_rooms_0 rfl (lv_at hl 1 rfl) ?_
  refine lv_iconst (v := 1) hx hb dX7_rooms_1 (by decide) ?_
  refine lv_iconst (v := 2) hx hb dX7_rooms_2 (by decide) ?_
  refine yc_p hP hS (va_runS (As := [.int x0, .int 1, .int 2]) (rest := []) ⟨hx, hb, hml, hown, hts⟩ (c_X7_isWithin l x0 1 2) (cwS 3 hts gX7_rooms_X7_isWithin rfl rfl rfl hd_S_X7_isWithin_3 ⟨Nat.le_of_ble_eq_true rfl, Nat.le_of_ble_eq_true rfl⟩) ex_preP rfl rfl hl.1 rfl (lv_room (Nat.le_of_ble_eq_true rfl)) dX7_rooms_3 ⟨Nat.le_of_ble_eq_true rfl, Nat.le_of_ble_eq_true rfl⟩) (fun r_1 H locs hw_1 hP hS => ?_)
  rcases wi_ca hw_1 with ⟨rfl, hc_2⟩ | ⟨rfl, hc_2⟩
  · have k_1 : (1 : Int32).toInt = 1 := by decide
    have k_2 : (2 : Int32).toInt = 2 := by decide
    have tc_2 := wi_tl hc_2
    refine lv_if_ne (tgt := 11) hx hb dX7_rooms_6 (by decide) (fun _ => ?_) (fun c9 => absurd c9 (by decide))
    refine lv_aload_n hx hb dX7_rooms_11 rfl (lv_at hl 0 rfl) ?_
    refine va_get (D := (dC, dI)) (ci := 7) (v := .int (v (0) 4)) (C := RX7) (T := TX7) (N := 5) hx hb hts iwX7_rooms_X7 hown hK hP (0) (wl_at (by omega) (ce_0 (by decide))) rfl 4 (by decide) (hts (.fieldLink RX7 33 "QuietStairs" "roomCount" "I") fwX7_rooms_1) (fun _ h9 => h9) rfl dX7_rooms_12 ?_
    refine lv_topi (fun x_3 ex_3 => ?_)
    have qx_3 : x_3.toInt = (v (0) (4)).toInt := congrArg Int32.toInt ex_3
    refine lv_istore_n (lv' := [(2, .int x_3), (0, .ref (ad 0)), (1, .int x0)]) hx hb dX7_rooms_15 rfl hl (by decide) rfl (fun ls hl => ?_)
    refine lv_aload_n hx hb dX7_rooms_16 rfl (lv_at hl 1 rfl) ?_
    refine lv_iload_n hx hb dX7_rooms_17 rfl (lv_at hl 2 rfl) ?_
    refine va_put (D := (dC, dI)) (ci := 7) (v := .int x0) (ty := .int) (C := RX7) (T := TX7) (N := 5) hx hb hts iwX7_rooms_X7 tyX7 tyX7_ok nmX7 hown hK hP hD hS (0) (wl_at (by omega) (ce_0 (by decide))) rfl 4 (by decide) (hts (.fieldLink RX7 33 "QuietStairs" "roomCount" "I") fwX7_rooms_1) (fun _ h9 => h9) rfl (by decide +kernel) rfl rfl (Nat.le_of_ble_eq_true rfl) dX7_rooms_18 (fun H locs hP hD hS => ?_)
    obtain ⟨v_4, ev_4⟩ : ∃ u : Nat → Nat → Int32, u = upr v (0) (upd (v (0)) 4 x0) := ⟨_, rfl⟩
    have hP : va_P (dC, dI) vwCl (wl ad kv cy N v_4) H := by rw [ev_4, ← wl_put (e := _) (ce_0 (by decide))]; exact hP
    have hD : va_D A (wl ad kv cy N v_4) := by rw [ev_4, ← wl_put (e := _) (ce_0 (by decide))]; exact hD
    have hv : Iv v_4 := by rw [ev_4]; exact hv.put (K := 0) (by decide) (fun h q => by simp [bd] at q)
    refine lv_iload_n hx hb dX7_rooms_21 rfl (lv_at hl 0 rfl) ?_
    have hpost : (¬ (1 ≤ x0.toInt ∧ x0.toInt ≤ 2) → x_3 = -1 ∧ v_4 = v) ∧ (1 ≤ x0.toInt ∧ x0.toInt ≤ 2 → x_3 = v 0 4 ∧ (∀ k j : Nat, v_4 k j = if k = 0 ∧ j = 4 then x0 else v k j)) := by
      refine ⟨fun hq => ?_, fun hq => ?_⟩
      · exfalso; omega
      · exact ⟨by rw [ex_3], fun k j => by rw [ev_4, up2]⟩
    exact W.iret (v := x_3) hx hb hr (fun t ht hW => ⟨⟨x_3, v_4, rfl, ⟨hv, hpost⟩, by rw [ht]; exact hP, hD⟩, hS.F ht⟩) hS.2.2 dX7_rooms_22
  · have k_1 : (1 : Int32).toInt = 1 := by decide
    have k_2 : (2 : Int32).toInt = 2 := by decide
    have tc_2 : ¬ ((1 : Int32).toInt ≤ x0.toInt ∧ x0.toInt ≤ (2 : Int32).toInt) := fun q => hc_2 ⟨Int32.le_iff_toInt_le.mpr q.1, Int32.le_iff_toInt_le.mpr q.2⟩
    refine lv_if_ne (tgt := 11) hx hb dX7_rooms_6 (by decide) (fun c9 => absurd c9 (by decide)) (fun _ => ?_)
    refine lv_iconst (v := (-1)) hx hb dX7_rooms_9 (by decide) ?_
    have hpost : (¬ (1 ≤ x0.toInt ∧ x0.toInt ≤ 2) → ((-1) : Int32) = -1 ∧ v = v) ∧ (1 ≤ x0.toInt ∧ x0.toInt ≤ 2 → ((-1) : Int32) = v 0 4 ∧ (∀ k j : Nat, v k j = if k = 0 ∧ j = 4 then x0 else v k j)) := by
      refine ⟨fun hq => ?_, fun hq => ?_⟩
      · exact ⟨rfl, rfl⟩
      · exfalso; omega
    exact W.iret (v := (-1)) hx hb hr (fun t ht hW => ⟨⟨(-1), v, rfl, ⟨hv, hpost⟩, by rw [ht]; exact hP, hD⟩, hS.F ht⟩) hS.2.2 dX7_rooms_10

set_option maxHeartbeats 4000000 in
set_option maxRecDepth 100000 in
theorem e_X7_term_0 (l : Launch) (dC : Nat → ClassId) (dI : Nat → Nat → Nat) (cy : Nat → ClassId) (sz : Nat) (ad : Nat → Nat) (kv : Value) (N : Nat) (hN : 119 ≤ N) (v : Nat → Nat → Int32) (hv : Iv v) (x0 x1 x2 x3 x4 : Int32) : Met l yX7_term wsX7_term ({ frames := 3, cells := 0, slots := 0, locals := 192 }) (va_Pc [.ref (ad 0), .int x0, .int x1, .int 0, .int x2, .int x3, .int x4] (ex_Pre dC dI cy sz (wl ad kv cy N v))) (va_Qi (fun (r : Int32) (u : Nat → Nat → Int32) => Iv u ∧ (¬ ((0 ≤ x0.toInt ∧ x0.toInt < (v 13 2).toInt) ∧ (0 ≤ x1.toInt ∧ x1.toInt ≤ 1) ∧ (0 ≤ x2.toInt ∧ x2.toInt ≤ 5) ∧ (0 ≤ x3.toInt ∧ x3.toInt ≤ 23) ∧ x3.toInt ≤ x4.toInt ∧ x4.toInt ≤ 23) → r = -1 ∧ u = v) ∧ (((0 ≤ x0.toInt ∧ x0.toInt < (v 13 2).toInt) ∧ (0 ≤ x1.toInt ∧ x1.toInt ≤ 1) ∧ (0 ≤ x2.toInt ∧ x2.toInt ≤ 5) ∧ (0 ≤ x3.toInt ∧ x3.toInt ≤ 23) ∧ x3.toInt ≤ x4.toInt ∧ x4.toInt ≤ 23) ∧ (v (29 + 15 * x0.toNatClampNeg) 0).toInt ≠ 1 → r = -4 ∧ u = v) ∧ (((0 ≤ x0.toInt ∧ x0.toInt < (v 13 2).toInt) ∧ (0 ≤ x1.toInt ∧ x1.toInt ≤ 1) ∧ (0 ≤ x2.toInt ∧ x2.toInt ≤ 5) ∧ (0 ≤ x3.toInt ∧ x3.toInt ≤ 23) ∧ x3.toInt ≤ x4.toInt ∧ x4.toInt ≤ 23) ∧ (v (29 + 15 * x0.toNatClampNeg) 0).toInt = 1 ∧ 5 ≤ (v (29 + 15 * x0.toNatClampNeg) 5).toInt → r = -2 ∧ u = v) ∧ (((0 ≤ x0.toInt ∧ x0.toInt < (v 13 2).toInt) ∧ (0 ≤ x1.toInt ∧ x1.toInt ≤ 1) ∧ (0 ≤ x2.toInt ∧ x2.toInt ≤ 5) ∧ (0 ≤ x3.toInt ∧ x3.toInt ≤ 23) ∧ x3.toInt ≤ x4.toInt ∧ x4.toInt ≤ 23) ∧ (v (29 + 15 * x0.toNatClampNeg) 0).toInt = 1 ∧ (v (29 + 15 * x0.toNatClampNeg) 5).toInt < 5 → r = v (29 + 15 * x0.toNatClampNeg) 5 ∧ (∀ k j : Nat, u k j = if k = 29 + 15 * x0.toNatClampNeg ∧ j = 5 then v (29 + 15 * x0.toNatClampNeg) 5 + 1 else if k = 39 + 15 * x0.toNatClampNeg + (v (29 + 15 * x0.toNatClampNeg) 5).toNatClampNeg ∧ j = 4 then x4 else if k = 39 + 15 * x0.toNatClampNeg + (v (29 + 15 * x0.toNatClampNeg) 5).toNatClampNeg ∧ j = 3 then x3 else if k = 39 + 15 * x0.toNatClampNeg + (v (29 + 15 * x0.toNatClampNeg) 5).toNatClampNeg ∧ j = 2 then x2 else if k = 39 + 15 * x0.toNatClampNeg + (v (29 + 15 * x0.toNatClampNeg) 5).toNatClampNeg ∧ j = 1 then 0 else if k = 39 + 15 * x0.toNatClampNeg + (v (29 + 15 * x0.toNatClampNeg) 5).toNatClampNeg ∧ j = 0 then x1 else v k j))) (fun u t => ex_Pst dC dI (va_A (wl ad kv cy N v) sz) (wl ad kv cy N u) t) (va_A (wl ad kv cy N v) sz)) 0 0 (va_A (wl ad kv cy N v) sz) := by
  refine Met.ofW (cc := cX7_term) (maxL := 9) (ret := (some .int)) (by decide) rfl ?_
  intro p e s m args below meth c s₁ B hml hv
  obtain ⟨rfl, hsz, hE, hP, hK, hD0⟩ := hv
  have hx := B.exec
  have hb := B.bytes
  have hr := B.returns
  have hts := atoms_spec (ws := wsX7_term) B.pre
  have hown : s.vm.findClass RX7 = some m.cls := findClass_of_methodNamed B.named
  have hlocks := B.notSynchronized
  subst hsz
  have hD := hD0.self (sz := s.heap.size)
  generalize hAe : va_A (wl ad kv cy N v) s.heap.size = A at hD ⊢
  have hA : ∀ q : Nat, s.heap.size ≤ q → A q := fun q h => by rw [← hAe]; exact Or.inr h
  have hS : va_S A s.heap s.heap [] := va_S.rf
  have hP : va_P (dC, dI) vwCl (wl ad kv cy N v) s.heap := hP
  have hl := lv_entry ([.ref (ad 0), .int x0, .int x1, .int 0, .int x2, .int x3, .int x4]) (n := 9) (Nat.le_of_ble_eq_true rfl)
  rw [lg_entry_eq]
  generalize (lg_sl ([.ref (ad 0), .int x0, .int x1, .int 0, .int x2, .int x3, .int x4]) ++ List.replicate (9 - (lg_sl ([.ref (ad 0), .int x0, .int x1, .int 0, .int x2, .int x3, .int x4])).length) Slot.unset).toArray = ls at hl ⊢
  have hl : lv_has ls 9 [(0, .ref (ad 0)), (1, .int x0), (2, .int x1), (3, .int 0), (4, .int x2), (5, .int x3), (6, .int x4)] := hl
  refine lv_aload_n hx hb dX7_term_0 rfl (lv_at hl 0 rfl) ?_
  refine lv_iload_n hx hb dX7_term_1 rfl (lv_at hl 1 rfl) ?_
  refine yw_i (w1 := fun (u : Nat → Nat → Int32) => wl ad kv cy N u) hD hS hA (va_runV (As := [.int x0]) (rest := []) ⟨hx, hb, hml, hown, hts⟩ (g_X7_isCase l dC dI cy _ ad kv N hN v hv x0) (cwV 1 hts gX7_term_X7_isCase rfl rfl rfl hd_V_X7_isCase_1 ⟨Nat.le_of_ble_eq_true rfl, Nat.le_of_ble_eq_true rfl⟩) (yw_preV hE hK hP hD (ci := 7) (q := (RX7, TX7, 5)) (q0 := 0) rfl (wl_at (by omega) (ce_0 (by decide)))) rfl rfl hl.1 rfl (lv_room (Nat.le_of_ble_eq_true rfl)) dX7_term_2 ⟨Nat.le_of_ble_eq_true rfl, Nat.le_of_ble_eq_true rfl⟩) (fun r_1 v_1 H locs hw_1 hP hD hS => ?_)
  obtain ⟨-, hu_1, hw_1⟩ := hw_1
  replace hu_1 := hu_1.symm
  subst hu_1
  rcases hw_1 with ⟨rfl, ha_2⟩ | ⟨rfl, ha_2⟩
  · have hb_2 := hv.at (k := 13) (j := 2) (K := 3) (by decide) rfl
    have hj_2 : 0 ≤ x0.toInt ∧ x0.toInt ≤ 5 := ⟨by omega, by omega⟩
    refine lv_if_eq (tgt := 48) hx hb dX7_term_5 (by decide) (fun c9 => absurd c9 (by decide)) (fun _ => ?_)
    refine lv_iload_n hx hb dX7_term_8 rfl (lv_at hl 2 rfl) ?_
    refine yc_p hP hS (va_runS (As := [.int x1]) (rest := []) ⟨hx, hb, hml, hown, hts⟩ (c_X7_isSide l x1) (cwS 1 hts gX7_term_X7_isSide rfl rfl rfl hd_S_X7_isSide_1 ⟨Nat.le_of_ble_eq_true rfl, Nat.le_of_ble_eq_true rfl⟩) ex_preP rfl rfl hl.1 rfl (lv_room (Nat.le_of_ble_eq_true rfl)) dX7_term_9 ⟨Nat.le_of_ble_eq_true rfl, Nat.le_of_ble_eq_true rfl⟩) (fun r_3 H locs hw_3 hP hS => ?_)
    rcases wi_ca hw_3 with ⟨rfl, hc_4⟩ | ⟨rfl, hc_4⟩
    · have k_0 : (0 : Int32).toInt = 0 := by decide
      have k_1 : (1 : Int32).toInt = 1 := by decide
      have tc_4 := wi_tl hc_4
      refine lv_if_eq (tgt := 48) hx hb dX7_term_12 (by decide) (fun c9 => absurd c9 (by decide)) (fun _ => ?_)
      refine lv_iload hx hb dX7_term_15 (lv_at hl 4 rfl) ?_
      refine lv_iconst (v := 0) hx hb dX7_term_17 (by decide) ?_
      refine lv_iconst (v := 5) hx hb dX7_term_18 (by decide) ?_
      refine yc_p hP hS (va_runS (As := [.int x2, .int 0, .int 5]) (rest := []) ⟨hx, hb, hml, hown, hts⟩ (c_X7_isWithin l x2 0 5) (cwS 3 hts gX7_term_X7_isWithin rfl rfl rfl hd_S_X7_isWithin_3 ⟨Nat.le_of_ble_eq_true rfl, Nat.le_of_ble_eq_true rfl⟩) ex_preP rfl rfl hl.1 rfl (lv_room (Nat.le_of_ble_eq_true rfl)) dX7_term_19 ⟨Nat.le_of_ble_eq_true rfl, Nat.le_of_ble_eq_true rfl⟩) (fun r_5 H locs hw_5 hP hS => ?_)
      rcases wi_ca hw_5 with ⟨rfl, hc_6⟩ | ⟨rfl, hc_6⟩
      · have k_5 : (5 : Int32).toInt = 5 := by decide
        have tc_6 := wi_tl hc_6
        refine lv_if_eq (tgt := 48) hx hb dX7_term_22 (by decide) (fun c9 => absurd c9 (by decide)) (fun _ => ?_)
        refine lv_iload hx hb dX7_term_25 (lv_at hl 5 rfl) ?_
        refine yc_p hP hS (va_runS (As := [.int x3]) (rest := []) ⟨hx, hb, hml, hown, hts⟩ (c_X7_isHour l x3) (cwS 1 hts gX7_term_X7_isHour rfl rfl rfl hd_S_X7_isHour_1 ⟨Nat.le_of_ble_eq_true rfl, Nat.le_of_ble_eq_true rfl⟩) ex_preP rfl rfl hl.1 rfl (lv_room (Nat.le_of_ble_eq_true rfl)) dX7_term_27 ⟨Nat.le_of_ble_eq_true rfl, Nat.le_of_ble_eq_true rfl⟩) (fun r_7 H locs hw_7 hP hS => ?_)
        rcases wi_ca hw_7 with ⟨rfl, hc_8⟩ | ⟨rfl, hc_8⟩
        · have k_23 : (23 : Int32).toInt = 23 := by decide
          have tc_8 := wi_tl hc_8
          refine lv_if_eq (tgt := 48) hx hb dX7_term_30 (by decide) (fun c9 => absurd c9 (by decide)) (fun _ => ?_)
          refine lv_iload hx hb dX7_term_33 (lv_at hl 6 rfl) ?_
          refine yc_p hP hS (va_runS (As := [.int x4]) (rest := []) ⟨hx, hb, hml, hown, hts⟩ (c_X7_isHour l x4) (cwS 1 hts gX7_term_X7_isHour rfl rfl rfl hd_S_X7_isHour_1 ⟨Nat.le_of_ble_eq_true rfl, Nat.le_of_ble_eq_true rfl⟩) ex_preP rfl rfl hl.1 rfl (lv_room (Nat.le_of_ble_eq_true rfl)) dX7_term_35 ⟨Nat.le_of_ble_eq_true rfl, Nat.le_of_ble_eq_true rfl⟩) (fun r_9 H locs hw_9 hP hS => ?_)
          rcases wi_ca hw_9 with ⟨rfl, hc_10⟩ | ⟨rfl, hc_10⟩
          · have tc_10 := wi_tl hc_10
            refine lv_if_eq (tgt := 48) hx hb dX7_term_38 (by decide) (fun c9 => absurd c9 (by decide)) (fun _ => ?_)
            refine lv_iload hx hb dX7_term_41 (lv_at hl 5 rfl) ?_
            refine lv_iload hx hb dX7_term_43 (lv_at hl 6 rfl) ?_
            refine lv_icmp_le (tgt := 50) hx hb dX7_term_45 (by decide) (fun c_11 => ?_) (fun c_11 => ?_)
            · have tc_11 : x3.toInt ≤ x4.toInt := Int32.le_iff_toInt_le.mp c_11
              refine lv_aload_n hx hb dX7_term_50 rfl (lv_at hl 0 rfl) ?_
              refine va_get (D := (dC, dI)) (ci := 7) (v := .ref (ad 13)) (C := RX7) (T := TX7) (N := 5) hx hb hts iwX7_term_X7 hown hK hP (0) (wl_at (by omega) (ce_0 (by decide))) rfl 0 (by decide) (hts (.fieldLink RX7 12 "QuietStairs" "now" "LQuietStairs$House;") fwX7_term_1) (fun _ h9 => h9) rfl dX7_term_51 ?_
              refine va_get (D := (dC, dI)) (ci := 1) (v := .ref (ad 16)) (C := RX1) (T := TX1) (N := 7) hx hb hts iwX7_term_X1 hown hK hP (13) (wl_at (by omega) (ce_3 (by decide))) rfl 6 (by decide) (hts (.fieldLink RX7 86 "QuietStairs$House" "cases" "[LQuietStairs$Case;") fwX7_term_2) (fun _ h9 => h9) rfl dX7_term_54 ?_
              refine lv_iload_n hx hb dX7_term_57 rfl (lv_at hl 1 rfl) ?_
              have zn_x0 : (x0.toNatClampNeg : Int) = x0.toInt := t_nn (by omega)
              have hx_12 : x0.toNatClampNeg < 6 := by omega
              refine va_aldq hx hb hK hP (16) 3 (wl_at (by omega) (ce_6 (by decide))) rfl (vp_in_iff.mpr ⟨by omega, by omega⟩) dX7_term_58 ?_
              refine W.eq (g2 := F0 m 59 ls [.ref (ad (29 + 15 * x0.toNatClampNeg))]) (by rw [if_pos hx_12, show 16 + 13 + 15 * x0.toNatClampNeg = 29 + 15 * x0.toNatClampNeg from by omega]; rfl) ?_
              refine lv_astore (lv' := [(7, .ref (ad (29 + 15 * x0.toNatClampNeg))), (0, .ref (ad 0)), (1, .int x0), (2, .int x1), (3, .int 0), (4, .int x2), (5, .int x3), (6, .int x4)]) hx hb dX7_term_59 hl (by decide) rfl (fun ls hl => ?_)
              refine lv_aload hx hb dX7_term_61 (lv_at hl 0 rfl) ?_
              refine va_get (D := (dC, dI)) (ci := 0) (v := .int (v (29 + 15 * x0.toNatClampNeg) 0)) (C := RX0) (T := TX0) (N := 11) hx hb hts iwX7_term_X0 hown hK hP (29 + 15 * x0.toNatClampNeg) (wl_at (by omega) (ce_9 (kd_c _ hx_12).1.1)) rfl 0 (by decide) (hts (.fieldLink RX7 99 "QuietStairs$Case" "state" "I") fwX7_term_3) (fun _ h9 => h9) rfl dX7_term_63 ?_
              refine lv_topi (fun x_13 ex_13 => ?_)
              have qx_13 : x_13.toInt = (v (29 + 15 * x0.toNatClampNeg) (0)).toInt := congrArg Int32.toInt ex_13
              refine lv_iconst (v := 1) hx hb dX7_term_66 (by decide) ?_
              refine lv_icmp_eq (tgt := 73) hx hb dX7_term_67 (by decide) (fun c_14 => ?_) (fun c_14 => ?_)
              · have tc_14 : x_13.toInt = (1 : Int32).toInt := by rw [c_14]
                refine lv_aload hx hb dX7_term_73 (lv_at hl 0 rfl) ?_
                refine va_get (D := (dC, dI)) (ci := 0) (v := .int (v (29 + 15 * x0.toNatClampNeg) 5)) (C := RX0) (T := TX0) (N := 11) hx hb hts iwX7_term_X0 hown hK hP (29 + 15 * x0.toNatClampNeg) (wl_at (by omega) (ce_9 (kd_c _ hx_12).1.1)) rfl 5 (by decide) (hts (.fieldLink RX7 169 "QuietStairs$Case" "termCount" "I") fwX7_term_4) (fun _ h9 => h9) rfl dX7_term_75 ?_
                refine lv_topi (fun x_15 ex_15 => ?_)
                have bzx_15 : 0 ≤ x_15.toInt ∧ x_15.toInt ≤ 5 := by rw [ex_15]; exact hv.at (K := 9) (kd_c _ hx_12).1.1 rfl
                have qx_15 : x_15.toInt = (v (29 + 15 * x0.toNatClampNeg) (5)).toInt := congrArg Int32.toInt ex_15
                refine lv_iconst (v := 5) hx hb dX7_term_78 (by decide) ?_
                refine lv_icmp_lt (tgt := 85) hx hb dX7_term_79 (by decide) (fun c_16 => ?_) (fun c_16 => ?_)
                · have tc_16 : x_15.toInt < (5 : Int32).toInt := Int32.lt_iff_toInt_lt.mp c_16
                  refine lv_aload hx hb dX7_term_85 (lv_at hl 0 rfl) ?_
                  refine va_get (D := (dC, dI)) (ci := 0) (v := .ref (ad (29 + 15 * x0.toNatClampNeg + 9))) (C := RX0) (T := TX0) (N := 11) hx hb hts iwX7_term_X0 hown hK hP (29 + 15 * x0.toNatClampNeg) (wl_at (by omega) (ce_9 (kd_c _ hx_12).1.1)) rfl 10 (by decide) (hts (.fieldLink RX7 172 "QuietStairs$Case" "terms" "[LQuietStairs$Term;") fwX7_term_5) (fun _ h9 => h9) rfl dX7_term_87 ?_
                  refine W.eq (g2 := F0 m 90 ls [.ref (ad (38 + 15 * x0.toNatClampNeg))]) (by rw [show 29 + 15 * x0.toNatClampNeg + 9 = 38 + 15 * x0.toNatClampNeg from by omega]) ?_
                  refine lv_aload hx hb dX7_term_90 (lv_at hl 0 rfl) ?_
                  refine va_get (D := (dC, dI)) (ci := 0) (v := .int (v (29 + 15 * x0.toNatClampNeg) 5)) (C := RX0) (T := TX0) (N := 11) hx hb hts iwX7_term_X0 hown hK hP (29 + 15 * x0.toNatClampNeg) (wl_at (by omega) (ce_9 (kd_c _ hx_12).1.1)) rfl 5 (by decide) (hts (.fieldLink RX7 169 "QuietStairs$Case" "termCount" "I") fwX7_term_4) (fun _ h9 => h9) rfl dX7_term_92 ?_
                  refine lv_topi (fun x_17 ex_17 => ?_)
                  have bzx_17 : 0 ≤ x_17.toInt ∧ x_17.toInt ≤ 5 := by rw [ex_17]; exact hv.at (K := 9) (kd_c _ hx_12).1.1 rfl
                  obtain rfl : x_15 = x_17 := (ex_17.trans ex_15.symm).symm
                  have zn_x_15 : (x_15.toNatClampNeg : Int) = x_15.toInt := t_nn (by omega)
                  have hx_18 : x_15.toNatClampNeg < 5 := by omega
                  refine va_aldq hx hb hK hP (38 + 15 * x0.toNatClampNeg) 4 (wl_at (by omega) (ce_15 (kd_c _ hx_12).1.2.2.2.2.2)) rfl (vp_in_iff.mpr ⟨by omega, by omega⟩) dX7_term_95 ?_
                  refine W.eq (g2 := F0 m 96 ls [.ref (ad (39 + 15 * x0.toNatClampNeg + x_15.toNatClampNeg))]) (by rw [if_pos hx_18, show 38 + 15 * x0.toNatClampNeg + 1 + x_15.toNatClampNeg = 39 + 15 * x0.toNatClampNeg + x_15.toNatClampNeg from by omega]; rfl) ?_
                  refine lv_astore (lv' := [(8, .ref (ad (39 + 15 * x0.toNatClampNeg + x_15.toNatClampNeg))), (7, .ref (ad (29 + 15 * x0.toNatClampNeg))), (0, .ref (ad 0)), (1, .int x0), (2, .int x1), (3, .int 0), (4, .int x2), (5, .int x3), (6, .int x4)]) hx hb dX7_term_96 hl (by decide) rfl (fun ls hl => ?_)
                  refine lv_aload hx hb dX7_term_98 (lv_at hl 0 rfl) ?_
                  refine lv_iload_n hx hb dX7_term_100 rfl (lv_at hl 4 rfl) ?_
                  refine va_put (D := (dC, dI)) (ci := 6) (v := .int x1) (ty := .int) (C := RX6) (T := TX6) (N := 5) hx hb hts iwX7_term_X6 tyX6 tyX6_ok nmX6 hown hK hP hD hS (39 + 15 * x0.toNatClampNeg + x_15.toNatClampNeg) (wl_at (by omega) (ce_16 (kd_t _ hx_12 _ hx_18).1)) rfl 0 (by decide) (hts (.fieldLink RX7 176 "QuietStairs$Term" "side" "I") fwX7_term_6) (fun _ h9 => h9) rfl (by decide +kernel) rfl rfl (Nat.le_of_ble_eq_true rfl) dX7_term_101 (fun H locs hP hD hS => ?_)
                  obtain ⟨v_19, ev_19⟩ : ∃ u : Nat → Nat → Int32, u = upr v (39 + 15 * x0.toNatClampNeg + x_15.toNatClampNeg) (upd (v (39 + 15 * x0.toNatClampNeg + x_15.toNatClampNeg)) 0 x1) := ⟨_, rfl⟩
                  have hP : va_P (dC, dI) vwCl (wl ad kv cy N v_19) H := by rw [ev_19, ← wl_put (e := _) (ce_16 (kd_t _ hx_12 _ hx_18).1)]; exact hP
                  have hD : va_D A (wl ad kv cy N v_19) := by rw [ev_19, ← wl_put (e := _) (ce_16 (kd_t _ hx_12 _ hx_18).1)]; exact hD
                  have hv : Iv v_19 := by rw [ev_19]; exact hv.put (K := 16) (kd_t _ hx_12 _ hx_18).1 (fun h q => by cases q; exact ⟨by omega, by omega⟩)
                  refine lv_aload hx hb dX7_term_104 (lv_at hl 0 rfl) ?_
                  refine lv_iload_n hx hb dX7_term_106 rfl (lv_at hl 5 rfl) ?_
                  refine va_put (D := (dC, dI)) (ci := 6) (v := .int 0) (ty := .boolean) (C := RX6) (T := TX6) (N := 5) hx hb hts iwX7_term_X6 tyX6 tyX6_ok nmX6 hown hK hP hD hS (39 + 15 * x0.toNatClampNeg + x_15.toNatClampNeg) (wl_at (by omega) (ce_16 (kd_t _ hx_12 _ hx_18).1)) rfl 1 (by decide) (hts (.fieldLink RX7 181 "QuietStairs$Term" "must" "Z") fwX7_term_7) (fun _ h9 => h9) rfl (by decide +kernel) rfl rfl (Nat.le_of_ble_eq_true rfl) dX7_term_107 (fun H locs hP hD hS => ?_)
                  obtain ⟨v_20, ev_20⟩ : ∃ u : Nat → Nat → Int32, u = upr v_19 (39 + 15 * x0.toNatClampNeg + x_15.toNatClampNeg) (upd (v_19 (39 + 15 * x0.toNatClampNeg + x_15.toNatClampNeg)) 1 0) := ⟨_, rfl⟩
                  have hP : va_P (dC, dI) vwCl (wl ad kv cy N v_20) H := by rw [ev_20, ← wl_put (e := _) (ce_16 (kd_t _ hx_12 _ hx_18).1)]; exact hP
                  have hD : va_D A (wl ad kv cy N v_20) := by rw [ev_20, ← wl_put (e := _) (ce_16 (kd_t _ hx_12 _ hx_18).1)]; exact hD
                  have hv : Iv v_20 := by rw [ev_20]; exact hv.put (K := 16) (kd_t _ hx_12 _ hx_18).1 (fun h q => by cases q; exact ⟨by omega, by omega⟩)
                  refine lv_aload hx hb dX7_term_110 (lv_at hl 0 rfl) ?_
                  refine lv_iload hx hb dX7_term_112 (lv_at hl 6 rfl) ?_
                  refine va_put (D := (dC, dI)) (ci := 6) (v := .int x2) (ty := .int) (C := RX6) (T := TX6) (N := 5) hx hb hts iwX7_term_X6 tyX6 tyX6_ok nmX6 hown hK hP hD hS (39 + 15 * x0.toNatClampNeg + x_15.toNatClampNeg) (wl_at (by omega) (ce_16 (kd_t _ hx_12 _ hx_18).1)) rfl 2 (by decide) (hts (.fieldLink RX7 185 "QuietStairs$Term" "act" "I") fwX7_term_8) (fun _ h9 => h9) rfl (by decide +kernel) rfl rfl (Nat.le_of_ble_eq_true rfl) dX7_term_114 (fun H locs hP hD hS => ?_)
                  obtain ⟨v_21, ev_21⟩ : ∃ u : Nat → Nat → Int32, u = upr v_20 (39 + 15 * x0.toNatClampNeg + x_15.toNatClampNeg) (upd (v_20 (39 + 15 * x0.toNatClampNeg + x_15.toNatClampNeg)) 2 x2) := ⟨_, rfl⟩
                  have hP : va_P (dC, dI) vwCl (wl ad kv cy N v_21) H := by rw [ev_21, ← wl_put (e := _) (ce_16 (kd_t _ hx_12 _ hx_18).1)]; exact hP
                  have hD : va_D A (wl ad kv cy N v_21) := by rw [ev_21, ← wl_put (e := _) (ce_16 (kd_t _ hx_12 _ hx_18).1)]; exact hD
                  have hv : Iv v_21 := by rw [ev_21]; exact hv.put (K := 16) (kd_t _ hx_12 _ hx_18).1 (fun h q => by simp [bd] at q)
                  refine lv_aload hx hb dX7_term_117 (lv_at hl 0 rfl) ?_
                  refine lv_iload hx hb dX7_term_119 (lv_at hl 7 rfl) ?_
                  refine va_put (D := (dC, dI)) (ci := 6) (v := .int x3) (ty := .int) (C := RX6) (T := TX6) (N := 5) hx hb hts iwX7_term_X6 tyX6 tyX6_ok nmX6 hown hK hP hD hS (39 + 15 * x0.toNatClampNeg + x_15.toNatClampNeg) (wl_at (by omega) (ce_16 (kd_t _ hx_12 _ hx_18).1)) rfl 3 (by decide) (hts (.fieldLink RX7 188 "QuietStairs$Term" "first" "I") fwX7_term_9) (fun _ h9 => h9) rfl (by decide +kernel) rfl rfl (Nat.le_of_ble_eq_true rfl) dX7_term_121 (fun H locs hP hD hS => ?_)
                  obtain ⟨v_22, ev_22⟩ : ∃ u : Nat → Nat → Int32, u = upr v_21 (39 + 15 * x0.toNatClampNeg + x_15.toNatClampNeg) (upd (v_21 (39 + 15 * x0.toNatClampNeg + x_15.toNatClampNeg)) 3 x3) := ⟨_, rfl⟩
                  have hP : va_P (dC, dI) vwCl (wl ad kv cy N v_22) H := by rw [ev_22, ← wl_put (e := _) (ce_16 (kd_t _ hx_12 _ hx_18).1)]; exact hP
                  have hD : va_D A (wl ad kv cy N v_22) := by rw [ev_22, ← wl_put (e := _) (ce_16 (kd_t _ hx_12 _ hx_18).1)]; exact hD
                  have hv : Iv v_22 := by rw [ev_22]; exact hv.put (K := 16) (kd_t _ hx_12 _ hx_18).1 (fun h q => by cases q; exact ⟨by omega, by omega⟩)
                  refine lv_aload hx hb dX7_term_124 (lv_at hl 0 rfl) ?_
                  refine lv_iload hx hb dX7_term_126 (lv_at hl 8 rfl) ?_
                  refine va_put (D := (dC, dI)) (ci := 6) (v := .int x4) (ty := .int) (C := RX6) (T := TX6) (N := 5) hx hb hts iwX7_term_X6 tyX6 tyX6_ok nmX6 hown hK hP hD hS (39 + 15 * x0.toNatClampNeg + x_15.toNatClampNeg) (wl_at (by omega) (ce_16 (kd_t _ hx_12 _ hx_18).1)) rfl 4 (by decide) (hts (.fieldLink RX7 191 "QuietStairs$Term" "last" "I") fwX7_term_10) (fun _ h9 => h9) rfl (by decide +kernel) rfl rfl (Nat.le_of_ble_eq_true rfl) dX7_term_128 (fun H locs hP hD hS => ?_)
                  obtain ⟨v_23, ev_23⟩ : ∃ u : Nat → Nat → Int32, u = upr v_22 (39 + 15 * x0.toNatClampNeg + x_15.toNatClampNeg) (upd (v_22 (39 + 15 * x0.toNatClampNeg + x_15.toNatClampNeg)) 4 x4) := ⟨_, rfl⟩
                  have hP : va_P (dC, dI) vwCl (wl ad kv cy N v_23) H := by rw [ev_23, ← wl_put (e := _) (ce_16 (kd_t _ hx_12 _ hx_18).1)]; exact hP
                  have hD : va_D A (wl ad kv cy N v_23) := by rw [ev_23, ← wl_put (e := _) (ce_16 (kd_t _ hx_12 _ hx_18).1)]; exact hD
                  have hv : Iv v_23 := by rw [ev_23]; exact hv.put (K := 16) (kd_t _ hx_12 _ hx_18).1 (fun h q => by cases q; exact ⟨by omega, by omega⟩)
                  refine lv_aload hx hb dX7_term_131 (lv_at hl 1 rfl) ?_
                  refine lv_dup hx hb dX7_term_133 rfl ?_
                  refine va_get (D := (dC, dI)) (ci := 0) (v := .int (v_23 (29 + 15 * x0.toNatClampNeg) 5)) (C := RX0) (T := TX0) (N := 11) hx hb hts iwX7_term_X0 hown hK hP (29 + 15 * x0.toNatClampNeg) (wl_at (by omega) (ce_9 (kd_c _ hx_12).1.1)) rfl 5 (by decide) (hts (.fieldLink RX7 169 "QuietStairs$Case" "termCount" "I") fwX7_term_4) (fun _ h9 => h9) rfl dX7_term_134 ?_
                  refine lv_topi (fun x_24 ex_24 => ?_)
                  have bzx_24 : 0 ≤ x_24.toInt ∧ x_24.toInt ≤ 5 := by rw [ex_24]; exact hv.at (K := 9) (kd_c _ hx_12).1.1 rfl
                  rw [ev_23, upr_n (by omega), ev_22, upr_n (by omega), ev_21, upr_n (by omega), ev_20, upr_n (by omega), ev_19, upr_n (by omega)] at ex_24
                  obtain rfl : x_15 = x_24 := (ex_24.trans ex_15.symm).symm
                  refine lv_dup_x1 hx hb dX7_term_137 rfl rfl ?_
                  refine lv_iconst (v := 1) hx hb dX7_term_138 (by decide) ?_
                  refine lv_iadd hx hb dX7_term_139 ?_
                  refine lv_topi (fun x_25 ex_25 => ?_)
                  have tx_25 : x_25.toInt = x_15.toInt + (1 : Int32).toInt := by rw [ex_25]; exact t_add ⟨by omega, by omega⟩
                  refine va_put (D := (dC, dI)) (ci := 0) (v := .int x_25) (ty := .int) (C := RX0) (T := TX0) (N := 11) hx hb hts iwX7_term_X0 tyX0 tyX0_ok nmX0 hown hK hP hD hS (29 + 15 * x0.toNatClampNeg) (wl_at (by omega) (ce_9 (kd_c _ hx_12).1.1)) rfl 5 (by decide) (hts (.fieldLink RX7 169 "QuietStairs$Case" "termCount" "I") fwX7_term_4) (fun _ h9 => h9) rfl (by decide +kernel) rfl rfl (Nat.le_of_ble_eq_true rfl) dX7_term_140 (fun H locs hP hD hS => ?_)
                  obtain ⟨v_26, ev_26⟩ : ∃ u : Nat → Nat → Int32, u = upr v_23 (29 + 15 * x0.toNatClampNeg) (upd (v_23 (29 + 15 * x0.toNatClampNeg)) 5 x_25) := ⟨_, rfl⟩
                  have hP : va_P (dC, dI) vwCl (wl ad kv cy N v_26) H := by rw [ev_26, ← wl_put (e := _) (ce_9 (kd_c _ hx_12).1.1)]; exact hP
                  have hD : va_D A (wl ad kv cy N v_26) := by rw [ev_26, ← wl_put (e := _) (ce_9 (kd_c _ hx_12).1.1)]; exact hD
                  have hv : Iv v_26 := by rw [ev_26]; exact hv.put (K := 9) (kd_c _ hx_12).1.1 (fun h q => by cases q; exact ⟨by omega, by omega⟩)
                  have hpost : (¬ ((0 ≤ x0.toInt ∧ x0.toInt < (v 13 2).toInt) ∧ (0 ≤ x1.toInt ∧ x1.toInt ≤ 1) ∧ (0 ≤ x2.toInt ∧ x2.toInt ≤ 5) ∧ (0 ≤ x3.toInt ∧ x3.toInt ≤ 23) ∧ x3.toInt ≤ x4.toInt ∧ x4.toInt ≤ 23) → x_15 = -1 ∧ v_26 = v) ∧ (((0 ≤ x0.toInt ∧ x0.toInt < (v 13 2).toInt) ∧ (0 ≤ x1.toInt ∧ x1.toInt ≤ 1) ∧ (0 ≤ x2.toInt ∧ x2.toInt ≤ 5) ∧ (0 ≤ x3.toInt ∧ x3.toInt ≤ 23) ∧ x3.toInt ≤ x4.toInt ∧ x4.toInt ≤ 23) ∧ (v (29 + 15 * x0.toNatClampNeg) 0).toInt ≠ 1 → x_15 = -4 ∧ v_26 = v) ∧ (((0 ≤ x0.toInt ∧ x0.toInt < (v 13 2).toInt) ∧ (0 ≤ x1.toInt ∧ x1.toInt ≤ 1) ∧ (0 ≤ x2.toInt ∧ x2.toInt ≤ 5) ∧ (0 ≤ x3.toInt ∧ x3.toInt ≤ 23) ∧ x3.toInt ≤ x4.toInt ∧ x4.toInt ≤ 23) ∧ (v (29 + 15 * x0.toNatClampNeg) 0).toInt = 1 ∧ 5 ≤ (v (29 + 15 * x0.toNatClampNeg) 5).toInt → x_15 = -2 ∧ v_26 = v) ∧ (((0 ≤ x0.toInt ∧ x0.toInt < (v 13 2).toInt) ∧ (0 ≤ x1.toInt ∧ x1.toInt ≤ 1) ∧ (0 ≤ x2.toInt ∧ x2.toInt ≤ 5) ∧ (0 ≤ x3.toInt ∧ x3.toInt ≤ 23) ∧ x3.toInt ≤ x4.toInt ∧ x4.toInt ≤ 23) ∧ (v (29 + 15 * x0.toNatClampNeg) 0).toInt = 1 ∧ (v (29 + 15 * x0.toNatClampNeg) 5).toInt < 5 → x_15 = v (29 + 15 * x0.toNatClampNeg) 5 ∧ (∀ k j : Nat, v_26 k j = if k = 29 + 15 * x0.toNatClampNeg ∧ j = 5 then v (29 + 15 * x0.toNatClampNeg) 5 + 1 else if k = 39 + 15 * x0.toNatClampNeg + (v (29 + 15 * x0.toNatClampNeg) 5).toNatClampNeg ∧ j = 4 then x4 else if k = 39 + 15 * x0.toNatClampNeg + (v (29 + 15 * x0.toNatClampNeg) 5).toNatClampNeg ∧ j = 3 then x3 else if k = 39 + 15 * x0.toNatClampNeg + (v (29 + 15 * x0.toNatClampNeg) 5).toNatClampNeg ∧ j = 2 then x2 else if k = 39 + 15 * x0.toNatClampNeg + (v (29 + 15 * x0.toNatClampNeg) 5).toNatClampNeg ∧ j = 1 then 0 else if k = 39 + 15 * x0.toNatClampNeg + (v (29 + 15 * x0.toNatClampNeg) 5).toNatClampNeg ∧ j = 0 then x1 else v k j)) := by
                    refine ⟨fun hq => ?_, fun hq => ?_, fun hq => ?_, fun hq => ?_⟩
                    · exfalso; omega
                    · exfalso; omega
                    · exfalso; omega
                    · exact ⟨by rw [ex_15], fun k j => by rw [ev_26, up2, ev_23, up2, ev_22, up2, ev_21, up2, ev_20, up2, ev_19, up2, ex_25, ex_15]⟩
                  exact W.iret (v := x_15) hx hb hr (fun t ht hW => ⟨⟨x_15, v_26, rfl, ⟨hv, hpost⟩, by rw [ht]; exact hP, hD⟩, hS.F ht⟩) hS.2.2 dX7_term_143
                · have tc_16 : x_15.toInt ≥ (5 : Int32).toInt := Int32.le_iff_toInt_le.mp (Int32.not_lt.mp c_16)
                  refine lv_bipush (v := (-2)) hx hb dX7_term_82 (by decide) ?_
                  have hpost : (¬ ((0 ≤ x0.toInt ∧ x0.toInt < (v 13 2).toInt) ∧ (0 ≤ x1.toInt ∧ x1.toInt ≤ 1) ∧ (0 ≤ x2.toInt ∧ x2.toInt ≤ 5) ∧ (0 ≤ x3.toInt ∧ x3.toInt ≤ 23) ∧ x3.toInt ≤ x4.toInt ∧ x4.toInt ≤ 23) → ((-2) : Int32) = -1 ∧ v = v) ∧ (((0 ≤ x0.toInt ∧ x0.toInt < (v 13 2).toInt) ∧ (0 ≤ x1.toInt ∧ x1.toInt ≤ 1) ∧ (0 ≤ x2.toInt ∧ x2.toInt ≤ 5) ∧ (0 ≤ x3.toInt ∧ x3.toInt ≤ 23) ∧ x3.toInt ≤ x4.toInt ∧ x4.toInt ≤ 23) ∧ (v (29 + 15 * x0.toNatClampNeg) 0).toInt ≠ 1 → ((-2) : Int32) = -4 ∧ v = v) ∧ (((0 ≤ x0.toInt ∧ x0.toInt < (v 13 2).toInt) ∧ (0 ≤ x1.toInt ∧ x1.toInt ≤ 1) ∧ (0 ≤ x2.toInt ∧ x2.toInt ≤ 5) ∧ (0 ≤ x3.toInt ∧ x3.toInt ≤ 23) ∧ x3.toInt ≤ x4.toInt ∧ x4.toInt ≤ 23) ∧ (v (29 + 15 * x0.toNatClampNeg) 0).toInt = 1 ∧ 5 ≤ (v (29 + 15 * x0.toNatClampNeg) 5).toInt → ((-2) : Int32) = -2 ∧ v = v) ∧ (((0 ≤ x0.toInt ∧ x0.toInt < (v 13 2).toInt) ∧ (0 ≤ x1.toInt ∧ x1.toInt ≤ 1) ∧ (0 ≤ x2.toInt ∧ x2.toInt ≤ 5) ∧ (0 ≤ x3.toInt ∧ x3.toInt ≤ 23) ∧ x3.toInt ≤ x4.toInt ∧ x4.toInt ≤ 23) ∧ (v (29 + 15 * x0.toNatClampNeg) 0).toInt = 1 ∧ (v (29 + 15 * x0.toNatClampNeg) 5).toInt < 5 → ((-2) : Int32) = v (29 + 15 * x0.toNatClampNeg) 5 ∧ (∀ k j : Nat, v k j = if k = 29 + 15 * x0.toNatClampNeg ∧ j = 5 then v (29 + 15 * x0.toNatClampNeg) 5 + 1 else if k = 39 + 15 * x0.toNatClampNeg + (v (29 + 15 * x0.toNatClampNeg) 5).toNatClampNeg ∧ j = 4 then x4 else if k = 39 + 15 * x0.toNatClampNeg + (v (29 + 15 * x0.toNatClampNeg) 5).toNatClampNeg ∧ j = 3 then x3 else if k = 39 + 15 * x0.toNatClampNeg + (v (29 + 15 * x0.toNatClampNeg) 5).toNatClampNeg ∧ j = 2 then x2 else if k = 39 + 15 * x0.toNatClampNeg + (v (29 + 15 * x0.toNatClampNeg) 5).toNatClampNeg ∧ j = 1 then 0 else if k = 39 + 15 * x0.toNatClampNeg + (v (29 + 15 * x0.toNatClampNeg) 5).toNatClampNeg ∧ j = 0 then x1 else v k j)) := by
                    refine ⟨fun hq => ?_, fun hq => ?_, fun hq => ?_, fun hq => ?_⟩
                    · exfalso; omega
                    · exfalso; omega
                    · exact ⟨rfl, rfl⟩
                    · exfalso; omega
                  exact W.iret (v := (-2)) hx hb hr (fun t ht hW => ⟨⟨(-2), v, rfl, ⟨hv, hpost⟩, by rw [ht]; exact hP, hD⟩, hS.F ht⟩) hS.2.2 dX7_term_84
              · have tc_14 : x_13.toInt ≠ (1 : Int32).toInt := fun q => absurd (Int32.toInt_inj.mp q) c_14
                refine lv_bipush (v := (-4)) hx hb dX7_term_70 (by decide) ?_
                have hpost : (¬ ((0 ≤ x0.toInt ∧ x0.toInt < (v 13 2).toInt) ∧ (0 ≤ x1.toInt ∧ x1.toInt ≤ 1) ∧ (0 ≤ x2.toInt ∧ x2.toInt ≤ 5) ∧ (0 ≤ x3.toInt ∧ x3.toInt ≤ 23) ∧ x3.toInt ≤ x4.toInt ∧ x4.toInt ≤ 23) → ((-4) : Int32) = -1 ∧ v = v) ∧ (((0 ≤ x0.toInt ∧ x0.toInt < (v 13 2).toInt) ∧ (0 ≤ x1.toInt ∧ x1.toInt ≤ 1) ∧ (0 ≤ x2.toInt ∧ x2.toInt ≤ 5) ∧ (0 ≤ x3.toInt ∧ x3.toInt ≤ 23) ∧ x3.toInt ≤ x4.toInt ∧ x4.toInt ≤ 23) ∧ (v (29 + 15 * x0.toNatClampNeg) 0).toInt ≠ 1 → ((-4) : Int32) = -4 ∧ v = v) ∧ (((0 ≤ x0.toInt ∧ x0.toInt < (v 13 2).toInt) ∧ (0 ≤ x1.toInt ∧ x1.toInt ≤ 1) ∧ (0 ≤ x2.toInt ∧ x2.toInt ≤ 5) ∧ (0 ≤ x3.toInt ∧ x3.toInt ≤ 23) ∧ x3.toInt ≤ x4.toInt ∧ x4.toInt ≤ 23) ∧ (v (29 + 15 * x0.toNatClampNeg) 0).toInt = 1 ∧ 5 ≤ (v (29 + 15 * x0.toNatClampNeg) 5).toInt → ((-4) : Int32) = -2 ∧ v = v) ∧ (((0 ≤ x0.toInt ∧ x0.toInt < (v 13 2).toInt) ∧ (0 ≤ x1.toInt ∧ x1.toInt ≤ 1) ∧ (0 ≤ x2.toInt ∧ x2.toInt ≤ 5) ∧ (0 ≤ x3.toInt ∧ x3.toInt ≤ 23) ∧ x3.toInt ≤ x4.toInt ∧ x4.toInt ≤ 23) ∧ (v (29 + 15 * x0.toNatClampNeg) 0).toInt = 1 ∧ (v (29 + 15 * x0.toNatClampNeg) 5).toInt < 5 → ((-4) : Int32) = v (29 + 15 * x0.toNatClampNeg) 5 ∧ (∀ k j : Nat, v k j = if k = 29 + 15 * x0.toNatClampNeg ∧ j = 5 then v (29 + 15 * x0.toNatClampNeg) 5 + 1 else if k = 39 + 15 * x0.toNatClampNeg + (v (29 + 15 * x0.toNatClampNeg) 5).toNatClampNeg ∧ j = 4 then x4 else if k = 39 + 15 * x0.toNatClampNeg + (v (29 + 15 * x0.toNatClampNeg) 5).toNatClampNeg ∧ j = 3 then x3 else if k = 39 + 15 * x0.toNatClampNeg + (v (29 + 15 * x0.toNatClampNeg) 5).toNatClampNeg ∧ j = 2 then x2 else if k = 39 + 15 * x0.toNatClampNeg + (v (29 + 15 * x0.toNatClampNeg) 5).toNatClampNeg ∧ j = 1 then 0 else if k = 39 + 15 * x0.toNatClampNeg + (v (29 + 15 * x0.toNatClampNeg) 5).toNatClampNeg ∧ j = 0 then x1 else v k j)) := by
                  refine ⟨fun hq => ?_, fun hq => ?_, fun hq => ?_, fun hq => ?_⟩
                  · exfalso; omega
                  · exact ⟨rfl, rfl⟩
                  · exfalso; omega
                  · exfalso; omega
                exact W.iret (v := (-4)) hx hb hr (fun t ht hW => ⟨⟨(-4), v, rfl, ⟨hv, hpost⟩, by rw [ht]; exact hP, hD⟩, hS.F ht⟩) hS.2.2 dX7_term_72
            · have tc_11 : x3.toInt > x4.toInt := Int32.lt_iff_toInt_lt.mp (Int32.not_le.mp c_11)
              refine lv_iconst (v := (-1)) hx hb dX7_term_48 (by decide) ?_
              have hpost : (¬ ((0 ≤ x0.toInt ∧ x0.toInt < (v 13 2).toInt) ∧ (0 ≤ x1.toInt ∧ x1.toInt ≤ 1) ∧ (0 ≤ x2.toInt ∧ x2.toInt ≤ 5) ∧ (0 ≤ x3.toInt ∧ x3.toInt ≤ 23) ∧ x3.toInt ≤ x4.toInt ∧ x4.toInt ≤ 23) → ((-1) : Int32) = -1 ∧ v = v) ∧ (((0 ≤ x0.toInt ∧ x0.toInt < (v 13 2).toInt) ∧ (0 ≤ x1.toInt ∧ x1.toInt ≤ 1) ∧ (0 ≤ x2.toInt ∧ x2.toInt ≤ 5) ∧ (0 ≤ x3.toInt ∧ x3.toInt ≤ 23) ∧ x3.toInt ≤ x4.toInt ∧ x4.toInt ≤ 23) ∧ (v (29 + 15 * x0.toNatClampNeg) 0).toInt ≠ 1 → ((-1) : Int32) = -4 ∧ v = v) ∧ (((0 ≤ x0.toInt ∧ x0.toInt < (v 13 2).toInt) ∧ (0 ≤ x1.toInt ∧ x1.toInt ≤ 1) ∧ (0 ≤ x2.toInt ∧ x2.toInt ≤ 5) ∧ (0 ≤ x3.toInt ∧ x3.toInt ≤ 23) ∧ x3.toInt ≤ x4.toInt ∧ x4.toInt ≤ 23) ∧ (v (29 + 15 * x0.toNatClampNeg) 0).toInt = 1 ∧ 5 ≤ (v (29 + 15 * x0.toNatClampNeg) 5).toInt → ((-1) : Int32) = -2 ∧ v = v) ∧ (((0 ≤ x0.toInt ∧ x0.toInt < (v 13 2).toInt) ∧ (0 ≤ x1.toInt ∧ x1.toInt ≤ 1) ∧ (0 ≤ x2.toInt ∧ x2.toInt ≤ 5) ∧ (0 ≤ x3.toInt ∧ x3.toInt ≤ 23) ∧ x3.toInt ≤ x4.toInt ∧ x4.toInt ≤ 23) ∧ (v (29 + 15 * x0.toNatClampNeg) 0).toInt = 1 ∧ (v (29 + 15 * x0.toNatClampNeg) 5).toInt < 5 → ((-1) : Int32) = v (29 + 15 * x0.toNatClampNeg) 5 ∧ (∀ k j : Nat, v k j = if k = 29 + 15 * x0.toNatClampNeg ∧ j = 5 then v (29 + 15 * x0.toNatClampNeg) 5 + 1 else if k = 39 + 15 * x0.toNatClampNeg + (v (29 + 15 * x0.toNatClampNeg) 5).toNatClampNeg ∧ j = 4 then x4 else if k = 39 + 15 * x0.toNatClampNeg + (v (29 + 15 * x0.toNatClampNeg) 5).toNatClampNeg ∧ j = 3 then x3 else if k = 39 + 15 * x0.toNatClampNeg + (v (29 + 15 * x0.toNatClampNeg) 5).toNatClampNeg ∧ j = 2 then x2 else if k = 39 + 15 * x0.toNatClampNeg + (v (29 + 15 * x0.toNatClampNeg) 5).toNatClampNeg ∧ j = 1 then 0 else if k = 39 + 15 * x0.toNatClampNeg + (v (29 + 15 * x0.toNatClampNeg) 5).toNatClampNeg ∧ j = 0 then x1 else v k j)) := by
                refine ⟨fun hq => ?_, fun hq => ?_, fun hq => ?_, fun hq => ?_⟩
                · exact ⟨rfl, rfl⟩
                · exfalso; omega
                · exfalso; omega
                · exfalso; omega
              exact W.iret (v := (-1)) hx hb hr (fun t ht hW => ⟨⟨(-1), v, rfl, ⟨hv, hpost⟩, by rw [ht]; exact hP, hD⟩, hS.F ht⟩) hS.2.2 dX7_term_49
          · have tc_10 : ¬ ((0 : Int32).toInt ≤ x4.toInt ∧ x4.toInt ≤ (23 : Int32).toInt) := fun q => hc_10 ⟨Int32.le_iff_toInt_le.mpr q.1, Int32.le_iff_toInt_le.mpr q.2⟩
            refine lv_if_eq (tgt := 48) hx hb dX7_term_38 (by decide) (fun _ => ?_) (fun c9 => absurd c9 (by decide))
            refine lv_iconst (v := (-1)) hx hb dX7_term_48 (by decide) ?_
            have hpost : (¬ ((0 ≤ x0.toInt ∧ x0.toInt < (v 13 2).toInt) ∧ (0 ≤ x1.toInt ∧ x1.toInt ≤ 1) ∧ (0 ≤ x2.toInt ∧ x2.toInt ≤ 5) ∧ (0 ≤ x3.toInt ∧ x3.toInt ≤ 23) ∧ x3.toInt ≤ x4.toInt ∧ x4.toInt ≤ 23) → ((-1) : Int32) = -1 ∧ v = v) ∧ (((0 ≤ x0.toInt ∧ x0.toInt < (v 13 2).toInt) ∧ (0 ≤ x1.toInt ∧ x1.toInt ≤ 1) ∧ (0 ≤ x2.toInt ∧ x2.toInt ≤ 5) ∧ (0 ≤ x3.toInt ∧ x3.toInt ≤ 23) ∧ x3.toInt ≤ x4.toInt ∧ x4.toInt ≤ 23) ∧ (v (29 + 15 * x0.toNatClampNeg) 0).toInt ≠ 1 → ((-1) : Int32) = -4 ∧ v = v) ∧ (((0 ≤ x0.toInt ∧ x0.toInt < (v 13 2).toInt) ∧ (0 ≤ x1.toInt ∧ x1.toInt ≤ 1) ∧ (0 ≤ x2.toInt ∧ x2.toInt ≤ 5) ∧ (0 ≤ x3.toInt ∧ x3.toInt ≤ 23) ∧ x3.toInt ≤ x4.toInt ∧ x4.toInt ≤ 23) ∧ (v (29 + 15 * x0.toNatClampNeg) 0).toInt = 1 ∧ 5 ≤ (v (29 + 15 * x0.toNatClampNeg) 5).toInt → ((-1) : Int32) = -2 ∧ v = v) ∧ (((0 ≤ x0.toInt ∧ x0.toInt < (v 13 2).toInt) ∧ (0 ≤ x1.toInt ∧ x1.toInt ≤ 1) ∧ (0 ≤ x2.toInt ∧ x2.toInt ≤ 5) ∧ (0 ≤ x3.toInt ∧ x3.toInt ≤ 23) ∧ x3.toInt ≤ x4.toInt ∧ x4.toInt ≤ 23) ∧ (v (29 + 15 * x0.toNatClampNeg) 0).toInt = 1 ∧ (v (29 + 15 * x0.toNatClampNeg) 5).toInt < 5 → ((-1) : Int32) = v (29 + 15 * x0.toNatClampNeg) 5 ∧ (∀ k j : Nat, v k j = if k = 29 + 15 * x0.toNatClampNeg ∧ j = 5 then v (29 + 15 * x0.toNatClampNeg) 5 + 1 else if k = 39 + 15 * x0.toNatClampNeg + (v (29 + 15 * x0.toNatClampNeg) 5).toNatClampNeg ∧ j = 4 then x4 else if k = 39 + 15 * x0.toNatClampNeg + (v (29 + 15 * x0.toNatClampNeg) 5).toNatClampNeg ∧ j = 3 then x3 else if k = 39 + 15 * x0.toNatClampNeg + (v (29 + 15 * x0.toNatClampNeg) 5).toNatClampNeg ∧ j = 2 then x2 else if k = 39 + 15 * x0.toNatClampNeg + (v (29 + 15 * x0.toNatClampNeg) 5).toNatClampNeg ∧ j = 1 then 0 else if k = 39 + 15 * x0.toNatClampNeg + (v (29 + 15 * x0.toNatClampNeg) 5).toNatClampNeg ∧ j = 0 then x1 else v k j)) := by
              refine ⟨fun hq => ?_, fun hq => ?_, fun hq => ?_, fun hq => ?_⟩
              · exact ⟨rfl, rfl⟩
              · exfalso; omega
              · exfalso; omega
              · exfalso; omega
            exact W.iret (v := (-1)) hx hb hr (fun t ht hW => ⟨⟨(-1), v, rfl, ⟨hv, hpost⟩, by rw [ht]; exact hP, hD⟩, hS.F ht⟩) hS.2.2 dX7_term_49
        · have k_23 : (23 : Int32).toInt = 23 := by decide
          have tc_8 : ¬ ((0 : Int32).toInt ≤ x3.toInt ∧ x3.toInt ≤ (23 : Int32).toInt) := fun q => hc_8 ⟨Int32.le_iff_toInt_le.mpr q.1, Int32.le_iff_toInt_le.mpr q.2⟩
          refine lv_if_eq (tgt := 48) hx hb dX7_term_30 (by decide) (fun _ => ?_) (fun c9 => absurd c9 (by decide))
          refine lv_iconst (v := (-1)) hx hb dX7_term_48 (by decide) ?_
          have hpost : (¬ ((0 ≤ x0.toInt ∧ x0.toInt < (v 13 2).toInt) ∧ (0 ≤ x1.toInt ∧ x1.toInt ≤ 1) ∧ (0 ≤ x2.toInt ∧ x2.toInt ≤ 5) ∧ (0 ≤ x3.toInt ∧ x3.toInt ≤ 23) ∧ x3.toInt ≤ x4.toInt ∧ x4.toInt ≤ 23) → ((-1) : Int32) = -1 ∧ v = v) ∧ (((0 ≤ x0.toInt ∧ x0.toInt < (v 13 2).toInt) ∧ (0 ≤ x1.toInt ∧ x1.toInt ≤ 1) ∧ (0 ≤ x2.toInt ∧ x2.toInt ≤ 5) ∧ (0 ≤ x3.toInt ∧ x3.toInt ≤ 23) ∧ x3.toInt ≤ x4.toInt ∧ x4.toInt ≤ 23) ∧ (v (29 + 15 * x0.toNatClampNeg) 0).toInt ≠ 1 → ((-1) : Int32) = -4 ∧ v = v) ∧ (((0 ≤ x0.toInt ∧ x0.toInt < (v 13 2).toInt) ∧ (0 ≤ x1.toInt ∧ x1.toInt ≤ 1) ∧ (0 ≤ x2.toInt ∧ x2.toInt ≤ 5) ∧ (0 ≤ x3.toInt ∧ x3.toInt ≤ 23) ∧ x3.toInt ≤ x4.toInt ∧ x4.toInt ≤ 23) ∧ (v (29 + 15 * x0.toNatClampNeg) 0).toInt = 1 ∧ 5 ≤ (v (29 + 15 * x0.toNatClampNeg) 5).toInt → ((-1) : Int32) = -2 ∧ v = v) ∧ (((0 ≤ x0.toInt ∧ x0.toInt < (v 13 2).toInt) ∧ (0 ≤ x1.toInt ∧ x1.toInt ≤ 1) ∧ (0 ≤ x2.toInt ∧ x2.toInt ≤ 5) ∧ (0 ≤ x3.toInt ∧ x3.toInt ≤ 23) ∧ x3.toInt ≤ x4.toInt ∧ x4.toInt ≤ 23) ∧ (v (29 + 15 * x0.toNatClampNeg) 0).toInt = 1 ∧ (v (29 + 15 * x0.toNatClampNeg) 5).toInt < 5 → ((-1) : Int32) = v (29 + 15 * x0.toNatClampNeg) 5 ∧ (∀ k j : Nat, v k j = if k = 29 + 15 * x0.toNatClampNeg ∧ j = 5 then v (29 + 15 * x0.toNatClampNeg) 5 + 1 else if k = 39 + 15 * x0.toNatClampNeg + (v (29 + 15 * x0.toNatClampNeg) 5).toNatClampNeg ∧ j = 4 then x4 else if k = 39 + 15 * x0.toNatClampNeg + (v (29 + 15 * x0.toNatClampNeg) 5).toNatClampNeg ∧ j = 3 then x3 else if k = 39 + 15 * x0.toNatClampNeg + (v (29 + 15 * x0.toNatClampNeg) 5).toNatClampNeg ∧ j = 2 then x2 else if k = 39 + 15 * x0.toNatClampNeg + (v (29 + 15 * x0.toNatClampNeg) 5).toNatClampNeg ∧ j = 1 then 0 else if k = 39 + 15 * x0.toNatClampNeg + (v (29 + 15 * x0.toNatClampNeg) 5).toNatClampNeg ∧ j = 0 then x1 else v k j)) := by
            refine ⟨fun hq => ?_, fun hq => ?_, fun hq => ?_, fun hq => ?_⟩
            · exact ⟨rfl, rfl⟩
            · exfalso; omega
            · exfalso; omega
            · exfalso; omega
          exact W.iret (v := (-1)) hx hb hr (fun t ht hW => ⟨⟨(-1), v, rfl, ⟨hv, hpost⟩, by rw [ht]; exact hP, hD⟩, hS.F ht⟩) hS.2.2 dX7_term_49
      · have k_5 : (5 : Int32).toInt = 5 := by decide
        have tc_6 : ¬ ((0 : Int32).toInt ≤ x2.toInt ∧ x2.toInt ≤ (5 : Int32).toInt) := fun q => hc_6 ⟨Int32.le_iff_toInt_le.mpr q.1, Int32.le_iff_toInt_le.mpr q.2⟩
        refine lv_if_eq (tgt := 48) hx hb dX7_term_22 (by decide) (fun _ => ?_) (fun c9 => absurd c9 (by decide))
        refine lv_iconst (v := (-1)) hx hb dX7_term_48 (by decide) ?_
        have hpost : (¬ ((0 ≤ x0.toInt ∧ x0.toInt < (v 13 2).toInt) ∧ (0 ≤ x1.toInt ∧ x1.toInt ≤ 1) ∧ (0 ≤ x2.toInt ∧ x2.toInt ≤ 5) ∧ (0 ≤ x3.toInt ∧ x3.toInt ≤ 23) ∧ x3.toInt ≤ x4.toInt ∧ x4.toInt ≤ 23) → ((-1) : Int32) = -1 ∧ v = v) ∧ (((0 ≤ x0.toInt ∧ x0.toInt < (v 13 2).toInt) ∧ (0 ≤ x1.toInt ∧ x1.toInt ≤ 1) ∧ (0 ≤ x2.toInt ∧ x2.toInt ≤ 5) ∧ (0 ≤ x3.toInt ∧ x3.toInt ≤ 23) ∧ x3.toInt ≤ x4.toInt ∧ x4.toInt ≤ 23) ∧ (v (29 + 15 * x0.toNatClampNeg) 0).toInt ≠ 1 → ((-1) : Int32) = -4 ∧ v = v) ∧ (((0 ≤ x0.toInt ∧ x0.toInt < (v 13 2).toInt) ∧ (0 ≤ x1.toInt ∧ x1.toInt ≤ 1) ∧ (0 ≤ x2.toInt ∧ x2.toInt ≤ 5) ∧ (0 ≤ x3.toInt ∧ x3.toInt ≤ 23) ∧ x3.toInt ≤ x4.toInt ∧ x4.toInt ≤ 23) ∧ (v (29 + 15 * x0.toNatClampNeg) 0).toInt = 1 ∧ 5 ≤ (v (29 + 15 * x0.toNatClampNeg) 5).toInt → ((-1) : Int32) = -2 ∧ v = v) ∧ (((0 ≤ x0.toInt ∧ x0.toInt < (v 13 2).toInt) ∧ (0 ≤ x1.toInt ∧ x1.toInt ≤ 1) ∧ (0 ≤ x2.toInt ∧ x2.toInt ≤ 5) ∧ (0 ≤ x3.toInt ∧ x3.toInt ≤ 23) ∧ x3.toInt ≤ x4.toInt ∧ x4.toInt ≤ 23) ∧ (v (29 + 15 * x0.toNatClampNeg) 0).toInt = 1 ∧ (v (29 + 15 * x0.toNatClampNeg) 5).toInt < 5 → ((-1) : Int32) = v (29 + 15 * x0.toNatClampNeg) 5 ∧ (∀ k j : Nat, v k j = if k = 29 + 15 * x0.toNatClampNeg ∧ j = 5 then v (29 + 15 * x0.toNatClampNeg) 5 + 1 else if k = 39 + 15 * x0.toNatClampNeg + (v (29 + 15 * x0.toNatClampNeg) 5).toNatClampNeg ∧ j = 4 then x4 else if k = 39 + 15 * x0.toNatClampNeg + (v (29 + 15 * x0.toNatClampNeg) 5).toNatClampNeg ∧ j = 3 then x3 else if k = 39 + 15 * x0.toNatClampNeg + (v (29 + 15 * x0.toNatClampNeg) 5).toNatClampNeg ∧ j = 2 then x2 else if k = 39 + 15 * x0.toNatClampNeg + (v (29 + 15 * x0.toNatClampNeg) 5).toNatClampNeg ∧ j = 1 then 0 else if k = 39 + 15 * x0.toNatClampNeg + (v (29 + 15 * x0.toNatClampNeg) 5).toNatClampNeg ∧ j = 0 then x1 else v k j)) := by
          refine ⟨fun hq => ?_, fun hq => ?_, fun hq => ?_, fun hq => ?_⟩
          · exact ⟨rfl, rfl⟩
          · exfalso; omega
          · exfalso; omega
          · exfalso; omega
        exact W.iret (v := (-1)) hx hb hr (fun t ht hW => ⟨⟨(-1), v, rfl, ⟨hv, hpost⟩, by rw [ht]; exact hP, hD⟩, hS.F ht⟩) hS.2.2 dX7_term_49
    · have k_0 : (0 : Int32).toInt = 0 := by decide
      have k_1 : (1 : Int32).toInt = 1 := by decide
      have tc_4 : ¬ ((0 : Int32).toInt ≤ x1.toInt ∧ x1.toInt ≤ (1 : Int32).toInt) := fun q => hc_4 ⟨Int32.le_iff_toInt_le.mpr q.1, Int32.le_iff_toInt_le.mpr q.2⟩
      refine lv_if_eq (tgt := 48) hx hb dX7_term_12 (by decide) (fun _ => ?_) (fun c9 => absurd c9 (by decide))
      refine lv_iconst (v := (-1)) hx hb dX7_term_48 (by decide) ?_
      have hpost : (¬ ((0 ≤ x0.toInt ∧ x0.toInt < (v 13 2).toInt) ∧ (0 ≤ x1.toInt ∧ x1.toInt ≤ 1) ∧ (0 ≤ x2.toInt ∧ x2.toInt ≤ 5) ∧ (0 ≤ x3.toInt ∧ x3.toInt ≤ 23) ∧ x3.toInt ≤ x4.toInt ∧ x4.toInt ≤ 23) → ((-1) : Int32) = -1 ∧ v = v) ∧ (((0 ≤ x0.toInt ∧ x0.toInt < (v 13 2).toInt) ∧ (0 ≤ x1.toInt ∧ x1.toInt ≤ 1) ∧ (0 ≤ x2.toInt ∧ x2.toInt ≤ 5) ∧ (0 ≤ x3.toInt ∧ x3.toInt ≤ 23) ∧ x3.toInt ≤ x4.toInt ∧ x4.toInt ≤ 23) ∧ (v (29 + 15 * x0.toNatClampNeg) 0).toInt ≠ 1 → ((-1) : Int32) = -4 ∧ v = v) ∧ (((0 ≤ x0.toInt ∧ x0.toInt < (v 13 2).toInt) ∧ (0 ≤ x1.toInt ∧ x1.toInt ≤ 1) ∧ (0 ≤ x2.toInt ∧ x2.toInt ≤ 5) ∧ (0 ≤ x3.toInt ∧ x3.toInt ≤ 23) ∧ x3.toInt ≤ x4.toInt ∧ x4.toInt ≤ 23) ∧ (v (29 + 15 * x0.toNatClampNeg) 0).toInt = 1 ∧ 5 ≤ (v (29 + 15 * x0.toNatClampNeg) 5).toInt → ((-1) : Int32) = -2 ∧ v = v) ∧ (((0 ≤ x0.toInt ∧ x0.toInt < (v 13 2).toInt) ∧ (0 ≤ x1.toInt ∧ x1.toInt ≤ 1) ∧ (0 ≤ x2.toInt ∧ x2.toInt ≤ 5) ∧ (0 ≤ x3.toInt ∧ x3.toInt ≤ 23) ∧ x3.toInt ≤ x4.toInt ∧ x4.toInt ≤ 23) ∧ (v (29 + 15 * x0.toNatClampNeg) 0).toInt = 1 ∧ (v (29 + 15 * x0.toNatClampNeg) 5).toInt < 5 → ((-1) : Int32) = v (29 + 15 * x0.toNatClampNeg) 5 ∧ (∀ k j : Nat, v k j = if k = 29 + 15 * x0.toNatClampNeg ∧ j = 5 then v (29 + 15 * x0.toNatClampNeg) 5 + 1 else if k = 39 + 15 * x0.toNatClampNeg + (v (29 + 15 * x0.toNatClampNeg) 5).toNatClampNeg ∧ j = 4 then x4 else if k = 39 + 15 * x0.toNatClampNeg + (v (29 + 15 * x0.toNatClampNeg) 5).toNatClampNeg ∧ j = 3 then x3 else if k = 39 + 15 * x0.toNatClampNeg + (v (29 + 15 * x0.toNatClampNeg) 5).toNatClampNeg ∧ j = 2 then x2 else if k = 39 + 15 * x0.toNatClampNeg + (v (29 + 15 * x0.toNatClampNeg) 5).toNatClampNeg ∧ j = 1 then 0 else if k = 39 + 15 * x0.toNatClampNeg + (v (29 + 15 * x0.toNatClampNeg) 5).toNatClampNeg ∧ j = 0 then x1 else v k j)) := by
        refine ⟨fun hq => ?_, fun hq => ?_, fun hq => ?_, fun hq => ?_⟩
        · exact ⟨rfl, rfl⟩
        · exfalso; omega
        · exfalso; omega
        · exfalso; omega
      exact W.iret (v := (-1)) hx hb hr (fun t ht hW => ⟨⟨(-1), v, rfl, ⟨hv, hpost⟩, by rw [ht]; exact hP, hD⟩, hS.F ht⟩) hS.2.2 dX7_term_49
  · refine lv_if_eq (tgt := 48) hx hb dX7_term_5 (by decide) (fun _ => ?_) (fun c9 => absurd c9 (by decide))
    refine lv_iconst (v := (-1)) hx hb dX7_term_48 (by decide) ?_
    have hpost : (¬ ((0 ≤ x0.toInt ∧ x0.toInt < (v 13 2).toInt) ∧ (0 ≤ x1.toInt ∧ x1.toInt ≤ 1) ∧ (0 ≤ x2.toInt ∧ x2.toInt ≤ 5) ∧ (0 ≤ x3.toInt ∧ x3.toInt ≤ 23) ∧ x3.toInt ≤ x4.toInt ∧ x4.toInt ≤ 23) → ((-1) : Int32) = -1 ∧ v = v) ∧ (((0 ≤ x0.toInt ∧ x0.toInt < (v 13 2).toInt) ∧ (0 ≤ x1.toInt ∧ x1.toInt ≤ 1) ∧ (0 ≤ x2.toInt ∧ x2.toInt ≤ 5) ∧ (0 ≤ x3.toInt ∧ x3.toInt ≤ 23) ∧ x3.toInt ≤ x4.toInt ∧ x4.toInt ≤ 23) ∧ (v (29 + 15 * x0.toNatClampNeg) 0).toInt ≠ 1 → ((-1) : Int32) = -4 ∧ v = v) ∧ (((0 ≤ x0.toInt ∧ x0.toInt < (v 13 2).toInt) ∧ (0 ≤ x1.toInt ∧ x1.toInt ≤ 1) ∧ (0 ≤ x2.toInt ∧ x2.toInt ≤ 5) ∧ (0 ≤ x3.toInt ∧ x3.toInt ≤ 23) ∧ x3.toInt ≤ x4.toInt ∧ x4.toInt ≤ 23) ∧ (v (29 + 15 * x0.toNatClampNeg) 0).toInt = 1 ∧ 5 ≤ (v (29 + 15 * x0.toNatClampNeg) 5).toInt → ((-1) : Int32) = -2 ∧ v = v) ∧ (((0 ≤ x0.toInt ∧ x0.toInt < (v 13 2).toInt) ∧ (0 ≤ x1.toInt ∧ x1.toInt ≤ 1) ∧ (0 ≤ x2.toInt ∧ x2.toInt ≤ 5) ∧ (0 ≤ x3.toInt ∧ x3.toInt ≤ 23) ∧ x3.toInt ≤ x4.toInt ∧ x4.toInt ≤ 23) ∧ (v (29 + 15 * x0.toNatClampNeg) 0).toInt = 1 ∧ (v (29 + 15 * x0.toNatClampNeg) 5).toInt < 5 → ((-1) : Int32) = v (29 + 15 * x0.toNatClampNeg) 5 ∧ (∀ k j : Nat, v k j = if k = 29 + 15 * x0.toNatClampNeg ∧ j = 5 then v (29 + 15 * x0.toNatClampNeg) 5 + 1 else if k = 39 + 15 * x0.toNatClampNeg + (v (29 + 15 * x0.toNatClampNeg) 5).toNatClampNeg ∧ j = 4 then x4 else if k = 39 + 15 * x0.toNatClampNeg + (v (29 + 15 * x0.toNatClampNeg) 5).toNatClampNeg ∧ j = 3 then x3 else if k = 39 + 15 * x0.toNatClampNeg + (v (29 + 15 * x0.toNatClampNeg) 5).toNatClampNeg ∧ j = 2 then x2 else if k = 39 + 15 * x0.toNatClampNeg + (v (29 + 15 * x0.toNatClampNeg) 5).toNatClampNeg ∧ j = 1 then 0 else if k = 39 + 15 * x0.toNatClampNeg + (v (29 + 15 * x0.toNatClampNeg) 5).toNatClampNeg ∧ j = 0 then x1 else v k j)) := by
      refine ⟨fun hq => ?_, fun hq => ?_, fun hq => ?_, fun hq => ?_⟩
      · exact ⟨rfl, rfl⟩
      · exfalso; omega
      · exfalso; omega
      · exfalso; omega
    exact W.iret (v := (-1)) hx hb hr (fun t ht hW => ⟨⟨(-1), v, rfl, ⟨hv, hpost⟩, by rw [ht]; exact hP, hD⟩, hS.F ht⟩) hS.2.2 dX7_term_49

set_option maxHeartbeats 4000000 in
set_option maxRecDepth 100000 in
theorem e_X7_term_1 (l : Launch) (dC : Nat → ClassId) (dI : Nat → Nat → Nat) (cy : Nat → ClassId) (sz : Nat) (ad : Nat → Nat) (kv : Value) (N : Nat) (hN : 119 ≤ N) (v : Nat → Nat → Int32) (hv : Iv v) (x0 x1 x2 x3 x4 : Int32) : Met l yX7_term wsX7_term ({ frames := 3, cells := 0, slots := 0, locals := 192 }) (va_Pc [.ref (ad 0), .int x0, .int x1, .int 1, .int x2, .int x3, .int x4] (ex_Pre dC dI cy sz (wl ad kv cy N v))) (va_Qi (fun (r : Int32) (u : Nat → Nat → Int32) => Iv u ∧ (¬ ((0 ≤ x0.toInt ∧ x0.toInt < (v 13 2).toInt) ∧ (0 ≤ x1.toInt ∧ x1.toInt ≤ 1) ∧ (0 ≤ x2.toInt ∧ x2.toInt ≤ 5) ∧ (0 ≤ x3.toInt ∧ x3.toInt ≤ 23) ∧ x3.toInt ≤ x4.toInt ∧ x4.toInt ≤ 23) → r = -1 ∧ u = v) ∧ (((0 ≤ x0.toInt ∧ x0.toInt < (v 13 2).toInt) ∧ (0 ≤ x1.toInt ∧ x1.toInt ≤ 1) ∧ (0 ≤ x2.toInt ∧ x2.toInt ≤ 5) ∧ (0 ≤ x3.toInt ∧ x3.toInt ≤ 23) ∧ x3.toInt ≤ x4.toInt ∧ x4.toInt ≤ 23) ∧ (v (29 + 15 * x0.toNatClampNeg) 0).toInt ≠ 1 → r = -4 ∧ u = v) ∧ (((0 ≤ x0.toInt ∧ x0.toInt < (v 13 2).toInt) ∧ (0 ≤ x1.toInt ∧ x1.toInt ≤ 1) ∧ (0 ≤ x2.toInt ∧ x2.toInt ≤ 5) ∧ (0 ≤ x3.toInt ∧ x3.toInt ≤ 23) ∧ x3.toInt ≤ x4.toInt ∧ x4.toInt ≤ 23) ∧ (v (29 + 15 * x0.toNatClampNeg) 0).toInt = 1 ∧ 5 ≤ (v (29 + 15 * x0.toNatClampNeg) 5).toInt → r = -2 ∧ u = v) ∧ (((0 ≤ x0.toInt ∧ x0.toInt < (v 13 2).toInt) ∧ (0 ≤ x1.toInt ∧ x1.toInt ≤ 1) ∧ (0 ≤ x2.toInt ∧ x2.toInt ≤ 5) ∧ (0 ≤ x3.toInt ∧ x3.toInt ≤ 23) ∧ x3.toInt ≤ x4.toInt ∧ x4.toInt ≤ 23) ∧ (v (29 + 15 * x0.toNatClampNeg) 0).toInt = 1 ∧ (v (29 + 15 * x0.toNatClampNeg) 5).toInt < 5 → r = v (29 + 15 * x0.toNatClampNeg) 5 ∧ (∀ k j : Nat, u k j = if k = 29 + 15 * x0.toNatClampNeg ∧ j = 5 then v (29 + 15 * x0.toNatClampNeg) 5 + 1 else if k = 39 + 15 * x0.toNatClampNeg + (v (29 + 15 * x0.toNatClampNeg) 5).toNatClampNeg ∧ j = 4 then x4 else if k = 39 + 15 * x0.toNatClampNeg + (v (29 + 15 * x0.toNatClampNeg) 5).toNatClampNeg ∧ j = 3 then x3 else if k = 39 + 15 * x0.toNatClampNeg + (v (29 + 15 * x0.toNatClampNeg) 5).toNatClampNeg ∧ j = 2 then x2 else if k = 39 + 15 * x0.toNatClampNeg + (v (29 + 15 * x0.toNatClampNeg) 5).toNatClampNeg ∧ j = 1 then 1 else if k = 39 + 15 * x0.toNatClampNeg + (v (29 + 15 * x0.toNatClampNeg) 5).toNatClampNeg ∧ j = 0 then x1 else v k j))) (fun u t => ex_Pst dC dI (va_A (wl ad kv cy N v) sz) (wl ad kv cy N u) t) (va_A (wl ad kv cy N v) sz)) 0 0 (va_A (wl ad kv cy N v) sz) := by
  refine Met.ofW (cc := cX7_term) (maxL := 9) (ret := (some .int)) (by decide) rfl ?_
  intro p e s m args below meth c s₁ B hml hv
  obtain ⟨rfl, hsz, hE, hP, hK, hD0⟩ := hv
  have hx := B.exec
  have hb := B.bytes
  have hr := B.returns
  have hts := atoms_spec (ws := wsX7_term) B.pre
  have hown : s.vm.findClass RX7 = some m.cls := findClass_of_methodNamed B.named
  have hlocks := B.notSynchronized
  subst hsz
  have hD := hD0.self (sz := s.heap.size)
  generalize hAe : va_A (wl ad kv cy N v) s.heap.size = A at hD ⊢
  have hA : ∀ q : Nat, s.heap.size ≤ q → A q := fun q h => by rw [← hAe]; exact Or.inr h
  have hS : va_S A s.heap s.heap [] := va_S.rf
  have hP : va_P (dC, dI) vwCl (wl ad kv cy N v) s.heap := hP
  have hl := lv_entry ([.ref (ad 0), .int x0, .int x1, .int 1, .int x2, .int x3, .int x4]) (n := 9) (Nat.le_of_ble_eq_true rfl)
  rw [lg_entry_eq]
  generalize (lg_sl ([.ref (ad 0), .int x0, .int x1, .int 1, .int x2, .int x3, .int x4]) ++ List.replicate (9 - (lg_sl ([.ref (ad 0), .int x0, .int x1, .int 1, .int x2, .int x3, .int x4])).length) Slot.unset).toArray = ls at hl ⊢
  have hl : lv_has ls 9 [(0, .ref (ad 0)), (1, .int x0), (2, .int x1), (3, .int 1), (4, .int x2), (5, .int x3), (6, .int x4)] := hl
  refine lv_aload_n hx hb dX7_term_0 rfl (lv_at hl 0 rfl) ?_
  refine lv_iload_n hx hb dX7_term_1 rfl (lv_at hl 1 rfl) ?_
  refine yw_i (w1 := fun (u : Nat → Nat → Int32) => wl ad kv cy N u) hD hS hA (va_runV (As := [.int x0]) (rest := []) ⟨hx, hb, hml, hown, hts⟩ (g_X7_isCase l dC dI cy _ ad kv N hN v hv x0) (cwV 1 hts gX7_term_X7_isCase rfl rfl rfl hd_V_X7_isCase_1 ⟨Nat.le_of_ble_eq_true rfl, Nat.le_of_ble_eq_true rfl⟩) (yw_preV hE hK hP hD (ci := 7) (q := (RX7, TX7, 5)) (q0 := 0) rfl (wl_at (by omega) (ce_0 (by decide)))) rfl rfl hl.1 rfl (lv_room (Nat.le_of_ble_eq_true rfl)) dX7_term_2 ⟨Nat.le_of_ble_eq_true rfl, Nat.le_of_ble_eq_true rfl⟩) (fun r_1 v_1 H locs hw_1 hP hD hS => ?_)
  obtain ⟨-, hu_1, hw_1⟩ := hw_1
  replace hu_1 := hu_1.symm
  subst hu_1
  rcases hw_1 with ⟨rfl, ha_2⟩ | ⟨rfl, ha_2⟩
  · have hb_2 := hv.at (k := 13) (j := 2) (K := 3) (by decide) rfl
    have hj_2 : 0 ≤ x0.toInt ∧ x0.toInt ≤ 5 := ⟨by omega, by omega⟩
    refine lv_if_eq (tgt := 48) hx hb dX7_term_5 (by decide) (fun c9 => absurd c9 (by decide)) (fun _ => ?_)
    refine lv_iload_n hx hb dX7_term_8 rfl (lv_at hl 2 rfl) ?_
    refine yc_p hP hS (va_runS (As := [.int x1]) (rest := []) ⟨hx, hb, hml, hown, hts⟩ (c_X7_isSide l x1) (cwS 1 hts gX7_term_X7_isSide rfl rfl rfl hd_S_X7_isSide_1 ⟨Nat.le_of_ble_eq_true rfl, Nat.le_of_ble_eq_true rfl⟩) ex_preP rfl rfl hl.1 rfl (lv_room (Nat.le_of_ble_eq_true rfl)) dX7_term_9 ⟨Nat.le_of_ble_eq_true rfl, Nat.le_of_ble_eq_true rfl⟩) (fun r_3 H locs hw_3 hP hS => ?_)
    rcases wi_ca hw_3 with ⟨rfl, hc_4⟩ | ⟨rfl, hc_4⟩
    · have k_0 : (0 : Int32).toInt = 0 := by decide
      have k_1 : (1 : Int32).toInt = 1 := by decide
      have tc_4 := wi_tl hc_4
      refine lv_if_eq (tgt := 48) hx hb dX7_term_12 (by decide) (fun c9 => absurd c9 (by decide)) (fun _ => ?_)
      refine lv_iload hx hb dX7_term_15 (lv_at hl 4 rfl) ?_
      refine lv_iconst (v := 0) hx hb dX7_term_17 (by decide) ?_
      refine lv_iconst (v := 5) hx hb dX7_term_18 (by decide) ?_
      refine yc_p hP hS (va_runS (As := [.int x2, .int 0, .int 5]) (rest := []) ⟨hx, hb, hml, hown, hts⟩ (c_X7_isWithin l x2 0 5) (cwS 3 hts gX7_term_X7_isWithin rfl rfl rfl hd_S_X7_isWithin_3 ⟨Nat.le_of_ble_eq_true rfl, Nat.le_of_ble_eq_true rfl⟩) ex_preP rfl rfl hl.1 rfl (lv_room (Nat.le_of_ble_eq_true rfl)) dX7_term_19 ⟨Nat.le_of_ble_eq_true rfl, Nat.le_of_ble_eq_true rfl⟩) (fun r_5 H locs hw_5 hP hS => ?_)
      rcases wi_ca hw_5 with ⟨rfl, hc_6⟩ | ⟨rfl, hc_6⟩
      · have k_5 : (5 : Int32).toInt = 5 := by decide
        have tc_6 := wi_tl hc_6
        refine lv_if_eq (tgt := 48) hx hb dX7_term_22 (by decide) (fun c9 => absurd c9 (by decide)) (fun _ => ?_)
        refine lv_iload hx hb dX7_term_25 (lv_at hl 5 rfl) ?_
        refine yc_p hP hS (va_runS (As := [.int x3]) (rest := []) ⟨hx, hb, hml, hown, hts⟩ (c_X7_isHour l x3) (cwS 1 hts gX7_term_X7_isHour rfl rfl rfl hd_S_X7_isHour_1 ⟨Nat.le_of_ble_eq_true rfl, Nat.le_of_ble_eq_true rfl⟩) ex_preP rfl rfl hl.1 rfl (lv_room (Nat.le_of_ble_eq_true rfl)) dX7_term_27 ⟨Nat.le_of_ble_eq_true rfl, Nat.le_of_ble_eq_true rfl⟩) (fun r_7 H locs hw_7 hP hS => ?_)
        rcases wi_ca hw_7 with ⟨rfl, hc_8⟩ | ⟨rfl, hc_8⟩
        · have k_23 : (23 : Int32).toInt = 23 := by decide
          have tc_8 := wi_tl hc_8
          refine lv_if_eq (tgt := 48) hx hb dX7_term_30 (by decide) (fun c9 => absurd c9 (by decide)) (fun _ => ?_)
          refine lv_iload hx hb dX7_term_33 (lv_at hl 6 rfl) ?_
          refine yc_p hP hS (va_runS (As := [.int x4]) (rest := []) ⟨hx, hb, hml, hown, hts⟩ (c_X7_isHour l x4) (cwS 1 hts gX7_term_X7_isHour rfl rfl rfl hd_S_X7_isHour_1 ⟨Nat.le_of_ble_eq_true rfl, Nat.le_of_ble_eq_true rfl⟩) ex_preP rfl rfl hl.1 rfl (lv_room (Nat.le_of_ble_eq_true rfl)) dX7_term_35 ⟨Nat.le_of_ble_eq_true rfl, Nat.le_of_ble_eq_true rfl⟩) (fun r_9 H locs hw_9 hP hS => ?_)
          rcases wi_ca hw_9 with ⟨rfl, hc_10⟩ | ⟨rfl, hc_10⟩
          · have tc_10 := wi_tl hc_10
            refine lv_if_eq (tgt := 48) hx hb dX7_term_38 (by decide) (fun c9 => absurd c9 (by decide)) (fun _ => ?_)
            refine lv_iload hx hb dX7_term_41 (lv_at hl 5 rfl) ?_
            refine lv_iload hx hb dX7_term_43 (lv_at hl 6 rfl) ?_
            refine lv_icmp_le (tgt := 50) hx hb dX7_term_45 (by decide) (fun c_11 => ?_) (fun c_11 => ?_)
            · have tc_11 : x3.toInt ≤ x4.toInt := Int32.le_iff_toInt_le.mp c_11
              refine lv_aload_n hx hb dX7_term_50 rfl (lv_at hl 0 rfl) ?_
              refine va_get (D := (dC, dI)) (ci := 7) (v := .ref (ad 13)) (C := RX7) (T := TX7) (N := 5) hx hb hts iwX7_term_X7 hown hK hP (0) (wl_at (by omega) (ce_0 (by decide))) rfl 0 (by decide) (hts (.fieldLink RX7 12 "QuietStairs" "now" "LQuietStairs$House;") fwX7_term_1) (fun _ h9 => h9) rfl dX7_term_51 ?_
              refine va_get (D := (dC, dI)) (ci := 1) (v := .ref (ad 16)) (C := RX1) (T := TX1) (N := 7) hx hb hts iwX7_term_X1 hown hK hP (13) (wl_at (by omega) (ce_3 (by decide))) rfl 6 (by decide) (hts (.fieldLink RX7 86 "QuietStairs$House" "cases" "[LQuietStairs$Case;") fwX7_term_2) (fun _ h9 => h9) rfl dX7_term_54 ?_
              refine lv_iload_n hx hb dX7_term_57 rfl (lv_at hl 1 rfl) ?_
              have zn_x0 : (x0.toNatClampNeg : Int) = x0.toInt := t_nn (by omega)
              have hx_12 : x0.toNatClampNeg < 6 := by omega
              refine va_aldq hx hb hK hP (16) 3 (wl_at (by omega) (ce_6 (by decide))) rfl (vp_in_iff.mpr ⟨by omega, by omega⟩) dX7_term_58 ?_
              refine W.eq (g2 := F0 m 59 ls [.ref (ad (29 + 15 * x0.toNatClampNeg))]) (by rw [if_pos hx_12, show 16 + 13 + 15 * x0.toNatClampNeg = 29 + 15 * x0.toNatClampNeg from by omega]; rfl) ?_
              refine lv_astore (lv' := [(7, .ref (ad (29 + 15 * x0.toNatClampNeg))), (0, .ref (ad 0)), (1, .int x0), (2, .int x1), (3, .int 1), (4, .int x2), (5, .int x3), (6, .int x4)]) hx hb dX7_term_59 hl (by decide) rfl (fun ls hl => ?_)
              refine lv_aload hx hb dX7_term_61 (lv_at hl 0 rfl) ?_
              refine va_get (D := (dC, dI)) (ci := 0) (v := .int (v (29 + 15 * x0.toNatClampNeg) 0)) (C := RX0) (T := TX0) (N := 11) hx hb hts iwX7_term_X0 hown hK hP (29 + 15 * x0.toNatClampNeg) (wl_at (by omega) (ce_9 (kd_c _ hx_12).1.1)) rfl 0 (by decide) (hts (.fieldLink RX7 99 "QuietStairs$Case" "state" "I") fwX7_term_3) (fun _ h9 => h9) rfl dX7_term_63 ?_
              refine lv_topi (fun x_13 ex_13 => ?_)
              have qx_13 : x_13.toInt = (v (29 + 15 * x0.toNatClampNeg) (0)).toInt := congrArg Int32.toInt ex_13
              refine lv_iconst (v := 1) hx hb dX7_term_66 (by decide) ?_
              refine lv_icmp_eq (tgt := 73) hx hb dX7_term_67 (by decide) (fun c_14 => ?_) (fun c_14 => ?_)
              · have tc_14 : x_13.toInt = (1 : Int32).toInt := by rw [c_14]
                refine lv_aload hx hb dX7_term_73 (lv_at hl 0 rfl) ?_
                refine va_get (D := (dC, dI)) (ci := 0) (v := .int (v (29 + 15 * x0.toNatClampNeg) 5)) (C := RX0) (T := TX0) (N := 11) hx hb hts iwX7_term_X0 hown hK hP (29 + 15 * x0.toNatClampNeg) (wl_at (by omega) (ce_9 (kd_c _ hx_12).1.1)) rfl 5 (by decide) (hts (.fieldLink RX7 169 "QuietStairs$Case" "termCount" "I") fwX7_term_4) (fun _ h9 => h9) rfl dX7_term_75 ?_
                refine lv_topi (fun x_15 ex_15 => ?_)
                have bzx_15 : 0 ≤ x_15.toInt ∧ x_15.toInt ≤ 5 := by rw [ex_15]; exact hv.at (K := 9) (kd_c _ hx_12).1.1 rfl
                have qx_15 : x_15.toInt = (v (29 + 15 * x0.toNatClampNeg) (5)).toInt := congrArg Int32.toInt ex_15
                refine lv_iconst (v := 5) hx hb dX7_term_78 (by decide) ?_
                refine lv_icmp_lt (tgt := 85) hx hb dX7_term_79 (by decide) (fun c_16 => ?_) (fun c_16 => ?_)
                · have tc_16 : x_15.toInt < (5 : Int32).toInt := Int32.lt_iff_toInt_lt.mp c_16
                  refine lv_aload hx hb dX7_term_85 (lv_at hl 0 rfl) ?_
                  refine va_get (D := (dC, dI)) (ci := 0) (v := .ref (ad (29 + 15 * x0.toNatClampNeg + 9))) (C := RX0) (T := TX0) (N := 11) hx hb hts iwX7_term_X0 hown hK hP (29 + 15 * x0.toNatClampNeg) (wl_at (by omega) (ce_9 (kd_c _ hx_12).1.1)) rfl 10 (by decide) (hts (.fieldLink RX7 172 "QuietStairs$Case" "terms" "[LQuietStairs$Term;") fwX7_term_5) (fun _ h9 => h9) rfl dX7_term_87 ?_
                  refine W.eq (g2 := F0 m 90 ls [.ref (ad (38 + 15 * x0.toNatClampNeg))]) (by rw [show 29 + 15 * x0.toNatClampNeg + 9 = 38 + 15 * x0.toNatClampNeg from by omega]) ?_
                  refine lv_aload hx hb dX7_term_90 (lv_at hl 0 rfl) ?_
                  refine va_get (D := (dC, dI)) (ci := 0) (v := .int (v (29 + 15 * x0.toNatClampNeg) 5)) (C := RX0) (T := TX0) (N := 11) hx hb hts iwX7_term_X0 hown hK hP (29 + 15 * x0.toNatClampNeg) (wl_at (by omega) (ce_9 (kd_c _ hx_12).1.1)) rfl 5 (by decide) (hts (.fieldLink RX7 169 "QuietStairs$Case" "termCount" "I") fwX7_term_4) (fun _ h9 => h9) rfl dX7_term_92 ?_
                  refine lv_topi (fun x_17 ex_17 => ?_)
                  have bzx_17 : 0 ≤ x_17.toInt ∧ x_17.toInt ≤ 5 := by rw [ex_17]; exact hv.at (K := 9) (kd_c _ hx_12).1.1 rfl
                  obtain rfl : x_15 = x_17 := (ex_17.trans ex_15.symm).symm
                  have zn_x_15 : (x_15.toNatClampNeg : Int) = x_15.toInt := t_nn (by omega)
                  have hx_18 : x_15.toNatClampNeg < 5 := by omega
                  refine va_aldq hx hb hK hP (38 + 15 * x0.toNatClampNeg) 4 (wl_at (by omega) (ce_15 (kd_c _ hx_12).1.2.2.2.2.2)) rfl (vp_in_iff.mpr ⟨by omega, by omega⟩) dX7_term_95 ?_
                  refine W.eq (g2 := F0 m 96 ls [.ref (ad (39 + 15 * x0.toNatClampNeg + x_15.toNatClampNeg))]) (by rw [if_pos hx_18, show 38 + 15 * x0.toNatClampNeg + 1 + x_15.toNatClampNeg = 39 + 15 * x0.toNatClampNeg + x_15.toNatClampNeg from by omega]; rfl) ?_
                  refine lv_astore (lv' := [(8, .ref (ad (39 + 15 * x0.toNatClampNeg + x_15.toNatClampNeg))), (7, .ref (ad (29 + 15 * x0.toNatClampNeg))), (0, .ref (ad 0)), (1, .int x0), (2, .int x1), (3, .int 1), (4, .int x2), (5, .int x3), (6, .int x4)]) hx hb dX7_term_96 hl (by decide) rfl (fun ls hl => ?_)
                  refine lv_aload hx hb dX7_term_98 (lv_at hl 0 rfl) ?_
                  refine lv_iload_n hx hb dX7_term_100 rfl (lv_at hl 4 rfl) ?_
                  refine va_put (D := (dC, dI)) (ci := 6) (v := .int x1) (ty := .int) (C := RX6) (T := TX6) (N := 5) hx hb hts iwX7_term_X6 tyX6 tyX6_ok nmX6 hown hK hP hD hS (39 + 15 * x0.toNatClampNeg + x_15.toNatClampNeg) (wl_at (by omega) (ce_16 (kd_t _ hx_12 _ hx_18).1)) rfl 0 (by decide) (hts (.fieldLink RX7 176 "QuietStairs$Term" "side" "I") fwX7_term_6) (fun _ h9 => h9) rfl (by decide +kernel) rfl rfl (Nat.le_of_ble_eq_true rfl) dX7_term_101 (fun H locs hP hD hS => ?_)
                  obtain ⟨v_19, ev_19⟩ : ∃ u : Nat → Nat → Int32, u = upr v (39 + 15 * x0.toNatClampNeg + x_15.toNatClampNeg) (upd (v (39 + 15 * x0.toNatClampNeg + x_15.toNatClampNeg)) 0 x1) := ⟨_, rfl⟩
                  have hP : va_P (dC, dI) vwCl (wl ad kv cy N v_19) H := by rw [ev_19, ← wl_put (e := _) (ce_16 (kd_t _ hx_12 _ hx_18).1)]; exact hP
                  have hD : va_D A (wl ad kv cy N v_19) := by rw [ev_19, ← wl_put (e := _) (ce_16 (kd_t _ hx_12 _ hx_18).1)]; exact hD
                  have hv : Iv v_19 := by rw [ev_19]; exact hv.put (K := 16) (kd_t _ hx_12 _ hx_18).1 (fun h q => by cases q; exact ⟨by omega, by omega⟩)
                  refine lv_aload hx hb dX7_term_104 (lv_at hl 0 rfl) ?_
                  refine lv_iload_n hx hb dX7_term_106 rfl (lv_at hl 5 rfl) ?_
                  refine va_put (D := (dC, dI)) (ci := 6) (v := .int 1) (ty := .boolean) (C := RX6) (T := TX6) (N := 5) hx hb hts iwX7_term_X6 tyX6 tyX6_ok nmX6 hown hK hP hD hS (39 + 15 * x0.toNatClampNeg + x_15.toNatClampNeg) (wl_at (by omega) (ce_16 (kd_t _ hx_12 _ hx_18).1)) rfl 1 (by decide) (hts (.fieldLink RX7 181 "QuietStairs$Term" "must" "Z") fwX7_term_7) (fun _ h9 => h9) rfl (by decide +kernel) rfl rfl (Nat.le_of_ble_eq_true rfl) dX7_term_107 (fun H locs hP hD hS => ?_)
                  obtain ⟨v_20, ev_20⟩ : ∃ u : Nat → Nat → Int32, u = upr v_19 (39 + 15 * x0.toNatClampNeg + x_15.toNatClampNeg) (upd (v_19 (39 + 15 * x0.toNatClampNeg + x_15.toNatClampNeg)) 1 1) := ⟨_, rfl⟩
                  have hP : va_P (dC, dI) vwCl (wl ad kv cy N v_20) H := by rw [ev_20, ← wl_put (e := _) (ce_16 (kd_t _ hx_12 _ hx_18).1)]; exact hP
                  have hD : va_D A (wl ad kv cy N v_20) := by rw [ev_20, ← wl_put (e := _) (ce_16 (kd_t _ hx_12 _ hx_18).1)]; exact hD
                  have hv : Iv v_20 := by rw [ev_20]; exact hv.put (K := 16) (kd_t _ hx_12 _ hx_18).1 (fun h q => by cases q; exact ⟨by omega, by omega⟩)
                  refine lv_aload hx hb dX7_term_110 (lv_at hl 0 rfl) ?_
                  refine lv_iload hx hb dX7_term_112 (lv_at hl 6 rfl) ?_
                  refine va_put (D := (dC, dI)) (ci := 6) (v := .int x2) (ty := .int) (C := RX6) (T := TX6) (N := 5) hx hb hts iwX7_term_X6 tyX6 tyX6_ok nmX6 hown hK hP hD hS (39 + 15 * x0.toNatClampNeg + x_15.toNatClampNeg) (wl_at (by omega) (ce_16 (kd_t _ hx_12 _ hx_18).1)) rfl 2 (by decide) (hts (.fieldLink RX7 185 "QuietStairs$Term" "act" "I") fwX7_term_8) (fun _ h9 => h9) rfl (by decide +kernel) rfl rfl (Nat.le_of_ble_eq_true rfl) dX7_term_114 (fun H locs hP hD hS => ?_)
                  obtain ⟨v_21, ev_21⟩ : ∃ u : Nat → Nat → Int32, u = upr v_20 (39 + 15 * x0.toNatClampNeg + x_15.toNatClampNeg) (upd (v_20 (39 + 15 * x0.toNatClampNeg + x_15.toNatClampNeg)) 2 x2) := ⟨_, rfl⟩
                  have hP : va_P (dC, dI) vwCl (wl ad kv cy N v_21) H := by rw [ev_21, ← wl_put (e := _) (ce_16 (kd_t _ hx_12 _ hx_18).1)]; exact hP
                  have hD : va_D A (wl ad kv cy N v_21) := by rw [ev_21, ← wl_put (e := _) (ce_16 (kd_t _ hx_12 _ hx_18).1)]; exact hD
                  have hv : Iv v_21 := by rw [ev_21]; exact hv.put (K := 16) (kd_t _ hx_12 _ hx_18).1 (fun h q => by simp [bd] at q)
                  refine lv_aload hx hb dX7_term_117 (lv_at hl 0 rfl) ?_
                  refine lv_iload hx hb dX7_term_119 (lv_at hl 7 rfl) ?_
                  refine va_put (D := (dC, dI)) (ci := 6) (v := .int x3) (ty := .int) (C := RX6) (T := TX6) (N := 5) hx hb hts iwX7_term_X6 tyX6 tyX6_ok nmX6 hown hK hP hD hS (39 + 15 * x0.toNatClampNeg + x_15.toNatClampNeg) (wl_at (by omega) (ce_16 (kd_t _ hx_12 _ hx_18).1)) rfl 3 (by decide) (hts (.fieldLink RX7 188 "QuietStairs$Term" "first" "I") fwX7_term_9) (fun _ h9 => h9) rfl (by decide +kernel) rfl rfl (Nat.le_of_ble_eq_true rfl) dX7_term_121 (fun H locs hP hD hS => ?_)
                  obtain ⟨v_22, ev_22⟩ : ∃ u : Nat → Nat → Int32, u = upr v_21 (39 + 15 * x0.toNatClampNeg + x_15.toNatClampNeg) (upd (v_21 (39 + 15 * x0.toNatClampNeg + x_15.toNatClampNeg)) 3 x3) := ⟨_, rfl⟩
                  have hP : va_P (dC, dI) vwCl (wl ad kv cy N v_22) H := by rw [ev_22, ← wl_put (e := _) (ce_16 (kd_t _ hx_12 _ hx_18).1)]; exact hP
                  have hD : va_D A (wl ad kv cy N v_22) := by rw [ev_22, ← wl_put (e := _) (ce_16 (kd_t _ hx_12 _ hx_18).1)]; exact hD
                  have hv : Iv v_22 := by rw [ev_22]; exact hv.put (K := 16) (kd_t _ hx_12 _ hx_18).1 (fun h q => by cases q; exact ⟨by omega, by omega⟩)
                  refine lv_aload hx hb dX7_term_124 (lv_at hl 0 rfl) ?_
                  refine lv_iload hx hb dX7_term_126 (lv_at hl 8 rfl) ?_
                  refine va_put (D := (dC, dI)) (ci := 6) (v := .int x4) (ty := .int) (C := RX6) (T := TX6) (N := 5) hx hb hts iwX7_term_X6 tyX6 tyX6_ok nmX6 hown hK hP hD hS (39 + 15 * x0.toNatClampNeg + x_15.toNatClampNeg) (wl_at (by omega) (ce_16 (kd_t _ hx_12 _ hx_18).1)) rfl 4 (by decide) (hts (.fieldLink RX7 191 "QuietStairs$Term" "last" "I") fwX7_term_10) (fun _ h9 => h9) rfl (by decide +kernel) rfl rfl (Nat.le_of_ble_eq_true rfl) dX7_term_128 (fun H locs hP hD hS => ?_)
                  obtain ⟨v_23, ev_23⟩ : ∃ u : Nat → Nat → Int32, u = upr v_22 (39 + 15 * x0.toNatClampNeg + x_15.toNatClampNeg) (upd (v_22 (39 + 15 * x0.toNatClampNeg + x_15.toNatClampNeg)) 4 x4) := ⟨_, rfl⟩
                  have hP : va_P (dC, dI) vwCl (wl ad kv cy N v_23) H := by rw [ev_23, ← wl_put (e := _) (ce_16 (kd_t _ hx_12 _ hx_18).1)]; exact hP
                  have hD : va_D A (wl ad kv cy N v_23) := by rw [ev_23, ← wl_put (e := _) (ce_16 (kd_t _ hx_12 _ hx_18).1)]; exact hD
                  have hv : Iv v_23 := by rw [ev_23]; exact hv.put (K := 16) (kd_t _ hx_12 _ hx_18).1 (fun h q => by cases q; exact ⟨by omega, by omega⟩)
                  refine lv_aload hx hb dX7_term_131 (lv_at hl 1 rfl) ?_
                  refine lv_dup hx hb dX7_term_133 rfl ?_
                  refine va_get (D := (dC, dI)) (ci := 0) (v := .int (v_23 (29 + 15 * x0.toNatClampNeg) 5)) (C := RX0) (T := TX0) (N := 11) hx hb hts iwX7_term_X0 hown hK hP (29 + 15 * x0.toNatClampNeg) (wl_at (by omega) (ce_9 (kd_c _ hx_12).1.1)) rfl 5 (by decide) (hts (.fieldLink RX7 169 "QuietStairs$Case" "termCount" "I") fwX7_term_4) (fun _ h9 => h9) rfl dX7_term_134 ?_
                  refine lv_topi (fun x_24 ex_24 => ?_)
                  have bzx_24 : 0 ≤ x_24.toInt ∧ x_24.toInt ≤ 5 := by rw [ex_24]; exact hv.at (K := 9) (kd_c _ hx_12).1.1 rfl
                  rw [ev_23, upr_n (by omega), ev_22, upr_n (by omega), ev_21, upr_n (by omega), ev_20, upr_n (by omega), ev_19, upr_n (by omega)] at ex_24
                  obtain rfl : x_15 = x_24 := (ex_24.trans ex_15.symm).symm
                  refine lv_dup_x1 hx hb dX7_term_137 rfl rfl ?_
                  refine lv_iconst (v := 1) hx hb dX7_term_138 (by decide) ?_
                  refine lv_iadd hx hb dX7_term_139 ?_
                  refine lv_topi (fun x_25 ex_25 => ?_)
                  have tx_25 : x_25.toInt = x_15.toInt + (1 : Int32).toInt := by rw [ex_25]; exact t_add ⟨by omega, by omega⟩
                  refine va_put (D := (dC, dI)) (ci := 0) (v := .int x_25) (ty := .int) (C := RX0) (T := TX0) (N := 11) hx hb hts iwX7_term_X0 tyX0 tyX0_ok nmX0 hown hK hP hD hS (29 + 15 * x0.toNatClampNeg) (wl_at (by omega) (ce_9 (kd_c _ hx_12).1.1)) rfl 5 (by decide) (hts (.fieldLink RX7 169 "QuietStairs$Case" "termCount" "I") fwX7_term_4) (fun _ h9 => h9) rfl (by decide +kernel) rfl rfl (Nat.le_of_ble_eq_true rfl) dX7_term_140 (fun H locs hP hD hS => ?_)
                  obtain ⟨v_26, ev_26⟩ : ∃ u : Nat → Nat → Int32, u = upr v_23 (29 + 15 * x0.toNatClampNeg) (upd (v_23 (29 + 15 * x0.toNatClampNeg)) 5 x_25) := ⟨_, rfl⟩
                  have hP : va_P (dC, dI) vwCl (wl ad kv cy N v_26) H := by rw [ev_26, ← wl_put (e := _) (ce_9 (kd_c _ hx_12).1.1)]; exact hP
                  have hD : va_D A (wl ad kv cy N v_26) := by rw [ev_26, ← wl_put (e := _) (ce_9 (kd_c _ hx_12).1.1)]; exact hD
                  have hv : Iv v_26 := by rw [ev_26]; exact hv.put (K := 9) (kd_c _ hx_12).1.1 (fun h q => by cases q; exact ⟨by omega, by omega⟩)
                  have hpost : (¬ ((0 ≤ x0.toInt ∧ x0.toInt < (v 13 2).toInt) ∧ (0 ≤ x1.toInt ∧ x1.toInt ≤ 1) ∧ (0 ≤ x2.toInt ∧ x2.toInt ≤ 5) ∧ (0 ≤ x3.toInt ∧ x3.toInt ≤ 23) ∧ x3.toInt ≤ x4.toInt ∧ x4.toInt ≤ 23) → x_15 = -1 ∧ v_26 = v) ∧ (((0 ≤ x0.toInt ∧ x0.toInt < (v 13 2).toInt) ∧ (0 ≤ x1.toInt ∧ x1.toInt ≤ 1) ∧ (0 ≤ x2.toInt ∧ x2.toInt ≤ 5) ∧ (0 ≤ x3.toInt ∧ x3.toInt ≤ 23) ∧ x3.toInt ≤ x4.toInt ∧ x4.toInt ≤ 23) ∧ (v (29 + 15 * x0.toNatClampNeg) 0).toInt ≠ 1 → x_15 = -4 ∧ v_26 = v) ∧ (((0 ≤ x0.toInt ∧ x0.toInt < (v 13 2).toInt) ∧ (0 ≤ x1.toInt ∧ x1.toInt ≤ 1) ∧ (0 ≤ x2.toInt ∧ x2.toInt ≤ 5) ∧ (0 ≤ x3.toInt ∧ x3.toInt ≤ 23) ∧ x3.toInt ≤ x4.toInt ∧ x4.toInt ≤ 23) ∧ (v (29 + 15 * x0.toNatClampNeg) 0).toInt = 1 ∧ 5 ≤ (v (29 + 15 * x0.toNatClampNeg) 5).toInt → x_15 = -2 ∧ v_26 = v) ∧ (((0 ≤ x0.toInt ∧ x0.toInt < (v 13 2).toInt) ∧ (0 ≤ x1.toInt ∧ x1.toInt ≤ 1) ∧ (0 ≤ x2.toInt ∧ x2.toInt ≤ 5) ∧ (0 ≤ x3.toInt ∧ x3.toInt ≤ 23) ∧ x3.toInt ≤ x4.toInt ∧ x4.toInt ≤ 23) ∧ (v (29 + 15 * x0.toNatClampNeg) 0).toInt = 1 ∧ (v (29 + 15 * x0.toNatClampNeg) 5).toInt < 5 → x_15 = v (29 + 15 * x0.toNatClampNeg) 5 ∧ (∀ k j : Nat, v_26 k j = if k = 29 + 15 * x0.toNatClampNeg ∧ j = 5 then v (29 + 15 * x0.toNatClampNeg) 5 + 1 else if k = 39 + 15 * x0.toNatClampNeg + (v (29 + 15 * x0.toNatClampNeg) 5).toNatClampNeg ∧ j = 4 then x4 else if k = 39 + 15 * x0.toNatClampNeg + (v (29 + 15 * x0.toNatClampNeg) 5).toNatClampNeg ∧ j = 3 then x3 else if k = 39 + 15 * x0.toNatClampNeg + (v (29 + 15 * x0.toNatClampNeg) 5).toNatClampNeg ∧ j = 2 then x2 else if k = 39 + 15 * x0.toNatClampNeg + (v (29 + 15 * x0.toNatClampNeg) 5).toNatClampNeg ∧ j = 1 then 1 else if k = 39 + 15 * x0.toNatClampNeg + (v (29 + 15 * x0.toNatClampNeg) 5).toNatClampNeg ∧ j = 0 then x1 else v k j)) := by
                    refine ⟨fun hq => ?_, fun hq => ?_, fun hq => ?_, fun hq => ?_⟩
                    · exfalso; omega
                    · exfalso; omega
                    · exfalso; omega
                    · exact ⟨by rw [ex_15], fun k j => by rw [ev_26, up2, ev_23, up2, ev_22, up2, ev_21, up2, ev_20, up2, ev_19, up2, ex_25, ex_15]⟩
                  exact W.iret (v := x_15) hx hb hr (fun t ht hW => ⟨⟨x_15, v_26, rfl, ⟨hv, hpost⟩, by rw [ht]; exact hP, hD⟩, hS.F ht⟩) hS.2.2 dX7_term_143
                · have tc_16 : x_15.toInt ≥ (5 : Int32).toInt := Int32.le_iff_toInt_le.mp (Int32.not_lt.mp c_16)
                  refine lv_bipush (v := (-2)) hx hb dX7_term_82 (by decide) ?_
                  have hpost : (¬ ((0 ≤ x0.toInt ∧ x0.toInt < (v 13 2).toInt) ∧ (0 ≤ x1.toInt ∧ x1.toInt ≤ 1) ∧ (0 ≤ x2.toInt ∧ x2.toInt ≤ 5) ∧ (0 ≤ x3.toInt ∧ x3.toInt ≤ 23) ∧ x3.toInt ≤ x4.toInt ∧ x4.toInt ≤ 23) → ((-2) : Int32) = -1 ∧ v = v) ∧ (((0 ≤ x0.toInt ∧ x0.toInt < (v 13 2).toInt) ∧ (0 ≤ x1.toInt ∧ x1.toInt ≤ 1) ∧ (0 ≤ x2.toInt ∧ x2.toInt ≤ 5) ∧ (0 ≤ x3.toInt ∧ x3.toInt ≤ 23) ∧ x3.toInt ≤ x4.toInt ∧ x4.toInt ≤ 23) ∧ (v (29 + 15 * x0.toNatClampNeg) 0).toInt ≠ 1 → ((-2) : Int32) = -4 ∧ v = v) ∧ (((0 ≤ x0.toInt ∧ x0.toInt < (v 13 2).toInt) ∧ (0 ≤ x1.toInt ∧ x1.toInt ≤ 1) ∧ (0 ≤ x2.toInt ∧ x2.toInt ≤ 5) ∧ (0 ≤ x3.toInt ∧ x3.toInt ≤ 23) ∧ x3.toInt ≤ x4.toInt ∧ x4.toInt ≤ 23) ∧ (v (29 + 15 * x0.toNatClampNeg) 0).toInt = 1 ∧ 5 ≤ (v (29 + 15 * x0.toNatClampNeg) 5).toInt → ((-2) : Int32) = -2 ∧ v = v) ∧ (((0 ≤ x0.toInt ∧ x0.toInt < (v 13 2).toInt) ∧ (0 ≤ x1.toInt ∧ x1.toInt ≤ 1) ∧ (0 ≤ x2.toInt ∧ x2.toInt ≤ 5) ∧ (0 ≤ x3.toInt ∧ x3.toInt ≤ 23) ∧ x3.toInt ≤ x4.toInt ∧ x4.toInt ≤ 23) ∧ (v (29 + 15 * x0.toNatClampNeg) 0).toInt = 1 ∧ (v (29 + 15 * x0.toNatClampNeg) 5).toInt < 5 → ((-2) : Int32) = v (29 + 15 * x0.toNatClampNeg) 5 ∧ (∀ k j : Nat, v k j = if k = 29 + 15 * x0.toNatClampNeg ∧ j = 5 then v (29 + 15 * x0.toNatClampNeg) 5 + 1 else if k = 39 + 15 * x0.toNatClampNeg + (v (29 + 15 * x0.toNatClampNeg) 5).toNatClampNeg ∧ j = 4 then x4 else if k = 39 + 15 * x0.toNatClampNeg + (v (29 + 15 * x0.toNatClampNeg) 5).toNatClampNeg ∧ j = 3 then x3 else if k = 39 + 15 * x0.toNatClampNeg + (v (29 + 15 * x0.toNatClampNeg) 5).toNatClampNeg ∧ j = 2 then x2 else if k = 39 + 15 * x0.toNatClampNeg + (v (29 + 15 * x0.toNatClampNeg) 5).toNatClampNeg ∧ j = 1 then 1 else if k = 39 + 15 * x0.toNatClampNeg + (v (29 + 15 * x0.toNatClampNeg) 5).toNatClampNeg ∧ j = 0 then x1 else v k j)) := by
                    refine ⟨fun hq => ?_, fun hq => ?_, fun hq => ?_, fun hq => ?_⟩
                    · exfalso; omega
                    · exfalso; omega
                    · exact ⟨rfl, rfl⟩
                    · exfalso; omega
                  exact W.iret (v := (-2)) hx hb hr (fun t ht hW => ⟨⟨(-2), v, rfl, ⟨hv, hpost⟩, by rw [ht]; exact hP, hD⟩, hS.F ht⟩) hS.2.2 dX7_term_84
              · have tc_14 : x_13.toInt ≠ (1 : Int32).toInt := fun q => absurd (Int32.toInt_inj.mp q) c_14
                refine lv_bipush (v := (-4)) hx hb dX7_term_70 (by decide) ?_
                have hpost : (¬ ((0 ≤ x0.toInt ∧ x0.toInt < (v 13 2).toInt) ∧ (0 ≤ x1.toInt ∧ x1.toInt ≤ 1) ∧ (0 ≤ x2.toInt ∧ x2.toInt ≤ 5) ∧ (0 ≤ x3.toInt ∧ x3.toInt ≤ 23) ∧ x3.toInt ≤ x4.toInt ∧ x4.toInt ≤ 23) → ((-4) : Int32) = -1 ∧ v = v) ∧ (((0 ≤ x0.toInt ∧ x0.toInt < (v 13 2).toInt) ∧ (0 ≤ x1.toInt ∧ x1.toInt ≤ 1) ∧ (0 ≤ x2.toInt ∧ x2.toInt ≤ 5) ∧ (0 ≤ x3.toInt ∧ x3.toInt ≤ 23) ∧ x3.toInt ≤ x4.toInt ∧ x4.toInt ≤ 23) ∧ (v (29 + 15 * x0.toNatClampNeg) 0).toInt ≠ 1 → ((-4) : Int32) = -4 ∧ v = v) ∧ (((0 ≤ x0.toInt ∧ x0.toInt < (v 13 2).toInt) ∧ (0 ≤ x1.toInt ∧ x1.toInt ≤ 1) ∧ (0 ≤ x2.toInt ∧ x2.toInt ≤ 5) ∧ (0 ≤ x3.toInt ∧ x3.toInt ≤ 23) ∧ x3.toInt ≤ x4.toInt ∧ x4.toInt ≤ 23) ∧ (v (29 + 15 * x0.toNatClampNeg) 0).toInt = 1 ∧ 5 ≤ (v (29 + 15 * x0.toNatClampNeg) 5).toInt → ((-4) : Int32) = -2 ∧ v = v) ∧ (((0 ≤ x0.toInt ∧ x0.toInt < (v 13 2).toInt) ∧ (0 ≤ x1.toInt ∧ x1.toInt ≤ 1) ∧ (0 ≤ x2.toInt ∧ x2.toInt ≤ 5) ∧ (0 ≤ x3.toInt ∧ x3.toInt ≤ 23) ∧ x3.toInt ≤ x4.toInt ∧ x4.toInt ≤ 23) ∧ (v (29 + 15 * x0.toNatClampNeg) 0).toInt = 1 ∧ (v (29 + 15 * x0.toNatClampNeg) 5).toInt < 5 → ((-4) : Int32) = v (29 + 15 * x0.toNatClampNeg) 5 ∧ (∀ k j : Nat, v k j = if k = 29 + 15 * x0.toNatClampNeg ∧ j = 5 then v (29 + 15 * x0.toNatClampNeg) 5 + 1 else if k = 39 + 15 * x0.toNatClampNeg + (v (29 + 15 * x0.toNatClampNeg) 5).toNatClampNeg ∧ j = 4 then x4 else if k = 39 + 15 * x0.toNatClampNeg + (v (29 + 15 * x0.toNatClampNeg) 5).toNatClampNeg ∧ j = 3 then x3 else if k = 39 + 15 * x0.toNatClampNeg + (v (29 + 15 * x0.toNatClampNeg) 5).toNatClampNeg ∧ j = 2 then x2 else if k = 39 + 15 * x0.toNatClampNeg + (v (29 + 15 * x0.toNatClampNeg) 5).toNatClampNeg ∧ j = 1 then 1 else if k = 39 + 15 * x0.toNatClampNeg + (v (29 + 15 * x0.toNatClampNeg) 5).toNatClampNeg ∧ j = 0 then x1 else v k j)) := by
                  refine ⟨fun hq => ?_, fun hq => ?_, fun hq => ?_, fun hq => ?_⟩
                  · exfalso; omega
                  · exact ⟨rfl, rfl⟩
                  · exfalso; omega
                  · exfalso; omega
                exact W.iret (v := (-4)) hx hb hr (fun t ht hW => ⟨⟨(-4), v, rfl, ⟨hv, hpost⟩, by rw [ht]; exact hP, hD⟩, hS.F ht⟩) hS.2.2 dX7_term_72
            · have tc_11 : x3.toInt > x4.toInt := Int32.lt_iff_toInt_lt.mp (Int32.not_le.mp c_11)
              refine lv_iconst (v := (-1)) hx hb dX7_term_48 (by decide) ?_
              have hpost : (¬ ((0 ≤ x0.toInt ∧ x0.toInt < (v 13 2).toInt) ∧ (0 ≤ x1.toInt ∧ x1.toInt ≤ 1) ∧ (0 ≤ x2.toInt ∧ x2.toInt ≤ 5) ∧ (0 ≤ x3.toInt ∧ x3.toInt ≤ 23) ∧ x3.toInt ≤ x4.toInt ∧ x4.toInt ≤ 23) → ((-1) : Int32) = -1 ∧ v = v) ∧ (((0 ≤ x0.toInt ∧ x0.toInt < (v 13 2).toInt) ∧ (0 ≤ x1.toInt ∧ x1.toInt ≤ 1) ∧ (0 ≤ x2.toInt ∧ x2.toInt ≤ 5) ∧ (0 ≤ x3.toInt ∧ x3.toInt ≤ 23) ∧ x3.toInt ≤ x4.toInt ∧ x4.toInt ≤ 23) ∧ (v (29 + 15 * x0.toNatClampNeg) 0).toInt ≠ 1 → ((-1) : Int32) = -4 ∧ v = v) ∧ (((0 ≤ x0.toInt ∧ x0.toInt < (v 13 2).toInt) ∧ (0 ≤ x1.toInt ∧ x1.toInt ≤ 1) ∧ (0 ≤ x2.toInt ∧ x2.toInt ≤ 5) ∧ (0 ≤ x3.toInt ∧ x3.toInt ≤ 23) ∧ x3.toInt ≤ x4.toInt ∧ x4.toInt ≤ 23) ∧ (v (29 + 15 * x0.toNatClampNeg) 0).toInt = 1 ∧ 5 ≤ (v (29 + 15 * x0.toNatClampNeg) 5).toInt → ((-1) : Int32) = -2 ∧ v = v) ∧ (((0 ≤ x0.toInt ∧ x0.toInt < (v 13 2).toInt) ∧ (0 ≤ x1.toInt ∧ x1.toInt ≤ 1) ∧ (0 ≤ x2.toInt ∧ x2.toInt ≤ 5) ∧ (0 ≤ x3.toInt ∧ x3.toInt ≤ 23) ∧ x3.toInt ≤ x4.toInt ∧ x4.toInt ≤ 23) ∧ (v (29 + 15 * x0.toNatClampNeg) 0).toInt = 1 ∧ (v (29 + 15 * x0.toNatClampNeg) 5).toInt < 5 → ((-1) : Int32) = v (29 + 15 * x0.toNatClampNeg) 5 ∧ (∀ k j : Nat, v k j = if k = 29 + 15 * x0.toNatClampNeg ∧ j = 5 then v (29 + 15 * x0.toNatClampNeg) 5 + 1 else if k = 39 + 15 * x0.toNatClampNeg + (v (29 + 15 * x0.toNatClampNeg) 5).toNatClampNeg ∧ j = 4 then x4 else if k = 39 + 15 * x0.toNatClampNeg + (v (29 + 15 * x0.toNatClampNeg) 5).toNatClampNeg ∧ j = 3 then x3 else if k = 39 + 15 * x0.toNatClampNeg + (v (29 + 15 * x0.toNatClampNeg) 5).toNatClampNeg ∧ j = 2 then x2 else if k = 39 + 15 * x0.toNatClampNeg + (v (29 + 15 * x0.toNatClampNeg) 5).toNatClampNeg ∧ j = 1 then 1 else if k = 39 + 15 * x0.toNatClampNeg + (v (29 + 15 * x0.toNatClampNeg) 5).toNatClampNeg ∧ j = 0 then x1 else v k j)) := by
                refine ⟨fun hq => ?_, fun hq => ?_, fun hq => ?_, fun hq => ?_⟩
                · exact ⟨rfl, rfl⟩
                · exfalso; omega
                · exfalso; omega
                · exfalso; omega
              exact W.iret (v := (-1)) hx hb hr (fun t ht hW => ⟨⟨(-1), v, rfl, ⟨hv, hpost⟩, by rw [ht]; exact hP, hD⟩, hS.F ht⟩) hS.2.2 dX7_term_49
          · have tc_10 : ¬ ((0 : Int32).toInt ≤ x4.toInt ∧ x4.toInt ≤ (23 : Int32).toInt) := fun q => hc_10 ⟨Int32.le_iff_toInt_le.mpr q.1, Int32.le_iff_toInt_le.mpr q.2⟩
            refine lv_if_eq (tgt := 48) hx hb dX7_term_38 (by decide) (fun _ => ?_) (fun c9 => absurd c9 (by decide))
            refine lv_iconst (v := (-1)) hx hb dX7_term_48 (by decide) ?_
            have hpost : (¬ ((0 ≤ x0.toInt ∧ x0.toInt < (v 13 2).toInt) ∧ (0 ≤ x1.toInt ∧ x1.toInt ≤ 1) ∧ (0 ≤ x2.toInt ∧ x2.toInt ≤ 5) ∧ (0 ≤ x3.toInt ∧ x3.toInt ≤ 23) ∧ x3.toInt ≤ x4.toInt ∧ x4.toInt ≤ 23) → ((-1) : Int32) = -1 ∧ v = v) ∧ (((0 ≤ x0.toInt ∧ x0.toInt < (v 13 2).toInt) ∧ (0 ≤ x1.toInt ∧ x1.toInt ≤ 1) ∧ (0 ≤ x2.toInt ∧ x2.toInt ≤ 5) ∧ (0 ≤ x3.toInt ∧ x3.toInt ≤ 23) ∧ x3.toInt ≤ x4.toInt ∧ x4.toInt ≤ 23) ∧ (v (29 + 15 * x0.toNatClampNeg) 0).toInt ≠ 1 → ((-1) : Int32) = -4 ∧ v = v) ∧ (((0 ≤ x0.toInt ∧ x0.toInt < (v 13 2).toInt) ∧ (0 ≤ x1.toInt ∧ x1.toInt ≤ 1) ∧ (0 ≤ x2.toInt ∧ x2.toInt ≤ 5) ∧ (0 ≤ x3.toInt ∧ x3.toInt ≤ 23) ∧ x3.toInt ≤ x4.toInt ∧ x4.toInt ≤ 23) ∧ (v (29 + 15 * x0.toNatClampNeg) 0).toInt = 1 ∧ 5 ≤ (v (29 + 15 * x0.toNatClampNeg) 5).toInt → ((-1) : Int32) = -2 ∧ v = v) ∧ (((0 ≤ x0.toInt ∧ x0.toInt < (v 13 2).toInt) ∧ (0 ≤ x1.toInt ∧ x1.toInt ≤ 1) ∧ (0 ≤ x2.toInt ∧ x2.toInt ≤ 5) ∧ (0 ≤ x3.toInt ∧ x3.toInt ≤ 23) ∧ x3.toInt ≤ x4.toInt ∧ x4.toInt ≤ 23) ∧ (v (29 + 15 * x0.toNatClampNeg) 0).toInt = 1 ∧ (v (29 + 15 * x0.toNatClampNeg) 5).toInt < 5 → ((-1) : Int32) = v (29 + 15 * x0.toNatClampNeg) 5 ∧ (∀ k j : Nat, v k j = if k = 29 + 15 * x0.toNatClampNeg ∧ j = 5 then v (29 + 15 * x0.toNatClampNeg) 5 + 1 else if k = 39 + 15 * x0.toNatClampNeg + (v (29 + 15 * x0.toNatClampNeg) 5).toNatClampNeg ∧ j = 4 then x4 else if k = 39 + 15 * x0.toNatClampNeg + (v (29 + 15 * x0.toNatClampNeg) 5).toNatClampNeg ∧ j = 3 then x3 else if k = 39 + 15 * x0.toNatClampNeg + (v (29 + 15 * x0.toNatClampNeg) 5).toNatClampNeg ∧ j = 2 then x2 else if k = 39 + 15 * x0.toNatClampNeg + (v (29 + 15 * x0.toNatClampNeg) 5).toNatClampNeg ∧ j = 1 then 1 else if k = 39 + 15 * x0.toNatClampNeg + (v (29 + 15 * x0.toNatClampNeg) 5).toNatClampNeg ∧ j = 0 then x1 else v k j)) := by
              refine ⟨fun hq => ?_, fun hq => ?_, fun hq => ?_, fun hq => ?_⟩
              · exact ⟨rfl, rfl⟩
              · exfalso; omega
              · exfalso; omega
              · exfalso; omega
            exact W.iret (v := (-1)) hx hb hr (fun t ht hW => ⟨⟨(-1), v, rfl, ⟨hv, hpost⟩, by rw [ht]; exact hP, hD⟩, hS.F ht⟩) hS.2.2 dX7_term_49
        · have k_23 : (23 : Int32).toInt = 23 := by decide
          have tc_8 : ¬ ((0 : Int32).toInt ≤ x3.toInt ∧ x3.toInt ≤ (23 : Int32).toInt) := fun q => hc_8 ⟨Int32.le_iff_toInt_le.mpr q.1, Int32.le_iff_toInt_le.mpr q.2⟩
          refine lv_if_eq (tgt := 48) hx hb dX7_term_30 (by decide) (fun _ => ?_) (fun c9 => absurd c9 (by decide))
          refine lv_iconst (v := (-1)) hx hb dX7_term_48 (by decide) ?_
          have hpost : (¬ ((0 ≤ x0.toInt ∧ x0.toInt < (v 13 2).toInt) ∧ (0 ≤ x1.toInt ∧ x1.toInt ≤ 1) ∧ (0 ≤ x2.toInt ∧ x2.toInt ≤ 5) ∧ (0 ≤ x3.toInt ∧ x3.toInt ≤ 23) ∧ x3.toInt ≤ x4.toInt ∧ x4.toInt ≤ 23) → ((-1) : Int32) = -1 ∧ v = v) ∧ (((0 ≤ x0.toInt ∧ x0.toInt < (v 13 2).toInt) ∧ (0 ≤ x1.toInt ∧ x1.toInt ≤ 1) ∧ (0 ≤ x2.toInt ∧ x2.toInt ≤ 5) ∧ (0 ≤ x3.toInt ∧ x3.toInt ≤ 23) ∧ x3.toInt ≤ x4.toInt ∧ x4.toInt ≤ 23) ∧ (v (29 + 15 * x0.toNatClampNeg) 0).toInt ≠ 1 → ((-1) : Int32) = -4 ∧ v = v) ∧ (((0 ≤ x0.toInt ∧ x0.toInt < (v 13 2).toInt) ∧ (0 ≤ x1.toInt ∧ x1.toInt ≤ 1) ∧ (0 ≤ x2.toInt ∧ x2.toInt ≤ 5) ∧ (0 ≤ x3.toInt ∧ x3.toInt ≤ 23) ∧ x3.toInt ≤ x4.toInt ∧ x4.toInt ≤ 23) ∧ (v (29 + 15 * x0.toNatClampNeg) 0).toInt = 1 ∧ 5 ≤ (v (29 + 15 * x0.toNatClampNeg) 5).toInt → ((-1) : Int32) = -2 ∧ v = v) ∧ (((0 ≤ x0.toInt ∧ x0.toInt < (v 13 2).toInt) ∧ (0 ≤ x1.toInt ∧ x1.toInt ≤ 1) ∧ (0 ≤ x2.toInt ∧ x2.toInt ≤ 5) ∧ (0 ≤ x3.toInt ∧ x3.toInt ≤ 23) ∧ x3.toInt ≤ x4.toInt ∧ x4.toInt ≤ 23) ∧ (v (29 + 15 * x0.toNatClampNeg) 0).toInt = 1 ∧ (v (29 + 15 * x0.toNatClampNeg) 5).toInt < 5 → ((-1) : Int32) = v (29 + 15 * x0.toNatClampNeg) 5 ∧ (∀ k j : Nat, v k j = if k = 29 + 15 * x0.toNatClampNeg ∧ j = 5 then v (29 + 15 * x0.toNatClampNeg) 5 + 1 else if k = 39 + 15 * x0.toNatClampNeg + (v (29 + 15 * x0.toNatClampNeg) 5).toNatClampNeg ∧ j = 4 then x4 else if k = 39 + 15 * x0.toNatClampNeg + (v (29 + 15 * x0.toNatClampNeg) 5).toNatClampNeg ∧ j = 3 then x3 else if k = 39 + 15 * x0.toNatClampNeg + (v (29 + 15 * x0.toNatClampNeg) 5).toNatClampNeg ∧ j = 2 then x2 else if k = 39 + 15 * x0.toNatClampNeg + (v (29 + 15 * x0.toNatClampNeg) 5).toNatClampNeg ∧ j = 1 then 1 else if k = 39 + 15 * x0.toNatClampNeg + (v (29 + 15 * x0.toNatClampNeg) 5).toNatClampNeg ∧ j = 0 then x1 else v k j)) := by
            refine ⟨fun hq => ?_, fun hq => ?_, fun hq => ?_, fun hq => ?_⟩
            · exact ⟨rfl, rfl⟩
            · exfalso; omega
            · exfalso; omega
            · exfalso; omega
          exact W.iret (v := (-1)) hx hb hr (fun t ht hW => ⟨⟨(-1), v, rfl, ⟨hv, hpost⟩, by rw [ht]; exact hP, hD⟩, hS.F ht⟩) hS.2.2 dX7_term_49
      · have k_5 : (5 : Int32).toInt = 5 := by decide
        have tc_6 : ¬ ((0 : Int32).toInt ≤ x2.toInt ∧ x2.toInt ≤ (5 : Int32).toInt) := fun q => hc_6 ⟨Int32.le_iff_toInt_le.mpr q.1, Int32.le_iff_toInt_le.mpr q.2⟩
        refine lv_if_eq (tgt := 48) hx hb dX7_term_22 (by decide) (fun _ => ?_) (fun c9 => absurd c9 (by decide))
        refine lv_iconst (v := (-1)) hx hb dX7_term_48 (by decide) ?_
        have hpost : (¬ ((0 ≤ x0.toInt ∧ x0.toInt < (v 13 2).toInt) ∧ (0 ≤ x1.toInt ∧ x1.toInt ≤ 1) ∧ (0 ≤ x2.toInt ∧ x2.toInt ≤ 5) ∧ (0 ≤ x3.toInt ∧ x3.toInt ≤ 23) ∧ x3.toInt ≤ x4.toInt ∧ x4.toInt ≤ 23) → ((-1) : Int32) = -1 ∧ v = v) ∧ (((0 ≤ x0.toInt ∧ x0.toInt < (v 13 2).toInt) ∧ (0 ≤ x1.toInt ∧ x1.toInt ≤ 1) ∧ (0 ≤ x2.toInt ∧ x2.toInt ≤ 5) ∧ (0 ≤ x3.toInt ∧ x3.toInt ≤ 23) ∧ x3.toInt ≤ x4.toInt ∧ x4.toInt ≤ 23) ∧ (v (29 + 15 * x0.toNatClampNeg) 0).toInt ≠ 1 → ((-1) : Int32) = -4 ∧ v = v) ∧ (((0 ≤ x0.toInt ∧ x0.toInt < (v 13 2).toInt) ∧ (0 ≤ x1.toInt ∧ x1.toInt ≤ 1) ∧ (0 ≤ x2.toInt ∧ x2.toInt ≤ 5) ∧ (0 ≤ x3.toInt ∧ x3.toInt ≤ 23) ∧ x3.toInt ≤ x4.toInt ∧ x4.toInt ≤ 23) ∧ (v (29 + 15 * x0.toNatClampNeg) 0).toInt = 1 ∧ 5 ≤ (v (29 + 15 * x0.toNatClampNeg) 5).toInt → ((-1) : Int32) = -2 ∧ v = v) ∧ (((0 ≤ x0.toInt ∧ x0.toInt < (v 13 2).toInt) ∧ (0 ≤ x1.toInt ∧ x1.toInt ≤ 1) ∧ (0 ≤ x2.toInt ∧ x2.toInt ≤ 5) ∧ (0 ≤ x3.toInt ∧ x3.toInt ≤ 23) ∧ x3.toInt ≤ x4.toInt ∧ x4.toInt ≤ 23) ∧ (v (29 + 15 * x0.toNatClampNeg) 0).toInt = 1 ∧ (v (29 + 15 * x0.toNatClampNeg) 5).toInt < 5 → ((-1) : Int32) = v (29 + 15 * x0.toNatClampNeg) 5 ∧ (∀ k j : Nat, v k j = if k = 29 + 15 * x0.toNatClampNeg ∧ j = 5 then v (29 + 15 * x0.toNatClampNeg) 5 + 1 else if k = 39 + 15 * x0.toNatClampNeg + (v (29 + 15 * x0.toNatClampNeg) 5).toNatClampNeg ∧ j = 4 then x4 else if k = 39 + 15 * x0.toNatClampNeg + (v (29 + 15 * x0.toNatClampNeg) 5).toNatClampNeg ∧ j = 3 then x3 else if k = 39 + 15 * x0.toNatClampNeg + (v (29 + 15 * x0.toNatClampNeg) 5).toNatClampNeg ∧ j = 2 then x2 else if k = 39 + 15 * x0.toNatClampNeg + (v (29 + 15 * x0.toNatClampNeg) 5).toNatClampNeg ∧ j = 1 then 1 else if k = 39 + 15 * x0.toNatClampNeg + (v (29 + 15 * x0.toNatClampNeg) 5).toNatClampNeg ∧ j = 0 then x1 else v k j)) := by
          refine ⟨fun hq => ?_, fun hq => ?_, fun hq => ?_, fun hq => ?_⟩
          · exact ⟨rfl, rfl⟩
          · exfalso; omega
          · exfalso; omega
          · exfalso; omega
        exact W.iret (v := (-1)) hx hb hr (fun t ht hW => ⟨⟨(-1), v, rfl, ⟨hv, hpost⟩, by rw [ht]; exact hP, hD⟩, hS.F ht⟩) hS.2.2 dX7_term_49
    · have k_0 : (0 : Int32).toInt = 0 := by decide
      have k_1 : (1 : Int32).toInt = 1 := by decide
      have tc_4 : ¬ ((0 : Int32).toInt ≤ x1.toInt ∧ x1.toInt ≤ (1 : Int32).toInt) := fun q => hc_4 ⟨Int32.le_iff_toInt_le.mpr q.1, Int32.le_iff_toInt_le.mpr q.2⟩
      refine lv_if_eq (tgt := 48) hx hb dX7_term_12 (by decide) (fun _ => ?_) (fun c9 => absurd c9 (by decide))
      refine lv_iconst (v := (-1)) hx hb dX7_term_48 (by decide) ?_
      have hpost : (¬ ((0 ≤ x0.toInt ∧ x0.toInt < (v 13 2).toInt) ∧ (0 ≤ x1.toInt ∧ x1.toInt ≤ 1) ∧ (0 ≤ x2.toInt ∧ x2.toInt ≤ 5) ∧ (0 ≤ x3.toInt ∧ x3.toInt ≤ 23) ∧ x3.toInt ≤ x4.toInt ∧ x4.toInt ≤ 23) → ((-1) : Int32) = -1 ∧ v = v) ∧ (((0 ≤ x0.toInt ∧ x0.toInt < (v 13 2).toInt) ∧ (0 ≤ x1.toInt ∧ x1.toInt ≤ 1) ∧ (0 ≤ x2.toInt ∧ x2.toInt ≤ 5) ∧ (0 ≤ x3.toInt ∧ x3.toInt ≤ 23) ∧ x3.toInt ≤ x4.toInt ∧ x4.toInt ≤ 23) ∧ (v (29 + 15 * x0.toNatClampNeg) 0).toInt ≠ 1 → ((-1) : Int32) = -4 ∧ v = v) ∧ (((0 ≤ x0.toInt ∧ x0.toInt < (v 13 2).toInt) ∧ (0 ≤ x1.toInt ∧ x1.toInt ≤ 1) ∧ (0 ≤ x2.toInt ∧ x2.toInt ≤ 5) ∧ (0 ≤ x3.toInt ∧ x3.toInt ≤ 23) ∧ x3.toInt ≤ x4.toInt ∧ x4.toInt ≤ 23) ∧ (v (29 + 15 * x0.toNatClampNeg) 0).toInt = 1 ∧ 5 ≤ (v (29 + 15 * x0.toNatClampNeg) 5).toInt → ((-1) : Int32) = -2 ∧ v = v) ∧ (((0 ≤ x0.toInt ∧ x0.toInt < (v 13 2).toInt) ∧ (0 ≤ x1.toInt ∧ x1.toInt ≤ 1) ∧ (0 ≤ x2.toInt ∧ x2.toInt ≤ 5) ∧ (0 ≤ x3.toInt ∧ x3.toInt ≤ 23) ∧ x3.toInt ≤ x4.toInt ∧ x4.toInt ≤ 23) ∧ (v (29 + 15 * x0.toNatClampNeg) 0).toInt = 1 ∧ (v (29 + 15 * x0.toNatClampNeg) 5).toInt < 5 → ((-1) : Int32) = v (29 + 15 * x0.toNatClampNeg) 5 ∧ (∀ k j : Nat, v k j = if k = 29 + 15 * x0.toNatClampNeg ∧ j = 5 then v (29 + 15 * x0.toNatClampNeg) 5 + 1 else if k = 39 + 15 * x0.toNatClampNeg + (v (29 + 15 * x0.toNatClampNeg) 5).toNatClampNeg ∧ j = 4 then x4 else if k = 39 + 15 * x0.toNatClampNeg + (v (29 + 15 * x0.toNatClampNeg) 5).toNatClampNeg ∧ j = 3 then x3 else if k = 39 + 15 * x0.toNatClampNeg + (v (29 + 15 * x0.toNatClampNeg) 5).toNatClampNeg ∧ j = 2 then x2 else if k = 39 + 15 * x0.toNatClampNeg + (v (29 + 15 * x0.toNatClampNeg) 5).toNatClampNeg ∧ j = 1 then 1 else if k = 39 + 15 * x0.toNatClampNeg + (v (29 + 15 * x0.toNatClampNeg) 5).toNatClampNeg ∧ j = 0 then x1 else v k j)) := by
        refine ⟨fun hq => ?_, fun hq => ?_, fun hq => ?_, fun hq => ?_⟩
        · exact ⟨rfl, rfl⟩
        · exfalso; omega
        · exfalso; omega
        · exfalso; omega
      exact W.iret (v := (-1)) hx hb hr (fun t ht hW => ⟨⟨(-1), v, rfl, ⟨hv, hpost⟩, by rw [ht]; exact hP, hD⟩, hS.F ht⟩) hS.2.2 dX7_term_49
  · refine lv_if_eq (tgt := 48) hx hb dX7_term_5 (by decide) (fun _ => ?_) (fun c9 => absurd c9 (by decide))
    refine lv_iconst (v := (-1)) hx hb dX7_term_48 (by decide) ?_
    have hpost : (¬ ((0 ≤ x0.toInt ∧ x0.toInt < (v 13 2).toInt) ∧ (0 ≤ x1.toInt ∧ x1.toInt ≤ 1) ∧ (0 ≤ x2.toInt ∧ x2.toInt ≤ 5) ∧ (0 ≤ x3.toInt ∧ x3.toInt ≤ 23) ∧ x3.toInt ≤ x4.toInt ∧ x4.toInt ≤ 23) → ((-1) : Int32) = -1 ∧ v = v) ∧ (((0 ≤ x0.toInt ∧ x0.toInt < (v 13 2).toInt) ∧ (0 ≤ x1.toInt ∧ x1.toInt ≤ 1) ∧ (0 ≤ x2.toInt ∧ x2.toInt ≤ 5) ∧ (0 ≤ x3.toInt ∧ x3.toInt ≤ 23) ∧ x3.toInt ≤ x4.toInt ∧ x4.toInt ≤ 23) ∧ (v (29 + 15 * x0.toNatClampNeg) 0).toInt ≠ 1 → ((-1) : Int32) = -4 ∧ v = v) ∧ (((0 ≤ x0.toInt ∧ x0.toInt < (v 13 2).toInt) ∧ (0 ≤ x1.toInt ∧ x1.toInt ≤ 1) ∧ (0 ≤ x2.toInt ∧ x2.toInt ≤ 5) ∧ (0 ≤ x3.toInt ∧ x3.toInt ≤ 23) ∧ x3.toInt ≤ x4.toInt ∧ x4.toInt ≤ 23) ∧ (v (29 + 15 * x0.toNatClampNeg) 0).toInt = 1 ∧ 5 ≤ (v (29 + 15 * x0.toNatClampNeg) 5).toInt → ((-1) : Int32) = -2 ∧ v = v) ∧ (((0 ≤ x0.toInt ∧ x0.toInt < (v 13 2).toInt) ∧ (0 ≤ x1.toInt ∧ x1.toInt ≤ 1) ∧ (0 ≤ x2.toInt ∧ x2.toInt ≤ 5) ∧ (0 ≤ x3.toInt ∧ x3.toInt ≤ 23) ∧ x3.toInt ≤ x4.toInt ∧ x4.toInt ≤ 23) ∧ (v (29 + 15 * x0.toNatClampNeg) 0).toInt = 1 ∧ (v (29 + 15 * x0.toNatClampNeg) 5).toInt < 5 → ((-1) : Int32) = v (29 + 15 * x0.toNatClampNeg) 5 ∧ (∀ k j : Nat, v k j = if k = 29 + 15 * x0.toNatClampNeg ∧ j = 5 then v (29 + 15 * x0.toNatClampNeg) 5 + 1 else if k = 39 + 15 * x0.toNatClampNeg + (v (29 + 15 * x0.toNatClampNeg) 5).toNatClampNeg ∧ j = 4 then x4 else if k = 39 + 15 * x0.toNatClampNeg + (v (29 + 15 * x0.toNatClampNeg) 5).toNatClampNeg ∧ j = 3 then x3 else if k = 39 + 15 * x0.toNatClampNeg + (v (29 + 15 * x0.toNatClampNeg) 5).toNatClampNeg ∧ j = 2 then x2 else if k = 39 + 15 * x0.toNatClampNeg + (v (29 + 15 * x0.toNatClampNeg) 5).toNatClampNeg ∧ j = 1 then 1 else if k = 39 + 15 * x0.toNatClampNeg + (v (29 + 15 * x0.toNatClampNeg) 5).toNatClampNeg ∧ j = 0 then x1 else v k j)) := by
      refine ⟨fun hq => ?_, fun hq => ?_, fun hq => ?_, fun hq => ?_⟩
      · exact ⟨rfl, rfl⟩
      · exfalso; omega
      · exfalso; omega
      · exfalso; omega
    exact W.iret (v := (-1)) hx hb hr (fun t ht hW => ⟨⟨(-1), v, rfl, ⟨hv, hpost⟩, by rw [ht]; exact hP, hD⟩, hS.F ht⟩) hS.2.2 dX7_term_49

set_option maxHeartbeats 4000000 in
set_option maxRecDepth 100000 in
theorem e_X7_mark (l : Launch) (dC : Nat → ClassId) (dI : Nat → Nat → Nat) (cy : Nat → ClassId) (sz : Nat) (ad : Nat → Nat) (kv : Value) (N : Nat) (hN : 119 ≤ N) (v : Nat → Nat → Int32) (hv : Iv v) (x0 x1 : Int32) : Met l yX7_mark wsX7_mark ({ frames := 3, cells := 0, slots := 0, locals := 192 }) (va_Pc [.ref (ad 0), .int x0, .int x1] (ex_Pre dC dI cy sz (wl ad kv cy N v))) (va_Qi (fun (r : Int32) (u : Nat → Nat → Int32) => Iv u ∧ (¬ ((0 ≤ x0.toInt ∧ x0.toInt < (v 13 2).toInt) ∧ (0 ≤ x1.toInt ∧ x1.toInt < (v 13 2).toInt) ∧ x0.toInt ≠ x1.toInt) → r = -1 ∧ u = v) ∧ (((0 ≤ x0.toInt ∧ x0.toInt < (v 13 2).toInt) ∧ (0 ≤ x1.toInt ∧ x1.toInt < (v 13 2).toInt) ∧ x0.toInt ≠ x1.toInt) ∧ (btx (v (29 + 15 * x0.toNatClampNeg) 4) x1).toInt = 1 → r = -3 ∧ u = v) ∧ (((0 ≤ x0.toInt ∧ x0.toInt < (v 13 2).toInt) ∧ (0 ≤ x1.toInt ∧ x1.toInt < (v 13 2).toInt) ∧ x0.toInt ≠ x1.toInt) ∧ (btx (v (29 + 15 * x0.toNatClampNeg) 4) x1).toInt ≠ 1 ∧ 6 ≤ (v 13 3).toInt → r = -2 ∧ u = v) ∧ (((0 ≤ x0.toInt ∧ x0.toInt < (v 13 2).toInt) ∧ (0 ≤ x1.toInt ∧ x1.toInt < (v 13 2).toInt) ∧ x0.toInt ≠ x1.toInt) ∧ (btx (v (29 + 15 * x0.toNatClampNeg) 4) x1).toInt ≠ 1 ∧ (v 13 3).toInt < 6 → r = v 13 3 + 1 ∧ (∀ k j : Nat, u k j = if k = 13 ∧ j = 3 then v 13 3 + 1 else if k = 29 + 15 * x1.toNatClampNeg ∧ j = 4 then v (29 + 15 * x1.toNatClampNeg) 4 ||| (1 <<< (x0 &&& 31)) else if k = 29 + 15 * x0.toNatClampNeg ∧ j = 4 then v (29 + 15 * x0.toNatClampNeg) 4 ||| (1 <<< (x1 &&& 31)) else v k j))) (fun u t => ex_Pst dC dI (va_A (wl ad kv cy N v) sz) (wl ad kv cy N u) t) (va_A (wl ad kv cy N v) sz)) 0 0 (va_A (wl ad kv cy N v) sz) := by
  refine Met.ofW (cc := cX7_mark) (maxL := 3) (ret := (some .int)) (by decide) rfl ?_
  intro p e s m args below meth c s₁ B hml hv
  obtain ⟨rfl, hsz, hE, hP, hK, hD0⟩ := hv
  have hx := B.exec
  have hb := B.bytes
  have hr := B.returns
  have hts := atoms_spec (ws := wsX7_mark) B.pre
  have hown : s.vm.findClass RX7 = some m.cls := findClass_of_methodNamed B.named
  have hlocks := B.notSynchronized
  subst hsz
  have hD := hD0.self (sz := s.heap.size)
  generalize hAe : va_A (wl ad kv cy N v) s.heap.size = A at hD ⊢
  have hA : ∀ q : Nat, s.heap.size ≤ q → A q := fun q h => by rw [← hAe]; exact Or.inr h
  have hS : va_S A s.heap s.heap [] := va_S.rf
  have hP : va_P (dC, dI) vwCl (wl ad kv cy N v) s.heap := hP
  have hl := lv_entry ([.ref (ad 0), .int x0, .int x1]) (n := 3) (Nat.le_of_ble_eq_true rfl)
  rw [lg_entry_eq]
  generalize (lg_sl ([.ref (ad 0), .int x0, .int x1]) ++ List.replicate (3 - (lg_sl ([.ref (ad 0), .int x0, .int x1])).length) Slot.unset).toArray = ls at hl ⊢
  have hl : lv_has ls 3 [(0, .ref (ad 0)), (1, .int x0), (2, .int x1)] := hl
  refine lv_aload_n hx hb dX7_mark_0 rfl (lv_at hl 0 rfl) ?_
  refine lv_iload_n hx hb dX7_mark_1 rfl (lv_at hl 1 rfl) ?_
  refine yw_i (w1 := fun (u : Nat → Nat → Int32) => wl ad kv cy N u) hD hS hA (va_runV (As := [.int x0]) (rest := []) ⟨hx, hb, hml, hown, hts⟩ (g_X7_isCase l dC dI cy _ ad kv N hN v hv x0) (cwV 1 hts gX7_mark_X7_isCase rfl rfl rfl hd_V_X7_isCase_1 ⟨Nat.le_of_ble_eq_true rfl, Nat.le_of_ble_eq_true rfl⟩) (yw_preV hE hK hP hD (ci := 7) (q := (RX7, TX7, 5)) (q0 := 0) rfl (wl_at (by omega) (ce_0 (by decide)))) rfl rfl hl.1 rfl (lv_room (Nat.le_of_ble_eq_true rfl)) dX7_mark_2 ⟨Nat.le_of_ble_eq_true rfl, Nat.le_of_ble_eq_true rfl⟩) (fun r_1 v_1 H locs hw_1 hP hD hS => ?_)
  obtain ⟨-, hu_1, hw_1⟩ := hw_1
  replace hu_1 := hu_1.symm
  subst hu_1
  rcases hw_1 with ⟨rfl, ha_2⟩ | ⟨rfl, ha_2⟩
  · have hb_2 := hv.at (k := 13) (j := 2) (K := 3) (by decide) rfl
    have hj_2 : 0 ≤ x0.toInt ∧ x0.toInt ≤ 5 := ⟨by omega, by omega⟩
    refine lv_if_eq (tgt := 21) hx hb dX7_mark_5 (by decide) (fun c9 => absurd c9 (by decide)) (fun _ => ?_)
    refine lv_aload_n hx hb dX7_mark_8 rfl (lv_at hl 0 rfl) ?_
    refine lv_iload_n hx hb dX7_mark_9 rfl (lv_at hl 2 rfl) ?_
    refine yw_i (w1 := fun (u : Nat → Nat → Int32) => wl ad kv cy N u) hD hS hA (va_runV (As := [.int x1]) (rest := []) ⟨hx, hb, hml, hown, hts⟩ (g_X7_isCase l dC dI cy _ ad kv N hN v hv x1) (cwV 1 hts gX7_mark_X7_isCase rfl rfl rfl hd_V_X7_isCase_1 ⟨Nat.le_of_ble_eq_true rfl, Nat.le_of_ble_eq_true rfl⟩) (yw_preV hE hK hP hD (ci := 7) (q := (RX7, TX7, 5)) (q0 := 0) rfl (wl_at (by omega) (ce_0 (by decide)))) rfl rfl hl.1 rfl (lv_room (Nat.le_of_ble_eq_true rfl)) dX7_mark_10 ⟨Nat.le_of_ble_eq_true rfl, Nat.le_of_ble_eq_true rfl⟩) (fun r_3 v_3 H locs hw_3 hP hD hS => ?_)
    obtain ⟨-, hu_3, hw_3⟩ := hw_3
    replace hu_3 := hu_3.symm
    subst hu_3
    rcases hw_3 with ⟨rfl, ha_4⟩ | ⟨rfl, ha_4⟩
    · have hb_4 := hv.at (k := 13) (j := 2) (K := 3) (by decide) rfl
      have hj_4 : 0 ≤ x1.toInt ∧ x1.toInt ≤ 5 := ⟨by omega, by omega⟩
      refine lv_if_eq (tgt := 21) hx hb dX7_mark_13 (by decide) (fun c9 => absurd c9 (by decide)) (fun _ => ?_)
      refine lv_iload_n hx hb dX7_mark_16 rfl (lv_at hl 1 rfl) ?_
      refine lv_iload_n hx hb dX7_mark_17 rfl (lv_at hl 2 rfl) ?_
      refine lv_icmp_ne (tgt := 23) hx hb dX7_mark_18 (by decide) (fun c_5 => ?_) (fun c_5 => ?_)
      · have tc_5 : x0.toInt ≠ x1.toInt := fun q => absurd (Int32.toInt_inj.mp q) c_5
        refine lv_aload_n hx hb dX7_mark_23 rfl (lv_at hl 0 rfl) ?_
        refine va_get (D := (dC, dI)) (ci := 7) (v := .ref (ad 13)) (C := RX7) (T := TX7) (N := 5) hx hb hts iwX7_mark_X7 hown hK hP (0) (wl_at (by omega) (ce_0 (by decide))) rfl 0 (by decide) (hts (.fieldLink RX7 12 "QuietStairs" "now" "LQuietStairs$House;") fwX7_mark_1) (fun _ h9 => h9) rfl dX7_mark_24 ?_
        refine va_get (D := (dC, dI)) (ci := 1) (v := .ref (ad 16)) (C := RX1) (T := TX1) (N := 7) hx hb hts iwX7_mark_X1 hown hK hP (13) (wl_at (by omega) (ce_3 (by decide))) rfl 6 (by decide) (hts (.fieldLink RX7 86 "QuietStairs$House" "cases" "[LQuietStairs$Case;") fwX7_mark_2) (fun _ h9 => h9) rfl dX7_mark_27 ?_
        refine lv_iload_n hx hb dX7_mark_30 rfl (lv_at hl 1 rfl) ?_
        have zn_x0 : (x0.toNatClampNeg : Int) = x0.toInt := t_nn (by omega)
        have hx_6 : x0.toNatClampNeg < 6 := by omega
        refine va_aldq hx hb hK hP (16) 3 (wl_at (by omega) (ce_6 (by decide))) rfl (vp_in_iff.mpr ⟨by omega, by omega⟩) dX7_mark_31 ?_
        refine W.eq (g2 := F0 m 32 ls [.ref (ad (29 + 15 * x0.toNatClampNeg))]) (by rw [if_pos hx_6, show 16 + 13 + 15 * x0.toNatClampNeg = 29 + 15 * x0.toNatClampNeg from by omega]; rfl) ?_
        refine va_get (D := (dC, dI)) (ci := 0) (v := .int (v (29 + 15 * x0.toNatClampNeg) 4)) (C := RX0) (T := TX0) (N := 11) hx hb hts iwX7_mark_X0 hown hK hP (29 + 15 * x0.toNatClampNeg) (wl_at (by omega) (ce_9 (kd_c _ hx_6).1.1)) rfl 4 (by decide) (hts (.fieldLink RX7 105 "QuietStairs$Case" "markedBits" "I") fwX7_mark_3) (fun _ h9 => h9) rfl dX7_mark_32 ?_
        refine lv_topi (fun x_7 ex_7 => ?_)
        have qx_7 : x_7.toInt = (v (29 + 15 * x0.toNatClampNeg) (4)).toInt := congrArg Int32.toInt ex_7
        refine lv_iload_n hx hb dX7_mark_35 rfl (lv_at hl 2 rfl) ?_
        refine yc_p hP hS (va_runS (As := [.int x_7, .int x1]) (rest := []) ⟨hx, hb, hml, hown, hts⟩ (e_X7_hasBit l x_7 x1) (cwS 2 hts gX7_mark_X7_hasBit rfl rfl rfl hd_S_X7_hasBit_2 ⟨Nat.le_of_ble_eq_true rfl, Nat.le_of_ble_eq_true rfl⟩) ex_preP rfl rfl hl.1 rfl (lv_room (Nat.le_of_ble_eq_true rfl)) dX7_mark_36 ⟨Nat.le_of_ble_eq_true rfl, Nat.le_of_ble_eq_true rfl⟩) (fun r_8 H locs hw_8 hP hS => ?_)
        rcases hw_8 with ⟨rfl, hh_9⟩ | ⟨rfl, hh_9⟩
        · have hd_9 : (btx (v (29 + 15 * x0.toNatClampNeg) 4) x1).toInt = 1 := by rw [← ex_7]; exact hh_9
          refine lv_if_eq (tgt := 45) hx hb dX7_mark_39 (by decide) (fun c9 => absurd c9 (by decide)) (fun _ => ?_)
          refine lv_bipush (v := (-3)) hx hb dX7_mark_42 (by decide) ?_
          have hpost : (¬ ((0 ≤ x0.toInt ∧ x0.toInt < (v 13 2).toInt) ∧ (0 ≤ x1.toInt ∧ x1.toInt < (v 13 2).toInt) ∧ x0.toInt ≠ x1.toInt) → ((-3) : Int32) = -1 ∧ v = v) ∧ (((0 ≤ x0.toInt ∧ x0.toInt < (v 13 2).toInt) ∧ (0 ≤ x1.toInt ∧ x1.toInt < (v 13 2).toInt) ∧ x0.toInt ≠ x1.toInt) ∧ (btx (v (29 + 15 * x0.toNatClampNeg) 4) x1).toInt = 1 → ((-3) : Int32) = -3 ∧ v = v) ∧ (((0 ≤ x0.toInt ∧ x0.toInt < (v 13 2).toInt) ∧ (0 ≤ x1.toInt ∧ x1.toInt < (v 13 2).toInt) ∧ x0.toInt ≠ x1.toInt) ∧ (btx (v (29 + 15 * x0.toNatClampNeg) 4) x1).toInt ≠ 1 ∧ 6 ≤ (v 13 3).toInt → ((-3) : Int32) = -2 ∧ v = v) ∧ (((0 ≤ x0.toInt ∧ x0.toInt < (v 13 2).toInt) ∧ (0 ≤ x1.toInt ∧ x1.toInt < (v 13 2).toInt) ∧ x0.toInt ≠ x1.toInt) ∧ (btx (v (29 + 15 * x0.toNatClampNeg) 4) x1).toInt ≠ 1 ∧ (v 13 3).toInt < 6 → ((-3) : Int32) = v 13 3 + 1 ∧ (∀ k j : Nat, v k j = if k = 13 ∧ j = 3 then v 13 3 + 1 else if k = 29 + 15 * x1.toNatClampNeg ∧ j = 4 then v (29 + 15 * x1.toNatClampNeg) 4 ||| (1 <<< (x0 &&& 31)) else if k = 29 + 15 * x0.toNatClampNeg ∧ j = 4 then v (29 + 15 * x0.toNatClampNeg) 4 ||| (1 <<< (x1 &&& 31)) else v k j)) := by
            refine ⟨fun hq => ?_, fun hq => ?_, fun hq => ?_, fun hq => ?_⟩
            · exfalso; omega
            · exact ⟨rfl, rfl⟩
            · exfalso; omega
            · exfalso; omega
          exact W.iret (v := (-3)) hx hb hr (fun t ht hW => ⟨⟨(-3), v, rfl, ⟨hv, hpost⟩, by rw [ht]; exact hP, hD⟩, hS.F ht⟩) hS.2.2 dX7_mark_44
        · have hd_9 : (btx (v (29 + 15 * x0.toNatClampNeg) 4) x1).toInt ≠ 1 := by rw [← ex_7]; exact hh_9
          refine lv_if_eq (tgt := 45) hx hb dX7_mark_39 (by decide) (fun _ => ?_) (fun c9 => absurd c9 (by decide))
          refine lv_aload_n hx hb dX7_mark_45 rfl (lv_at hl 0 rfl) ?_
          refine va_get (D := (dC, dI)) (ci := 7) (v := .ref (ad 13)) (C := RX7) (T := TX7) (N := 5) hx hb hts iwX7_mark_X7 hown hK hP (0) (wl_at (by omega) (ce_0 (by decide))) rfl 0 (by decide) (hts (.fieldLink RX7 12 "QuietStairs" "now" "LQuietStairs$House;") fwX7_mark_1) (fun _ h9 => h9) rfl dX7_mark_46 ?_
          refine va_get (D := (dC, dI)) (ci := 1) (v := .int (v (13) 3)) (C := RX1) (T := TX1) (N := 7) hx hb hts iwX7_mark_X1 hown hK hP (13) (wl_at (by omega) (ce_3 (by decide))) rfl 3 (by decide) (hts (.fieldLink RX7 108 "QuietStairs$House" "markCount" "I") fwX7_mark_4) (fun _ h9 => h9) rfl dX7_mark_49 ?_
          refine lv_topi (fun x_10 ex_10 => ?_)
          have bzx_10 : 0 ≤ x_10.toInt ∧ x_10.toInt ≤ 6 := by rw [ex_10]; exact hv.at (K := 3) (by decide) rfl
          have qx_10 : x_10.toInt = (v (13) (3)).toInt := congrArg Int32.toInt ex_10
          refine lv_bipush (v := 6) hx hb dX7_mark_52 (by decide) ?_
          have k_6 : (6 : Int32).toInt = 6 := by decide
          refine lv_icmp_lt (tgt := 60) hx hb dX7_mark_54 (by decide) (fun c_11 => ?_) (fun c_11 => ?_)
          · have tc_11 : x_10.toInt < (6 : Int32).toInt := Int32.lt_iff_toInt_lt.mp c_11
            refine lv_aload_n hx hb dX7_mark_60 rfl (lv_at hl 0 rfl) ?_
            refine va_get (D := (dC, dI)) (ci := 7) (v := .ref (ad 13)) (C := RX7) (T := TX7) (N := 5) hx hb hts iwX7_mark_X7 hown hK hP (0) (wl_at (by omega) (ce_0 (by decide))) rfl 0 (by decide) (hts (.fieldLink RX7 12 "QuietStairs" "now" "LQuietStairs$House;") fwX7_mark_1) (fun _ h9 => h9) rfl dX7_mark_61 ?_
            refine va_get (D := (dC, dI)) (ci := 1) (v := .ref (ad 16)) (C := RX1) (T := TX1) (N := 7) hx hb hts iwX7_mark_X1 hown hK hP (13) (wl_at (by omega) (ce_3 (by decide))) rfl 6 (by decide) (hts (.fieldLink RX7 86 "QuietStairs$House" "cases" "[LQuietStairs$Case;") fwX7_mark_2) (fun _ h9 => h9) rfl dX7_mark_64 ?_
            refine lv_iload_n hx hb dX7_mark_67 rfl (lv_at hl 1 rfl) ?_
            refine va_aldq hx hb hK hP (16) 3 (wl_at (by omega) (ce_6 (by decide))) rfl (vp_in_iff.mpr ⟨by omega, by omega⟩) dX7_mark_68 ?_
            refine W.eq (g2 := F0 m 69 ls [.ref (ad (29 + 15 * x0.toNatClampNeg))]) (by rw [if_pos hx_6, show 16 + 13 + 15 * x0.toNatClampNeg = 29 + 15 * x0.toNatClampNeg from by omega]; rfl) ?_
            refine lv_dup hx hb dX7_mark_69 rfl ?_
            refine va_get (D := (dC, dI)) (ci := 0) (v := .int (v (29 + 15 * x0.toNatClampNeg) 4)) (C := RX0) (T := TX0) (N := 11) hx hb hts iwX7_mark_X0 hown hK hP (29 + 15 * x0.toNatClampNeg) (wl_at (by omega) (ce_9 (kd_c _ hx_6).1.1)) rfl 4 (by decide) (hts (.fieldLink RX7 105 "QuietStairs$Case" "markedBits" "I") fwX7_mark_3) (fun _ h9 => h9) rfl dX7_mark_70 ?_
            refine lv_topi (fun x_12 ex_12 => ?_)
            obtain rfl : x_7 = x_12 := (ex_12.trans ex_7.symm).symm
            refine lv_iconst (v := 1) hx hb dX7_mark_73 (by decide) ?_
            refine lv_iload_n hx hb dX7_mark_74 rfl (lv_at hl 2 rfl) ?_
            refine lv_ishl hx hb dX7_mark_75 ?_
            refine lv_topi (fun x_13 ex_13 => ?_)
            refine lv_ior hx hb dX7_mark_76 ?_
            refine lv_topi (fun x_14 ex_14 => ?_)
            refine va_put (D := (dC, dI)) (ci := 0) (v := .int x_14) (ty := .int) (C := RX0) (T := TX0) (N := 11) hx hb hts iwX7_mark_X0 tyX0 tyX0_ok nmX0 hown hK hP hD hS (29 + 15 * x0.toNatClampNeg) (wl_at (by omega) (ce_9 (kd_c _ hx_6).1.1)) rfl 4 (by decide) (hts (.fieldLink RX7 105 "QuietStairs$Case" "markedBits" "I") fwX7_mark_3) (fun _ h9 => h9) rfl (by decide +kernel) rfl rfl (Nat.le_of_ble_eq_true rfl) dX7_mark_77 (fun H locs hP hD hS => ?_)
            obtain ⟨v_15, ev_15⟩ : ∃ u : Nat → Nat → Int32, u = upr v (29 + 15 * x0.toNatClampNeg) (upd (v (29 + 15 * x0.toNatClampNeg)) 4 x_14) := ⟨_, rfl⟩
            have hP : va_P (dC, dI) vwCl (wl ad kv cy N v_15) H := by rw [ev_15, ← wl_put (e := _) (ce_9 (kd_c _ hx_6).1.1)]; exact hP
            have hD : va_D A (wl ad kv cy N v_15) := by rw [ev_15, ← wl_put (e := _) (ce_9 (kd_c _ hx_6).1.1)]; exact hD
            have hv : Iv v_15 := by rw [ev_15]; exact hv.put (K := 9) (kd_c _ hx_6).1.1 (fun h q => by simp [bd] at q)
            refine lv_aload_n hx hb dX7_mark_80 rfl (lv_at hl 0 rfl) ?_
            refine va_get (D := (dC, dI)) (ci := 7) (v := .ref (ad 13)) (C := RX7) (T := TX7) (N := 5) hx hb hts iwX7_mark_X7 hown hK hP (0) (wl_at (by omega) (ce_0 (by decide))) rfl 0 (by decide) (hts (.fieldLink RX7 12 "QuietStairs" "now" "LQuietStairs$House;") fwX7_mark_1) (fun _ h9 => h9) rfl dX7_mark_81 ?_
            refine va_get (D := (dC, dI)) (ci := 1) (v := .ref (ad 16)) (C := RX1) (T := TX1) (N := 7) hx hb hts iwX7_mark_X1 hown hK hP (13) (wl_at (by omega) (ce_3 (by decide))) rfl 6 (by decide) (hts (.fieldLink RX7 86 "QuietStairs$House" "cases" "[LQuietStairs$Case;") fwX7_mark_2) (fun _ h9 => h9) rfl dX7_mark_84 ?_
            refine lv_iload_n hx hb dX7_mark_87 rfl (lv_at hl 2 rfl) ?_
            have zn_x1 : (x1.toNatClampNeg : Int) = x1.toInt := t_nn (by omega)
            have hx_16 : x1.toNatClampNeg < 6 := by omega
            refine va_aldq hx hb hK hP (16) 3 (wl_at (by omega) (ce_6 (by decide))) rfl (vp_in_iff.mpr ⟨by omega, by omega⟩) dX7_mark_88 ?_
            refine W.eq (g2 := F0 m 89 ls [.ref (ad (29 + 15 * x1.toNatClampNeg))]) (by rw [if_pos hx_16, show 16 + 13 + 15 * x1.toNatClampNeg = 29 + 15 * x1.toNatClampNeg from by omega]; rfl) ?_
            refine lv_dup hx hb dX7_mark_89 rfl ?_
            refine va_get (D := (dC, dI)) (ci := 0) (v := .int (v_15 (29 + 15 * x1.toNatClampNeg) 4)) (C := RX0) (T := TX0) (N := 11) hx hb hts iwX7_mark_X0 hown hK hP (29 + 15 * x1.toNatClampNeg) (wl_at (by omega) (ce_9 (kd_c _ hx_16).1.1)) rfl 4 (by decide) (hts (.fieldLink RX7 105 "QuietStairs$Case" "markedBits" "I") fwX7_mark_3) (fun _ h9 => h9) rfl dX7_mark_90 ?_
            refine lv_topi (fun x_17 ex_17 => ?_)
            rw [ev_15, upr_n (by omega)] at ex_17
            have qx_17 : x_17.toInt = (v (29 + 15 * x1.toNatClampNeg) (4)).toInt := congrArg Int32.toInt ex_17
            refine lv_iconst (v := 1) hx hb dX7_mark_93 (by decide) ?_
            refine lv_iload_n hx hb dX7_mark_94 rfl (lv_at hl 1 rfl) ?_
            refine lv_ishl hx hb dX7_mark_95 ?_
            refine lv_topi (fun x_18 ex_18 => ?_)
            refine lv_ior hx hb dX7_mark_96 ?_
            refine lv_topi (fun x_19 ex_19 => ?_)
            refine va_put (D := (dC, dI)) (ci := 0) (v := .int x_19) (ty := .int) (C := RX0) (T := TX0) (N := 11) hx hb hts iwX7_mark_X0 tyX0 tyX0_ok nmX0 hown hK hP hD hS (29 + 15 * x1.toNatClampNeg) (wl_at (by omega) (ce_9 (kd_c _ hx_16).1.1)) rfl 4 (by decide) (hts (.fieldLink RX7 105 "QuietStairs$Case" "markedBits" "I") fwX7_mark_3) (fun _ h9 => h9) rfl (by decide +kernel) rfl rfl (Nat.le_of_ble_eq_true rfl) dX7_mark_97 (fun H locs hP hD hS => ?_)
            obtain ⟨v_20, ev_20⟩ : ∃ u : Nat → Nat → Int32, u = upr v_15 (29 + 15 * x1.toNatClampNeg) (upd (v_15 (29 + 15 * x1.toNatClampNeg)) 4 x_19) := ⟨_, rfl⟩
            have hP : va_P (dC, dI) vwCl (wl ad kv cy N v_20) H := by rw [ev_20, ← wl_put (e := _) (ce_9 (kd_c _ hx_16).1.1)]; exact hP
            have hD : va_D A (wl ad kv cy N v_20) := by rw [ev_20, ← wl_put (e := _) (ce_9 (kd_c _ hx_16).1.1)]; exact hD
            have hv : Iv v_20 := by rw [ev_20]; exact hv.put (K := 9) (kd_c _ hx_16).1.1 (fun h q => by simp [bd] at q)
            refine lv_aload_n hx hb dX7_mark_100 rfl (lv_at hl 0 rfl) ?_
            refine va_get (D := (dC, dI)) (ci := 7) (v := .ref (ad 13)) (C := RX7) (T := TX7) (N := 5) hx hb hts iwX7_mark_X7 hown hK hP (0) (wl_at (by omega) (ce_0 (by decide))) rfl 0 (by decide) (hts (.fieldLink RX7 12 "QuietStairs" "now" "LQuietStairs$House;") fwX7_mark_1) (fun _ h9 => h9) rfl dX7_mark_101 ?_
            refine lv_dup hx hb dX7_mark_104 rfl ?_
            refine va_get (D := (dC, dI)) (ci := 1) (v := .int (v_20 (13) 3)) (C := RX1) (T := TX1) (N := 7) hx hb hts iwX7_mark_X1 hown hK hP (13) (wl_at (by omega) (ce_3 (by decide))) rfl 3 (by decide) (hts (.fieldLink RX7 108 "QuietStairs$House" "markCount" "I") fwX7_mark_4) (fun _ h9 => h9) rfl dX7_mark_105 ?_
            refine lv_topi (fun x_21 ex_21 => ?_)
            have bzx_21 : 0 ≤ x_21.toInt ∧ x_21.toInt ≤ 6 := by rw [ex_21]; exact hv.at (K := 3) (by decide) rfl
            rw [ev_20, upr_n (by omega), ev_15, upr_n (by omega)] at ex_21
            obtain rfl : x_10 = x_21 := (ex_21.trans ex_10.symm).symm
            refine lv_iconst (v := 1) hx hb dX7_mark_108 (by decide) ?_
            refine lv_iadd hx hb dX7_mark_109 ?_
            refine lv_topi (fun x_22 ex_22 => ?_)
            have k_1 : (1 : Int32).toInt = 1 := by decide
            have tx_22 : x_22.toInt = x_10.toInt + (1 : Int32).toInt := by rw [ex_22]; exact t_add ⟨by omega, by omega⟩
            refine va_put (D := (dC, dI)) (ci := 1) (v := .int x_22) (ty := .int) (C := RX1) (T := TX1) (N := 7) hx hb hts iwX7_mark_X1 tyX1 tyX1_ok nmX1 hown hK hP hD hS (13) (wl_at (by omega) (ce_3 (by decide))) rfl 3 (by decide) (hts (.fieldLink RX7 108 "QuietStairs$House" "markCount" "I") fwX7_mark_4) (fun _ h9 => h9) rfl (by decide +kernel) rfl rfl (Nat.le_of_ble_eq_true rfl) dX7_mark_110 (fun H locs hP hD hS => ?_)
            obtain ⟨v_23, ev_23⟩ : ∃ u : Nat → Nat → Int32, u = upr v_20 (13) (upd (v_20 (13)) 3 x_22) := ⟨_, rfl⟩
            have hP : va_P (dC, dI) vwCl (wl ad kv cy N v_23) H := by rw [ev_23, ← wl_put (e := _) (ce_3 (by decide))]; exact hP
            have hD : va_D A (wl ad kv cy N v_23) := by rw [ev_23, ← wl_put (e := _) (ce_3 (by decide))]; exact hD
            have hv : Iv v_23 := by rw [ev_23]; exact hv.put (K := 3) (by decide) (fun h q => by cases q; exact ⟨by omega, by omega⟩)
            refine lv_aload_n hx hb dX7_mark_113 rfl (lv_at hl 0 rfl) ?_
            refine va_get (D := (dC, dI)) (ci := 7) (v := .ref (ad 13)) (C := RX7) (T := TX7) (N := 5) hx hb hts iwX7_mark_X7 hown hK hP (0) (wl_at (by omega) (ce_0 (by decide))) rfl 0 (by decide) (hts (.fieldLink RX7 12 "QuietStairs" "now" "LQuietStairs$House;") fwX7_mark_1) (fun _ h9 => h9) rfl dX7_mark_114 ?_
            refine va_get (D := (dC, dI)) (ci := 1) (v := .int (v_23 (13) 3)) (C := RX1) (T := TX1) (N := 7) hx hb hts iwX7_mark_X1 hown hK hP (13) (wl_at (by omega) (ce_3 (by decide))) rfl 3 (by decide) (hts (.fieldLink RX7 108 "QuietStairs$House" "markCount" "I") fwX7_mark_4) (fun _ h9 => h9) rfl dX7_mark_117 ?_
            refine lv_topi (fun x_24 ex_24 => ?_)
            have bzx_24 : 0 ≤ x_24.toInt ∧ x_24.toInt ≤ 6 := by rw [ex_24]; exact hv.at (K := 3) (by decide) rfl
            rw [ev_23, upr_s, pk_us] at ex_24
            obtain rfl : x_22 = x_24 := ex_24.symm
            have hpost : (¬ ((0 ≤ x0.toInt ∧ x0.toInt < (v 13 2).toInt) ∧ (0 ≤ x1.toInt ∧ x1.toInt < (v 13 2).toInt) ∧ x0.toInt ≠ x1.toInt) → x_22 = -1 ∧ v_23 = v) ∧ (((0 ≤ x0.toInt ∧ x0.toInt < (v 13 2).toInt) ∧ (0 ≤ x1.toInt ∧ x1.toInt < (v 13 2).toInt) ∧ x0.toInt ≠ x1.toInt) ∧ (btx (v (29 + 15 * x0.toNatClampNeg) 4) x1).toInt = 1 → x_22 = -3 ∧ v_23 = v) ∧ (((0 ≤ x0.toInt ∧ x0.toInt < (v 13 2).toInt) ∧ (0 ≤ x1.toInt ∧ x1.toInt < (v 13 2).toInt) ∧ x0.toInt ≠ x1.toInt) ∧ (btx (v (29 + 15 * x0.toNatClampNeg) 4) x1).toInt ≠ 1 ∧ 6 ≤ (v 13 3).toInt → x_22 = -2 ∧ v_23 = v) ∧ (((0 ≤ x0.toInt ∧ x0.toInt < (v 13 2).toInt) ∧ (0 ≤ x1.toInt ∧ x1.toInt < (v 13 2).toInt) ∧ x0.toInt ≠ x1.toInt) ∧ (btx (v (29 + 15 * x0.toNatClampNeg) 4) x1).toInt ≠ 1 ∧ (v 13 3).toInt < 6 → x_22 = v 13 3 + 1 ∧ (∀ k j : Nat, v_23 k j = if k = 13 ∧ j = 3 then v 13 3 + 1 else if k = 29 + 15 * x1.toNatClampNeg ∧ j = 4 then v (29 + 15 * x1.toNatClampNeg) 4 ||| (1 <<< (x0 &&& 31)) else if k = 29 + 15 * x0.toNatClampNeg ∧ j = 4 then v (29 + 15 * x0.toNatClampNeg) 4 ||| (1 <<< (x1 &&& 31)) else v k j)) := by
              refine ⟨fun hq => ?_, fun hq => ?_, fun hq => ?_, fun hq => ?_⟩
              · exfalso; omega
              · exfalso; omega
              · exfalso; omega
              · exact ⟨by rw [ex_22, ex_10], fun k j => by rw [ev_23, up2, ev_20, up2, ev_15, up2, ex_22, ex_10, ex_19, ex_17, ex_18, ex_14, ex_7, ex_13]⟩
            exact W.iret (v := x_22) hx hb hr (fun t ht hW => ⟨⟨x_22, v_23, rfl, ⟨hv, hpost⟩, by rw [ht]; exact hP, hD⟩, hS.F ht⟩) hS.2.2 dX7_mark_120
          · have tc_11 : x_10.toInt ≥ (6 : Int32).toInt := Int32.le_iff_toInt_le.mp (Int32.not_lt.mp c_11)
            refine lv_bipush (v := (-2)) hx hb dX7_mark_57 (by decide) ?_
            have hpost : (¬ ((0 ≤ x0.toInt ∧ x0.toInt < (v 13 2).toInt) ∧ (0 ≤ x1.toInt ∧ x1.toInt < (v 13 2).toInt) ∧ x0.toInt ≠ x1.toInt) → ((-2) : Int32) = -1 ∧ v = v) ∧ (((0 ≤ x0.toInt ∧ x0.toInt < (v 13 2).toInt) ∧ (0 ≤ x1.toInt ∧ x1.toInt < (v 13 2).toInt) ∧ x0.toInt ≠ x1.toInt) ∧ (btx (v (29 + 15 * x0.toNatClampNeg) 4) x1).toInt = 1 → ((-2) : Int32) = -3 ∧ v = v) ∧ (((0 ≤ x0.toInt ∧ x0.toInt < (v 13 2).toInt) ∧ (0 ≤ x1.toInt ∧ x1.toInt < (v 13 2).toInt) ∧ x0.toInt ≠ x1.toInt) ∧ (btx (v (29 + 15 * x0.toNatClampNeg) 4) x1).toInt ≠ 1 ∧ 6 ≤ (v 13 3).toInt → ((-2) : Int32) = -2 ∧ v = v) ∧ (((0 ≤ x0.toInt ∧ x0.toInt < (v 13 2).toInt) ∧ (0 ≤ x1.toInt ∧ x1.toInt < (v 13 2).toInt) ∧ x0.toInt ≠ x1.toInt) ∧ (btx (v (29 + 15 * x0.toNatClampNeg) 4) x1).toInt ≠ 1 ∧ (v 13 3).toInt < 6 → ((-2) : Int32) = v 13 3 + 1 ∧ (∀ k j : Nat, v k j = if k = 13 ∧ j = 3 then v 13 3 + 1 else if k = 29 + 15 * x1.toNatClampNeg ∧ j = 4 then v (29 + 15 * x1.toNatClampNeg) 4 ||| (1 <<< (x0 &&& 31)) else if k = 29 + 15 * x0.toNatClampNeg ∧ j = 4 then v (29 + 15 * x0.toNatClampNeg) 4 ||| (1 <<< (x1 &&& 31)) else v k j)) := by
              refine ⟨fun hq => ?_, fun hq => ?_, fun hq => ?_, fun hq => ?_⟩
              · exfalso; omega
              · exfalso; omega
              · exact ⟨rfl, rfl⟩
              · exfalso; omega
            exact W.iret (v := (-2)) hx hb hr (fun t ht hW => ⟨⟨(-2), v, rfl, ⟨hv, hpost⟩, by rw [ht]; exact hP, hD⟩, hS.F ht⟩) hS.2.2 dX7_mark_59
      · have tc_5 : x0.toInt = x1.toInt := by rw [c_5]
        refine lv_iconst (v := (-1)) hx hb dX7_mark_21 (by decide) ?_
        have hpost : (¬ ((0 ≤ x0.toInt ∧ x0.toInt < (v 13 2).toInt) ∧ (0 ≤ x1.toInt ∧ x1.toInt < (v 13 2).toInt) ∧ x0.toInt ≠ x1.toInt) → ((-1) : Int32) = -1 ∧ v = v) ∧ (((0 ≤ x0.toInt ∧ x0.toInt < (v 13 2).toInt) ∧ (0 ≤ x1.toInt ∧ x1.toInt < (v 13 2).toInt) ∧ x0.toInt ≠ x1.toInt) ∧ (btx (v (29 + 15 * x0.toNatClampNeg) 4) x1).toInt = 1 → ((-1) : Int32) = -3 ∧ v = v) ∧ (((0 ≤ x0.toInt ∧ x0.toInt < (v 13 2).toInt) ∧ (0 ≤ x1.toInt ∧ x1.toInt < (v 13 2).toInt) ∧ x0.toInt ≠ x1.toInt) ∧ (btx (v (29 + 15 * x0.toNatClampNeg) 4) x1).toInt ≠ 1 ∧ 6 ≤ (v 13 3).toInt → ((-1) : Int32) = -2 ∧ v = v) ∧ (((0 ≤ x0.toInt ∧ x0.toInt < (v 13 2).toInt) ∧ (0 ≤ x1.toInt ∧ x1.toInt < (v 13 2).toInt) ∧ x0.toInt ≠ x1.toInt) ∧ (btx (v (29 + 15 * x0.toNatClampNeg) 4) x1).toInt ≠ 1 ∧ (v 13 3).toInt < 6 → ((-1) : Int32) = v 13 3 + 1 ∧ (∀ k j : Nat, v k j = if k = 13 ∧ j = 3 then v 13 3 + 1 else if k = 29 + 15 * x1.toNatClampNeg ∧ j = 4 then v (29 + 15 * x1.toNatClampNeg) 4 ||| (1 <<< (x0 &&& 31)) else if k = 29 + 15 * x0.toNatClampNeg ∧ j = 4 then v (29 + 15 * x0.toNatClampNeg) 4 ||| (1 <<< (x1 &&& 31)) else v k j)) := by
          refine ⟨fun hq => ?_, fun hq => ?_, fun hq => ?_, fun hq => ?_⟩
          · exact ⟨rfl, rfl⟩
          · exfalso; omega
          · exfalso; omega
          · exfalso; omega
        exact W.iret (v := (-1)) hx hb hr (fun t ht hW => ⟨⟨(-1), v, rfl, ⟨hv, hpost⟩, by rw [ht]; exact hP, hD⟩, hS.F ht⟩) hS.2.2 dX7_mark_22
    · refine lv_if_eq (tgt := 21) hx hb dX7_mark_13 (by decide) (fun _ => ?_) (fun c9 => absurd c9 (by decide))
      refine lv_iconst (v := (-1)) hx hb dX7_mark_21 (by decide) ?_
      have hpost : (¬ ((0 ≤ x0.toInt ∧ x0.toInt < (v 13 2).toInt) ∧ (0 ≤ x1.toInt ∧ x1.toInt < (v 13 2).toInt) ∧ x0.toInt ≠ x1.toInt) → ((-1) : Int32) = -1 ∧ v = v) ∧ (((0 ≤ x0.toInt ∧ x0.toInt < (v 13 2).toInt) ∧ (0 ≤ x1.toInt ∧ x1.toInt < (v 13 2).toInt) ∧ x0.toInt ≠ x1.toInt) ∧ (btx (v (29 + 15 * x0.toNatClampNeg) 4) x1).toInt = 1 → ((-1) : Int32) = -3 ∧ v = v) ∧ (((0 ≤ x0.toInt ∧ x0.toInt < (v 13 2).toInt) ∧ (0 ≤ x1.toInt ∧ x1.toInt < (v 13 2).toInt) ∧ x0.toInt ≠ x1.toInt) ∧ (btx (v (29 + 15 * x0.toNatClampNeg) 4) x1).toInt ≠ 1 ∧ 6 ≤ (v 13 3).toInt → ((-1) : Int32) = -2 ∧ v = v) ∧ (((0 ≤ x0.toInt ∧ x0.toInt < (v 13 2).toInt) ∧ (0 ≤ x1.toInt ∧ x1.toInt < (v 13 2).toInt) ∧ x0.toInt ≠ x1.toInt) ∧ (btx (v (29 + 15 * x0.toNatClampNeg) 4) x1).toInt ≠ 1 ∧ (v 13 3).toInt < 6 → ((-1) : Int32) = v 13 3 + 1 ∧ (∀ k j : Nat, v k j = if k = 13 ∧ j = 3 then v 13 3 + 1 else if k = 29 + 15 * x1.toNatClampNeg ∧ j = 4 then v (29 + 15 * x1.toNatClampNeg) 4 ||| (1 <<< (x0 &&& 31)) else if k = 29 + 15 * x0.toNatClampNeg ∧ j = 4 then v (29 + 15 * x0.toNatClampNeg) 4 ||| (1 <<< (x1 &&& 31)) else v k j)) := by
        refine ⟨fun hq => ?_, fun hq => ?_, fun hq => ?_, fun hq => ?_⟩
        · exact ⟨rfl, rfl⟩
        · exfalso; omega
        · exfalso; omega
        · exfalso; omega
      exact W.iret (v := (-1)) hx hb hr (fun t ht hW => ⟨⟨(-1), v, rfl, ⟨hv, hpost⟩, by rw [ht]; exact hP, hD⟩, hS.F ht⟩) hS.2.2 dX7_mark_22
  · refine lv_if_eq (tgt := 21) hx hb dX7_mark_5 (by decide) (fun _ => ?_) (fun c9 => absurd c9 (by decide))
    refine lv_iconst (v := (-1)) hx hb dX7_mark_21 (by decide) ?_
    have hpost : (¬ ((0 ≤ x0.toInt ∧ x0.toInt < (v 13 2).toInt) ∧ (0 ≤ x1.toInt ∧ x1.toInt < (v 13 2).toInt) ∧ x0.toInt ≠ x1.toInt) → ((-1) : Int32) = -1 ∧ v = v) ∧ (((0 ≤ x0.toInt ∧ x0.toInt < (v 13 2).toInt) ∧ (0 ≤ x1.toInt ∧ x1.toInt < (v 13 2).toInt) ∧ x0.toInt ≠ x1.toInt) ∧ (btx (v (29 + 15 * x0.toNatClampNeg) 4) x1).toInt = 1 → ((-1) : Int32) = -3 ∧ v = v) ∧ (((0 ≤ x0.toInt ∧ x0.toInt < (v 13 2).toInt) ∧ (0 ≤ x1.toInt ∧ x1.toInt < (v 13 2).toInt) ∧ x0.toInt ≠ x1.toInt) ∧ (btx (v (29 + 15 * x0.toNatClampNeg) 4) x1).toInt ≠ 1 ∧ 6 ≤ (v 13 3).toInt → ((-1) : Int32) = -2 ∧ v = v) ∧ (((0 ≤ x0.toInt ∧ x0.toInt < (v 13 2).toInt) ∧ (0 ≤ x1.toInt ∧ x1.toInt < (v 13 2).toInt) ∧ x0.toInt ≠ x1.toInt) ∧ (btx (v (29 + 15 * x0.toNatClampNeg) 4) x1).toInt ≠ 1 ∧ (v 13 3).toInt < 6 → ((-1) : Int32) = v 13 3 + 1 ∧ (∀ k j : Nat, v k j = if k = 13 ∧ j = 3 then v 13 3 + 1 else if k = 29 + 15 * x1.toNatClampNeg ∧ j = 4 then v (29 + 15 * x1.toNatClampNeg) 4 ||| (1 <<< (x0 &&& 31)) else if k = 29 + 15 * x0.toNatClampNeg ∧ j = 4 then v (29 + 15 * x0.toNatClampNeg) 4 ||| (1 <<< (x1 &&& 31)) else v k j)) := by
      refine ⟨fun hq => ?_, fun hq => ?_, fun hq => ?_, fun hq => ?_⟩
      · exact ⟨rfl, rfl⟩
      · exfalso; omega
      · exfalso; omega
      · exfalso; omega
    exact W.iret (v := (-1)) hx hb hr (fun t ht hW => ⟨⟨(-1), v, rfl, ⟨hv, hpost⟩, by rw [ht]; exact hP, hD⟩, hS.F ht⟩) hS.2.2 dX7_mark_22
