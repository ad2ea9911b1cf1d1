set_option maxRecDepth 20000 in
theorem db_X7_close_0 : (decode cX7_close 0 = .ok (.aload_n 0, 1)) ∧ (decode cX7_close 1 = .ok (.iload_n 1, 1)) ∧ (decode cX7_close 2 = .ok (.invokevirtual 96, 3)) ∧ (decode cX7_close 5 = .ok (.ifCond .ne 5, 3)) ∧ (decode cX7_close 10 = .ok (.aload_n 0, 1)) ∧ (decode cX7_close 11 = .ok (.getfield 12, 3)) ∧ (decode cX7_close 14 = .ok (.getfield 86, 3)) ∧ (decode cX7_close 17 = .ok (.iload_n 1, 1)) := by decide +kernel
theorem dX7_close_0 : decode cX7_close 0 = .ok (.aload_n 0, 1) := db_X7_close_0.1
theorem dX7_close_1 : decode cX7_close 1 = .ok (.iload_n 1, 1) := db_X7_close_0.2.1
set_option maxRecDepth 20000 in
theorem ggX7_close_X7_isCase : GoodIn wsX7_close wsX7_isCase := goodIn_r _ [8, 1, 9, 10, 11, 7, 12, 13, 14, 15, 16, 17, 18, 19, 20, 21, 22, 23, 24] rfl (by decide +kernel)
set_option maxRecDepth 20000 in
theorem gX7_close_X7_isCase : GoodIn wsX7_close (wsV RX7 96 RX7 yX7_isCase wsX7_isCase) := goodIn_app (goodIn_r _ [4, 5, 6, 7] rfl (by decide +kernel)) ggX7_close_X7_isCase
theorem dX7_close_2 : decode cX7_close 2 = .ok (.invokevirtual 96, 3) := db_X7_close_0.2.2.1
theorem dX7_close_5 : decode cX7_close 5 = .ok (.ifCond .ne 5, 3) := db_X7_close_0.2.2.2.1
theorem dX7_close_10 : decode cX7_close 10 = .ok (.aload_n 0, 1) := db_X7_close_0.2.2.2.2.1
theorem dX7_close_11 : decode cX7_close 11 = .ok (.getfield 12, 3) := db_X7_close_0.2.2.2.2.2.1
theorem dX7_close_14 : decode cX7_close 14 = .ok (.getfield 86, 3) := db_X7_close_0.2.2.2.2.2.2.1
theorem dX7_close_17 : decode cX7_close 17 = .ok (.iload_n 1, 1) := db_X7_close_0.2.2.2.2.2.2.2
set_option maxRecDepth 20000 in
theorem db_X7_close_18 : (decode cX7_close 18 = .ok (.aaload, 1)) ∧ (decode cX7_close 19 = .ok (.getfield 99, 3)) ∧ (decode cX7_close 22 = .ok (.ifCond .eq 6, 3)) ∧ (decode cX7_close 28 = .ok (.aload_n 0, 1)) ∧ (decode cX7_close 29 = .ok (.getfield 12, 3)) ∧ (decode cX7_close 32 = .ok (.getfield 86, 3)) ∧ (decode cX7_close 35 = .ok (.iload_n 1, 1)) ∧ (decode cX7_close 36 = .ok (.aaload, 1)) := by decide +kernel
theorem dX7_close_18 : decode cX7_close 18 = .ok (.aaload, 1) := db_X7_close_18.1
theorem dX7_close_19 : decode cX7_close 19 = .ok (.getfield 99, 3) := db_X7_close_18.2.1
theorem dX7_close_22 : decode cX7_close 22 = .ok (.ifCond .eq 6, 3) := db_X7_close_18.2.2.1
theorem dX7_close_28 : decode cX7_close 28 = .ok (.aload_n 0, 1) := db_X7_close_18.2.2.2.1
theorem dX7_close_29 : decode cX7_close 29 = .ok (.getfield 12, 3) := db_X7_close_18.2.2.2.2.1
theorem dX7_close_32 : decode cX7_close 32 = .ok (.getfield 86, 3) := db_X7_close_18.2.2.2.2.2.1
theorem dX7_close_35 : decode cX7_close 35 = .ok (.iload_n 1, 1) := db_X7_close_18.2.2.2.2.2.2.1
theorem dX7_close_36 : decode cX7_close 36 = .ok (.aaload, 1) := db_X7_close_18.2.2.2.2.2.2.2
set_option maxRecDepth 20000 in
theorem db_X7_close_37 : (decode cX7_close 37 = .ok (.iconst 2, 1)) ∧ (decode cX7_close 38 = .ok (.putfield 99, 3)) ∧ (decode cX7_close 41 = .ok (.iconst 1, 1)) ∧ (decode cX7_close 42 = .ok (.ireturn, 1)) ∧ (decode cX7_close 25 = .ok (.bipush (-4), 2)) ∧ (decode cX7_close 27 = .ok (.ireturn, 1)) ∧ (decode cX7_close 8 = .ok (.iconst (-1), 1)) ∧ (decode cX7_close 9 = .ok (.ireturn, 1)) := by decide +kernel
theorem dX7_close_37 : decode cX7_close 37 = .ok (.iconst 2, 1) := db_X7_close_37.1
theorem dX7_close_38 : decode cX7_close 38 = .ok (.putfield 99, 3) := db_X7_close_37.2.1
theorem dX7_close_41 : decode cX7_close 41 = .ok (.iconst 1, 1) := db_X7_close_37.2.2.1
theorem dX7_close_42 : decode cX7_close 42 = .ok (.ireturn, 1) := db_X7_close_37.2.2.2.1
theorem dX7_close_25 : decode cX7_close 25 = .ok (.bipush (-4), 2) := db_X7_close_37.2.2.2.2.1
theorem dX7_close_27 : decode cX7_close 27 = .ok (.ireturn, 1) := db_X7_close_37.2.2.2.2.2.1
theorem dX7_close_8 : decode cX7_close 8 = .ok (.iconst (-1), 1) := db_X7_close_37.2.2.2.2.2.2.1
theorem dX7_close_9 : decode cX7_close 9 = .ok (.ireturn, 1) := db_X7_close_37.2.2.2.2.2.2.2
set_option maxRecDepth 20000 in
theorem db_X7_weight_0 : (decode cX7_weight 0 = .ok (.aload_n 0, 1)) ∧ (decode cX7_weight 1 = .ok (.iload_n 1, 1)) ∧ (decode cX7_weight 2 = .ok (.invokevirtual 96, 3)) ∧ (decode cX7_weight 5 = .ok (.ifCond .eq 13, 3)) ∧ (decode cX7_weight 8 = .ok (.iload_n 2, 1)) ∧ (decode cX7_weight 9 = .ok (.iconst 1, 1)) ∧ (decode cX7_weight 10 = .ok (.bipush 9, 2)) ∧ (decode cX7_weight 12 = .ok (.invokestatic 37, 3)) := by decide +kernel
theorem dX7_weight_0 : decode cX7_weight 0 = .ok (.aload_n 0, 1) := db_X7_weight_0.1
theorem dX7_weight_1 : decode cX7_weight 1 = .ok (.iload_n 1, 1) := db_X7_weight_0.2.1
set_option maxRecDepth 20000 in
theorem ggX7_weight_X7_isCase : GoodIn wsX7_weight wsX7_isCase := goodIn_r _ [8, 1, 9, 10, 11, 7, 12, 13, 14, 15, 16, 17, 18, 19, 20, 21, 22, 23, 24] rfl (by decide +kernel)
set_option maxRecDepth 20000 in
theorem gX7_weight_X7_isCase : GoodIn wsX7_weight (wsV RX7 96 RX7 yX7_isCase wsX7_isCase) := goodIn_app (goodIn_r _ [4, 5, 6, 7] rfl (by decide +kernel)) ggX7_weight_X7_isCase
theorem dX7_weight_2 : decode cX7_weight 2 = .ok (.invokevirtual 96, 3) := db_X7_weight_0.2.2.1
theorem dX7_weight_5 : decode cX7_weight 5 = .ok (.ifCond .eq 13, 3) := db_X7_weight_0.2.2.2.1
theorem dX7_weight_8 : decode cX7_weight 8 = .ok (.iload_n 2, 1) := db_X7_weight_0.2.2.2.2.1
theorem dX7_weight_9 : decode cX7_weight 9 = .ok (.iconst 1, 1) := db_X7_weight_0.2.2.2.2.2.1
theorem dX7_weight_10 : decode cX7_weight 10 = .ok (.bipush 9, 2) := db_X7_weight_0.2.2.2.2.2.2.1
set_option maxRecDepth 20000 in
theorem ggX7_weight_X7_isWithin : GoodIn wsX7_weight wsX7_isWithin := goodIn_r _ [12] rfl (by decide +kernel)
set_option maxRecDepth 20000 in
theorem gX7_weight_X7_isWithin : GoodIn wsX7_weight (va_wsS RX7 37 yX7_isWithin wsX7_isWithin) := goodIn_app (goodIn_r _ [10, 11, 7] rfl (by decide +kernel)) ggX7_weight_X7_isWithin
theorem dX7_weight_12 : decode cX7_weight 12 = .ok (.invokestatic 37, 3) := db_X7_weight_0.2.2.2.2.2.2.2
set_option maxRecDepth 20000 in
theorem db_X7_weight_15 : (decode cX7_weight 15 = .ok (.ifCond .ne 5, 3)) ∧ (decode cX7_weight 20 = .ok (.aload_n 0, 1)) ∧ (decode cX7_weight 21 = .ok (.getfield 12, 3)) ∧ (decode cX7_weight 24 = .ok (.getfield 86, 3)) ∧ (decode cX7_weight 27 = .ok (.iload_n 1, 1)) ∧ (decode cX7_weight 28 = .ok (.aaload, 1)) ∧ (decode cX7_weight 29 = .ok (.getfield 102, 3)) ∧ (decode cX7_weight 32 = .ok (.istore_n 3, 1)) := by decide +kernel
theorem dX7_weight_15 : decode cX7_weight 15 = .ok (.ifCond .ne 5, 3) := db_X7_weight_15.1
theorem dX7_weight_20 : decode cX7_weight 20 = .ok (.aload_n 0, 1) := db_X7_weight_15.2.1
theorem dX7_weight_21 : decode cX7_weight 21 = .ok (.getfield 12, 3) := db_X7_weight_15.2.2.1
theorem dX7_weight_24 : decode cX7_weight 24 = .ok (.getfield 86, 3) := db_X7_weight_15.2.2.2.1
theorem dX7_weight_27 : decode cX7_weight 27 = .ok (.iload_n 1, 1) := db_X7_weight_15.2.2.2.2.1
theorem dX7_weight_28 : decode cX7_weight 28 = .ok (.aaload, 1) := db_X7_weight_15.2.2.2.2.2.1
theorem dX7_weight_29 : decode cX7_weight 29 = .ok (.getfield 102, 3) := db_X7_weight_15.2.2.2.2.2.2.1
theorem dX7_weight_32 : decode cX7_weight 32 = .ok (.istore_n 3, 1) := db_X7_weight_15.2.2.2.2.2.2.2
set_option maxRecDepth 20000 in
theorem db_X7_weight_33 : (decode cX7_weight 33 = .ok (.aload_n 0, 1)) ∧ (decode cX7_weight 34 = .ok (.getfield 12, 3)) ∧ (decode cX7_weight 37 = .ok (.getfield 86, 3)) ∧ (decode cX7_weight 40 = .ok (.iload_n 1, 1)) ∧ (decode cX7_weight 41 = .ok (.aaload, 1)) ∧ (decode cX7_weight 42 = .ok (.iload_n 2, 1)) ∧ (decode cX7_weight 43 = .ok (.putfield 102, 3)) ∧ (decode cX7_weight 46 = .ok (.iload_n 3, 1)) := by decide +kernel
theorem dX7_weight_33 : decode cX7_weight 33 = .ok (.aload_n 0, 1) := db_X7_weight_33.1
theorem dX7_weight_34 : decode cX7_weight 34 = .ok (.getfield 12, 3) := db_X7_weight_33.2.1
theorem dX7_weight_37 : decode cX7_weight 37 = .ok (.getfield 86, 3) := db_X7_weight_33.2.2.1
theorem dX7_weight_40 : decode cX7_weight 40 = .ok (.iload_n 1, 1) := db_X7_weight_33.2.2.2.1
theorem dX7_weight_41 : decode cX7_weight 41 = .ok (.aaload, 1) := db_X7_weight_33.2.2.2.2.1
theorem dX7_weight_42 : decode cX7_weight 42 = .ok (.iload_n 2, 1) := db_X7_weight_33.2.2.2.2.2.1
theorem dX7_weight_43 : decode cX7_weight 43 = .ok (.putfield 102, 3) := db_X7_weight_33.2.2.2.2.2.2.1
theorem dX7_weight_46 : decode cX7_weight 46 = .ok (.iload_n 3, 1) := db_X7_weight_33.2.2.2.2.2.2.2
set_option maxRecDepth 20000 in
theorem db_X7_weight_47 : (decode cX7_weight 47 = .ok (.ireturn, 1)) ∧ (decode cX7_weight 18 = .ok (.iconst (-1), 1)) ∧ (decode cX7_weight 19 = .ok (.ireturn, 1)) := by decide +kernel
theorem dX7_weight_47 : decode cX7_weight 47 = .ok (.ireturn, 1) := db_X7_weight_47.1
theorem dX7_weight_18 : decode cX7_weight 18 = .ok (.iconst (-1), 1) := db_X7_weight_47.2.1
theorem dX7_weight_19 : decode cX7_weight 19 = .ok (.ireturn, 1) := db_X7_weight_47.2.2
set_option maxRecDepth 20000 in
theorem db_X7_put_0 : (decode cX7_put 0 = .ok (.aload_n 0, 1)) ∧ (decode cX7_put 1 = .ok (.iload_n 1, 1)) ∧ (decode cX7_put 2 = .ok (.invokevirtual 96, 3)) ∧ (decode cX7_put 5 = .ok (.ifCond .eq 10, 3)) ∧ (decode cX7_put 8 = .ok (.iload_n 2, 1)) ∧ (decode cX7_put 9 = .ok (.invokestatic 132, 3)) ∧ (decode cX7_put 12 = .ok (.ifCond .ne 5, 3)) ∧ (decode cX7_put 17 = .ok (.aload_n 0, 1)) := by decide +kernel
theorem dX7_put_0 : decode cX7_put 0 = .ok (.aload_n 0, 1) := db_X7_put_0.1
theorem dX7_put_1 : decode cX7_put 1 = .ok (.iload_n 1, 1) := db_X7_put_0.2.1
set_option maxRecDepth 20000 in
theorem ggX7_put_X7_isCase : GoodIn wsX7_put wsX7_isCase := goodIn_r _ [8, 1, 9, 10, 11, 7, 12, 16, 17, 18, 19, 20, 21, 22, 23, 24, 25, 26, 27] rfl (by decide +kernel)
set_option maxRecDepth 20000 in
theorem gX7_put_X7_isCase : GoodIn wsX7_put (wsV RX7 96 RX7 yX7_isCase wsX7_isCase) := goodIn_app (goodIn_r _ [4, 5, 6, 7] rfl (by decide +kernel)) ggX7_put_X7_isCase
theorem dX7_put_2 : decode cX7_put 2 = .ok (.invokevirtual 96, 3) := db_X7_put_0.2.2.1
theorem dX7_put_5 : decode cX7_put 5 = .ok (.ifCond .eq 10, 3) := db_X7_put_0.2.2.2.1
theorem dX7_put_8 : decode cX7_put 8 = .ok (.iload_n 2, 1) := db_X7_put_0.2.2.2.2.1
set_option maxRecDepth 20000 in
theorem ggX7_put_X7_isSide : GoodIn wsX7_put wsX7_isSide := goodIn_r _ [15, 10, 11, 7, 12] rfl (by decide +kernel)
set_option maxRecDepth 20000 in
theorem gX7_put_X7_isSide : GoodIn wsX7_put (va_wsS RX7 132 yX7_isSide wsX7_isSide) := goodIn_app (goodIn_r _ [13, 14, 7] rfl (by decide +kernel)) ggX7_put_X7_isSide
theorem dX7_put_9 : decode cX7_put 9 = .ok (.invokestatic 132, 3) := db_X7_put_0.2.2.2.2.2.1
theorem dX7_put_12 : decode cX7_put 12 = .ok (.ifCond .ne 5, 3) := db_X7_put_0.2.2.2.2.2.2.1
theorem dX7_put_17 : decode cX7_put 17 = .ok (.aload_n 0, 1) := db_X7_put_0.2.2.2.2.2.2.2
set_option maxRecDepth 20000 in
theorem db_X7_put_18 : (decode cX7_put 18 = .ok (.getfield 12, 3)) ∧ (decode cX7_put 21 = .ok (.getfield 86, 3)) ∧ (decode cX7_put 24 = .ok (.iload_n 1, 1)) ∧ (decode cX7_put 25 = .ok (.aaload, 1)) ∧ (decode cX7_put 26 = .ok (.getfield 135, 3)) ∧ (decode cX7_put 29 = .ok (.iload_n 2, 1)) ∧ (decode cX7_put 30 = .ok (.iaload, 1)) ∧ (decode cX7_put 31 = .ok (.iconst (-1), 1)) := by decide +kernel
theorem dX7_put_18 : decode cX7_put 18 = .ok (.getfield 12, 3) := db_X7_put_18.1
theorem dX7_put_21 : decode cX7_put 21 = .ok (.getfield 86, 3) := db_X7_put_18.2.1
theorem dX7_put_24 : decode cX7_put 24 = .ok (.iload_n 1, 1) := db_X7_put_18.2.2.1
theorem dX7_put_25 : decode cX7_put 25 = .ok (.aaload, 1) := db_X7_put_18.2.2.2.1
theorem dX7_put_26 : decode cX7_put 26 = .ok (.getfield 135, 3) := db_X7_put_18.2.2.2.2.1
theorem dX7_put_29 : decode cX7_put 29 = .ok (.iload_n 2, 1) := db_X7_put_18.2.2.2.2.2.1
theorem dX7_put_30 : decode cX7_put 30 = .ok (.iaload, 1) := db_X7_put_18.2.2.2.2.2.2.1
theorem dX7_put_31 : decode cX7_put 31 = .ok (.iconst (-1), 1) := db_X7_put_18.2.2.2.2.2.2.2
set_option maxRecDepth 20000 in
theorem db_X7_put_32 : (decode cX7_put 32 = .ok (.if_icmp .ne 7, 3)) ∧ (decode cX7_put 39 = .ok (.iconst 1, 1)) ∧ (decode cX7_put 40 = .ok (.ireturn, 1)) ∧ (decode cX7_put 35 = .ok (.iconst 0, 1)) ∧ (decode cX7_put 36 = .ok (.goto 4, 3)) ∧ (decode cX7_put 15 = .ok (.iconst (-1), 1)) ∧ (decode cX7_put 16 = .ok (.ireturn, 1)) := by decide +kernel
theorem dX7_put_32 : decode cX7_put 32 = .ok (.if_icmp .ne 7, 3) := db_X7_put_32.1
theorem dX7_put_39 : decode cX7_put 39 = .ok (.iconst 1, 1) := db_X7_put_32.2.1
theorem dX7_put_40 : decode cX7_put 40 = .ok (.ireturn, 1) := db_X7_put_32.2.2.1
theorem dX7_put_35 : decode cX7_put 35 = .ok (.iconst 0, 1) := db_X7_put_32.2.2.2.1
theorem dX7_put_36 : decode cX7_put 36 = .ok (.goto 4, 3) := db_X7_put_32.2.2.2.2.1
theorem dX7_put_15 : decode cX7_put 15 = .ok (.iconst (-1), 1) := db_X7_put_32.2.2.2.2.2.1
theorem dX7_put_16 : decode cX7_put 16 = .ok (.ireturn, 1) := db_X7_put_32.2.2.2.2.2.2
set_option maxRecDepth 20000 in
theorem db_X7_strike_0 : (decode cX7_strike 0 = .ok (.aload_n 0, 1)) ∧ (decode cX7_strike 1 = .ok (.iload_n 1, 1)) ∧ (decode cX7_strike 2 = .ok (.invokevirtual 96, 3)) ∧ (decode cX7_strike 5 = .ok (.ifCond .ne 5, 3)) ∧ (decode cX7_strike 10 = .ok (.aload_n 0, 1)) ∧ (decode cX7_strike 11 = .ok (.getfield 12, 3)) ∧ (decode cX7_strike 14 = .ok (.getfield 86, 3)) ∧ (decode cX7_strike 17 = .ok (.iload_n 1, 1)) := by decide +kernel
theorem dX7_strike_0 : decode cX7_strike 0 = .ok (.aload_n 0, 1) := db_X7_strike_0.1
theorem dX7_strike_1 : decode cX7_strike 1 = .ok (.iload_n 1, 1) := db_X7_strike_0.2.1
set_option maxRecDepth 20000 in
theorem ggX7_strike_X7_isCase : GoodIn wsX7_strike wsX7_isCase := goodIn_r _ [8, 1, 9, 10, 11, 7, 12, 13, 14, 15, 16, 17, 18, 19, 20, 21, 22, 23, 24] rfl (by decide +kernel)
set_option maxRecDepth 20000 in
theorem gX7_strike_X7_isCase : GoodIn wsX7_strike (wsV RX7 96 RX7 yX7_isCase wsX7_isCase) := goodIn_app (goodIn_r _ [4, 5, 6, 7] rfl (by decide +kernel)) ggX7_strike_X7_isCase
theorem dX7_strike_2 : decode cX7_strike 2 = .ok (.invokevirtual 96, 3) := db_X7_strike_0.2.2.1
theorem dX7_strike_5 : decode cX7_strike 5 = .ok (.ifCond .ne 5, 3) := db_X7_strike_0.2.2.2.1
theorem dX7_strike_10 : decode cX7_strike 10 = .ok (.aload_n 0, 1) := db_X7_strike_0.2.2.2.2.1
theorem dX7_strike_11 : decode cX7_strike 11 = .ok (.getfield 12, 3) := db_X7_strike_0.2.2.2.2.2.1
theorem dX7_strike_14 : decode cX7_strike 14 = .ok (.getfield 86, 3) := db_X7_strike_0.2.2.2.2.2.2.1
theorem dX7_strike_17 : decode cX7_strike 17 = .ok (.iload_n 1, 1) := db_X7_strike_0.2.2.2.2.2.2.2
set_option maxRecDepth 20000 in
theorem db_X7_strike_18 : (decode cX7_strike 18 = .ok (.aaload, 1)) ∧ (decode cX7_strike 19 = .ok (.getfield 169, 3)) ∧ (decode cX7_strike 22 = .ok (.ifCond .ne 6, 3)) ∧ (decode cX7_strike 28 = .ok (.aload_n 0, 1)) ∧ (decode cX7_strike 29 = .ok (.getfield 12, 3)) ∧ (decode cX7_strike 32 = .ok (.getfield 86, 3)) ∧ (decode cX7_strike 35 = .ok (.iload_n 1, 1)) ∧ (decode cX7_strike 36 = .ok (.aaload, 1)) := by decide +kernel
theorem dX7_strike_18 : decode cX7_strike 18 = .ok (.aaload, 1) := db_X7_strike_18.1
theorem dX7_strike_19 : decode cX7_strike 19 = .ok (.getfield 169, 3) := db_X7_strike_18.2.1
theorem dX7_strike_22 : decode cX7_strike 22 = .ok (.ifCond .ne 6, 3) := db_X7_strike_18.2.2.1
theorem dX7_strike_28 : decode cX7_strike 28 = .ok (.aload_n 0, 1) := db_X7_strike_18.2.2.2.1
theorem dX7_strike_29 : decode cX7_strike 29 = .ok (.getfield 12, 3) := db_X7_strike_18.2.2.2.2.1
theorem dX7_strike_32 : decode cX7_strike 32 = .ok (.getfield 86, 3) := db_X7_strike_18.2.2.2.2.2.1
theorem dX7_strike_35 : decode cX7_strike 35 = .ok (.iload_n 1, 1) := db_X7_strike_18.2.2.2.2.2.2.1
theorem dX7_strike_36 : decode cX7_strike 36 = .ok (.aaload, 1) := db_X7_strike_18.2.2.2.2.2.2.2
set_option maxRecDepth 20000 in
theorem db_X7_strike_37 : (decode cX7_strike 37 = .ok (.dup, 1)) ∧ (decode cX7_strike 38 = .ok (.getfield 169, 3)) ∧ (decode cX7_strike 41 = .ok (.iconst 1, 1)) ∧ (decode cX7_strike 42 = .ok (.isub, 1)) ∧ (decode cX7_strike 43 = .ok (.putfield 169, 3)) ∧ (decode cX7_strike 46 = .ok (.aload_n 0, 1)) ∧ (decode cX7_strike 47 = .ok (.getfield 12, 3)) ∧ (decode cX7_strike 50 = .ok (.getfield 86, 3)) := by decide +kernel
theorem dX7_strike_37 : decode cX7_strike 37 = .ok (.dup, 1) := db_X7_strike_37.1
theorem dX7_strike_38 : decode cX7_strike 38 = .ok (.getfield 169, 3) := db_X7_strike_37.2.1
theorem dX7_strike_41 : decode cX7_strike 41 = .ok (.iconst 1, 1) := db_X7_strike_37.2.2.1
theorem dX7_strike_42 : decode cX7_strike 42 = .ok (.isub, 1) := db_X7_strike_37.2.2.2.1
theorem dX7_strike_43 : decode cX7_strike 43 = .ok (.putfield 169, 3) := db_X7_strike_37.2.2.2.2.1
theorem dX7_strike_46 : decode cX7_strike 46 = .ok (.aload_n 0, 1) := db_X7_strike_37.2.2.2.2.2.1
theorem dX7_strike_47 : decode cX7_strike 47 = .ok (.getfield 12, 3) := db_X7_strike_37.2.2.2.2.2.2.1
theorem dX7_strike_50 : decode cX7_strike 50 = .ok (.getfield 86, 3) := db_X7_strike_37.2.2.2.2.2.2.2
set_option maxRecDepth 20000 in
theorem db_X7_strike_53 : (decode cX7_strike 53 = .ok (.iload_n 1, 1)) ∧ (decode cX7_strike 54 = .ok (.aaload, 1)) ∧ (decode cX7_strike 55 = .ok (.getfield 169, 3)) ∧ (decode cX7_strike 58 = .ok (.ireturn, 1)) ∧ (decode cX7_strike 25 = .ok (.bipush (-5), 2)) ∧ (decode cX7_strike 27 = .ok (.ireturn, 1)) ∧ (decode cX7_strike 8 = .ok (.iconst (-1), 1)) ∧ (decode cX7_strike 9 = .ok (.ireturn, 1)) := by decide +kernel
theorem dX7_strike_53 : decode cX7_strike 53 = .ok (.iload_n 1, 1) := db_X7_strike_53.1
theorem dX7_strike_54 : decode cX7_strike 54 = .ok (.aaload, 1) := db_X7_strike_53.2.1
theorem dX7_strike_55 : decode cX7_strike 55 = .ok (.getfield 169, 3) := db_X7_strike_53.2.2.1
theorem dX7_strike_58 : decode cX7_strike 58 = .ok (.ireturn, 1) := db_X7_strike_53.2.2.2.1
theorem dX7_strike_25 : decode cX7_strike 25 = .ok (.bipush (-5), 2) := db_X7_strike_53.2.2.2.2.1
theorem dX7_strike_27 : decode cX7_strike 27 = .ok (.ireturn, 1) := db_X7_strike_53.2.2.2.2.2.1
theorem dX7_strike_8 : decode cX7_strike 8 = .ok (.iconst (-1), 1) := db_X7_strike_53.2.2.2.2.2.2.1
theorem dX7_strike_9 : decode cX7_strike 9 = .ok (.ireturn, 1) := db_X7_strike_53.2.2.2.2.2.2.2
set_option maxRecDepth 20000 in
theorem db_X7_log_0 : (decode cX7_log 0 = .ok (.aload_n 0, 1)) ∧ (decode cX7_log 1 = .ok (.iload_n 1, 1)) ∧ (decode cX7_log 2 = .ok (.invokevirtual 96, 3)) ∧ (decode cX7_log 5 = .ok (.ifCond .eq 28, 3)) ∧ (decode cX7_log 8 = .ok (.iload_n 2, 1)) ∧ (decode cX7_log 9 = .ok (.invokestatic 132, 3)) ∧ (decode cX7_log 12 = .ok (.ifCond .eq 21, 3)) ∧ (decode cX7_log 15 = .ok (.iload_n 3, 1)) := by decide +kernel
theorem dX7_log_0 : decode cX7_log 0 = .ok (.aload_n 0, 1) := db_X7_log_0.1
theorem dX7_log_1 : decode cX7_log 1 = .ok (.iload_n 1, 1) := db_X7_log_0.2.1
set_option maxRecDepth 20000 in
theorem ggX7_log_X7_isCase : GoodIn wsX7_log wsX7_isCase := goodIn_r _ [8, 1, 9, 10, 11, 7, 12, 19, 20, 21, 22, 23, 24, 25, 26, 27, 28, 29, 30] rfl (by decide +kernel)
set_option maxRecDepth 20000 in
theorem gX7_log_X7_isCase : GoodIn wsX7_log (wsV RX7 96 RX7 yX7_isCase wsX7_isCase) := goodIn_app (goodIn_r _ [4, 5, 6, 7] rfl (by decide +kernel)) ggX7_log_X7_isCase
theorem dX7_log_2 : decode cX7_log 2 = .ok (.invokevirtual 96, 3) := db_X7_log_0.2.2.1
theorem dX7_log_5 : decode cX7_log 5 = .ok (.ifCond .eq 28, 3) := db_X7_log_0.2.2.2.1
theorem dX7_log_8 : decode cX7_log 8 = .ok (.iload_n 2, 1) := db_X7_log_0.2.2.2.2.1
set_option maxRecDepth 20000 in
theorem ggX7_log_X7_isSide : GoodIn wsX7_log wsX7_isSide := goodIn_r _ [15, 10, 11, 7, 12] rfl (by decide +kernel)
set_option maxRecDepth 20000 in
theorem gX7_log_X7_isSide : GoodIn wsX7_log (va_wsS RX7 132 yX7_isSide wsX7_isSide) := goodIn_app (goodIn_r _ [13, 14, 7] rfl (by decide +kernel)) ggX7_log_X7_isSide
theorem dX7_log_9 : decode cX7_log 9 = .ok (.invokestatic 132, 3) := db_X7_log_0.2.2.2.2.2.1
theorem dX7_log_12 : decode cX7_log 12 = .ok (.ifCond .eq 21, 3) := db_X7_log_0.2.2.2.2.2.2.1
theorem dX7_log_15 : decode cX7_log 15 = .ok (.iload_n 3, 1) := db_X7_log_0.2.2.2.2.2.2.2
set_option maxRecDepth 20000 in
theorem ggX7_log_X7_isHour : GoodIn wsX7_log wsX7_isHour := goodIn_r _ [18, 10, 11, 7, 12] rfl (by decide +kernel)
set_option maxRecDepth 20000 in
theorem gX7_log_X7_isHour : GoodIn wsX7_log (va_wsS RX7 166 yX7_isHour wsX7_isHour) := goodIn_app (goodIn_r _ [16, 17, 7] rfl (by decide +kernel)) ggX7_log_X7_isHour
set_option maxRecDepth 20000 in
theorem db_X7_log_16 : (decode cX7_log 16 = .ok (.invokestatic 166, 3)) ∧ (decode cX7_log 19 = .ok (.ifCond .eq 14, 3)) ∧ (decode cX7_log 22 = .ok (.iload 4, 2)) ∧ (decode cX7_log 24 = .ok (.iconst 0, 1)) ∧ (decode cX7_log 25 = .ok (.bipush 7, 2)) ∧ (decode cX7_log 27 = .ok (.invokestatic 37, 3)) ∧ (decode cX7_log 30 = .ok (.ifCond .ne 5, 3)) ∧ (decode cX7_log 35 = .ok (.aload_n 0, 1)) := by decide +kernel
theorem dX7_log_16 : decode cX7_log 16 = .ok (.invokestatic 166, 3) := db_X7_log_16.1
theorem dX7_log_19 : decode cX7_log 19 = .ok (.ifCond .eq 14, 3) := db_X7_log_16.2.1
theorem dX7_log_22 : decode cX7_log 22 = .ok (.iload 4, 2) := db_X7_log_16.2.2.1
theorem dX7_log_24 : decode cX7_log 24 = .ok (.iconst 0, 1) := db_X7_log_16.2.2.2.1
theorem dX7_log_25 : decode cX7_log 25 = .ok (.bipush 7, 2) := db_X7_log_16.2.2.2.2.1
set_option maxRecDepth 20000 in
theorem ggX7_log_X7_isWithin : GoodIn wsX7_log wsX7_isWithin := goodIn_r _ [12] rfl (by decide +kernel)
set_option maxRecDepth 20000 in
theorem gX7_log_X7_isWithin : GoodIn wsX7_log (va_wsS RX7 37 yX7_isWithin wsX7_isWithin) := goodIn_app (goodIn_r _ [10, 11, 7] rfl (by decide +kernel)) ggX7_log_X7_isWithin
theorem dX7_log_27 : decode cX7_log 27 = .ok (.invokestatic 37, 3) := db_X7_log_16.2.2.2.2.2.1
theorem dX7_log_30 : decode cX7_log 30 = .ok (.ifCond .ne 5, 3) := db_X7_log_16.2.2.2.2.2.2.1
theorem dX7_log_35 : decode cX7_log 35 = .ok (.aload_n 0, 1) := db_X7_log_16.2.2.2.2.2.2.2
set_option maxRecDepth 20000 in
theorem db_X7_log_36 : (decode cX7_log 36 = .ok (.getfield 12, 3)) ∧ (decode cX7_log 39 = .ok (.getfield 86, 3)) ∧ (decode cX7_log 42 = .ok (.iload_n 1, 1)) ∧ (decode cX7_log 43 = .ok (.aaload, 1)) ∧ (decode cX7_log 44 = .ok (.getfield 207, 3)) ∧ (decode cX7_log 47 = .ok (.iload_n 2, 1)) ∧ (decode cX7_log 48 = .ok (.aaload, 1)) ∧ (decode cX7_log 49 = .ok (.astore 5, 2)) := by decide +kernel
theorem dX7_log_36 : decode cX7_log 36 = .ok (.getfield 12, 3) := db_X7_log_36.1
theorem dX7_log_39 : decode cX7_log 39 = .ok (.getfield 86, 3) := db_X7_log_36.2.1
theorem dX7_log_42 : decode cX7_log 42 = .ok (.iload_n 1, 1) := db_X7_log_36.2.2.1
theorem dX7_log_43 : decode cX7_log 43 = .ok (.aaload, 1) := db_X7_log_36.2.2.2.1
theorem dX7_log_44 : decode cX7_log 44 = .ok (.getfield 207, 3) := db_X7_log_36.2.2.2.2.1
theorem dX7_log_47 : decode cX7_log 47 = .ok (.iload_n 2, 1) := db_X7_log_36.2.2.2.2.2.1
theorem dX7_log_48 : decode cX7_log 48 = .ok (.aaload, 1) := db_X7_log_36.2.2.2.2.2.2.1
theorem dX7_log_49 : decode cX7_log 49 = .ok (.astore 5, 2) := db_X7_log_36.2.2.2.2.2.2.2
set_option maxRecDepth 20000 in
theorem db_X7_log_51 : (decode cX7_log 51 = .ok (.aload 5, 2)) ∧ (decode cX7_log 53 = .ok (.iload_n 3, 1)) ∧ (decode cX7_log 54 = .ok (.iaload, 1)) ∧ (decode cX7_log 55 = .ok (.istore 6, 2)) ∧ (decode cX7_log 57 = .ok (.aload 5, 2)) ∧ (decode cX7_log 59 = .ok (.iload_n 3, 1)) ∧ (decode cX7_log 60 = .ok (.iload 4, 2)) ∧ (decode cX7_log 62 = .ok (.iastore, 1)) := by decide +kernel
theorem dX7_log_51 : decode cX7_log 51 = .ok (.aload 5, 2) := db_X7_log_51.1
theorem dX7_log_53 : decode cX7_log 53 = .ok (.iload_n 3, 1) := db_X7_log_51.2.1
theorem dX7_log_54 : decode cX7_log 54 = .ok (.iaload, 1) := db_X7_log_51.2.2.1
theorem dX7_log_55 : decode cX7_log 55 = .ok (.istore 6, 2) := db_X7_log_51.2.2.2.1
theorem dX7_log_57 : decode cX7_log 57 = .ok (.aload 5, 2) := db_X7_log_51.2.2.2.2.1
theorem dX7_log_59 : decode cX7_log 59 = .ok (.iload_n 3, 1) := db_X7_log_51.2.2.2.2.2.1
theorem dX7_log_60 : decode cX7_log 60 = .ok (.iload 4, 2) := db_X7_log_51.2.2.2.2.2.2.1
theorem dX7_log_62 : decode cX7_log 62 = .ok (.iastore, 1) := db_X7_log_51.2.2.2.2.2.2.2
set_option maxRecDepth 20000 in
theorem db_X7_log_63 : (decode cX7_log 63 = .ok (.iload 6, 2)) ∧ (decode cX7_log 65 = .ok (.ireturn, 1)) ∧ (decode cX7_log 33 = .ok (.iconst (-1), 1)) ∧ (decode cX7_log 34 = .ok (.ireturn, 1)) := by decide +kernel
theorem dX7_log_63 : decode cX7_log 63 = .ok (.iload 6, 2) := db_X7_log_63.1
theorem dX7_log_65 : decode cX7_log 65 = .ok (.ireturn, 1) := db_X7_log_63.2.1
theorem dX7_log_33 : decode cX7_log 33 = .ok (.iconst (-1), 1) := db_X7_log_63.2.2.1
theorem dX7_log_34 : decode cX7_log 34 = .ok (.ireturn, 1) := db_X7_log_63.2.2.2
set_option maxHeartbeats 4000000 in
set_option maxRecDepth 100000 in
theorem g_X7_close (l : Launch) (dC : Nat → ClassId) (dI : Nat → Nat → Nat) (cy : Nat → ClassId) (sz : Nat) (ad : Nat → Nat) (kv : Value) (N : Nat) (hN : 119 ≤ N) (v : Nat → Nat → Int32) (hv : Iv v) (x0 : Int32) : Met l yX7_close wsX7_close ({ frames := 3, cells := 0, slots := 0, locals := 192 }) (va_Pc [.ref (ad 0), .int x0] (ex_Pre dC dI cy sz (wl ad kv cy N v))) (va_Qi (fun (r : Int32) (u : Nat → Nat → Int32) => Iv u ∧ Fr v u) (fun u t => ex_Pst dC dI (va_A (wl ad kv cy N v) sz) (wl ad kv cy N u) t) (va_A (wl ad kv cy N v) sz)) 0 0 (va_A (wl ad kv cy N v) sz) := by
  refine Met.ofW (cc := cX7_close) (maxL := 2) (ret := (some .int)) (by decide) rfl ?_
  intro p e s m args below meth c s₁ B hml hv
  obtain ⟨rfl, hsz, hE, hP, hK, hD0⟩ := hv
  have hx := B.exec
  have hb := B.bytes
  have hr := B.returns
  have hts := atoms_spec (ws := wsX7_close) B.pre
  have hown : s.vm.findClass RX7 = some m.cls := findClass_of_methodNamed B.named
  have hlocks := B.notSynchronized
  subst hsz
  have hD := hD0.self (sz := s.heap.size)
  generalize hAe : va_A (wl ad kv cy N v) s.heap.size = A at hD ⊢
  have hA : ∀ q : Nat, s.heap.size ≤ q → A q := fun q h => by rw [← hAe]; exact Or.inr h
  have hS : va_S A s.heap s.heap [] := va_S.rf
  have hP : va_P (dC, dI) vwCl (wl ad kv cy N v) s.heap := hP
  have hl := lv_entry ([.ref (ad 0), .int x0]) (n := 2) (Nat.le_of_ble_eq_true rfl)
  rw [lg_entry_eq]
  generalize (lg_sl ([.ref (ad 0), .int x0]) ++ List.replicate (2 - (lg_sl ([.ref (ad 0), .int x0])).length) Slot.unset).toArray = ls at hl ⊢
  have hl : lv_has ls 2 [(0, .ref (ad 0)), (1, .int x0)] := hl
  have hfr : Fr v v := Fr.rf
  refine lv_aload_n hx hb dX7_close_0 rfl (lv_at hl 0 rfl) ?_
  refine lv_iload_n hx hb dX7_close_1 rfl (lv_at hl 1 rfl) ?_
  refine yw_i (w1 := fun (u : Nat → Nat → Int32) => wl ad kv cy N u) hD hS hA (va_runV (As := [.int x0]) (rest := []) ⟨hx, hb, hml, hown, hts⟩ (g_X7_isCase l dC dI cy _ ad kv N hN v hv x0) (cwV 1 hts gX7_close_X7_isCase rfl rfl rfl hd_V_X7_isCase_1 ⟨Nat.le_of_ble_eq_true rfl, Nat.le_of_ble_eq_true rfl⟩) (yw_preV hE hK hP hD (ci := 7) (q0 := 0) rfl (wl_at (by omega) (ce_0 (by decide)))) rfl rfl hl.1 rfl (lv_room (Nat.le_of_ble_eq_true rfl)) dX7_close_2 ⟨Nat.le_of_ble_eq_true rfl, Nat.le_of_ble_eq_true rfl⟩) (fun r_1 v_1 H locs hw_1 hP hD hS => ?_)
  obtain ⟨hv, hw_1⟩ := hw_1
  obtain ⟨hu_1, hw_1⟩ := hw_1
  have hfr : Fr v v_1 := by rw [hu_1]; exact hfr
  rcases hw_1 with ⟨rfl, ha_2⟩ | ⟨rfl, -⟩
  · have hb_2 := hv.at (k := 13) (j := 2) (K := 3) (by decide) rfl
    have hb_2 : 0 ≤ x0.toInt ∧ x0.toInt < 6 := by omega
    refine lv_if_ne (tgt := 10) hx hb dX7_close_5 (by decide) (fun _ => ?_) (fun c9 => absurd c9 (by decide))
    refine lv_aload_n hx hb dX7_close_10 rfl (lv_at hl 0 rfl) ?_
    refine va_get (D := (dC, dI)) (ci := 7) (v := .ref (ad 13)) (C := RX7) (T := TX7) (N := 5) hx hb hts iwX7_close_X7 hown hK hP (0) (wl_at (by omega) (ce_0 (by decide))) rfl 0 (by decide) (hts (.fieldLink RX7 12 "QuietStairs" "now" "LQuietStairs$House;") fwX7_close_1) (fun _ h9 => h9) rfl dX7_close_11 ?_
    refine va_get (D := (dC, dI)) (ci := 1) (v := .ref (ad 16)) (C := RX1) (T := TX1) (N := 7) hx hb hts iwX7_close_X1 hown hK hP (13) (wl_at (by omega) (ce_3 (by decide))) rfl 6 (by decide) (hts (.fieldLink RX7 86 "QuietStairs$House" "cases" "[LQuietStairs$Case;") fwX7_close_2) (fun _ h9 => h9) rfl dX7_close_14 ?_
    refine lv_iload_n hx hb dX7_close_17 rfl (lv_at hl 1 rfl) ?_
    obtain ⟨pi3, i3, hi3, ni3, mi3⟩ := t_in (x := x0) (n := 6) ⟨by omega, by omega⟩
    refine va_aldq hx hb hK hP (16) 3 (wl_at (by omega) (ce_6 (by decide))) rfl pi3 dX7_close_18 ?_
    refine W.eq (g2 := F0 m 19 ls [.ref (ad (29 + 15 * i3))]) (by rw [ni3, if_pos hi3, show 16 + 13 + 15 * i3 = 29 + 15 * i3 from by omega]; rfl) ?_
    refine va_get (D := (dC, dI)) (ci := 0) (v := .int (v_1 (29 + 15 * i3) 0)) (C := RX0) (T := TX0) (N := 11) hx hb hts iwX7_close_X0 hown hK hP (29 + 15 * i3) (wl_at (by omega) (ce_9 (kd_c i3 hi3).1.1)) rfl 0 (by decide) (hts (.fieldLink RX7 99 "QuietStairs$Case" "state" "I") fwX7_close_3) (fun _ h9 => h9) rfl dX7_close_19 ?_
    refine lv_topi (fun x_4 ex_4 => ?_)
    have k_0 : (0 : Int32).toInt = 0 := by decide
    refine lv_if_eq (tgt := 28) hx hb dX7_close_22 (by decide) (fun c_5 => ?_) (fun c_5 => ?_)
    · have tc_5 : x_4.toInt = (0 : Int32).toInt := by rw [c_5]
      refine lv_aload_n hx hb dX7_close_28 rfl (lv_at hl 0 rfl) ?_
      refine va_get (D := (dC, dI)) (ci := 7) (v := .ref (ad 13)) (C := RX7) (T := TX7) (N := 5) hx hb hts iwX7_close_X7 hown hK hP (0) (wl_at (by omega) (ce_0 (by decide))) rfl 0 (by decide) (hts (.fieldLink RX7 12 "QuietStairs" "now" "LQuietStairs$House;") fwX7_close_1) (fun _ h9 => h9) rfl dX7_close_29 ?_
      refine va_get (D := (dC, dI)) (ci := 1) (v := .ref (ad 16)) (C := RX1) (T := TX1) (N := 7) hx hb hts iwX7_close_X1 hown hK hP (13) (wl_at (by omega) (ce_3 (by decide))) rfl 6 (by decide) (hts (.fieldLink RX7 86 "QuietStairs$House" "cases" "[LQuietStairs$Case;") fwX7_close_2) (fun _ h9 => h9) rfl dX7_close_32 ?_
      refine lv_iload_n hx hb dX7_close_35 rfl (lv_at hl 1 rfl) ?_
      refine va_aldq hx hb hK hP (16) 3 (wl_at (by omega) (ce_6 (by decide))) rfl pi3 dX7_close_36 ?_
      refine W.eq (g2 := F0 m 37 ls [.ref (ad (29 + 15 * i3))]) (by rw [ni3, if_pos hi3, show 16 + 13 + 15 * i3 = 29 + 15 * i3 from by omega]; rfl) ?_
      refine lv_iconst (v := 2) hx hb dX7_close_37 (by decide) ?_
      refine va_put (D := (dC, dI)) (ci := 0) (v := .int 2) (ty := .int) (C := RX0) (T := TX0) (N := 11) hx hb hts iwX7_close_X0 tyX0 tyX0_ok nmX0 hown hK hP hD hS (29 + 15 * i3) (wl_at (by omega) (ce_9 (kd_c i3 hi3).1.1)) rfl 0 (by decide) (hts (.fieldLink RX7 99 "QuietStairs$Case" "state" "I") fwX7_close_3) (fun _ h9 => h9) rfl (by decide +kernel) rfl rfl (Nat.le_of_ble_eq_true rfl) dX7_close_38 (fun H locs hP hD hS => ?_)
      have k_2 : (2 : Int32).toInt = 2 := by decide
      obtain ⟨v_6, ev_6⟩ : ∃ u : Nat → Nat → Int32, u = upr v_1 (29 + 15 * i3) (upd (v_1 (29 + 15 * i3)) 0 2) := ⟨_, rfl⟩
      have hP : va_P (dC, dI) vwCl (wl ad kv cy N v_6) H := by rw [ev_6, ← wl_put (e := _) (ce_9 (kd_c i3 hi3).1.1)]; exact hP
      have hD : va_D A (wl ad kv cy N v_6) := by rw [ev_6, ← wl_put (e := _) (ce_9 (kd_c i3 hi3).1.1)]; exact hD
      have hv : Iv v_6 := by rw [ev_6]; exact hv.put (K := 9) (kd_c i3 hi3).1.1 (fun h q => by simp [bd] at q)
      have hfr : Fr v v_6 := by rw [ev_6]; exact hfr.put (by omega) (by omega) (by omega)
      refine lv_iconst (v := 1) hx hb dX7_close_41 (by decide) ?_
      exact W.iret (v := 1) hx hb hr (fun t ht hW => ⟨⟨1, v_6, rfl, ⟨hv, hfr⟩, by rw [ht]; exact hP, hD⟩, hS.F ht⟩) hS.2.2 dX7_close_42
    · have tc_5 : x_4.toInt ≠ (0 : Int32).toInt := fun q => absurd (Int32.toInt_inj.mp q) c_5
      refine lv_bipush (v := (-4)) hx hb dX7_close_25 (by decide) ?_
      exact W.iret (v := (-4)) hx hb hr (fun t ht hW => ⟨⟨(-4), v_1, rfl, ⟨hv, hfr⟩, by rw [ht]; exact hP, hD⟩, hS.F ht⟩) hS.2.2 dX7_close_27
  · refine lv_if_ne (tgt := 10) hx hb dX7_close_5 (by decide) (fun c9 => absurd c9 (by decide)) (fun _ => ?_)
    refine lv_iconst (v := (-1)) hx hb dX7_close_8 (by decide) ?_
    exact W.iret (v := (-1)) hx hb hr (fun t ht hW => ⟨⟨(-1), v_1, rfl, ⟨hv, hfr⟩, by rw [ht]; exact hP, hD⟩, hS.F ht⟩) hS.2.2 dX7_close_9

set_option maxHeartbeats 4000000 in
set_option maxRecDepth 100000 in
theorem g_X7_weight (l : Launch) (dC : Nat → ClassId) (dI : Nat → Nat → Nat) (cy : Nat → ClassId) (sz : Nat) (ad : Nat → Nat) (kv : Value) (N : Nat) (hN : 119 ≤ N) (v : Nat → Nat → Int32) (hv : Iv v) (x0 x1 : Int32) : Met l yX7_weight wsX7_weight ({ frames := 3, cells := 0, slots := 0, locals := 192 }) (va_Pc [.ref (ad 0), .int x0, .int x1] (ex_Pre dC dI cy sz (wl ad kv cy N v))) (va_Qi (fun (r : Int32) (u : Nat → Nat → Int32) => Iv u ∧ Fr v u) (fun u t => ex_Pst dC dI (va_A (wl ad kv cy N v) sz) (wl ad kv cy N u) t) (va_A (wl ad kv cy N v) sz)) 0 0 (va_A (wl ad kv cy N v) sz) := by
  refine Met.ofW (cc := cX7_weight) (maxL := 4) (ret := (some .int)) (by decide) rfl ?_
  intro p e s m args below meth c s₁ B hml hv
  obtain ⟨rfl, hsz, hE, hP, hK, hD0⟩ := hv
  have hx := B.exec
  have hb := B.bytes
  have hr := B.returns
  have hts := atoms_spec (ws := wsX7_weight) B.pre
  have hown : s.vm.findClass RX7 = some m.cls := findClass_of_methodNamed B.named
  have hlocks := B.notSynchronized
  subst hsz
  have hD := hD0.self (sz := s.heap.size)
  generalize hAe : va_A (wl ad kv cy N v) s.heap.size = A at hD ⊢
  have hA : ∀ q : Nat, s.heap.size ≤ q → A q := fun q h => by rw [← hAe]; exact Or.inr h
  have hS : va_S A s.heap s.heap [] := va_S.rf
  have hP : va_P (dC, dI) vwCl (wl ad kv cy N v) s.heap := hP
  have hl := lv_entry ([.ref (ad 0), .int x0, .int x1]) (n := 4) (Nat.le_of_ble_eq_true rfl)
  rw [lg_entry_eq]
  generalize (lg_sl ([.ref (ad 0), .int x0, .int x1]) ++ List.replicate (4 - (lg_sl ([.ref (ad 0), .int x0, .int x1])).length) Slot.unset).toArray = ls at hl ⊢
  have hl : lv_has ls 4 [(0, .ref (ad 0)), (1, .int x0), (2, .int x1)] := hl
  have hfr : Fr v v := Fr.rf
  refine lv_aload_n hx hb dX7_weight_0 rfl (lv_at hl 0 rfl) ?_
  refine lv_iload_n hx hb dX7_weight_1 rfl (lv_at hl 1 rfl) ?_
  refine yw_i (w1 := fun (u : Nat → Nat → Int32) => wl ad kv cy N u) hD hS hA (va_runV (As := [.int x0]) (rest := []) ⟨hx, hb, hml, hown, hts⟩ (g_X7_isCase l dC dI cy _ ad kv N hN v hv x0) (cwV 1 hts gX7_weight_X7_isCase rfl rfl rfl hd_V_X7_isCase_1 ⟨Nat.le_of_ble_eq_true rfl, Nat.le_of_ble_eq_true rfl⟩) (yw_preV hE hK hP hD (ci := 7) (q0 := 0) rfl (wl_at (by omega) (ce_0 (by decide)))) rfl rfl hl.1 rfl (lv_room (Nat.le_of_ble_eq_true rfl)) dX7_weight_2 ⟨Nat.le_of_ble_eq_true rfl, Nat.le_of_ble_eq_true rfl⟩) (fun r_1 v_1 H locs hw_1 hP hD hS => ?_)
  obtain ⟨hv, hw_1⟩ := hw_1
  obtain ⟨hu_1, hw_1⟩ := hw_1
  have hfr : Fr v v_1 := by rw [hu_1]; exact hfr
  rcases hw_1 with ⟨rfl, ha_2⟩ | ⟨rfl, -⟩
  · have hb_2 := hv.at (k := 13) (j := 2) (K := 3) (by decide) rfl
    have hb_2 : 0 ≤ x0.toInt ∧ x0.toInt < 6 := by omega
    refine lv_if_eq (tgt := 18) hx hb dX7_weight_5 (by decide) (fun c9 => absurd c9 (by decide)) (fun _ => ?_)
    refine lv_iload_n hx hb dX7_weight_8 rfl (lv_at hl 2 rfl) ?_
    refine lv_iconst (v := 1) hx hb dX7_weight_9 (by decide) ?_
    refine lv_bipush (v := 9) hx hb dX7_weight_10 (by decide) ?_
    refine yc_p hP hS (va_runS (As := [.int x1, .int 1, .int 9]) (rest := []) ⟨hx, hb, hml, hown, hts⟩ (c_X7_isWithin l x1 1 9) (cwS 3 hts gX7_weight_X7_isWithin rfl rfl rfl hd_S_X7_isWithin_3 ⟨Nat.le_of_ble_eq_true rfl, Nat.le_of_ble_eq_true rfl⟩) ex_preP rfl rfl hl.1 rfl (lv_room (Nat.le_of_ble_eq_true rfl)) dX7_weight_12 ⟨Nat.le_of_ble_eq_true rfl, Nat.le_of_ble_eq_true rfl⟩) (fun r_3 H locs hw_3 hP hS => ?_)
    rcases wi_ca hw_3 with ⟨rfl, hc_4⟩ | ⟨rfl, hc_4⟩
    · have k_1 : (1 : Int32).toInt = 1 := by decide
      have k_9 : (9 : Int32).toInt = 9 := by decide
      have tc_4 := wi_tl hc_4
      refine lv_if_ne (tgt := 20) hx hb dX7_weight_15 (by decide) (fun _ => ?_) (fun c9 => absurd c9 (by decide))
      refine lv_aload_n hx hb dX7_weight_20 rfl (lv_at hl 0 rfl) ?_
      refine va_get (D := (dC, dI)) (ci := 7) (v := .ref (ad 13)) (C := RX7) (T := TX7) (N := 5) hx hb hts iwX7_weight_X7 hown hK hP (0) (wl_at (by omega) (ce_0 (by decide))) rfl 0 (by decide) (hts (.fieldLink RX7 12 "QuietStairs" "now" "LQuietStairs$House;") fwX7_weight_1) (fun _ h9 => h9) rfl dX7_weight_21 ?_
      refine va_get (D := (dC, dI)) (ci := 1) (v := .ref (ad 16)) (C := RX1) (T := TX1) (N := 7) hx hb hts iwX7_weight_X1 hown hK hP (13) (wl_at (by omega) (ce_3 (by decide))) rfl 6 (by decide) (hts (.fieldLink RX7 86 "QuietStairs$House" "cases" "[LQuietStairs$Case;") fwX7_weight_2) (fun _ h9 => h9) rfl dX7_weight_24 ?_
      refine lv_iload_n hx hb dX7_weight_27 rfl (lv_at hl 1 rfl) ?_
      obtain ⟨pi5, i5, hi5, ni5, mi5⟩ := t_in (x := x0) (n := 6) ⟨by omega, by omega⟩
      refine va_aldq hx hb hK hP (16) 3 (wl_at (by omega) (ce_6 (by decide))) rfl pi5 dX7_weight_28 ?_
      refine W.eq (g2 := F0 m 29 ls [.ref (ad (29 + 15 * i5))]) (by rw [ni5, if_pos hi5, show 16 + 13 + 15 * i5 = 29 + 15 * i5 from by omega]; rfl) ?_
      refine va_get (D := (dC, dI)) (ci := 0) (v := .int (v_1 (29 + 15 * i5) 3)) (C := RX0) (T := TX0) (N := 11) hx hb hts iwX7_weight_X0 hown hK hP (29 + 15 * i5) (wl_at (by omega) (ce_9 (kd_c i5 hi5).1.1)) rfl 3 (by decide) (hts (.fieldLink RX7 102 "QuietStairs$Case" "weight" "I") fwX7_weight_3) (fun _ h9 => h9) rfl dX7_weight_29 ?_
      refine lv_topi (fun x_6 ex_6 => ?_)
      refine lv_istore_n (lv' := [(3, .int x_6), (0, .ref (ad 0)), (1, .int x0), (2, .int x1)]) hx hb dX7_weight_32 rfl hl (by decide) rfl (fun ls hl => ?_)
      refine lv_aload_n hx hb dX7_weight_33 rfl (lv_at hl 1 rfl) ?_
      refine va_get (D := (dC, dI)) (ci := 7) (v := .ref (ad 13)) (C := RX7) (T := TX7) (N := 5) hx hb hts iwX7_weight_X7 hown hK hP (0) (wl_at (by omega) (ce_0 (by decide))) rfl 0 (by decide) (hts (.fieldLink RX7 12 "QuietStairs" "now" "LQuietStairs$House;") fwX7_weight_1) (fun _ h9 => h9) rfl dX7_weight_34 ?_
      refine va_get (D := (dC, dI)) (ci := 1) (v := .ref (ad 16)) (C := RX1) (T := TX1) (N := 7) hx hb hts iwX7_weight_X1 hown hK hP (13) (wl_at (by omega) (ce_3 (by decide))) rfl 6 (by decide) (hts (.fieldLink RX7 86 "QuietStairs$House" "cases" "[LQuietStairs$Case;") fwX7_weight_2) (fun _ h9 => h9) rfl dX7_weight_37 ?_
      refine lv_iload_n hx hb dX7_weight_40 rfl (lv_at hl 2 rfl) ?_
      refine va_aldq hx hb hK hP (16) 3 (wl_at (by omega) (ce_6 (by decide))) rfl pi5 dX7_weight_41 ?_
      refine W.eq (g2 := F0 m 42 ls [.ref (ad (29 + 15 * i5))]) (by rw [ni5, if_pos hi5, show 16 + 13 + 15 * i5 = 29 + 15 * i5 from by omega]; rfl) ?_
      refine lv_iload_n hx hb dX7_weight_42 rfl (lv_at hl 3 rfl) ?_
      refine va_put (D := (dC, dI)) (ci := 0) (v := .int x1) (ty := .int) (C := RX0) (T := TX0) (N := 11) hx hb hts iwX7_weight_X0 tyX0 tyX0_ok nmX0 hown hK hP hD hS (29 + 15 * i5) (wl_at (by omega) (ce_9 (kd_c i5 hi5).1.1)) rfl 3 (by decide) (hts (.fieldLink RX7 102 "QuietStairs$Case" "weight" "I") fwX7_weight_3) (fun _ h9 => h9) rfl (by decide +kernel) rfl rfl (Nat.le_of_ble_eq_true rfl) dX7_weight_43 (fun H locs hP hD hS => ?_)
      obtain ⟨v_7, ev_7⟩ : ∃ u : Nat → Nat → Int32, u = upr v_1 (29 + 15 * i5) (upd (v_1 (29 + 15 * i5)) 3 x1) := ⟨_, rfl⟩
      have hP : va_P (dC, dI) vwCl (wl ad kv cy N v_7) H := by rw [ev_7, ← wl_put (e := _) (ce_9 (kd_c i5 hi5).1.1)]; exact hP
      have hD : va_D A (wl ad kv cy N v_7) := by rw [ev_7, ← wl_put (e := _) (ce_9 (kd_c i5 hi5).1.1)]; exact hD
      have hv : Iv v_7 := by rw [ev_7]; exact hv.put (K := 9) (kd_c i5 hi5).1.1 (fun h q => by simp [bd] at q)
      have hfr : Fr v v_7 := by rw [ev_7]; exact hfr.put (by omega) (by omega) (by omega)
      refine lv_iload_n hx hb dX7_weight_46 rfl (lv_at hl 0 rfl) ?_
      exact W.iret (v := x_6) hx hb hr (fun t ht hW => ⟨⟨x_6, v_7, rfl, ⟨hv, hfr⟩, by rw [ht]; exact hP, hD⟩, hS.F ht⟩) hS.2.2 dX7_weight_47
    · refine lv_if_ne (tgt := 20) hx hb dX7_weight_15 (by decide) (fun c9 => absurd c9 (by decide)) (fun _ => ?_)
      refine lv_iconst (v := (-1)) hx hb dX7_weight_18 (by decide) ?_
      exact W.iret (v := (-1)) hx hb hr (fun t ht hW => ⟨⟨(-1), v_1, rfl, ⟨hv, hfr⟩, by rw [ht]; exact hP, hD⟩, hS.F ht⟩) hS.2.2 dX7_weight_19
  · refine lv_if_eq (tgt := 18) hx hb dX7_weight_5 (by decide) (fun _ => ?_) (fun c9 => absurd c9 (by decide))
    refine lv_iconst (v := (-1)) hx hb dX7_weight_18 (by decide) ?_
    exact W.iret (v := (-1)) hx hb hr (fun t ht hW => ⟨⟨(-1), v_1, rfl, ⟨hv, hfr⟩, by rw [ht]; exact hP, hD⟩, hS.F ht⟩) hS.2.2 dX7_weight_19

set_option maxHeartbeats 4000000 in
set_option maxRecDepth 100000 in
theorem g_X7_put (l : Launch) (dC : Nat → ClassId) (dI : Nat → Nat → Nat) (cy : Nat → ClassId) (sz : Nat) (ad : Nat → Nat) (kv : Value) (N : Nat) (hN : 119 ≤ N) (v : Nat → Nat → Int32) (hv : Iv v) (x0 x1 : Int32) : Met l yX7_put wsX7_put ({ frames := 3, cells := 0, slots := 0, locals := 192 }) (va_Pc [.ref (ad 0), .int x0, .int x1] (ex_Pre dC dI cy sz (wl ad kv cy N v))) (va_Qi (fun (r : Int32) (u : Nat → Nat → Int32) => Iv u ∧ Fr v u) (fun u t => ex_Pst dC dI (va_A (wl ad kv cy N v) sz) (wl ad kv cy N u) t) (va_A (wl ad kv cy N v) sz)) 0 0 (va_A (wl ad kv cy N v) sz) := by
  refine Met.ofW (cc := cX7_put) (maxL := 3) (ret := (some .int)) (by decide) rfl ?_
  intro p e s m args below meth c s₁ B hml hv
  obtain ⟨rfl, hsz, hE, hP, hK, hD0⟩ := hv
  have hx := B.exec
  have hb := B.bytes
  have hr := B.returns
  have hts := atoms_spec (ws := wsX7_put) B.pre
  have hown : s.vm.findClass RX7 = some m.cls := findClass_of_methodNamed B.named
  have hlocks := B.notSynchronized
  subst hsz
  have hD := hD0.self (sz := s.heap.size)
  generalize hAe : va_A (wl ad kv cy N v) s.heap.size = A at hD ⊢
  have hA : ∀ q : Nat, s.heap.size ≤ q → A q := fun q h => by rw [← hAe]; exact Or.inr h
  have hS : va_S A s.heap s.heap [] := va_S.rf
  have hP : va_P (dC, dI) vwCl (wl ad kv cy N v) s.heap := hP
  have hl := lv_entry ([.ref (ad 0), .int x0, .int x1]) (n := 3) (Nat.le_of_ble_eq_true rfl)
  rw [lg_entry_eq]
  generalize (lg_sl ([.ref (ad 0), .int x0, .int x1]) ++ List.replicate (3 - (lg_sl ([.ref (ad 0), .int x0, .int x1])).length) Slot.unset).toArray = ls at hl ⊢
  have hl : lv_has ls 3 [(0, .ref (ad 0)), (1, .int x0), (2, .int x1)] := hl
  have hfr : Fr v v := Fr.rf
  refine lv_aload_n hx hb dX7_put_0 rfl (lv_at hl 0 rfl) ?_
  refine lv_iload_n hx hb dX7_put_1 rfl (lv_at hl 1 rfl) ?_
  refine yw_i (w1 := fun (u : Nat → Nat → Int32) => wl ad kv cy N u) hD hS hA (va_runV (As := [.int x0]) (rest := []) ⟨hx, hb, hml, hown, hts⟩ (g_X7_isCase l dC dI cy _ ad kv N hN v hv x0) (cwV 1 hts gX7_put_X7_isCase rfl rfl rfl hd_V_X7_isCase_1 ⟨Nat.le_of_ble_eq_true rfl, Nat.le_of_ble_eq_true rfl⟩) (yw_preV hE hK hP hD (ci := 7) (q0 := 0) rfl (wl_at (by omega) (ce_0 (by decide)))) rfl rfl hl.1 rfl (lv_room (Nat.le_of_ble_eq_true rfl)) dX7_put_2 ⟨Nat.le_of_ble_eq_true rfl, Nat.le_of_ble_eq_true rfl⟩) (fun r_1 v_1 H locs hw_1 hP hD hS => ?_)
  obtain ⟨hv, hw_1⟩ := hw_1
  obtain ⟨hu_1, hw_1⟩ := hw_1
  have hfr : Fr v v_1 := by rw [hu_1]; exact hfr
  rcases hw_1 with ⟨rfl, ha_2⟩ | ⟨rfl, -⟩
  · have hb_2 := hv.at (k := 13) (j := 2) (K := 3) (by decide) rfl
    have hb_2 : 0 ≤ x0.toInt ∧ x0.toInt < 6 := by omega
    refine lv_if_eq (tgt := 15) hx hb dX7_put_5 (by decide) (fun c9 => absurd c9 (by decide)) (fun _ => ?_)
    refine lv_iload_n hx hb dX7_put_8 rfl (lv_at hl 2 rfl) ?_
    refine yc_p hP hS (va_runS (As := [.int x1]) (rest := []) ⟨hx, hb, hml, hown, hts⟩ (c_X7_isSide l x1) (cwS 1 hts gX7_put_X7_isSide rfl rfl rfl hd_S_X7_isSide_1 ⟨Nat.le_of_ble_eq_true rfl, Nat.le_of_ble_eq_true rfl⟩) ex_preP rfl rfl hl.1 rfl (lv_room (Nat.le_of_ble_eq_true rfl)) dX7_put_9 ⟨Nat.le_of_ble_eq_true rfl, Nat.le_of_ble_eq_true rfl⟩) (fun r_3 H locs hw_3 hP hS => ?_)
    rcases wi_ca hw_3 with ⟨rfl, hc_4⟩ | ⟨rfl, hc_4⟩
    · have k_0 : (0 : Int32).toInt = 0 := by decide
      have k_1 : (1 : Int32).toInt = 1 := by decide
      have tc_4 := wi_tl hc_4
      refine lv_if_ne (tgt := 17) hx hb dX7_put_12 (by decide) (fun _ => ?_) (fun c9 => absurd c9 (by decide))
      refine lv_aload_n hx hb dX7_put_17 rfl (lv_at hl 0 rfl) ?_
      refine va_get (D := (dC, dI)) (ci := 7) (v := .ref (ad 13)) (C := RX7) (T := TX7) (N := 5) hx hb hts iwX7_put_X7 hown hK hP (0) (wl_at (by omega) (ce_0 (by decide))) rfl 0 (by decide) (hts (.fieldLink RX7 12 "QuietStairs" "now" "LQuietStairs$House;") fwX7_put_1) (fun _ h9 => h9) rfl dX7_put_18 ?_
      refine va_get (D := (dC, dI)) (ci := 1) (v := .ref (ad 16)) (C := RX1) (T := TX1) (N := 7) hx hb hts iwX7_put_X1 hown hK hP (13) (wl_at (by omega) (ce_3 (by decide))) rfl 6 (by decide) (hts (.fieldLink RX7 86 "QuietStairs$House" "cases" "[LQuietStairs$Case;") fwX7_put_2) (fun _ h9 => h9) rfl dX7_put_21 ?_
      refine lv_iload_n hx hb dX7_put_24 rfl (lv_at hl 1 rfl) ?_
      obtain ⟨pi5, i5, hi5, ni5, mi5⟩ := t_in (x := x0) (n := 6) ⟨by omega, by omega⟩
      refine va_aldq hx hb hK hP (16) 3 (wl_at (by omega) (ce_6 (by decide))) rfl pi5 dX7_put_25 ?_
      refine W.eq (g2 := F0 m 26 ls [.ref (ad (29 + 15 * i5))]) (by rw [ni5, if_pos hi5, show 16 + 13 + 15 * i5 = 29 + 15 * i5 from by omega]; rfl) ?_
      refine va_get (D := (dC, dI)) (ci := 0) (v := .ref (ad (29 + 15 * i5 + 2))) (C := RX0) (T := TX0) (N := 11) hx hb hts iwX7_put_X0 hown hK hP (29 + 15 * i5) (wl_at (by omega) (ce_9 (kd_c i5 hi5).1.1)) rfl 7 (by decide) (hts (.fieldLink RX7 135 "QuietStairs$Case" "box" "[I") fwX7_put_3) (fun _ h9 => h9) rfl dX7_put_26 ?_
      refine W.eq (g2 := F0 m 29 ls [.ref (ad (31 + 15 * i5))]) (by rw [show 29 + 15 * i5 + 2 = 31 + 15 * i5 from by omega]) ?_
      refine lv_iload_n hx hb dX7_put_29 rfl (lv_at hl 2 rfl) ?_
      obtain ⟨pi6, i6, hi6, ni6, mi6⟩ := t_in (x := x1) (n := 2) ⟨by omega, by omega⟩
      refine va_iald hx hb hK hP (31 + 15 * i5) 0 (wl_at (by omega) (ce_20 (kd_c i5 hi5).1.2.2.1)) rfl pi6 dX7_put_30 ?_
      refine lv_topi (fun x_7 ex_7 => ?_)
      refine lv_iconst (v := (-1)) hx hb dX7_put_31 (by decide) ?_
      have k_m1 : ((-1) : Int32).toInt = -1 := by decide
      refine lv_icmp_ne (tgt := 39) hx hb dX7_put_32 (by decide) (fun c_8 => ?_) (fun c_8 => ?_)
      · have tc_8 : x_7.toInt ≠ ((-1) : Int32).toInt := fun q => absurd (Int32.toInt_inj.mp q) c_8
        refine lv_iconst (v := 1) hx hb dX7_put_39 (by decide) ?_
        exact W.iret (v := 1) hx hb hr (fun t ht hW => ⟨⟨1, v_1, rfl, ⟨hv, hfr⟩, by rw [ht]; exact hP, hD⟩, hS.F ht⟩) hS.2.2 dX7_put_40
      · have tc_8 : x_7.toInt = ((-1) : Int32).toInt := by rw [c_8]
        refine lv_iconst (v := 0) hx hb dX7_put_35 (by decide) ?_
        refine lv_goto (tgt := 40) hx hb dX7_put_36 (by decide) ?_
        exact W.iret (v := 0) hx hb hr (fun t ht hW => ⟨⟨0, v_1, rfl, ⟨hv, hfr⟩, by rw [ht]; exact hP, hD⟩, hS.F ht⟩) hS.2.2 dX7_put_40
    · refine lv_if_ne (tgt := 17) hx hb dX7_put_12 (by decide) (fun c9 => absurd c9 (by decide)) (fun _ => ?_)
      refine lv_iconst (v := (-1)) hx hb dX7_put_15 (by decide) ?_
      exact W.iret (v := (-1)) hx hb hr (fun t ht hW => ⟨⟨(-1), v_1, rfl, ⟨hv, hfr⟩, by rw [ht]; exact hP, hD⟩, hS.F ht⟩) hS.2.2 dX7_put_16
  · refine lv_if_eq (tgt := 15) hx hb dX7_put_5 (by decide) (fun _ => ?_) (fun c9 => absurd c9 (by decide))
    refine lv_iconst (v := (-1)) hx hb dX7_put_15 (by decide) ?_
    exact W.iret (v := (-1)) hx hb hr (fun t ht hW => ⟨⟨(-1), v_1, rfl, ⟨hv, hfr⟩, by rw [ht]; exact hP, hD⟩, hS.F ht⟩) hS.2.2 dX7_put_16

set_option maxHeartbeats 4000000 in
set_option maxRecDepth 100000 in
theorem g_X7_strike (l : Launch) (dC : Nat → ClassId) (dI : Nat → Nat → Nat) (cy : Nat → ClassId) (sz : Nat) (ad : Nat → Nat) (kv : Value) (N : Nat) (hN : 119 ≤ N) (v : Nat → Nat → Int32) (hv : Iv v) (x0 : Int32) : Met l yX7_strike wsX7_strike ({ frames := 3, cells := 0, slots := 0, locals := 192 }) (va_Pc [.ref (ad 0), .int x0] (ex_Pre dC dI cy sz (wl ad kv cy N v))) (va_Qi (fun (r : Int32) (u : Nat → Nat → Int32) => Iv u ∧ Fr v u) (fun u t => ex_Pst dC dI (va_A (wl ad kv cy N v) sz) (wl ad kv cy N u) t) (va_A (wl ad kv cy N v) sz)) 0 0 (va_A (wl ad kv cy N v) sz) := by
  refine Met.ofW (cc := cX7_strike) (maxL := 2) (ret := (some .int)) (by decide) rfl ?_
  intro p e s m args below meth c s₁ B hml hv
  obtain ⟨rfl, hsz, hE, hP, hK, hD0⟩ := hv
  have hx := B.exec
  have hb := B.bytes
  have hr := B.returns
  have hts := atoms_spec (ws := wsX7_strike) B.pre
  have hown : s.vm.findClass RX7 = some m.cls := findClass_of_methodNamed B.named
  have hlocks := B.notSynchronized
  subst hsz
  have hD := hD0.self (sz := s.heap.size)
  generalize hAe : va_A (wl ad kv cy N v) s.heap.size = A at hD ⊢
  have hA : ∀ q : Nat, s.heap.size ≤ q → A q := fun q h => by rw [← hAe]; exact Or.inr h
  have hS : va_S A s.heap s.heap [] := va_S.rf
  have hP : va_P (dC, dI) vwCl (wl ad kv cy N v) s.heap := hP
  have hl := lv_entry ([.ref (ad 0), .int x0]) (n := 2) (Nat.le_of_ble_eq_true rfl)
  rw [lg_entry_eq]
  generalize (lg_sl ([.ref (ad 0), .int x0]) ++ List.replicate (2 - (lg_sl ([.ref (ad 0), .int x0])).length) Slot.unset).toArray = ls at hl ⊢
  have hl : lv_has ls 2 [(0, .ref (ad 0)), (1, .int x0)] := hl
  have hfr : Fr v v := Fr.rf
  refine lv_aload_n hx hb dX7_strike_0 rfl (lv_at hl 0 rfl) ?_
  refine lv_iload_n hx hb dX7_strike_1 rfl (lv_at hl 1 rfl) ?_
  refine yw_i (w1 := fun (u : Nat → Nat → Int32) => wl ad kv cy N u) hD hS hA (va_runV (As := [.int x0]) (rest := []) ⟨hx, hb, hml, hown, hts⟩ (g_X7_isCase l dC dI cy _ ad kv N hN v hv x0) (cwV 1 hts gX7_strike_X7_isCase rfl rfl rfl hd_V_X7_isCase_1 ⟨Nat.le_of_ble_eq_true rfl, Nat.le_of_ble_eq_true rfl⟩) (yw_preV hE hK hP hD (ci := 7) (q0 := 0) rfl (wl_at (by omega) (ce_0 (by decide)))) rfl rfl hl.1 rfl (lv_room (Nat.le_of_ble_eq_true rfl)) dX7_strike_2 ⟨Nat.le_of_ble_eq_true rfl, Nat.le_of_ble_eq_true rfl⟩) (fun r_1 v_1 H locs hw_1 hP hD hS => ?_)
  obtain ⟨hv, hw_1⟩ := hw_1
  obtain ⟨hu_1, hw_1⟩ := hw_1
  have hfr : Fr v v_1 := by rw [hu_1]; exact hfr
  rcases hw_1 with ⟨rfl, ha_2⟩ | ⟨rfl, -⟩
  · have hb_2 := hv.at (k := 13) (j := 2) (K := 3) (by decide) rfl
    have hb_2 : 0 ≤ x0.toInt ∧ x0.toInt < 6 := by omega
    refine lv_if_ne (tgt := 10) hx hb dX7_strike_5 (by decide) (fun _ => ?_) (fun c9 => absurd c9 (by decide))
    refine lv_aload_n hx hb dX7_strike_10 rfl (lv_at hl 0 rfl) ?_
    refine va_get (D := (dC, dI)) (ci := 7) (v := .ref (ad 13)) (C := RX7) (T := TX7) (N := 5) hx hb hts iwX7_strike_X7 hown hK hP (0) (wl_at (by omega) (ce_0 (by decide))) rfl 0 (by decide) (hts (.fieldLink RX7 12 "QuietStairs" "now" "LQuietStairs$House;") fwX7_strike_1) (fun _ h9 => h9) rfl dX7_strike_11 ?_
    refine va_get (D := (dC, dI)) (ci := 1) (v := .ref (ad 16)) (C := RX1) (T := TX1) (N := 7) hx hb hts iwX7_strike_X1 hown hK hP (13) (wl_at (by omega) (ce_3 (by decide))) rfl 6 (by decide) (hts (.fieldLink RX7 86 "QuietStairs$House" "cases" "[LQuietStairs$Case;") fwX7_strike_2) (fun _ h9 => h9) rfl dX7_strike_14 ?_
    refine lv_iload_n hx hb dX7_strike_17 rfl (lv_at hl 1 rfl) ?_
    obtain ⟨pi3, i3, hi3, ni3, mi3⟩ := t_in (x := x0) (n := 6) ⟨by omega, by omega⟩
    refine va_aldq hx hb hK hP (16) 3 (wl_at (by omega) (ce_6 (by decide))) rfl pi3 dX7_strike_18 ?_
    refine W.eq (g2 := F0 m 19 ls [.ref (ad (29 + 15 * i3))]) (by rw [ni3, if_pos hi3, show 16 + 13 + 15 * i3 = 29 + 15 * i3 from by omega]; rfl) ?_
    refine va_get (D := (dC, dI)) (ci := 0) (v := .int (v_1 (29 + 15 * i3) 5)) (C := RX0) (T := TX0) (N := 11) hx hb hts iwX7_strike_X0 hown hK hP (29 + 15 * i3) (wl_at (by omega) (ce_9 (kd_c i3 hi3).1.1)) rfl 5 (by decide) (hts (.fieldLink RX7 169 "QuietStairs$Case" "termCount" "I") fwX7_strike_3) (fun _ h9 => h9) rfl dX7_strike_19 ?_
    refine lv_topi (fun x_4 ex_4 => ?_)
    have bx_4 : 0 ≤ x_4.toInt ∧ x_4.toInt ≤ 5 := by rw [ex_4]; exact hv.at (K := 9) (kd_c i3 hi3).1.1 rfl
    have k_0 : (0 : Int32).toInt = 0 := by decide
    refine lv_if_ne (tgt := 28) hx hb dX7_strike_22 (by decide) (fun c_5 => ?_) (fun c_5 => ?_)
    · have tc_5 : x_4.toInt ≠ (0 : Int32).toInt := fun q => absurd (Int32.toInt_inj.mp q) c_5
      refine lv_aload_n hx hb dX7_strike_28 rfl (lv_at hl 0 rfl) ?_
      refine va_get (D := (dC, dI)) (ci := 7) (v := .ref (ad 13)) (C := RX7) (T := TX7) (N := 5) hx hb hts iwX7_strike_X7 hown hK hP (0) (wl_at (by omega) (ce_0 (by decide))) rfl 0 (by decide) (hts (.fieldLink RX7 12 "QuietStairs" "now" "LQuietStairs$House;") fwX7_strike_1) (fun _ h9 => h9) rfl dX7_strike_29 ?_
      refine va_get (D := (dC, dI)) (ci := 1) (v := .ref (ad 16)) (C := RX1) (T := TX1) (N := 7) hx hb hts iwX7_strike_X1 hown hK hP (13) (wl_at (by omega) (ce_3 (by decide))) rfl 6 (by decide) (hts (.fieldLink RX7 86 "QuietStairs$House" "cases" "[LQuietStairs$Case;") fwX7_strike_2) (fun _ h9 => h9) rfl dX7_strike_32 ?_
      refine lv_iload_n hx hb dX7_strike_35 rfl (lv_at hl 1 rfl) ?_
      refine va_aldq hx hb hK hP (16) 3 (wl_at (by omega) (ce_6 (by decide))) rfl pi3 dX7_strike_36 ?_
      refine W.eq (g2 := F0 m 37 ls [.ref (ad (29 + 15 * i3))]) (by rw [ni3, if_pos hi3, show 16 + 13 + 15 * i3 = 29 + 15 * i3 from by omega]; rfl) ?_
      refine lv_dup hx hb dX7_strike_37 rfl ?_
      refine va_get (D := (dC, dI)) (ci := 0) (v := .int (v_1 (29 + 15 * i3) 5)) (C := RX0) (T := TX0) (N := 11) hx hb hts iwX7_strike_X0 hown hK hP (29 + 15 * i3) (wl_at (by omega) (ce_9 (kd_c i3 hi3).1.1)) rfl 5 (by decide) (hts (.fieldLink RX7 169 "QuietStairs$Case" "termCount" "I") fwX7_strike_3) (fun _ h9 => h9) rfl dX7_strike_38 ?_
      refine lv_topi (fun x_6 ex_6 => ?_)
      rw [← ex_4] at ex_6; replace ex_6 := ex_6.symm; subst ex_6
      refine lv_iconst (v := 1) hx hb dX7_strike_41 (by decide) ?_
      have k_1 : (1 : Int32).toInt = 1 := by decide
      refine lv_isub hx hb dX7_strike_42 ?_
      refine lv_topi (fun x_7 ex_7 => ?_)
      have tx_7 : x_7.toInt = x_4.toInt - (1 : Int32).toInt := by rw [ex_7]; exact t_sub ⟨by omega, by omega⟩
      refine va_put (D := (dC, dI)) (ci := 0) (v := .int x_7) (ty := .int) (C := RX0) (T := TX0) (N := 11) hx hb hts iwX7_strike_X0 tyX0 tyX0_ok nmX0 hown hK hP hD hS (29 + 15 * i3) (wl_at (by omega) (ce_9 (kd_c i3 hi3).1.1)) rfl 5 (by decide) (hts (.fieldLink RX7 169 "QuietStairs$Case" "termCount" "I") fwX7_strike_3) (fun _ h9 => h9) rfl (by decide +kernel) rfl rfl (Nat.le_of_ble_eq_true rfl) dX7_strike_43 (fun H locs hP hD hS => ?_)
      obtain ⟨v_8, ev_8⟩ : ∃ u : Nat → Nat → Int32, u = upr v_1 (29 + 15 * i3) (upd (v_1 (29 + 15 * i3)) 5 x_7) := ⟨_, rfl⟩
      have hP : va_P (dC, dI) vwCl (wl ad kv cy N v_8) H := by rw [ev_8, ← wl_put (e := _) (ce_9 (kd_c i3 hi3).1.1)]; exact hP
      have hD : va_D A (wl ad kv cy N v_8) := by rw [ev_8, ← wl_put (e := _) (ce_9 (kd_c i3 hi3).1.1)]; exact hD
      have hv : Iv v_8 := by rw [ev_8]; exact hv.put (K := 9) (kd_c i3 hi3).1.1 (fun h q => by cases q; exact ⟨by omega, by omega⟩)
      have hfr : Fr v v_8 := by rw [ev_8]; exact hfr.put (by omega) (by omega) (by omega)
      refine lv_aload_n hx hb dX7_strike_46 rfl (lv_at hl 0 rfl) ?_
      refine va_get (D := (dC, dI)) (ci := 7) (v := .ref (ad 13)) (C := RX7) (T := TX7) (N := 5) hx hb hts iwX7_strike_X7 hown hK hP (0) (wl_at (by omega) (ce_0 (by decide))) rfl 0 (by decide) (hts (.fieldLink RX7 12 "QuietStairs" "now" "LQuietStairs$House;") fwX7_strike_1) (fun _ h9 => h9) rfl dX7_strike_47 ?_
      refine va_get (D := (dC, dI)) (ci := 1) (v := .ref (ad 16)) (C := RX1) (T := TX1) (N := 7) hx hb hts iwX7_strike_X1 hown hK hP (13) (wl_at (by omega) (ce_3 (by decide))) rfl 6 (by decide) (hts (.fieldLink RX7 86 "QuietStairs$House" "cases" "[LQuietStairs$Case;") fwX7_strike_2) (fun _ h9 => h9) rfl dX7_strike_50 ?_
      refine lv_iload_n hx hb dX7_strike_53 rfl (lv_at hl 1 rfl) ?_
      refine va_aldq hx hb hK hP (16) 3 (wl_at (by omega) (ce_6 (by decide))) rfl pi3 dX7_strike_54 ?_
      refine W.eq (g2 := F0 m 55 ls [.ref (ad (29 + 15 * i3))]) (by rw [ni3, if_pos hi3, show 16 + 13 + 15 * i3 = 29 + 15 * i3 from by omega]; rfl) ?_
      refine va_get (D := (dC, dI)) (ci := 0) (v := .int (v_8 (29 + 15 * i3) 5)) (C := RX0) (T := TX0) (N := 11) hx hb hts iwX7_strike_X0 hown hK hP (29 + 15 * i3) (wl_at (by omega) (ce_9 (kd_c i3 hi3).1.1)) rfl 5 (by decide) (hts (.fieldLink RX7 169 "QuietStairs$Case" "termCount" "I") fwX7_strike_3) (fun _ h9 => h9) rfl dX7_strike_55 ?_
      refine lv_topi (fun x_9 ex_9 => ?_)
      rw [ev_8, upr_s, pk_us] at ex_9; replace ex_9 := ex_9.symm; subst ex_9
      exact W.iret (v := x_7) hx hb hr (fun t ht hW => ⟨⟨x_7, v_8, rfl, ⟨hv, hfr⟩, by rw [ht]; exact hP, hD⟩, hS.F ht⟩) hS.2.2 dX7_strike_58
    · have tc_5 : x_4.toInt = (0 : Int32).toInt := by rw [c_5]
      refine lv_bipush (v := (-5)) hx hb dX7_strike_25 (by decide) ?_
      exact W.iret (v := (-5)) hx hb hr (fun t ht hW => ⟨⟨(-5), v_1, rfl, ⟨hv, hfr⟩, by rw [ht]; exact hP, hD⟩, hS.F ht⟩) hS.2.2 dX7_strike_27
  · refine lv_if_ne (tgt := 10) hx hb dX7_strike_5 (by decide) (fun c9 => absurd c9 (by decide)) (fun _ => ?_)
    refine lv_iconst (v := (-1)) hx hb dX7_strike_8 (by decide) ?_
    exact W.iret (v := (-1)) hx hb hr (fun t ht hW => ⟨⟨(-1), v_1, rfl, ⟨hv, hfr⟩, by rw [ht]; exact hP, hD⟩, hS.F ht⟩) hS.2.2 dX7_strike_9

set_option maxHeartbeats 4000000 in
set_option maxRecDepth 100000 in
theorem g_X7_log (l : Launch) (dC : Nat → ClassId) (dI : Nat → Nat → Nat) (cy : Nat → ClassId) (sz : Nat) (ad : Nat → Nat) (kv : Value) (N : Nat) (hN : 119 ≤ N) (v : Nat → Nat → Int32) (hv : Iv v) (x0 x1 x2 x3 : Int32) : Met l yX7_log wsX7_log ({ frames := 3, cells := 0, slots := 0, locals := 192 }) (va_Pc [.ref (ad 0), .int x0, .int x1, .int x2, .int x3] (ex_Pre dC dI cy sz (wl ad kv cy N v))) (va_Qi (fun (r : Int32) (u : Nat → Nat → Int32) => Iv u ∧ Fr v u) (fun u t => ex_Pst dC dI (va_A (wl ad kv cy N v) sz) (wl ad kv cy N u) t) (va_A (wl ad kv cy N v) sz)) 0 0 (va_A (wl ad kv cy N v) sz) := by
  refine Met.ofW (cc := cX7_log) (maxL := 7) (ret := (some .int)) (by decide) rfl ?_
  intro p e s m args below meth c s₁ B hml hv
  obtain ⟨rfl, hsz, hE, hP, hK, hD0⟩ := hv
  have hx := B.exec
  have hb := B.bytes
  have hr := B.returns
  have hts := atoms_spec (ws := wsX7_log) B.pre
  have hown : s.vm.findClass RX7 = some m.cls := findClass_of_methodNamed B.named
  have hlocks := B.notSynchronized
  subst hsz
  have hD := hD0.self (sz := s.heap.size)
  generalize hAe : va_A (wl ad kv cy N v) s.heap.size = A at hD ⊢
  have hA : ∀ q : Nat, s.heap.size ≤ q → A q := fun q h => by rw [← hAe]; exact Or.inr h
  have hS : va_S A s.heap s.heap [] := va_S.rf
  have hP : va_P (dC, dI) vwCl (wl ad kv cy N v) s.heap := hP
  have hl := lv_entry ([.ref (ad 0), .int x0, .int x1, .int x2, .int x3]) (n := 7) (Nat.le_of_ble_eq_true rfl)
  rw [lg_entry_eq]
  generalize (lg_sl ([.ref (ad 0), .int x0, .int x1, .int x2, .int x3]) ++ List.replicate (7 - (lg_sl ([.ref (ad 0), .int x0, .int x1, .int x2, .int x3])).length) Slot.unset).toArray = ls at hl ⊢
  have hl : lv_has ls 7 [(0, .ref (ad 0)), (1, .int x0), (2, .int x1), (3, .int x2), (4, .int x3)] := hl
  have hfr : Fr v v := Fr.rf
  refine lv_aload_n hx hb dX7_log_0 rfl (lv_at hl 0 rfl) ?_
  refine lv_iload_n hx hb dX7_log_1 rfl (lv_at hl 1 rfl) ?_
  refine yw_i (w1 := fun (u : Nat → Nat → Int32) => wl ad kv cy N u) hD hS hA (va_runV (As := [.int x0]) (rest := []) ⟨hx, hb, hml, hown, hts⟩ (g_X7_isCase l dC dI cy _ ad kv N hN v hv x0) (cwV 1 hts gX7_log_X7_isCase rfl rfl rfl hd_V_X7_isCase_1 ⟨Nat.le_of_ble_eq_true rfl, Nat.le_of_ble_eq_true rfl⟩) (yw_preV hE hK hP hD (ci := 7) (q0 := 0) rfl (wl_at (by omega) (ce_0 (by decide)))) rfl rfl hl.1 rfl (lv_room (Nat.le_of_ble_eq_true rfl)) dX7_log_2 ⟨Nat.le_of_ble_eq_true rfl, Nat.le_of_ble_eq_true rfl⟩) (fun r_1 v_1 H locs hw_1 hP hD hS => ?_)
  obtain ⟨hv, hw_1⟩ := hw_1
  obtain ⟨hu_1, hw_1⟩ := hw_1
  have hfr : Fr v v_1 := by rw [hu_1]; exact hfr
  rcases hw_1 with ⟨rfl, ha_2⟩ | ⟨rfl, -⟩
  · have hb_2 := hv.at (k := 13) (j := 2) (K := 3) (by decide) rfl
    have hb_2 : 0 ≤ x0.toInt ∧ x0.toInt < 6 := by omega
    refine lv_if_eq (tgt := 33) hx hb dX7_log_5 (by decide) (fun c9 => absurd c9 (by decide)) (fun _ => ?_)
    refine lv_iload_n hx hb dX7_log_8 rfl (lv_at hl 2 rfl) ?_
    refine yc_p hP hS (va_runS (As := [.int x1]) (rest := []) ⟨hx, hb, hml, hown, hts⟩ (c_X7_isSide l x1) (cwS 1 hts gX7_log_X7_isSide rfl rfl rfl hd_S_X7_isSide_1 ⟨Nat.le_of_ble_eq_true rfl, Nat.le_of_ble_eq_true rfl⟩) ex_preP rfl rfl hl.1 rfl (lv_room (Nat.le_of_ble_eq_true rfl)) dX7_log_9 ⟨Nat.le_of_ble_eq_true rfl, Nat.le_of_ble_eq_true rfl⟩) (fun r_3 H locs hw_3 hP hS => ?_)
    rcases wi_ca hw_3 with ⟨rfl, hc_4⟩ | ⟨rfl, hc_4⟩
    · have k_0 : (0 : Int32).toInt = 0 := by decide
      have k_1 : (1 : Int32).toInt = 1 := by decide
      have tc_4 := wi_tl hc_4
      refine lv_if_eq (tgt := 33) hx hb dX7_log_12 (by decide) (fun c9 => absurd c9 (by decide)) (fun _ => ?_)
      refine lv_iload_n hx hb dX7_log_15 rfl (lv_at hl 3 rfl) ?_
      refine yc_p hP hS (va_runS (As := [.int x2]) (rest := []) ⟨hx, hb, hml, hown, hts⟩ (c_X7_isHour l x2) (cwS 1 hts gX7_log_X7_isHour rfl rfl rfl hd_S_X7_isHour_1 ⟨Nat.le_of_ble_eq_true rfl, Nat.le_of_ble_eq_true rfl⟩) ex_preP rfl rfl hl.1 rfl (lv_room (Nat.le_of_ble_eq_true rfl)) dX7_log_16 ⟨Nat.le_of_ble_eq_true rfl, Nat.le_of_ble_eq_true rfl⟩) (fun r_5 H locs hw_5 hP hS => ?_)
      rcases wi_ca hw_5 with ⟨rfl, hc_6⟩ | ⟨rfl, hc_6⟩
      · have k_23 : (23 : Int32).toInt = 23 := by decide
        have tc_6 := wi_tl hc_6
        refine lv_if_eq (tgt := 33) hx hb dX7_log_19 (by decide) (fun c9 => absurd c9 (by decide)) (fun _ => ?_)
        refine lv_iload hx hb dX7_log_22 (lv_at hl 4 rfl) ?_
        refine lv_iconst (v := 0) hx hb dX7_log_24 (by decide) ?_
        refine lv_bipush (v := 7) hx hb dX7_log_25 (by decide) ?_
        refine yc_p hP hS (va_runS (As := [.int x3, .int 0, .int 7]) (rest := []) ⟨hx, hb, hml, hown, hts⟩ (c_X7_isWithin l x3 0 7) (cwS 3 hts gX7_log_X7_isWithin rfl rfl rfl hd_S_X7_isWithin_3 ⟨Nat.le_of_ble_eq_true rfl, Nat.le_of_ble_eq_true rfl⟩) ex_preP rfl rfl hl.1 rfl (lv_room (Nat.le_of_ble_eq_true rfl)) dX7_log_27 ⟨Nat.le_of_ble_eq_true rfl, Nat.le_of_ble_eq_true rfl⟩) (fun r_7 H locs hw_7 hP hS => ?_)
        rcases wi_ca hw_7 with ⟨rfl, hc_8⟩ | ⟨rfl, hc_8⟩
        · have k_7 : (7 : Int32).toInt = 7 := by decide
          have tc_8 := wi_tl hc_8
          refine lv_if_ne (tgt := 35) hx hb dX7_log_30 (by decide) (fun _ => ?_) (fun c9 => absurd c9 (by decide))
          refine lv_aload_n hx hb dX7_log_35 rfl (lv_at hl 0 rfl) ?_
          refine va_get (D := (dC, dI)) (ci := 7) (v := .ref (ad 13)) (C := RX7) (T := TX7) (N := 5) hx hb hts iwX7_log_X7 hown hK hP (0) (wl_at (by omega) (ce_0 (by decide))) rfl 0 (by decide) (hts (.fieldLink RX7 12 "QuietStairs" "now" "LQuietStairs$House;") fwX7_log_1) (fun _ h9 => h9) rfl dX7_log_36 ?_
          refine va_get (D := (dC, dI)) (ci := 1) (v := .ref (ad 16)) (C := RX1) (T := TX1) (N := 7) hx hb hts iwX7_log_X1 hown hK hP (13) (wl_at (by omega) (ce_3 (by decide))) rfl 6 (by decide) (hts (.fieldLink RX7 86 "QuietStairs$House" "cases" "[LQuietStairs$Case;") fwX7_log_2) (fun _ h9 => h9) rfl dX7_log_39 ?_
          refine lv_iload_n hx hb dX7_log_42 rfl (lv_at hl 1 rfl) ?_
          obtain ⟨pi9, i9, hi9, ni9, mi9⟩ := t_in (x := x0) (n := 6) ⟨by omega, by omega⟩
          refine va_aldq hx hb hK hP (16) 3 (wl_at (by omega) (ce_6 (by decide))) rfl pi9 dX7_log_43 ?_
          refine W.eq (g2 := F0 m 44 ls [.ref (ad (29 + 15 * i9))]) (by rw [ni9, if_pos hi9, show 16 + 13 + 15 * i9 = 29 + 15 * i9 from by omega]; rfl) ?_
          refine va_get (D := (dC, dI)) (ci := 0) (v := .ref (ad (29 + 15 * i9 + 6))) (C := RX0) (T := TX0) (N := 11) hx hb hts iwX7_log_X0 hown hK hP (29 + 15 * i9) (wl_at (by omega) (ce_9 (kd_c i9 hi9).1.1)) rfl 9 (by decide) (hts (.fieldLink RX7 207 "QuietStairs$Case" "logs" "[[I") fwX7_log_3) (fun _ h9 => h9) rfl dX7_log_44 ?_
          refine W.eq (g2 := F0 m 47 ls [.ref (ad (35 + 15 * i9))]) (by rw [show 29 + 15 * i9 + 6 = 35 + 15 * i9 from by omega]) ?_
          refine lv_iload_n hx hb dX7_log_47 rfl (lv_at hl 2 rfl) ?_
          obtain ⟨pi10, i10, hi10, ni10, mi10⟩ := t_in (x := x1) (n := 2) ⟨by omega, by omega⟩
          refine ya_ald hx hb hK hP (35 + 15 * i9) (wl_at (by omega) (ce_13 (kd_c i9 hi9).1.2.2.2.2.1)) pi10 dX7_log_48 ?_
          refine W.eq (g2 := F0 m 49 ls [.ref (ad (36 + 15 * i9 + i10))]) (by rw [ni10, if_pos hi10, show 35 + 15 * i9 + 1 + i10 = 36 + 15 * i9 + i10 from by omega]; rfl) ?_
          refine lv_astore (lv' := [(5, .ref (ad (36 + 15 * i9 + i10))), (0, .ref (ad 0)), (1, .int x0), (2, .int x1), (3, .int x2), (4, .int x3)]) hx hb dX7_log_49 hl (by decide) rfl (fun ls hl => ?_)
          refine lv_aload hx hb dX7_log_51 (lv_at hl 0 rfl) ?_
          refine lv_iload_n hx hb dX7_log_53 rfl (lv_at hl 4 rfl) ?_
          obtain ⟨pi11, i11, hi11, ni11, mi11⟩ := t_in (x := x2) (n := 24) ⟨by omega, by omega⟩
          refine va_iald hx hb hK hP (36 + 15 * i9 + i10) 0 (wl_at (by omega) (ce_14 (kd_o i9 hi9 i10 hi10).1.2)) rfl pi11 dX7_log_54 ?_
          refine lv_topi (fun x_12 ex_12 => ?_)
          refine lv_istore (lv' := [(6, .int x_12), (5, .ref (ad (36 + 15 * i9 + i10))), (0, .ref (ad 0)), (1, .int x0), (2, .int x1), (3, .int x2), (4, .int x3)]) hx hb dX7_log_55 hl (by decide) rfl (fun ls hl => ?_)
          refine lv_aload hx hb dX7_log_57 (lv_at hl 1 rfl) ?_
          refine lv_iload_n hx hb dX7_log_59 rfl (lv_at hl 5 rfl) ?_
          refine lv_iload hx hb dX7_log_60 (lv_at hl 6 rfl) ?_
          refine va_iast hx hb hK hP hD hS (36 + 15 * i9 + i10) 0 (wl_at (by omega) (ce_14 (kd_o i9 hi9 i10 hi10).1.2)) rfl pi11 dX7_log_62 (fun H locs hP hD hS => ?_)
          obtain ⟨v_13, ev_13⟩ : ∃ u : Nat → Nat → Int32, u = upr v_1 (36 + 15 * i9 + i10) (upd (v_1 (36 + 15 * i9 + i10)) (x2.toNatClampNeg) x3) := ⟨_, rfl⟩
          have hP : va_P (dC, dI) vwCl (wl ad kv cy N v_13) H := by rw [ev_13, ← wl_put (e := _) (ce_14 (kd_o i9 hi9 i10 hi10).1.2)]; exact hP
          have hD : va_D A (wl ad kv cy N v_13) := by rw [ev_13, ← wl_put (e := _) (ce_14 (kd_o i9 hi9 i10 hi10).1.2)]; exact hD
          have hv : Iv v_13 := by rw [ev_13]; exact hv.put (K := 14) (kd_o i9 hi9 i10 hi10).1.2 (fun h q => by simp [bd] at q)
          have hfr : Fr v v_13 := by rw [ev_13]; exact hfr.put (by omega) (by omega) (by omega)
          refine lv_iload hx hb dX7_log_63 (lv_at hl 0 rfl) ?_
          exact W.iret (v := x_12) hx hb hr (fun t ht hW => ⟨⟨x_12, v_13, rfl, ⟨hv, hfr⟩, by rw [ht]; exact hP, hD⟩, hS.F ht⟩) hS.2.2 dX7_log_65
        · refine lv_if_ne (tgt := 35) hx hb dX7_log_30 (by decide) (fun c9 => absurd c9 (by decide)) (fun _ => ?_)
          refine lv_iconst (v := (-1)) hx hb dX7_log_33 (by decide) ?_
          exact W.iret (v := (-1)) hx hb hr (fun t ht hW => ⟨⟨(-1), v_1, rfl, ⟨hv, hfr⟩, by rw [ht]; exact hP, hD⟩, hS.F ht⟩) hS.2.2 dX7_log_34
      · refine lv_if_eq (tgt := 33) hx hb dX7_log_19 (by decide) (fun _ => ?_) (fun c9 => absurd c9 (by decide))
        refine lv_iconst (v := (-1)) hx hb dX7_log_33 (by decide) ?_
        exact W.iret (v := (-1)) hx hb hr (fun t ht hW => ⟨⟨(-1), v_1, rfl, ⟨hv, hfr⟩, by rw [ht]; exact hP, hD⟩, hS.F ht⟩) hS.2.2 dX7_log_34
    · refine lv_if_eq (tgt := 33) hx hb dX7_log_12 (by decide) (fun _ => ?_) (fun c9 => absurd c9 (by decide))
      refine lv_iconst (v := (-1)) hx hb dX7_log_33 (by decide) ?_
      exact W.iret (v := (-1)) hx hb hr (fun t ht hW => ⟨⟨(-1), v_1, rfl, ⟨hv, hfr⟩, by rw [ht]; exact hP, hD⟩, hS.F ht⟩) hS.2.2 dX7_log_34
  · refine lv_if_eq (tgt := 33) hx hb dX7_log_5 (by decide) (fun _ => ?_) (fun c9 => absurd c9 (by decide))
    refine lv_iconst (v := (-1)) hx hb dX7_log_33 (by decide) ?_
    exact W.iret (v := (-1)) hx hb hr (fun t ht hW => ⟨⟨(-1), v_1, rfl, ⟨hv, hfr⟩, by rw [ht]; exact hP, hD⟩, hS.F ht⟩) hS.2.2 dX7_log_34
