theorem dX7_isWithin_0 : decode cX7_isWithin 0 = .ok (.iload_n 0, 1) := by decide +kernel
theorem dX7_isWithin_1 : decode cX7_isWithin 1 = .ok (.iload_n 1, 1) := by decide +kernel
theorem dX7_isWithin_2 : decode cX7_isWithin 2 = .ok (.if_icmp .lt 12, 3) := by decide +kernel
theorem dX7_isWithin_14 : decode cX7_isWithin 14 = .ok (.iconst 0, 1) := by decide +kernel
theorem dX7_isWithin_15 : decode cX7_isWithin 15 = .ok (.ireturn, 1) := by decide +kernel
theorem dX7_isWithin_5 : decode cX7_isWithin 5 = .ok (.iload_n 0, 1) := by decide +kernel
theorem dX7_isWithin_6 : decode cX7_isWithin 6 = .ok (.iload_n 2, 1) := by decide +kernel
theorem dX7_isWithin_7 : decode cX7_isWithin 7 = .ok (.if_icmp .gt 7, 3) := by decide +kernel
theorem dX7_isWithin_10 : decode cX7_isWithin 10 = .ok (.iconst 1, 1) := by decide +kernel
theorem dX7_isWithin_11 : decode cX7_isWithin 11 = .ok (.goto 4, 3) := by decide +kernel
theorem dX8_in_0 : decode cX8_in 0 = .ok (.iload_n 0, 1) := by decide +kernel
theorem dX8_in_1 : decode cX8_in 1 = .ok (.iload_n 1, 1) := by decide +kernel
theorem dX8_in_2 : decode cX8_in 2 = .ok (.if_icmp .lt 12, 3) := by decide +kernel
theorem dX8_in_14 : decode cX8_in 14 = .ok (.iconst 0, 1) := by decide +kernel
theorem dX8_in_15 : decode cX8_in 15 = .ok (.ireturn, 1) := by decide +kernel
theorem dX8_in_5 : decode cX8_in 5 = .ok (.iload_n 0, 1) := by decide +kernel
theorem dX8_in_6 : decode cX8_in 6 = .ok (.iload_n 2, 1) := by decide +kernel
theorem dX8_in_7 : decode cX8_in 7 = .ok (.if_icmp .gt 7, 3) := by decide +kernel
theorem dX8_in_10 : decode cX8_in 10 = .ok (.iconst 1, 1) := by decide +kernel
theorem dX8_in_11 : decode cX8_in 11 = .ok (.goto 4, 3) := by decide +kernel
theorem dX7_isSide_0 : decode cX7_isSide 0 = .ok (.iload_n 0, 1) := by decide +kernel
theorem dX7_isSide_1 : decode cX7_isSide 1 = .ok (.iconst 0, 1) := by decide +kernel
theorem dX7_isSide_2 : decode cX7_isSide 2 = .ok (.iconst 1, 1) := by decide +kernel
set_option maxRecDepth 20000 in
theorem ggX7_isSide_X7_isWithin : GoodIn wsX7_isSide wsX7_isWithin := goodIn_r _ [4] (by decide +kernel) (by decide +kernel)
set_option maxRecDepth 20000 in
theorem gX7_isSide_X7_isWithin : GoodIn wsX7_isSide (va_wsS RX7 37 yX7_isWithin wsX7_isWithin) := goodIn_app (goodIn_of _ (by decide +kernel)) ggX7_isSide_X7_isWithin
theorem dX7_isSide_3 : decode cX7_isSide 3 = .ok (.invokestatic 37, 3) := by decide +kernel
theorem dX7_isSide_6 : decode cX7_isSide 6 = .ok (.ireturn, 1) := by decide +kernel
theorem dX8_isSide_0 : decode cX8_isSide 0 = .ok (.iload_n 0, 1) := by decide +kernel
theorem dX8_isSide_1 : decode cX8_isSide 1 = .ok (.iconst 0, 1) := by decide +kernel
theorem dX8_isSide_2 : decode cX8_isSide 2 = .ok (.iconst 1, 1) := by decide +kernel
set_option maxRecDepth 20000 in
theorem ggX8_isSide_X8_in : GoodIn wsX8_isSide wsX8_in := goodIn_r _ [4] (by decide +kernel) (by decide +kernel)
set_option maxRecDepth 20000 in
theorem gX8_isSide_X8_in : GoodIn wsX8_isSide (va_wsS RX8 35 yX8_in wsX8_in) := goodIn_app (goodIn_of _ (by decide +kernel)) ggX8_isSide_X8_in
theorem dX8_isSide_3 : decode cX8_isSide 3 = .ok (.invokestatic 35, 3) := by decide +kernel
theorem dX8_isSide_6 : decode cX8_isSide 6 = .ok (.ireturn, 1) := by decide +kernel
theorem dX7_isParty_0 : decode cX7_isParty 0 = .ok (.iload_n 1, 1) := by decide +kernel
theorem dX7_isParty_1 : decode cX7_isParty 1 = .ok (.iconst 0, 1) := by decide +kernel
theorem dX7_isParty_2 : decode cX7_isParty 2 = .ok (.aload_n 0, 1) := by decide +kernel
theorem dX7_isParty_3 : decode cX7_isParty 3 = .ok (.getfield 12, 3) := by decide +kernel
theorem dX7_isParty_6 : decode cX7_isParty 6 = .ok (.getfield 41, 3) := by decide +kernel
theorem dX7_isParty_9 : decode cX7_isParty 9 = .ok (.iconst 1, 1) := by decide +kernel
theorem dX7_isParty_10 : decode cX7_isParty 10 = .ok (.isub, 1) := by decide +kernel
set_option maxRecDepth 20000 in
theorem ggX7_isParty_X7_isWithin : GoodIn wsX7_isParty wsX7_isWithin := goodIn_r _ [6] (by decide +kernel) (by decide +kernel)
set_option maxRecDepth 20000 in
theorem gX7_isParty_X7_isWithin : GoodIn wsX7_isParty (va_wsS RX7 37 yX7_isWithin wsX7_isWithin) := goodIn_app (goodIn_of _ (by decide +kernel)) ggX7_isParty_X7_isWithin
theorem dX7_isParty_11 : decode cX7_isParty 11 = .ok (.invokestatic 37, 3) := by decide +kernel
theorem dX7_isParty_14 : decode cX7_isParty 14 = .ok (.ireturn, 1) := by decide +kernel
theorem dX7_isMediator_0 : decode cX7_isMediator 0 = .ok (.iload_n 1, 1) := by decide +kernel
theorem dX7_isMediator_1 : decode cX7_isMediator 1 = .ok (.iconst 0, 1) := by decide +kernel
theorem dX7_isMediator_2 : decode cX7_isMediator 2 = .ok (.aload_n 0, 1) := by decide +kernel
theorem dX7_isMediator_3 : decode cX7_isMediator 3 = .ok (.getfield 12, 3) := by decide +kernel
theorem dX7_isMediator_6 : decode cX7_isMediator 6 = .ok (.getfield 56, 3) := by decide +kernel
theorem dX7_isMediator_9 : decode cX7_isMediator 9 = .ok (.iconst 1, 1) := by decide +kernel
theorem dX7_isMediator_10 : decode cX7_isMediator 10 = .ok (.isub, 1) := by decide +kernel
set_option maxRecDepth 20000 in
theorem ggX7_isMediator_X7_isWithin : GoodIn wsX7_isMediator wsX7_isWithin := goodIn_r _ [6] (by decide +kernel) (by decide +kernel)
set_option maxRecDepth 20000 in
theorem gX7_isMediator_X7_isWithin : GoodIn wsX7_isMediator (va_wsS RX7 37 yX7_isWithin wsX7_isWithin) := goodIn_app (goodIn_of _ (by decide +kernel)) ggX7_isMediator_X7_isWithin
theorem dX7_isMediator_11 : decode cX7_isMediator 11 = .ok (.invokestatic 37, 3) := by decide +kernel
theorem dX7_isMediator_14 : decode cX7_isMediator 14 = .ok (.ireturn, 1) := by decide +kernel
theorem dX7_isCase_0 : decode cX7_isCase 0 = .ok (.iload_n 1, 1) := by decide +kernel
theorem dX7_isCase_1 : decode cX7_isCase 1 = .ok (.iconst 0, 1) := by decide +kernel
theorem dX7_isCase_2 : decode cX7_isCase 2 = .ok (.aload_n 0, 1) := by decide +kernel
theorem dX7_isCase_3 : decode cX7_isCase 3 = .ok (.getfield 12, 3) := by decide +kernel
theorem dX7_isCase_6 : decode cX7_isCase 6 = .ok (.getfield 83, 3) := by decide +kernel
theorem dX7_isCase_9 : decode cX7_isCase 9 = .ok (.iconst 1, 1) := by decide +kernel
theorem dX7_isCase_10 : decode cX7_isCase 10 = .ok (.isub, 1) := by decide +kernel
set_option maxRecDepth 20000 in
theorem ggX7_isCase_X7_isWithin : GoodIn wsX7_isCase wsX7_isWithin := goodIn_r _ [6] (by decide +kernel) (by decide +kernel)
set_option maxRecDepth 20000 in
theorem gX7_isCase_X7_isWithin : GoodIn wsX7_isCase (va_wsS RX7 37 yX7_isWithin wsX7_isWithin) := goodIn_app (goodIn_of _ (by decide +kernel)) ggX7_isCase_X7_isWithin
theorem dX7_isCase_11 : decode cX7_isCase 11 = .ok (.invokestatic 37, 3) := by decide +kernel
theorem dX7_isCase_14 : decode cX7_isCase 14 = .ok (.ireturn, 1) := by decide +kernel
theorem dX7_isTerm_0 : decode cX7_isTerm 0 = .ok (.aload_n 0, 1) := by decide +kernel
theorem dX7_isTerm_1 : decode cX7_isTerm 1 = .ok (.iload_n 1, 1) := by decide +kernel
set_option maxRecDepth 20000 in
theorem ggX7_isTerm_X7_isCase : GoodIn wsX7_isTerm wsX7_isCase := goodIn_r _ [8, 1, 9, 10, 11, 7, 12, 13, 14, 15, 16, 17, 18, 19, 20, 21, 22, 23, 24] (by decide +kernel) (by decide +kernel)
set_option maxRecDepth 20000 in
theorem gX7_isTerm_X7_isCase : GoodIn wsX7_isTerm (wsV RX7 96 RX7 yX7_isCase wsX7_isCase) := goodIn_app (goodIn_of _ (by decide +kernel)) ggX7_isTerm_X7_isCase
theorem dX7_isTerm_2 : decode cX7_isTerm 2 = .ok (.invokevirtual 96, 3) := by decide +kernel
theorem dX7_isTerm_5 : decode cX7_isTerm 5 = .ok (.ifCond .eq 29, 3) := by decide +kernel
theorem dX7_isTerm_34 : decode cX7_isTerm 34 = .ok (.iconst 0, 1) := by decide +kernel
theorem dX7_isTerm_35 : decode cX7_isTerm 35 = .ok (.ireturn, 1) := by decide +kernel
theorem dX7_kin_0 : decode cX7_kin 0 = .ok (.aload_n 0, 1) := by decide +kernel
theorem dX7_kin_1 : decode cX7_kin 1 = .ok (.iload_n 1, 1) := by decide +kernel
set_option maxRecDepth 20000 in
theorem ggX7_kin_X7_isMediator : GoodIn wsX7_kin wsX7_isMediator := goodIn_r _ [8, 1, 9, 10, 11, 7, 12, 21, 22, 23, 24, 25, 26, 27, 28, 29, 30, 31, 32] (by decide +kernel) (by decide +kernel)
set_option maxRecDepth 20000 in
theorem gX7_kin_X7_isMediator : GoodIn wsX7_kin (wsV RX7 72 RX7 yX7_isMediator wsX7_isMediator) := goodIn_app (goodIn_of _ (by decide +kernel)) ggX7_kin_X7_isMediator
theorem dX7_kin_2 : decode cX7_kin 2 = .ok (.invokevirtual 72, 3) := by decide +kernel
theorem dX7_kin_5 : decode cX7_kin 5 = .ok (.ifCond .eq 11, 3) := by decide +kernel
theorem dX7_kin_16 : decode cX7_kin 16 = .ok (.iconst (-1), 1) := by decide +kernel
theorem dX7_kin_17 : decode cX7_kin 17 = .ok (.ireturn, 1) := by decide +kernel
theorem dX7_open_0 : decode cX7_open 0 = .ok (.aload_n 0, 1) := by decide +kernel
theorem dX7_open_1 : decode cX7_open 1 = .ok (.iload_n 1, 1) := by decide +kernel
set_option maxRecDepth 20000 in
theorem ggX7_open_X7_isParty : GoodIn wsX7_open wsX7_isParty := goodIn_r _ [8, 1, 9, 10, 11, 7, 12, 27, 28, 29, 30, 31, 32, 33, 34, 35, 36, 37, 38] (by decide +kernel) (by decide +kernel)
set_option maxRecDepth 20000 in
theorem gX7_open_X7_isParty : GoodIn wsX7_open (wsV RX7 76 RX7 yX7_isParty wsX7_isParty) := goodIn_app (goodIn_of _ (by decide +kernel)) ggX7_open_X7_isParty
theorem dX7_open_2 : decode cX7_open 2 = .ok (.invokevirtual 76, 3) := by decide +kernel
theorem dX7_open_5 : decode cX7_open 5 = .ok (.ifCond .eq 16, 3) := by decide +kernel
theorem dX7_open_21 : decode cX7_open 21 = .ok (.iconst (-1), 1) := by decide +kernel
theorem dX7_open_22 : decode cX7_open 22 = .ok (.ireturn, 1) := by decide +kernel
theorem dX7_close_0 : decode cX7_close 0 = .ok (.aload_n 0, 1) := by decide +kernel
theorem dX7_close_1 : decode cX7_close 1 = .ok (.iload_n 1, 1) := by decide +kernel
set_option maxRecDepth 20000 in
theorem ggX7_close_X7_isCase : GoodIn wsX7_close wsX7_isCase := goodIn_r _ [8, 1, 9, 10, 11, 7, 12, 13, 14, 15, 16, 17, 18, 19, 20, 21, 22, 23, 24] (by decide +kernel) (by decide +kernel)
set_option maxRecDepth 20000 in
theorem gX7_close_X7_isCase : GoodIn wsX7_close (wsV RX7 96 RX7 yX7_isCase wsX7_isCase) := goodIn_app (goodIn_of _ (by decide +kernel)) ggX7_close_X7_isCase
theorem dX7_close_2 : decode cX7_close 2 = .ok (.invokevirtual 96, 3) := by decide +kernel
theorem dX7_close_5 : decode cX7_close 5 = .ok (.ifCond .ne 5, 3) := by decide +kernel
theorem dX7_close_8 : decode cX7_close 8 = .ok (.iconst (-1), 1) := by decide +kernel
theorem dX7_close_9 : decode cX7_close 9 = .ok (.ireturn, 1) := by decide +kernel
theorem dX7_weight_0 : decode cX7_weight 0 = .ok (.aload_n 0, 1) := by decide +kernel
theorem dX7_weight_1 : decode cX7_weight 1 = .ok (.iload_n 1, 1) := by decide +kernel
set_option maxRecDepth 20000 in
theorem ggX7_weight_X7_isCase : GoodIn wsX7_weight wsX7_isCase := goodIn_r _ [8, 1, 9, 10, 11, 7, 12, 13, 14, 15, 16, 17, 18, 19, 20, 21, 22, 23, 24] (by decide +kernel) (by decide +kernel)
set_option maxRecDepth 20000 in
theorem gX7_weight_X7_isCase : GoodIn wsX7_weight (wsV RX7 96 RX7 yX7_isCase wsX7_isCase) := goodIn_app (goodIn_of _ (by decide +kernel)) ggX7_weight_X7_isCase
theorem dX7_weight_2 : decode cX7_weight 2 = .ok (.invokevirtual 96, 3) := by decide +kernel
theorem dX7_weight_5 : decode cX7_weight 5 = .ok (.ifCond .eq 13, 3) := by decide +kernel
theorem dX7_weight_18 : decode cX7_weight 18 = .ok (.iconst (-1), 1) := by decide +kernel
theorem dX7_weight_19 : decode cX7_weight 19 = .ok (.ireturn, 1) := by decide +kernel
theorem dX7_mark_0 : decode cX7_mark 0 = .ok (.aload_n 0, 1) := by decide +kernel
theorem dX7_mark_1 : decode cX7_mark 1 = .ok (.iload_n 1, 1) := by decide +kernel
set_option maxRecDepth 20000 in
theorem ggX7_mark_X7_isCase : GoodIn wsX7_mark wsX7_isCase := goodIn_r _ [9, 1, 10, 11, 12, 8, 13, 17, 18, 19, 20, 21, 22, 23, 24, 25, 26, 27, 28] (by decide +kernel) (by decide +kernel)
set_option maxRecDepth 20000 in
theorem gX7_mark_X7_isCase : GoodIn wsX7_mark (wsV RX7 96 RX7 yX7_isCase wsX7_isCase) := goodIn_app (goodIn_of _ (by decide +kernel)) ggX7_mark_X7_isCase
theorem dX7_mark_2 : decode cX7_mark 2 = .ok (.invokevirtual 96, 3) := by decide +kernel
theorem dX7_mark_5 : decode cX7_mark 5 = .ok (.ifCond .eq 16, 3) := by decide +kernel
theorem dX7_mark_21 : decode cX7_mark 21 = .ok (.iconst (-1), 1) := by decide +kernel
theorem dX7_mark_22 : decode cX7_mark 22 = .ok (.ireturn, 1) := by decide +kernel
theorem dX7_of_0 : decode cX7_of 0 = .ok (.aload_n 0, 1) := by decide +kernel
theorem dX7_of_1 : decode cX7_of 1 = .ok (.iload_n 1, 1) := by decide +kernel
set_option maxRecDepth 20000 in
theorem ggX7_of_X7_isCase : GoodIn wsX7_of wsX7_isCase := goodIn_r _ [12, 1, 13, 14, 15, 11, 16, 39, 40, 41, 42, 43, 44, 45, 46, 47, 48, 49, 50] (by decide +kernel) (by decide +kernel)
set_option maxRecDepth 20000 in
theorem gX7_of_X7_isCase : GoodIn wsX7_of (wsV RX7 96 RX7 yX7_isCase wsX7_isCase) := goodIn_app (goodIn_of _ (by decide +kernel)) ggX7_of_X7_isCase
theorem dX7_of_2 : decode cX7_of 2 = .ok (.invokevirtual 96, 3) := by decide +kernel
theorem dX7_of_5 : decode cX7_of 5 = .ok (.ifCond .ne 5, 3) := by decide +kernel
theorem dX7_of_8 : decode cX7_of 8 = .ok (.iconst (-1), 1) := by decide +kernel
theorem dX7_of_9 : decode cX7_of 9 = .ok (.ireturn, 1) := by decide +kernel
theorem dX7_offer_0 : decode cX7_offer 0 = .ok (.aload_n 0, 1) := by decide +kernel
theorem dX7_offer_1 : decode cX7_offer 1 = .ok (.iload_n 1, 1) := by decide +kernel
set_option maxRecDepth 20000 in
theorem ggX7_offer_X7_isCase : GoodIn wsX7_offer wsX7_isCase := goodIn_r _ [10, 1, 11, 12, 13, 9, 14, 28, 29, 30, 31, 32, 33, 34, 35, 36, 37, 38, 39] (by decide +kernel) (by decide +kernel)
set_option maxRecDepth 20000 in
theorem gX7_offer_X7_isCase : GoodIn wsX7_offer (wsV RX7 96 RX7 yX7_isCase wsX7_isCase) := goodIn_app (goodIn_of _ (by decide +kernel)) ggX7_offer_X7_isCase
theorem dX7_offer_2 : decode cX7_offer 2 = .ok (.invokevirtual 96, 3) := by decide +kernel
theorem dX7_offer_5 : decode cX7_offer 5 = .ok (.ifCond .eq 20, 3) := by decide +kernel
theorem dX7_offer_25 : decode cX7_offer 25 = .ok (.iconst (-1), 1) := by decide +kernel
theorem dX7_offer_26 : decode cX7_offer 26 = .ok (.ireturn, 1) := by decide +kernel
theorem dX7_put_0 : decode cX7_put 0 = .ok (.aload_n 0, 1) := by decide +kernel
theorem dX7_put_1 : decode cX7_put 1 = .ok (.iload_n 1, 1) := by decide +kernel
set_option maxRecDepth 20000 in
theorem ggX7_put_X7_isCase : GoodIn wsX7_put wsX7_isCase := goodIn_r _ [8, 1, 9, 10, 11, 7, 12, 16, 17, 18, 19, 20, 21, 22, 23, 24, 25, 26, 27] (by decide +kernel) (by decide +kernel)
set_option maxRecDepth 20000 in
theorem gX7_put_X7_isCase : GoodIn wsX7_put (wsV RX7 96 RX7 yX7_isCase wsX7_isCase) := goodIn_app (goodIn_of _ (by decide +kernel)) ggX7_put_X7_isCase
theorem dX7_put_2 : decode cX7_put 2 = .ok (.invokevirtual 96, 3) := by decide +kernel
theorem dX7_put_5 : decode cX7_put 5 = .ok (.ifCond .eq 10, 3) := by decide +kernel
theorem dX7_put_15 : decode cX7_put 15 = .ok (.iconst (-1), 1) := by decide +kernel
theorem dX7_put_16 : decode cX7_put 16 = .ok (.ireturn, 1) := by decide +kernel
theorem dX7_learns_0 : decode cX7_learns 0 = .ok (.aload_n 0, 1) := by decide +kernel
theorem dX7_learns_1 : decode cX7_learns 1 = .ok (.iload_n 1, 1) := by decide +kernel
set_option maxRecDepth 20000 in
theorem ggX7_learns_X7_isCase : GoodIn wsX7_learns wsX7_isCase := goodIn_r _ [8, 1, 9, 10, 11, 7, 12, 40, 41, 42, 43, 44, 45, 46, 47, 48, 49, 50, 51] (by decide +kernel) (by decide +kernel)
set_option maxRecDepth 20000 in
theorem gX7_learns_X7_isCase : GoodIn wsX7_learns (wsV RX7 96 RX7 yX7_isCase wsX7_isCase) := goodIn_app (goodIn_of _ (by decide +kernel)) ggX7_learns_X7_isCase
theorem dX7_learns_2 : decode cX7_learns 2 = .ok (.invokevirtual 96, 3) := by decide +kernel
theorem dX7_learns_5 : decode cX7_learns 5 = .ok (.ifCond .eq 10, 3) := by decide +kernel
theorem dX7_learns_15 : decode cX7_learns 15 = .ok (.iconst (-1), 1) := by decide +kernel
theorem dX7_learns_16 : decode cX7_learns 16 = .ok (.ireturn, 1) := by decide +kernel
theorem dX7_plan_0 : decode cX7_plan 0 = .ok (.aload_n 0, 1) := by decide +kernel
theorem dX7_plan_1 : decode cX7_plan 1 = .ok (.iload_n 1, 1) := by decide +kernel
set_option maxRecDepth 20000 in
theorem ggX7_plan_X7_isCase : GoodIn wsX7_plan wsX7_isCase := goodIn_r _ [10, 1, 11, 12, 13, 9, 14, 95, 96, 97, 98, 99, 100, 101, 102, 103, 104, 105, 106] (by decide +kernel) (by decide +kernel)
set_option maxRecDepth 20000 in
theorem gX7_plan_X7_isCase : GoodIn wsX7_plan (wsV RX7 96 RX7 yX7_isCase wsX7_isCase) := goodIn_app (goodIn_of _ (by decide +kernel)) ggX7_plan_X7_isCase
theorem dX7_plan_2 : decode cX7_plan 2 = .ok (.invokevirtual 96, 3) := by decide +kernel
theorem dX7_plan_5 : decode cX7_plan 5 = .ok (.ifCond .ne 5, 3) := by decide +kernel
theorem dX7_plan_8 : decode cX7_plan 8 = .ok (.iconst (-1), 1) := by decide +kernel
theorem dX7_plan_9 : decode cX7_plan 9 = .ok (.ireturn, 1) := by decide +kernel
theorem dX7_term_0 : decode cX7_term 0 = .ok (.aload_n 0, 1) := by decide +kernel
theorem dX7_term_1 : decode cX7_term 1 = .ok (.iload_n 1, 1) := by decide +kernel
set_option maxRecDepth 20000 in
theorem ggX7_term_X7_isCase : GoodIn wsX7_term wsX7_isCase := goodIn_r _ [15, 1, 16, 17, 18, 14, 19, 26, 27, 28, 29, 30, 31, 32, 33, 34, 35, 36, 37] (by decide +kernel) (by decide +kernel)
set_option maxRecDepth 20000 in
theorem gX7_term_X7_isCase : GoodIn wsX7_term (wsV RX7 96 RX7 yX7_isCase wsX7_isCase) := goodIn_app (goodIn_of _ (by decide +kernel)) ggX7_term_X7_isCase
theorem dX7_term_2 : decode cX7_term 2 = .ok (.invokevirtual 96, 3) := by decide +kernel
theorem dX7_term_5 : decode cX7_term 5 = .ok (.ifCond .eq 43, 3) := by decide +kernel
theorem dX7_term_48 : decode cX7_term 48 = .ok (.iconst (-1), 1) := by decide +kernel
theorem dX7_term_49 : decode cX7_term 49 = .ok (.ireturn, 1) := by decide +kernel
theorem dX7_strike_0 : decode cX7_strike 0 = .ok (.aload_n 0, 1) := by decide +kernel
theorem dX7_strike_1 : decode cX7_strike 1 = .ok (.iload_n 1, 1) := by decide +kernel
set_option maxRecDepth 20000 in
theorem ggX7_strike_X7_isCase : GoodIn wsX7_strike wsX7_isCase := goodIn_r _ [8, 1, 9, 10, 11, 7, 12, 13, 14, 15, 16, 17, 18, 19, 20, 21, 22, 23, 24] (by decide +kernel) (by decide +kernel)
set_option maxRecDepth 20000 in
theorem gX7_strike_X7_isCase : GoodIn wsX7_strike (wsV RX7 96 RX7 yX7_isCase wsX7_isCase) := goodIn_app (goodIn_of _ (by decide +kernel)) ggX7_strike_X7_isCase
theorem dX7_strike_2 : decode cX7_strike 2 = .ok (.invokevirtual 96, 3) := by decide +kernel
theorem dX7_strike_5 : decode cX7_strike 5 = .ok (.ifCond .ne 5, 3) := by decide +kernel
theorem dX7_strike_8 : decode cX7_strike 8 = .ok (.iconst (-1), 1) := by decide +kernel
theorem dX7_strike_9 : decode cX7_strike 9 = .ok (.ireturn, 1) := by decide +kernel
theorem dX7_termOf_0 : decode cX7_termOf 0 = .ok (.aload_n 0, 1) := by decide +kernel
theorem dX7_termOf_1 : decode cX7_termOf 1 = .ok (.iload_n 1, 1) := by decide +kernel
theorem dX7_termOf_2 : decode cX7_termOf 2 = .ok (.iload_n 2, 1) := by decide +kernel
set_option maxRecDepth 20000 in
theorem ggX7_termOf_X7_isTerm : GoodIn wsX7_termOf wsX7_isTerm := goodIn_r _ [13, 1, 2, 14, 15, 16, 17, 12, 18, 19, 20, 21, 22, 23, 24, 25, 26, 27, 28, 29, 30, 31, 32, 33, 34, 35, 36, 37, 38, 39, 40, 41, 42, 43, 44, 45] (by decide +kernel) (by decide +kernel)
set_option maxRecDepth 20000 in
theorem gX7_termOf_X7_isTerm : GoodIn wsX7_termOf (wsV RX7 194 RX7 yX7_isTerm wsX7_isTerm) := goodIn_app (goodIn_of _ (by decide +kernel)) ggX7_termOf_X7_isTerm
theorem dX7_termOf_3 : decode cX7_termOf 3 = .ok (.invokevirtual 194, 3) := by decide +kernel
theorem dX7_termOf_6 : decode cX7_termOf 6 = .ok (.ifCond .ne 5, 3) := by decide +kernel
theorem dX7_termOf_9 : decode cX7_termOf 9 = .ok (.iconst (-1), 1) := by decide +kernel
theorem dX7_termOf_10 : decode cX7_termOf 10 = .ok (.ireturn, 1) := by decide +kernel
theorem dX7_hour_0 : decode cX7_hour 0 = .ok (.aload_n 0, 1) := by decide +kernel
theorem dX7_hour_1 : decode cX7_hour 1 = .ok (.iload_n 1, 1) := by decide +kernel
theorem dX7_hour_2 : decode cX7_hour 2 = .ok (.iload_n 2, 1) := by decide +kernel
set_option maxRecDepth 20000 in
theorem ggX7_hour_X7_isTerm : GoodIn wsX7_hour wsX7_isTerm := goodIn_r _ [12, 1, 2, 7, 13, 14, 15, 11, 16, 17, 18, 19, 20, 65, 66, 67, 68, 69, 70, 71, 72, 73, 74, 75, 76, 77, 78, 79, 80, 81, 82, 83, 84, 85, 86, 87] (by decide +kernel) (by decide +kernel)
set_option maxRecDepth 20000 in
theorem gX7_hour_X7_isTerm : GoodIn wsX7_hour (wsV RX7 194 RX7 yX7_isTerm wsX7_isTerm) := goodIn_app (goodIn_of _ (by decide +kernel)) ggX7_hour_X7_isTerm
theorem dX7_hour_3 : decode cX7_hour 3 = .ok (.invokevirtual 194, 3) := by decide +kernel
theorem dX7_hour_6 : decode cX7_hour 6 = .ok (.ifCond .ne 5, 3) := by decide +kernel
theorem dX7_hour_9 : decode cX7_hour 9 = .ok (.iconst (-1), 1) := by decide +kernel
theorem dX7_hour_10 : decode cX7_hour 10 = .ok (.ireturn, 1) := by decide +kernel
theorem dX7_canHold_0 : decode cX7_canHold 0 = .ok (.aload_n 0, 1) := by decide +kernel
theorem dX7_canHold_1 : decode cX7_canHold 1 = .ok (.iload_n 1, 1) := by decide +kernel
set_option maxRecDepth 20000 in
theorem ggX7_canHold_X7_isCase : GoodIn wsX7_canHold wsX7_isCase := goodIn_r _ [9, 2, 10, 11, 12, 8, 13, 52, 53, 54, 55, 56, 57, 58, 59, 60, 61, 62, 63] (by decide +kernel) (by decide +kernel)
set_option maxRecDepth 20000 in
theorem gX7_canHold_X7_isCase : GoodIn wsX7_canHold (wsV RX7 96 RX7 yX7_isCase wsX7_isCase) := goodIn_app (goodIn_of _ (by decide +kernel)) ggX7_canHold_X7_isCase
theorem dX7_canHold_2 : decode cX7_canHold 2 = .ok (.invokevirtual 96, 3) := by decide +kernel
theorem dX7_canHold_5 : decode cX7_canHold 5 = .ok (.ifCond .eq 10, 3) := by decide +kernel
theorem dX7_canHold_15 : decode cX7_canHold 15 = .ok (.iconst (-1), 1) := by decide +kernel
theorem dX7_canHold_16 : decode cX7_canHold 16 = .ok (.ireturn, 1) := by decide +kernel
theorem dX7_breaks_0 : decode cX7_breaks 0 = .ok (.aload_n 0, 1) := by decide +kernel
theorem dX7_breaks_1 : decode cX7_breaks 1 = .ok (.iload_n 1, 1) := by decide +kernel
set_option maxRecDepth 20000 in
theorem ggX7_breaks_X7_isCase : GoodIn wsX7_breaks wsX7_isCase := goodIn_r _ [11, 1, 12, 13, 14, 10, 15, 54, 55, 56, 57, 58, 59, 60, 61, 62, 63, 64, 65] (by decide +kernel) (by decide +kernel)
set_option maxRecDepth 20000 in
theorem gX7_breaks_X7_isCase : GoodIn wsX7_breaks (wsV RX7 96 RX7 yX7_isCase wsX7_isCase) := goodIn_app (goodIn_of _ (by decide +kernel)) ggX7_breaks_X7_isCase
theorem dX7_breaks_2 : decode cX7_breaks 2 = .ok (.invokevirtual 96, 3) := by decide +kernel
theorem dX7_breaks_5 : decode cX7_breaks 5 = .ok (.ifCond .eq 10, 3) := by decide +kernel
theorem dX7_breaks_15 : decode cX7_breaks 15 = .ok (.iconst (-1), 1) := by decide +kernel
theorem dX7_breaks_16 : decode cX7_breaks 16 = .ok (.ireturn, 1) := by decide +kernel
theorem dX7_log_0 : decode cX7_log 0 = .ok (.aload_n 0, 1) := by decide +kernel
theorem dX7_log_1 : decode cX7_log 1 = .ok (.iload_n 1, 1) := by decide +kernel
set_option maxRecDepth 20000 in
theorem ggX7_log_X7_isCase : GoodIn wsX7_log wsX7_isCase := goodIn_r _ [8, 1, 9, 10, 11, 7, 12, 19, 20, 21, 22, 23, 24, 25, 26, 27, 28, 29, 30] (by decide +kernel) (by decide +kernel)
set_option maxRecDepth 20000 in
theorem gX7_log_X7_isCase : GoodIn wsX7_log (wsV RX7 96 RX7 yX7_isCase wsX7_isCase) := goodIn_app (goodIn_of _ (by decide +kernel)) ggX7_log_X7_isCase
theorem dX7_log_2 : decode cX7_log 2 = .ok (.invokevirtual 96, 3) := by decide +kernel
theorem dX7_log_5 : decode cX7_log 5 = .ok (.ifCond .eq 28, 3) := by decide +kernel
theorem dX7_log_33 : decode cX7_log 33 = .ok (.iconst (-1), 1) := by decide +kernel
theorem dX7_log_34 : decode cX7_log 34 = .ok (.ireturn, 1) := by decide +kernel
theorem dX7_judged_0 : decode cX7_judged 0 = .ok (.aload_n 0, 1) := by decide +kernel
theorem dX7_judged_1 : decode cX7_judged 1 = .ok (.iload_n 1, 1) := by decide +kernel
theorem dX7_judged_2 : decode cX7_judged 2 = .ok (.iload_n 2, 1) := by decide +kernel
set_option maxRecDepth 20000 in
theorem ggX7_judged_X7_isTerm : GoodIn wsX7_judged wsX7_isTerm := goodIn_r _ [7, 1, 2, 8, 9, 10, 11, 6, 12, 13, 14, 15, 16, 29, 30, 31, 32, 33, 34, 35, 36, 37, 38, 39, 40, 41, 42, 43, 44, 45, 46, 47, 48, 49, 50, 51] (by decide +kernel) (by decide +kernel)
set_option maxRecDepth 20000 in
theorem gX7_judged_X7_isTerm : GoodIn wsX7_judged (wsV RX7 194 RX7 yX7_isTerm wsX7_isTerm) := goodIn_app (goodIn_of _ (by decide +kernel)) ggX7_judged_X7_isTerm
theorem dX7_judged_3 : decode cX7_judged 3 = .ok (.invokevirtual 194, 3) := by decide +kernel
theorem dX7_judged_6 : decode cX7_judged 6 = .ok (.ifCond .ne 5, 3) := by decide +kernel
theorem dX7_judged_9 : decode cX7_judged 9 = .ok (.iconst (-1), 1) := by decide +kernel
theorem dX7_judged_10 : decode cX7_judged 10 = .ok (.ireturn, 1) := by decide +kernel
theorem wi_ca {r x a b : Int32} (h : r = if a ≤ x ∧ x ≤ b then 1 else 0) : (r = 1 ∧ (a ≤ x ∧ x ≤ b)) ∨ (r = 0 ∧ ¬ (a ≤ x ∧ x ≤ b)) := by
  by_cases q : a ≤ x ∧ x ≤ b
  · rw [if_pos q] at h
    exact Or.inl ⟨h, q⟩
  · rw [if_neg q] at h
    exact Or.inr ⟨h, q⟩
theorem wi_m1 {r x : Int32} (h : r = if (0 : Int32) ≤ x ∧ x ≤ (-1) then 1 else 0) : r = 0 := by
  rw [h, if_neg]
  rintro ⟨h1, h2⟩
  rw [Int32.le_iff_toInt_le] at h1 h2
  have a1 : (0 : Int32).toInt = 0 := by decide
  have a2 : (-1 : Int32).toInt = -1 := by decide
  omega

set_option maxHeartbeats 4000000 in
set_option maxRecDepth 100000 in
theorem c_X7_isWithin (l : Launch) (x0 x1 x2 : Int32) : Met l yX7_isWithin wsX7_isWithin ({ frames := 0, cells := 0, slots := 0, locals := 0 }) (va_Pc [.int x0, .int x1, .int x2] (fun _ => True)) (va_Qi (fun (r : Int32) (_ : Unit) => r = if x1 ≤ x0 ∧ x0 ≤ x2 then 1 else 0) (fun _ _ => True) (fun _ => False)) 0 0 (fun _ => False) := by
  refine Met.ofW (cc := cX7_isWithin) (maxL := 3) (ret := (some .boolean)) (by decide) rfl ?_
  intro p e s m args below meth c s₁ B hml hv
  obtain ⟨rfl, -⟩ := hv
  have hx := B.exec
  have hb := B.bytes
  have hr := B.returns
  have hts := atoms_spec (ws := wsX7_isWithin) B.pre
  have hown : s.vm.findClass RX7 = some m.cls := findClass_of_methodNamed B.named
  have hlocks := B.notSynchronized
  have hl := lv_entry ([.int x0, .int x1, .int x2]) (n := 3) (Nat.le_of_ble_eq_true rfl)
  rw [lg_entry_eq]
  generalize (lg_sl ([.int x0, .int x1, .int x2]) ++ List.replicate (3 - (lg_sl ([.int x0, .int x1, .int x2])).length) Slot.unset).toArray = ls at hl ⊢
  have hl : lv_has ls 3 [(0, .int x0), (1, .int x1), (2, .int x2)] := hl
  have hS : va_S (fun _ => False) s.heap s.heap [] := va_S.rf
  refine lv_iload_n hx hb dX7_isWithin_0 rfl (lv_at hl 0 rfl) ?_
  refine lv_iload_n hx hb dX7_isWithin_1 rfl (lv_at hl 1 rfl) ?_
  refine lv_icmp_lt (tgt := 14) hx hb dX7_isWithin_2 (by decide) (fun c_1 => ?_) (fun c_1 => ?_)
  · refine lv_iconst (v := 0) hx hb dX7_isWithin_14 (by decide) ?_
    exact W.zret (ty := .boolean) (v := 0) hx hb hr rfl (fun t ht hW => ⟨⟨0, (), rfl, by rw [if_neg (fun q => Int32.lt_irrefl (Int32.lt_of_lt_of_le c_1 q.1))], trivial⟩, hS.F ht⟩) hS.2.2 dX7_isWithin_15
  · refine lv_iload_n hx hb dX7_isWithin_5 rfl (lv_at hl 0 rfl) ?_
    refine lv_iload_n hx hb dX7_isWithin_6 rfl (lv_at hl 2 rfl) ?_
    refine lv_icmp_gt (tgt := 14) hx hb dX7_isWithin_7 (by decide) (fun c_2 => ?_) (fun c_2 => ?_)
    · refine lv_iconst (v := 0) hx hb dX7_isWithin_14 (by decide) ?_
      exact W.zret (ty := .boolean) (v := 0) hx hb hr rfl (fun t ht hW => ⟨⟨0, (), rfl, by rw [if_neg (fun q => Int32.lt_irrefl (Int32.lt_of_lt_of_le c_2 q.2))], trivial⟩, hS.F ht⟩) hS.2.2 dX7_isWithin_15
    · refine lv_iconst (v := 1) hx hb dX7_isWithin_10 (by decide) ?_
      refine lv_goto (tgt := 15) hx hb dX7_isWithin_11 (by decide) ?_
      exact W.zret (ty := .boolean) (v := 1) hx hb hr rfl (fun t ht hW => ⟨⟨1, (), rfl, by rw [if_pos ⟨Int32.not_lt.mp c_1, Int32.not_lt.mp c_2⟩], trivial⟩, hS.F ht⟩) hS.2.2 dX7_isWithin_15

set_option maxHeartbeats 4000000 in
set_option maxRecDepth 100000 in
theorem c_X8_in (l : Launch) (x0 x1 x2 : Int32) : Met l yX8_in wsX8_in ({ frames := 0, cells := 0, slots := 0, locals := 0 }) (va_Pc [.int x0, .int x1, .int x2] (fun _ => True)) (va_Qi (fun (r : Int32) (_ : Unit) => r = if x1 ≤ x0 ∧ x0 ≤ x2 then 1 else 0) (fun _ _ => True) (fun _ => False)) 0 0 (fun _ => False) := by
  refine Met.ofW (cc := cX8_in) (maxL := 3) (ret := (some .boolean)) (by decide) rfl ?_
  intro p e s m args below meth c s₁ B hml hv
  obtain ⟨rfl, -⟩ := hv
  have hx := B.exec
  have hb := B.bytes
  have hr := B.returns
  have hts := atoms_spec (ws := wsX8_in) B.pre
  have hown : s.vm.findClass RX8 = some m.cls := findClass_of_methodNamed B.named
  have hlocks := B.notSynchronized
  have hl := lv_entry ([.int x0, .int x1, .int x2]) (n := 3) (Nat.le_of_ble_eq_true rfl)
  rw [lg_entry_eq]
  generalize (lg_sl ([.int x0, .int x1, .int x2]) ++ List.replicate (3 - (lg_sl ([.int x0, .int x1, .int x2])).length) Slot.unset).toArray = ls at hl ⊢
  have hl : lv_has ls 3 [(0, .int x0), (1, .int x1), (2, .int x2)] := hl
  have hS : va_S (fun _ => False) s.heap s.heap [] := va_S.rf
  refine lv_iload_n hx hb dX8_in_0 rfl (lv_at hl 0 rfl) ?_
  refine lv_iload_n hx hb dX8_in_1 rfl (lv_at hl 1 rfl) ?_
  refine lv_icmp_lt (tgt := 14) hx hb dX8_in_2 (by decide) (fun c_1 => ?_) (fun c_1 => ?_)
  · refine lv_iconst (v := 0) hx hb dX8_in_14 (by decide) ?_
    exact W.zret (ty := .boolean) (v := 0) hx hb hr rfl (fun t ht hW => ⟨⟨0, (), rfl, by rw [if_neg (fun q => Int32.lt_irrefl (Int32.lt_of_lt_of_le c_1 q.1))], trivial⟩, hS.F ht⟩) hS.2.2 dX8_in_15
  · refine lv_iload_n hx hb dX8_in_5 rfl (lv_at hl 0 rfl) ?_
    refine lv_iload_n hx hb dX8_in_6 rfl (lv_at hl 2 rfl) ?_
    refine lv_icmp_gt (tgt := 14) hx hb dX8_in_7 (by decide) (fun c_2 => ?_) (fun c_2 => ?_)
    · refine lv_iconst (v := 0) hx hb dX8_in_14 (by decide) ?_
      exact W.zret (ty := .boolean) (v := 0) hx hb hr rfl (fun t ht hW => ⟨⟨0, (), rfl, by rw [if_neg (fun q => Int32.lt_irrefl (Int32.lt_of_lt_of_le c_2 q.2))], trivial⟩, hS.F ht⟩) hS.2.2 dX8_in_15
    · refine lv_iconst (v := 1) hx hb dX8_in_10 (by decide) ?_
      refine lv_goto (tgt := 15) hx hb dX8_in_11 (by decide) ?_
      exact W.zret (ty := .boolean) (v := 1) hx hb hr rfl (fun t ht hW => ⟨⟨1, (), rfl, by rw [if_pos ⟨Int32.not_lt.mp c_1, Int32.not_lt.mp c_2⟩], trivial⟩, hS.F ht⟩) hS.2.2 dX8_in_15

set_option maxHeartbeats 4000000 in
set_option maxRecDepth 100000 in
theorem c_X7_isSide (l : Launch) (x0 : Int32) : Met l yX7_isSide wsX7_isSide ({ frames := 1, cells := 0, slots := 0, locals := 64 }) (va_Pc [.int x0] (fun _ => True)) (va_Qi (fun (r : Int32) (_ : Unit) => r = if 0 ≤ x0 ∧ x0 ≤ 1 then 1 else 0) (fun _ _ => True) (fun _ => False)) 0 0 (fun _ => False) := by
  refine Met.ofW (cc := cX7_isSide) (maxL := 1) (ret := (some .boolean)) (by decide) rfl ?_
  intro p e s m args below meth c s₁ B hml hv
  obtain ⟨rfl, -⟩ := hv
  have hx := B.exec
  have hb := B.bytes
  have hr := B.returns
  have hts := atoms_spec (ws := wsX7_isSide) B.pre
  have hown : s.vm.findClass RX7 = some m.cls := findClass_of_methodNamed B.named
  have hlocks := B.notSynchronized
  have hl := lv_entry ([.int x0]) (n := 1) (Nat.le_of_ble_eq_true rfl)
  rw [lg_entry_eq]
  generalize (lg_sl ([.int x0]) ++ List.replicate (1 - (lg_sl ([.int x0])).length) Slot.unset).toArray = ls at hl ⊢
  have hl : lv_has ls 1 [(0, .int x0)] := hl
  have hS : va_S (fun _ => False) s.heap s.heap [] := va_S.rf
  have hP : va_P ((fun _ => 0), (fun _ _ => 0)) vwCl [] s.heap := fun k q h => by simp at h
  refine lv_iload_n hx hb dX7_isSide_0 rfl (lv_at hl 0 rfl) ?_
  refine lv_iconst (v := 0) hx hb dX7_isSide_1 (by decide) ?_
  refine lv_iconst (v := 1) hx hb dX7_isSide_2 (by decide) ?_
  refine yc_p hP hS (va_runS (As := [.int x0, .int 0, .int 1]) (rest := []) ⟨hx, hb, hml, hown, hts⟩ (c_X7_isWithin l x0 0 1) (cwS 3 hts gX7_isSide_X7_isWithin rfl rfl rfl (by decide +kernel) ⟨Nat.le_of_ble_eq_true rfl, Nat.le_of_ble_eq_true rfl⟩) ex_preP rfl rfl hl.1 rfl (lv_room (Nat.le_of_ble_eq_true rfl)) dX7_isSide_3 ⟨Nat.le_of_ble_eq_true rfl, Nat.le_of_ble_eq_true rfl⟩) (fun r_1 H locs hw_1 hP hS => ?_)
  rcases wi_ca hw_1 with ⟨rfl, hc⟩ | ⟨rfl, hc⟩
  · exact W.zret (ty := .boolean) (v := 1) hx hb hr rfl (fun t ht hW => ⟨⟨1, (), rfl, by rw [if_pos hc], trivial⟩, hS.F ht⟩) hS.2.2 dX7_isSide_6
  · exact W.zret (ty := .boolean) (v := 0) hx hb hr rfl (fun t ht hW => ⟨⟨0, (), rfl, by rw [if_neg hc], trivial⟩, hS.F ht⟩) hS.2.2 dX7_isSide_6

set_option maxHeartbeats 4000000 in
set_option maxRecDepth 100000 in
theorem c_X8_isSide (l : Launch) (x0 : Int32) : Met l yX8_isSide wsX8_isSide ({ frames := 1, cells := 0, slots := 0, locals := 64 }) (va_Pc [.int x0] (fun _ => True)) (va_Qi (fun (r : Int32) (_ : Unit) => r = if 0 ≤ x0 ∧ x0 ≤ 1 then 1 else 0) (fun _ _ => True) (fun _ => False)) 0 0 (fun _ => False) := by
  refine Met.ofW (cc := cX8_isSide) (maxL := 1) (ret := (some .boolean)) (by decide) rfl ?_
  intro p e s m args below meth c s₁ B hml hv
  obtain ⟨rfl, -⟩ := hv
  have hx := B.exec
  have hb := B.bytes
  have hr := B.returns
  have hts := atoms_spec (ws := wsX8_isSide) B.pre
  have hown : s.vm.findClass RX8 = some m.cls := findClass_of_methodNamed B.named
  have hlocks := B.notSynchronized
  have hl := lv_entry ([.int x0]) (n := 1) (Nat.le_of_ble_eq_true rfl)
  rw [lg_entry_eq]
  generalize (lg_sl ([.int x0]) ++ List.replicate (1 - (lg_sl ([.int x0])).length) Slot.unset).toArray = ls at hl ⊢
  have hl : lv_has ls 1 [(0, .int x0)] := hl
  have hS : va_S (fun _ => False) s.heap s.heap [] := va_S.rf
  have hP : va_P ((fun _ => 0), (fun _ _ => 0)) vwCl [] s.heap := fun k q h => by simp at h
  refine lv_iload_n hx hb dX8_isSide_0 rfl (lv_at hl 0 rfl) ?_
  refine lv_iconst (v := 0) hx hb dX8_isSide_1 (by decide) ?_
  refine lv_iconst (v := 1) hx hb dX8_isSide_2 (by decide) ?_
  refine yc_p hP hS (va_runS (As := [.int x0, .int 0, .int 1]) (rest := []) ⟨hx, hb, hml, hown, hts⟩ (c_X8_in l x0 0 1) (cwS 3 hts gX8_isSide_X8_in rfl rfl rfl (by decide +kernel) ⟨Nat.le_of_ble_eq_true rfl, Nat.le_of_ble_eq_true rfl⟩) ex_preP rfl rfl hl.1 rfl (lv_room (Nat.le_of_ble_eq_true rfl)) dX8_isSide_3 ⟨Nat.le_of_ble_eq_true rfl, Nat.le_of_ble_eq_true rfl⟩) (fun r_1 H locs hw_1 hP hS => ?_)
  rcases wi_ca hw_1 with ⟨rfl, hc⟩ | ⟨rfl, hc⟩
  · exact W.zret (ty := .boolean) (v := 1) hx hb hr rfl (fun t ht hW => ⟨⟨1, (), rfl, by rw [if_pos hc], trivial⟩, hS.F ht⟩) hS.2.2 dX8_isSide_6
  · exact W.zret (ty := .boolean) (v := 0) hx hb hr rfl (fun t ht hW => ⟨⟨0, (), rfl, by rw [if_neg hc], trivial⟩, hS.F ht⟩) hS.2.2 dX8_isSide_6

set_option maxHeartbeats 4000000 in
set_option maxRecDepth 100000 in
theorem c0_X7_isParty (l : Launch) (dC : Nat → ClassId) (dI : Nat → Nat → Nat) (cy : Nat → ClassId) (sz : Nat) (h0 h1 h2 h3 h4 h5 h6 : Nat) (x : Int32) : Met l yX7_isParty wsX7_isParty ({ frames := 1, cells := 0, slots := 0, locals := 64 }) (va_Pc [.ref h0, .int x] (ex_Pre dC dI cy sz [(h0, .inr (7, [.ref h1, .ref h2, .ref h3, .null, .int 1])), (h1, .inr (1, [.int 0, .int 0, .int 0, .int 0, .ref h4, .ref h5, .ref h6]))])) (va_Qi (fun (r : Int32) (u : Unit) => r = 0) (fun u t => ex_Pst dC dI (va_A [(h0, .inr (7, [.ref h1, .ref h2, .ref h3, .null, .int 1])), (h1, .inr (1, [.int 0, .int 0, .int 0, .int 0, .ref h4, .ref h5, .ref h6]))] sz) ([]) t) (va_A [(h0, .inr (7, [.ref h1, .ref h2, .ref h3, .null, .int 1])), (h1, .inr (1, [.int 0, .int 0, .int 0, .int 0, .ref h4, .ref h5, .ref h6]))] sz)) 0 0 (va_A [(h0, .inr (7, [.ref h1, .ref h2, .ref h3, .null, .int 1])), (h1, .inr (1, [.int 0, .int 0, .int 0, .int 0, .ref h4, .ref h5, .ref h6]))] sz) := by
  refine Met.ofW (cc := cX7_isParty) (maxL := 2) (ret := (some .boolean)) (by decide) rfl ?_
  intro p e s m args below meth c s₁ B hml hv
  obtain ⟨rfl, hsz, hE, hP, hK, hD0⟩ := hv
  have hx := B.exec
  have hb := B.bytes
  have hr := B.returns
  have hts := atoms_spec (ws := wsX7_isParty) B.pre
  have hown : s.vm.findClass RX7 = some m.cls := findClass_of_methodNamed B.named
  have hlocks := B.notSynchronized
  subst hsz
  have hD := hD0.self (sz := s.heap.size)
  generalize hAe : va_A [(h0, .inr (7, [.ref h1, .ref h2, .ref h3, .null, .int 1])), (h1, .inr (1, [.int 0, .int 0, .int 0, .int 0, .ref h4, .ref h5, .ref h6]))] s.heap.size = A at hD ⊢
  have hA : ∀ q : Nat, s.heap.size ≤ q → A q := fun q h => by rw [← hAe]; exact Or.inr h
  have hS : va_S A s.heap s.heap [] := va_S.rf
  have hP : va_P (dC, dI) vwCl [(h0, .inr (7, [.ref h1, .ref h2, .ref h3, .null, .int 1])), (h1, .inr (1, [.int 0, .int 0, .int 0, .int 0, .ref h4, .ref h5, .ref h6]))] s.heap := hP
  have hl := lv_entry ([.ref h0, .int x]) (n := 2) (Nat.le_of_ble_eq_true rfl)
  rw [lg_entry_eq]
  generalize (lg_sl ([.ref h0, .int x]) ++ List.replicate (2 - (lg_sl ([.ref h0, .int x])).length) Slot.unset).toArray = ls at hl ⊢
  have hl : lv_has ls 2 [(0, .ref h0), (1, .int x)] := hl
  refine lv_iload_n hx hb dX7_isParty_0 rfl (lv_at hl 1 rfl) ?_
  refine lv_iconst (v := 0) hx hb dX7_isParty_1 (by decide) ?_
  refine lv_aload_n hx hb dX7_isParty_2 rfl (lv_at hl 0 rfl) ?_
  refine va_get (D := (dC, dI)) (ci := 7) (v := .ref h1) (C := RX7) (T := TX7) (N := 5) hx hb hts (by decide +kernel) hown hK hP 0 rfl rfl 0 (by decide) (hts (.fieldLink RX7 12 "QuietStairs" "now" "LQuietStairs$House;") (by decide +kernel)) (fun _ h9 => h9) rfl dX7_isParty_3 ?_
  refine va_get (D := (dC, dI)) (ci := 1) (v := .int 0) (C := RX1) (T := TX1) (N := 7) hx hb hts (by decide +kernel) hown hK hP 1 rfl rfl 0 (by decide) (hts (.fieldLink RX7 41 "QuietStairs$House" "partyCount" "I") (by decide +kernel)) (fun _ h9 => h9) rfl dX7_isParty_6 ?_
  refine lv_iconst (v := 1) hx hb dX7_isParty_9 (by decide) ?_
  refine lv_isub hx hb dX7_isParty_10 ?_
  refine lv_topi (fun x_1 ex_1 => ?_)
  obtain rfl : x_1 = (-1) := ex_1.trans (by decide)
  refine yc_p hP hS (va_runS (As := [.int x, .int 0, .int (-1)]) (rest := []) ⟨hx, hb, hml, hown, hts⟩ (c_X7_isWithin l x 0 (-1)) (cwS 3 hts gX7_isParty_X7_isWithin rfl rfl rfl (by decide +kernel) ⟨Nat.le_of_ble_eq_true rfl, Nat.le_of_ble_eq_true rfl⟩) ex_preP rfl rfl hl.1 rfl (lv_room (Nat.le_of_ble_eq_true rfl)) dX7_isParty_11 ⟨Nat.le_of_ble_eq_true rfl, Nat.le_of_ble_eq_true rfl⟩) (fun r_2 H locs hw_2 hP hS => ?_)
  obtain rfl : r_2 = 0 := wi_m1 hw_2
  have hP9 := hP.sub (ws' := []) [] rfl
  have hD9 := hD.sub (ws' := []) [] (by decide) rfl
  exact W.zret (ty := .boolean) (v := 0) hx hb hr rfl (fun t ht hW => ⟨⟨0, (), rfl, rfl, by rw [ht]; exact hP9, hD9⟩, hS.F ht⟩) hS.2.2 dX7_isParty_14

set_option maxHeartbeats 4000000 in
set_option maxRecDepth 100000 in
theorem c0_X7_isMediator (l : Launch) (dC : Nat → ClassId) (dI : Nat → Nat → Nat) (cy : Nat → ClassId) (sz : Nat) (h0 h1 h2 h3 h4 h5 h6 : Nat) (x : Int32) : Met l yX7_isMediator wsX7_isMediator ({ frames := 1, cells := 0, slots := 0, locals := 64 }) (va_Pc [.ref h0, .int x] (ex_Pre dC dI cy sz [(h0, .inr (7, [.ref h1, .ref h2, .ref h3, .null, .int 1])), (h1, .inr (1, [.int 0, .int 0, .int 0, .int 0, .ref h4, .ref h5, .ref h6]))])) (va_Qi (fun (r : Int32) (u : Unit) => r = 0) (fun u t => ex_Pst dC dI (va_A [(h0, .inr (7, [.ref h1, .ref h2, .ref h3, .null, .int 1])), (h1, .inr (1, [.int 0, .int 0, .int 0, .int 0, .ref h4, .ref h5, .ref h6]))] sz) ([]) t) (va_A [(h0, .inr (7, [.ref h1, .ref h2, .ref h3, .null, .int 1])), (h1, .inr (1, [.int 0, .int 0, .int 0, .int 0, .ref h4, .ref h5, .ref h6]))] sz)) 0 0 (va_A [(h0, .inr (7, [.ref h1, .ref h2, .ref h3, .null, .int 1])), (h1, .inr (1, [.int 0, .int 0, .int 0, .int 0, .ref h4, .ref h5, .ref h6]))] sz) := by
  refine Met.ofW (cc := cX7_isMediator) (maxL := 2) (ret := (some .boolean)) (by decide) rfl ?_
  intro p e s m args below meth c s₁ B hml hv
  obtain ⟨rfl, hsz, hE, hP, hK, hD0⟩ := hv
  have hx := B.exec
  have hb := B.bytes
  have hr := B.returns
  have hts := atoms_spec (ws := wsX7_isMediator) B.pre
  have hown : s.vm.findClass RX7 = some m.cls := findClass_of_methodNamed B.named
  have hlocks := B.notSynchronized
  subst hsz
  have hD := hD0.self (sz := s.heap.size)
  generalize hAe : va_A [(h0, .inr (7, [.ref h1, .ref h2, .ref h3, .null, .int 1])), (h1, .inr (1, [.int 0, .int 0, .int 0, .int 0, .ref h4, .ref h5, .ref h6]))] s.heap.size = A at hD ⊢
  have hA : ∀ q : Nat, s.heap.size ≤ q → A q := fun q h => by rw [← hAe]; exact Or.inr h
  have hS : va_S A s.heap s.heap [] := va_S.rf
  have hP : va_P (dC, dI) vwCl [(h0, .inr (7, [.ref h1, .ref h2, .ref h3, .null, .int 1])), (h1, .inr (1, [.int 0, .int 0, .int 0, .int 0, .ref h4, .ref h5, .ref h6]))] s.heap := hP
  have hl := lv_entry ([.ref h0, .int x]) (n := 2) (Nat.le_of_ble_eq_true rfl)
  rw [lg_entry_eq]
  generalize (lg_sl ([.ref h0, .int x]) ++ List.replicate (2 - (lg_sl ([.ref h0, .int x])).length) Slot.unset).toArray = ls at hl ⊢
  have hl : lv_has ls 2 [(0, .ref h0), (1, .int x)] := hl
  refine lv_iload_n hx hb dX7_isMediator_0 rfl (lv_at hl 1 rfl) ?_
  refine lv_iconst (v := 0) hx hb dX7_isMediator_1 (by decide) ?_
  refine lv_aload_n hx hb dX7_isMediator_2 rfl (lv_at hl 0 rfl) ?_
  refine va_get (D := (dC, dI)) (ci := 7) (v := .ref h1) (C := RX7) (T := TX7) (N := 5) hx hb hts (by decide +kernel) hown hK hP 0 rfl rfl 0 (by decide) (hts (.fieldLink RX7 12 "QuietStairs" "now" "LQuietStairs$House;") (by decide +kernel)) (fun _ h9 => h9) rfl dX7_isMediator_3 ?_
  refine va_get (D := (dC, dI)) (ci := 1) (v := .int 0) (C := RX1) (T := TX1) (N := 7) hx hb hts (by decide +kernel) hown hK hP 1 rfl rfl 1 (by decide) (hts (.fieldLink RX7 56 "QuietStairs$House" "mediatorCount" "I") (by decide +kernel)) (fun _ h9 => h9) rfl dX7_isMediator_6 ?_
  refine lv_iconst (v := 1) hx hb dX7_isMediator_9 (by decide) ?_
  refine lv_isub hx hb dX7_isMediator_10 ?_
  refine lv_topi (fun x_1 ex_1 => ?_)
  obtain rfl : x_1 = (-1) := ex_1.trans (by decide)
  refine yc_p hP hS (va_runS (As := [.int x, .int 0, .int (-1)]) (rest := []) ⟨hx, hb, hml, hown, hts⟩ (c_X7_isWithin l x 0 (-1)) (cwS 3 hts gX7_isMediator_X7_isWithin rfl rfl rfl (by decide +kernel) ⟨Nat.le_of_ble_eq_true rfl, Nat.le_of_ble_eq_true rfl⟩) ex_preP rfl rfl hl.1 rfl (lv_room (Nat.le_of_ble_eq_true rfl)) dX7_isMediator_11 ⟨Nat.le_of_ble_eq_true rfl, Nat.le_of_ble_eq_true rfl⟩) (fun r_2 H locs hw_2 hP hS => ?_)
  obtain rfl : r_2 = 0 := wi_m1 hw_2
  have hP9 := hP.sub (ws' := []) [] rfl
  have hD9 := hD.sub (ws' := []) [] (by decide) rfl
  exact W.zret (ty := .boolean) (v := 0) hx hb hr rfl (fun t ht hW => ⟨⟨0, (), rfl, rfl, by rw [ht]; exact hP9, hD9⟩, hS.F ht⟩) hS.2.2 dX7_isMediator_14

set_option maxHeartbeats 4000000 in
set_option maxRecDepth 100000 in
theorem c0_X7_isCase (l : Launch) (dC : Nat → ClassId) (dI : Nat → Nat → Nat) (cy : Nat → ClassId) (sz : Nat) (h0 h1 h2 h3 h4 h5 h6 : Nat) (x : Int32) : Met l yX7_isCase wsX7_isCase ({ frames := 1, cells := 0, slots := 0, locals := 64 }) (va_Pc [.ref h0, .int x] (ex_Pre dC dI cy sz [(h0, .inr (7, [.ref h1, .ref h2, .ref h3, .null, .int 1])), (h1, .inr (1, [.int 0, .int 0, .int 0, .int 0, .ref h4, .ref h5, .ref h6]))])) (va_Qi (fun (r : Int32) (u : Unit) => r = 0) (fun u t => ex_Pst dC dI (va_A [(h0, .inr (7, [.ref h1, .ref h2, .ref h3, .null, .int 1])), (h1, .inr (1, [.int 0, .int 0, .int 0, .int 0, .ref h4, .ref h5, .ref h6]))] sz) ([]) t) (va_A [(h0, .inr (7, [.ref h1, .ref h2, .ref h3, .null, .int 1])), (h1, .inr (1, [.int 0, .int 0, .int 0, .int 0, .ref h4, .ref h5, .ref h6]))] sz)) 0 0 (va_A [(h0, .inr (7, [.ref h1, .ref h2, .ref h3, .null, .int 1])), (h1, .inr (1, [.int 0, .int 0, .int 0, .int 0, .ref h4, .ref h5, .ref h6]))] sz) := by
  refine Met.ofW (cc := cX7_isCase) (maxL := 2) (ret := (some .boolean)) (by decide) rfl ?_
  intro p e s m args below meth c s₁ B hml hv
  obtain ⟨rfl, hsz, hE, hP, hK, hD0⟩ := hv
  have hx := B.exec
  have hb := B.bytes
  have hr := B.returns
  have hts := atoms_spec (ws := wsX7_isCase) B.pre
  have hown : s.vm.findClass RX7 = some m.cls := findClass_of_methodNamed B.named
  have hlocks := B.notSynchronized
  subst hsz
  have hD := hD0.self (sz := s.heap.size)
  generalize hAe : va_A [(h0, .inr (7, [.ref h1, .ref h2, .ref h3, .null, .int 1])), (h1, .inr (1, [.int 0, .int 0, .int 0, .int 0, .ref h4, .ref h5, .ref h6]))] s.heap.size = A at hD ⊢
  have hA : ∀ q : Nat, s.heap.size ≤ q → A q := fun q h => by rw [← hAe]; exact Or.inr h
  have hS : va_S A s.heap s.heap [] := va_S.rf
  have hP : va_P (dC, dI) vwCl [(h0, .inr (7, [.ref h1, .ref h2, .ref h3, .null, .int 1])), (h1, .inr (1, [.int 0, .int 0, .int 0, .int 0, .ref h4, .ref h5, .ref h6]))] s.heap := hP
  have hl := lv_entry ([.ref h0, .int x]) (n := 2) (Nat.le_of_ble_eq_true rfl)
  rw [lg_entry_eq]
  generalize (lg_sl ([.ref h0, .int x]) ++ List.replicate (2 - (lg_sl ([.ref h0, .int x])).length) Slot.unset).toArray = ls at hl ⊢
  have hl : lv_has ls 2 [(0, .ref h0), (1, .int x)] := hl
  refine lv_iload_n hx hb dX7_isCase_0 rfl (lv_at hl 1 rfl) ?_
  refine lv_iconst (v := 0) hx hb dX7_isCase_1 (by decide) ?_
  refine lv_aload_n hx hb dX7_isCase_2 rfl (lv_at hl 0 rfl) ?_
  refine va_get (D := (dC, dI)) (ci := 7) (v := .ref h1) (C := RX7) (T := TX7) (N := 5) hx hb hts (by decide +kernel) hown hK hP 0 rfl rfl 0 (by decide) (hts (.fieldLink RX7 12 "QuietStairs" "now" "LQuietStairs$House;") (by decide +kernel)) (fun _ h9 => h9) rfl dX7_isCase_3 ?_
  refine va_get (D := (dC, dI)) (ci := 1) (v := .int 0) (C := RX1) (T := TX1) (N := 7) hx hb hts (by decide +kernel) hown hK hP 1 rfl rfl 2 (by decide) (hts (.fieldLink RX7 83 "QuietStairs$House" "caseCount" "I") (by decide +kernel)) (fun _ h9 => h9) rfl dX7_isCase_6 ?_
  refine lv_iconst (v := 1) hx hb dX7_isCase_9 (by decide) ?_
  refine lv_isub hx hb dX7_isCase_10 ?_
  refine lv_topi (fun x_1 ex_1 => ?_)
  obtain rfl : x_1 = (-1) := ex_1.trans (by decide)
  refine yc_p hP hS (va_runS (As := [.int x, .int 0, .int (-1)]) (rest := []) ⟨hx, hb, hml, hown, hts⟩ (c_X7_isWithin l x 0 (-1)) (cwS 3 hts gX7_isCase_X7_isWithin rfl rfl rfl (by decide +kernel) ⟨Nat.le_of_ble_eq_true rfl, Nat.le_of_ble_eq_true rfl⟩) ex_preP rfl rfl hl.1 rfl (lv_room (Nat.le_of_ble_eq_true rfl)) dX7_isCase_11 ⟨Nat.le_of_ble_eq_true rfl, Nat.le_of_ble_eq_true rfl⟩) (fun r_2 H locs hw_2 hP hS => ?_)
  obtain rfl : r_2 = 0 := wi_m1 hw_2
  have hP9 := hP.sub (ws' := []) [] rfl
  have hD9 := hD.sub (ws' := []) [] (by decide) rfl
  exact W.zret (ty := .boolean) (v := 0) hx hb hr rfl (fun t ht hW => ⟨⟨0, (), rfl, rfl, by rw [ht]; exact hP9, hD9⟩, hS.F ht⟩) hS.2.2 dX7_isCase_14

set_option maxHeartbeats 4000000 in
set_option maxRecDepth 100000 in
theorem c0_X7_isTerm (l : Launch) (dC : Nat → ClassId) (dI : Nat → Nat → Nat) (cy : Nat → ClassId) (sz : Nat) (h0 h1 h2 h3 h4 h5 h6 : Nat) (x y : Int32) : Met l yX7_isTerm wsX7_isTerm ({ frames := 2, cells := 0, slots := 0, locals := 128 }) (va_Pc [.ref h0, .int x, .int y] (ex_Pre dC dI cy sz [(h0, .inr (7, [.ref h1, .ref h2, .ref h3, .null, .int 1])), (h1, .inr (1, [.int 0, .int 0, .int 0, .int 0, .ref h4, .ref h5, .ref h6]))])) (va_Qi (fun (r : Int32) (u : Unit) => r = 0) (fun u t => ex_Pst dC dI (va_A [(h0, .inr (7, [.ref h1, .ref h2, .ref h3, .null, .int 1])), (h1, .inr (1, [.int 0, .int 0, .int 0, .int 0, .ref h4, .ref h5, .ref h6]))] sz) ([]) t) (va_A [(h0, .inr (7, [.ref h1, .ref h2, .ref h3, .null, .int 1])), (h1, .inr (1, [.int 0, .int 0, .int 0, .int 0, .ref h4, .ref h5, .ref h6]))] sz)) 0 0 (va_A [(h0, .inr (7, [.ref h1, .ref h2, .ref h3, .null, .int 1])), (h1, .inr (1, [.int 0, .int 0, .int 0, .int 0, .ref h4, .ref h5, .ref h6]))] sz) := by
  refine Met.ofW (cc := cX7_isTerm) (maxL := 3) (ret := (some .boolean)) (by decide) rfl ?_
  intro p e s m args below meth c s₁ B hml hv
  obtain ⟨rfl, hsz, hE, hP, hK, hD0⟩ := hv
  have hx := B.exec
  have hb := B.bytes
  have hr := B.returns
  have hts := atoms_spec (ws := wsX7_isTerm) B.pre
  have hown : s.vm.findClass RX7 = some m.cls := findClass_of_methodNamed B.named
  have hlocks := B.notSynchronized
  subst hsz
  have hD := hD0.self (sz := s.heap.size)
  generalize hAe : va_A [(h0, .inr (7, [.ref h1, .ref h2, .ref h3, .null, .int 1])), (h1, .inr (1, [.int 0, .int 0, .int 0, .int 0, .ref h4, .ref h5, .ref h6]))] s.heap.size = A at hD ⊢
  have hA : ∀ q : Nat, s.heap.size ≤ q → A q := fun q h => by rw [← hAe]; exact Or.inr h
  have hS : va_S A s.heap s.heap [] := va_S.rf
  have hP : va_P (dC, dI) vwCl [(h0, .inr (7, [.ref h1, .ref h2, .ref h3, .null, .int 1])), (h1, .inr (1, [.int 0, .int 0, .int 0, .int 0, .ref h4, .ref h5, .ref h6]))] s.heap := hP
  have hl := lv_entry ([.ref h0, .int x, .int y]) (n := 3) (Nat.le_of_ble_eq_true rfl)
  rw [lg_entry_eq]
  generalize (lg_sl ([.ref h0, .int x, .int y]) ++ List.replicate (3 - (lg_sl ([.ref h0, .int x, .int y])).length) Slot.unset).toArray = ls at hl ⊢
  have hl : lv_has ls 3 [(0, .ref h0), (1, .int x), (2, .int y)] := hl
  refine lv_aload_n hx hb dX7_isTerm_0 rfl (lv_at hl 0 rfl) ?_
  refine lv_iload_n hx hb dX7_isTerm_1 rfl (lv_at hl 1 rfl) ?_
  refine yc_i (wc := [(h0, .inr (7, [.ref h1, .ref h2, .ref h3, .null, .int 1])), (h1, .inr (1, [.int 0, .int 0, .int 0, .int 0, .ref h4, .ref h5, .ref h6]))]) (wr := []) (w1 := fun _ => []) hP hD hS hA [0, 1] [] rfl rfl (by decide) (by decide) (va_runV (As := [.int x]) (rest := []) ⟨hx, hb, hml, hown, hts⟩ (c0_X7_isCase l dC dI cy _ h0 h1 h2 h3 h4 h5 h6 x) (cwV 1 hts gX7_isTerm_X7_isCase rfl rfl rfl (by decide +kernel) ⟨Nat.le_of_ble_eq_true rfl, Nat.le_of_ble_eq_true rfl⟩) (ex_preV hE hK hP hD [0, 1] (by decide) rfl (ci := 7) (q0 := 0) rfl rfl) rfl rfl hl.1 rfl (lv_room (Nat.le_of_ble_eq_true rfl)) dX7_isTerm_2 ⟨Nat.le_of_ble_eq_true rfl, Nat.le_of_ble_eq_true rfl⟩) (fun r_1 u_1 H locs hw_1 hP hD hS => ?_)
  have hP : va_P (dC, dI) vwCl [] H := hP
  have hD : va_D A [] := hD
  subst hw_1
  refine lv_if_eq (tgt := 34) hx hb dX7_isTerm_5 (by decide) (fun _ => ?_) (fun c9 => absurd c9 (by decide))
  refine lv_iconst (v := 0) hx hb dX7_isTerm_34 (by decide) ?_
  have hP9 := hP.sub (ws' := []) [] rfl
  have hD9 := hD.sub (ws' := []) [] (by decide) rfl
  exact W.zret (ty := .boolean) (v := 0) hx hb hr rfl (fun t ht hW => ⟨⟨0, (), rfl, rfl, by rw [ht]; exact hP9, hD9⟩, hS.F ht⟩) hS.2.2 dX7_isTerm_35

set_option maxHeartbeats 4000000 in
set_option maxRecDepth 100000 in
theorem c0_X7_kin (l : Launch) (dC : Nat → ClassId) (dI : Nat → Nat → Nat) (cy : Nat → ClassId) (sz : Nat) (h0 h1 h2 h3 h4 h5 h6 : Nat) (x0 x1 x2 : Int32) : Met l yX7_kin wsX7_kin ({ frames := 3, cells := 0, slots := 0, locals := 192 }) (va_Pc [.ref h0, .int x0, .int x1, .int x2] (ex_Pre dC dI cy sz [(h0, .inr (7, [.ref h1, .ref h2, .ref h3, .null, .int 1])), (h1, .inr (1, [.int 0, .int 0, .int 0, .int 0, .ref h4, .ref h5, .ref h6]))])) (va_Qi (fun (r : Int32) (u : Unit) => r = -1) (fun u t => ex_Pst dC dI (va_A [(h0, .inr (7, [.ref h1, .ref h2, .ref h3, .null, .int 1])), (h1, .inr (1, [.int 0, .int 0, .int 0, .int 0, .ref h4, .ref h5, .ref h6]))] sz) ([]) t) (va_A [(h0, .inr (7, [.ref h1, .ref h2, .ref h3, .null, .int 1])), (h1, .inr (1, [.int 0, .int 0, .int 0, .int 0, .ref h4, .ref h5, .ref h6]))] sz)) 0 0 (va_A [(h0, .inr (7, [.ref h1, .ref h2, .ref h3, .null, .int 1])), (h1, .inr (1, [.int 0, .int 0, .int 0, .int 0, .ref h4, .ref h5, .ref h6]))] sz) := by
  refine Met.ofW (cc := cX7_kin) (maxL := 5) (ret := (some .int)) (by decide) rfl ?_
  intro p e s m args below meth c s₁ B hml hv
  obtain ⟨rfl, hsz, hE, hP, hK, hD0⟩ := hv
  have hx := B.exec
  have hb := B.bytes
  have hr := B.returns
  have hts := atoms_spec (ws := wsX7_kin) B.pre
  have hown : s.vm.findClass RX7 = some m.cls := findClass_of_methodNamed B.named
  have hlocks := B.notSynchronized
  subst hsz
  have hD := hD0.self (sz := s.heap.size)
  generalize hAe : va_A [(h0, .inr (7, [.ref h1, .ref h2, .ref h3, .null, .int 1])), (h1, .inr (1, [.int 0, .int 0, .int 0, .int 0, .ref h4, .ref h5, .ref h6]))] s.heap.size = A at hD ⊢
  have hA : ∀ q : Nat, s.heap.size ≤ q → A q := fun q h => by rw [← hAe]; exact Or.inr h
  have hS : va_S A s.heap s.heap [] := va_S.rf
  have hP : va_P (dC, dI) vwCl [(h0, .inr (7, [.ref h1, .ref h2, .ref h3, .null, .int 1])), (h1, .inr (1, [.int 0, .int 0, .int 0, .int 0, .ref h4, .ref h5, .ref h6]))] s.heap := hP
  have hl := lv_entry ([.ref h0, .int x0, .int x1, .int x2]) (n := 5) (Nat.le_of_ble_eq_true rfl)
  rw [lg_entry_eq]
  generalize (lg_sl ([.ref h0, .int x0, .int x1, .int x2]) ++ List.replicate (5 - (lg_sl ([.ref h0, .int x0, .int x1, .int x2])).length) Slot.unset).toArray = ls at hl ⊢
  have hl : lv_has ls 5 [(0, .ref h0), (1, .int x0), (2, .int x1), (3, .int x2)] := hl
  refine lv_aload_n hx hb dX7_kin_0 rfl (lv_at hl 0 rfl) ?_
  refine lv_iload_n hx hb dX7_kin_1 rfl (lv_at hl 1 rfl) ?_
  refine yc_i (wc := [(h0, .inr (7, [.ref h1, .ref h2, .ref h3, .null, .int 1])), (h1, .inr (1, [.int 0, .int 0, .int 0, .int 0, .ref h4, .ref h5, .ref h6]))]) (wr := []) (w1 := fun _ => []) hP hD hS hA [0, 1] [] rfl rfl (by decide) (by decide) (va_runV (As := [.int x0]) (rest := []) ⟨hx, hb, hml, hown, hts⟩ (c0_X7_isMediator l dC dI cy _ h0 h1 h2 h3 h4 h5 h6 x0) (cwV 1 hts gX7_kin_X7_isMediator rfl rfl rfl (by decide +kernel) ⟨Nat.le_of_ble_eq_true rfl, Nat.le_of_ble_eq_true rfl⟩) (ex_preV hE hK hP hD [0, 1] (by decide) rfl (ci := 7) (q0 := 0) rfl rfl) rfl rfl hl.1 rfl (lv_room (Nat.le_of_ble_eq_true rfl)) dX7_kin_2 ⟨Nat.le_of_ble_eq_true rfl, Nat.le_of_ble_eq_true rfl⟩) (fun r_1 u_1 H locs hw_1 hP hD hS => ?_)
  have hP : va_P (dC, dI) vwCl [] H := hP
  have hD : va_D A [] := hD
  subst hw_1
  refine lv_if_eq (tgt := 16) hx hb dX7_kin_5 (by decide) (fun _ => ?_) (fun c9 => absurd c9 (by decide))
  refine lv_iconst (v := (-1)) hx hb dX7_kin_16 (by decide) ?_
  have hP9 := hP.sub (ws' := []) [] rfl
  have hD9 := hD.sub (ws' := []) [] (by decide) rfl
  exact W.iret (v := (-1)) hx hb hr (fun t ht hW => ⟨⟨(-1), (), rfl, rfl, by rw [ht]; exact hP9, hD9⟩, hS.F ht⟩) hS.2.2 dX7_kin_17

set_option maxHeartbeats 4000000 in
set_option maxRecDepth 100000 in
theorem c0_X7_open (l : Launch) (dC : Nat → ClassId) (dI : Nat → Nat → Nat) (cy : Nat → ClassId) (sz : Nat) (h0 h1 h2 h3 h4 h5 h6 : Nat) (x0 x1 : Int32) : Met l yX7_open wsX7_open ({ frames := 3, cells := 0, slots := 0, locals := 192 }) (va_Pc [.ref h0, .int x0, .int x1] (ex_Pre dC dI cy sz [(h0, .inr (7, [.ref h1, .ref h2, .ref h3, .null, .int 1])), (h1, .inr (1, [.int 0, .int 0, .int 0, .int 0, .ref h4, .ref h5, .ref h6]))])) (va_Qi (fun (r : Int32) (u : Unit) => r = -1) (fun u t => ex_Pst dC dI (va_A [(h0, .inr (7, [.ref h1, .ref h2, .ref h3, .null, .int 1])), (h1, .inr (1, [.int 0, .int 0, .int 0, .int 0, .ref h4, .ref h5, .ref h6]))] sz) ([]) t) (va_A [(h0, .inr (7, [.ref h1, .ref h2, .ref h3, .null, .int 1])), (h1, .inr (1, [.int 0, .int 0, .int 0, .int 0, .ref h4, .ref h5, .ref h6]))] sz)) 0 0 (va_A [(h0, .inr (7, [.ref h1, .ref h2, .ref h3, .null, .int 1])), (h1, .inr (1, [.int 0, .int 0, .int 0, .int 0, .ref h4, .ref h5, .ref h6]))] sz) := by
  refine Met.ofW (cc := cX7_open) (maxL := 3) (ret := (some .int)) (by decide) rfl ?_
  intro p e s m args below meth c s₁ B hml hv
  obtain ⟨rfl, hsz, hE, hP, hK, hD0⟩ := hv
  have hx := B.exec
  have hb := B.bytes
  have hr := B.returns
  have hts := atoms_spec (ws := wsX7_open) B.pre
  have hown : s.vm.findClass RX7 = some m.cls := findClass_of_methodNamed B.named
  have hlocks := B.notSynchronized
  subst hsz
  have hD := hD0.self (sz := s.heap.size)
  generalize hAe : va_A [(h0, .inr (7, [.ref h1, .ref h2, .ref h3, .null, .int 1])), (h1, .inr (1, [.int 0, .int 0, .int 0, .int 0, .ref h4, .ref h5, .ref h6]))] s.heap.size = A at hD ⊢
  have hA : ∀ q : Nat, s.heap.size ≤ q → A q := fun q h => by rw [← hAe]; exact Or.inr h
  have hS : va_S A s.heap s.heap [] := va_S.rf
  have hP : va_P (dC, dI) vwCl [(h0, .inr (7, [.ref h1, .ref h2, .ref h3, .null, .int 1])), (h1, .inr (1, [.int 0, .int 0, .int 0, .int 0, .ref h4, .ref h5, .ref h6]))] s.heap := hP
  have hl := lv_entry ([.ref h0, .int x0, .int x1]) (n := 3) (Nat.le_of_ble_eq_true rfl)
  rw [lg_entry_eq]
  generalize (lg_sl ([.ref h0, .int x0, .int x1]) ++ List.replicate (3 - (lg_sl ([.ref h0, .int x0, .int x1])).length) Slot.unset).toArray = ls at hl ⊢
  have hl : lv_has ls 3 [(0, .ref h0), (1, .int x0), (2, .int x1)] := hl
  refine lv_aload_n hx hb dX7_open_0 rfl (lv_at hl 0 rfl) ?_
  refine lv_iload_n hx hb dX7_open_1 rfl (lv_at hl 1 rfl) ?_
  refine yc_i (wc := [(h0, .inr (7, [.ref h1, .ref h2, .ref h3, .null, .int 1])), (h1, .inr (1, [.int 0, .int 0, .int 0, .int 0, .ref h4, .ref h5, .ref h6]))]) (wr := []) (w1 := fun _ => []) hP hD hS hA [0, 1] [] rfl rfl (by decide) (by decide) (va_runV (As := [.int x0]) (rest := []) ⟨hx, hb, hml, hown, hts⟩ (c0_X7_isParty l dC dI cy _ h0 h1 h2 h3 h4 h5 h6 x0) (cwV 1 hts gX7_open_X7_isParty rfl rfl rfl (by decide +kernel) ⟨Nat.le_of_ble_eq_true rfl, Nat.le_of_ble_eq_true rfl⟩) (ex_preV hE hK hP hD [0, 1] (by decide) rfl (ci := 7) (q0 := 0) rfl rfl) rfl rfl hl.1 rfl (lv_room (Nat.le_of_ble_eq_true rfl)) dX7_open_2 ⟨Nat.le_of_ble_eq_true rfl, Nat.le_of_ble_eq_true rfl⟩) (fun r_1 u_1 H locs hw_1 hP hD hS => ?_)
  have hP : va_P (dC, dI) vwCl [] H := hP
  have hD : va_D A [] := hD
  subst hw_1
  refine lv_if_eq (tgt := 21) hx hb dX7_open_5 (by decide) (fun _ => ?_) (fun c9 => absurd c9 (by decide))
  refine lv_iconst (v := (-1)) hx hb dX7_open_21 (by decide) ?_
  have hP9 := hP.sub (ws' := []) [] rfl
  have hD9 := hD.sub (ws' := []) [] (by decide) rfl
  exact W.iret (v := (-1)) hx hb hr (fun t ht hW => ⟨⟨(-1), (), rfl, rfl, by rw [ht]; exact hP9, hD9⟩, hS.F ht⟩) hS.2.2 dX7_open_22

set_option maxHeartbeats 4000000 in
set_option maxRecDepth 100000 in
theorem c0_X7_close (l : Launch) (dC : Nat → ClassId) (dI : Nat → Nat → Nat) (cy : Nat → ClassId) (sz : Nat) (h0 h1 h2 h3 h4 h5 h6 : Nat) (x0 : Int32) : Met l yX7_close wsX7_close ({ frames := 3, cells := 0, slots := 0, locals := 192 }) (va_Pc [.ref h0, .int x0] (ex_Pre dC dI cy sz [(h0, .inr (7, [.ref h1, .ref h2, .ref h3, .null, .int 1])), (h1, .inr (1, [.int 0, .int 0, .int 0, .int 0, .ref h4, .ref h5, .ref h6]))])) (va_Qi (fun (r : Int32) (u : Unit) => r = -1) (fun u t => ex_Pst dC dI (va_A [(h0, .inr (7, [.ref h1, .ref h2, .ref h3, .null, .int 1])), (h1, .inr (1, [.int 0, .int 0, .int 0, .int 0, .ref h4, .ref h5, .ref h6]))] sz) ([]) t) (va_A [(h0, .inr (7, [.ref h1, .ref h2, .ref h3, .null, .int 1])), (h1, .inr (1, [.int 0, .int 0, .int 0, .int 0, .ref h4, .ref h5, .ref h6]))] sz)) 0 0 (va_A [(h0, .inr (7, [.ref h1, .ref h2, .ref h3, .null, .int 1])), (h1, .inr (1, [.int 0, .int 0, .int 0, .int 0, .ref h4, .ref h5, .ref h6]))] sz) := by
  refine Met.ofW (cc := cX7_close) (maxL := 2) (ret := (some .int)) (by decide) rfl ?_
  intro p e s m args below meth c s₁ B hml hv
  obtain ⟨rfl, hsz, hE, hP, hK, hD0⟩ := hv
  have hx := B.exec
  have hb := B.bytes
  have hr := B.returns
  have hts := atoms_spec (ws := wsX7_close) B.pre
  have hown : s.vm.findClass RX7 = some m.cls := findClass_of_methodNamed B.named
  have hlocks := B.notSynchronized
  subst hsz
  have hD := hD0.self (sz := s.heap.size)
  generalize hAe : va_A [(h0, .inr (7, [.ref h1, .ref h2, .ref h3, .null, .int 1])), (h1, .inr (1, [.int 0, .int 0, .int 0, .int 0, .ref h4, .ref h5, .ref h6]))] s.heap.size = A at hD ⊢
  have hA : ∀ q : Nat, s.heap.size ≤ q → A q := fun q h => by rw [← hAe]; exact Or.inr h
  have hS : va_S A s.heap s.heap [] := va_S.rf
  have hP : va_P (dC, dI) vwCl [(h0, .inr (7, [.ref h1, .ref h2, .ref h3, .null, .int 1])), (h1, .inr (1, [.int 0, .int 0, .int 0, .int 0, .ref h4, .ref h5, .ref h6]))] s.heap := hP
  have hl := lv_entry ([.ref h0, .int x0]) (n := 2) (Nat.le_of_ble_eq_true rfl)
  rw [lg_entry_eq]
  generalize (lg_sl ([.ref h0, .int x0]) ++ List.replicate (2 - (lg_sl ([.ref h0, .int x0])).length) Slot.unset).toArray = ls at hl ⊢
  have hl : lv_has ls 2 [(0, .ref h0), (1, .int x0)] := hl
  refine lv_aload_n hx hb dX7_close_0 rfl (lv_at hl 0 rfl) ?_
  refine lv_iload_n hx hb dX7_close_1 rfl (lv_at hl 1 rfl) ?_
  refine yc_i (wc := [(h0, .inr (7, [.ref h1, .ref h2, .ref h3, .null, .int 1])), (h1, .inr (1, [.int 0, .int 0, .int 0, .int 0, .ref h4, .ref h5, .ref h6]))]) (wr := []) (w1 := fun _ => []) hP hD hS hA [0, 1] [] rfl rfl (by decide) (by decide) (va_runV (As := [.int x0]) (rest := []) ⟨hx, hb, hml, hown, hts⟩ (c0_X7_isCase l dC dI cy _ h0 h1 h2 h3 h4 h5 h6 x0) (cwV 1 hts gX7_close_X7_isCase rfl rfl rfl (by decide +kernel) ⟨Nat.le_of_ble_eq_true rfl, Nat.le_of_ble_eq_true rfl⟩) (ex_preV hE hK hP hD [0, 1] (by decide) rfl (ci := 7) (q0 := 0) rfl rfl) rfl rfl hl.1 rfl (lv_room (Nat.le_of_ble_eq_true rfl)) dX7_close_2 ⟨Nat.le_of_ble_eq_true rfl, Nat.le_of_ble_eq_true rfl⟩) (fun r_1 u_1 H locs hw_1 hP hD hS => ?_)
  have hP : va_P (dC, dI) vwCl [] H := hP
  have hD : va_D A [] := hD
  subst hw_1
  refine lv_if_ne (tgt := 10) hx hb dX7_close_5 (by decide) (fun c9 => absurd c9 (by decide)) (fun _ => ?_)
  refine lv_iconst (v := (-1)) hx hb dX7_close_8 (by decide) ?_
  have hP9 := hP.sub (ws' := []) [] rfl
  have hD9 := hD.sub (ws' := []) [] (by decide) rfl
  exact W.iret (v := (-1)) hx hb hr (fun t ht hW => ⟨⟨(-1), (), rfl, rfl, by rw [ht]; exact hP9, hD9⟩, hS.F ht⟩) hS.2.2 dX7_close_9

set_option maxHeartbeats 4000000 in
set_option maxRecDepth 100000 in
theorem c0_X7_weight (l : Launch) (dC : Nat → ClassId) (dI : Nat → Nat → Nat) (cy : Nat → ClassId) (sz : Nat) (h0 h1 h2 h3 h4 h5 h6 : Nat) (x0 x1 : Int32) : Met l yX7_weight wsX7_weight ({ frames := 3, cells := 0, slots := 0, locals := 192 }) (va_Pc [.ref h0, .int x0, .int x1] (ex_Pre dC dI cy sz [(h0, .inr (7, [.ref h1, .ref h2, .ref h3, .null, .int 1])), (h1, .inr (1, [.int 0, .int 0, .int 0, .int 0, .ref h4, .ref h5, .ref h6]))])) (va_Qi (fun (r : Int32) (u : Unit) => r = -1) (fun u t => ex_Pst dC dI (va_A [(h0, .inr (7, [.ref h1, .ref h2, .ref h3, .null, .int 1])), (h1, .inr (1, [.int 0, .int 0, .int 0, .int 0, .ref h4, .ref h5, .ref h6]))] sz) ([]) t) (va_A [(h0, .inr (7, [.ref h1, .ref h2, .ref h3, .null, .int 1])), (h1, .inr (1, [.int 0, .int 0, .int 0, .int 0, .ref h4, .ref h5, .ref h6]))] sz)) 0 0 (va_A [(h0, .inr (7, [.ref h1, .ref h2, .ref h3, .null, .int 1])), (h1, .inr (1, [.int 0, .int 0, .int 0, .int 0, .ref h4, .ref h5, .ref h6]))] sz) := by
  refine Met.ofW (cc := cX7_weight) (maxL := 4) (ret := (some .int)) (by decide) rfl ?_
  intro p e s m args below meth c s₁ B hml hv
  obtain ⟨rfl, hsz, hE, hP, hK, hD0⟩ := hv
  have hx := B.exec
  have hb := B.bytes
  have hr := B.returns
  have hts := atoms_spec (ws := wsX7_weight) B.pre
  have hown : s.vm.findClass RX7 = some m.cls := findClass_of_methodNamed B.named
  have hlocks := B.notSynchronized
  subst hsz
  have hD := hD0.self (sz := s.heap.size)
  generalize hAe : va_A [(h0, .inr (7, [.ref h1, .ref h2, .ref h3, .null, .int 1])), (h1, .inr (1, [.int 0, .int 0, .int 0, .int 0, .ref h4, .ref h5, .ref h6]))] s.heap.size = A at hD ⊢
  have hA : ∀ q : Nat, s.heap.size ≤ q → A q := fun q h => by rw [← hAe]; exact Or.inr h
  have hS : va_S A s.heap s.heap [] := va_S.rf
  have hP : va_P (dC, dI) vwCl [(h0, .inr (7, [.ref h1, .ref h2, .ref h3, .null, .int 1])), (h1, .inr (1, [.int 0, .int 0, .int 0, .int 0, .ref h4, .ref h5, .ref h6]))] s.heap := hP
  have hl := lv_entry ([.ref h0, .int x0, .int x1]) (n := 4) (Nat.le_of_ble_eq_true rfl)
  rw [lg_entry_eq]
  generalize (lg_sl ([.ref h0, .int x0, .int x1]) ++ List.replicate (4 - (lg_sl ([.ref h0, .int x0, .int x1])).length) Slot.unset).toArray = ls at hl ⊢
  have hl : lv_has ls 4 [(0, .ref h0), (1, .int x0), (2, .int x1)] := hl
  refine lv_aload_n hx hb dX7_weight_0 rfl (lv_at hl 0 rfl) ?_
  refine lv_iload_n hx hb dX7_weight_1 rfl (lv_at hl 1 rfl) ?_
  refine yc_i (wc := [(h0, .inr (7, [.ref h1, .ref h2, .ref h3, .null, .int 1])), (h1, .inr (1, [.int 0, .int 0, .int 0, .int 0, .ref h4, .ref h5, .ref h6]))]) (wr := []) (w1 := fun _ => []) hP hD hS hA [0, 1] [] rfl rfl (by decide) (by decide) (va_runV (As := [.int x0]) (rest := []) ⟨hx, hb, hml, hown, hts⟩ (c0_X7_isCase l dC dI cy _ h0 h1 h2 h3 h4 h5 h6 x0) (cwV 1 hts gX7_weight_X7_isCase rfl rfl rfl (by decide +kernel) ⟨Nat.le_of_ble_eq_true rfl, Nat.le_of_ble_eq_true rfl⟩) (ex_preV hE hK hP hD [0, 1] (by decide) rfl (ci := 7) (q0 := 0) rfl rfl) rfl rfl hl.1 rfl (lv_room (Nat.le_of_ble_eq_true rfl)) dX7_weight_2 ⟨Nat.le_of_ble_eq_true rfl, Nat.le_of_ble_eq_true rfl⟩) (fun r_1 u_1 H locs hw_1 hP hD hS => ?_)
  have hP : va_P (dC, dI) vwCl [] H := hP
  have hD : va_D A [] := hD
  subst hw_1
  refine lv_if_eq (tgt := 18) hx hb dX7_weight_5 (by decide) (fun _ => ?_) (fun c9 => absurd c9 (by decide))
  refine lv_iconst (v := (-1)) hx hb dX7_weight_18 (by decide) ?_
  have hP9 := hP.sub (ws' := []) [] rfl
  have hD9 := hD.sub (ws' := []) [] (by decide) rfl
  exact W.iret (v := (-1)) hx hb hr (fun t ht hW => ⟨⟨(-1), (), rfl, rfl, by rw [ht]; exact hP9, hD9⟩, hS.F ht⟩) hS.2.2 dX7_weight_19

set_option maxHeartbeats 4000000 in
set_option maxRecDepth 100000 in
theorem c0_X7_mark (l : Launch) (dC : Nat → ClassId) (dI : Nat → Nat → Nat) (cy : Nat → ClassId) (sz : Nat) (h0 h1 h2 h3 h4 h5 h6 : Nat) (x0 x1 : Int32) : Met l yX7_mark wsX7_mark ({ frames := 3, cells := 0, slots := 0, locals := 192 }) (va_Pc [.ref h0, .int x0, .int x1] (ex_Pre dC dI cy sz [(h0, .inr (7, [.ref h1, .ref h2, .ref h3, .null, .int 1])), (h1, .inr (1, [.int 0, .int 0, .int 0, .int 0, .ref h4, .ref h5, .ref h6]))])) (va_Qi (fun (r : Int32) (u : Unit) => r = -1) (fun u t => ex_Pst dC dI (va_A [(h0, .inr (7, [.ref h1, .ref h2, .ref h3, .null, .int 1])), (h1, .inr (1, [.int 0, .int 0, .int 0, .int 0, .ref h4, .ref h5, .ref h6]))] sz) ([]) t) (va_A [(h0, .inr (7, [.ref h1, .ref h2, .ref h3, .null, .int 1])), (h1, .inr (1, [.int 0, .int 0, .int 0, .int 0, .ref h4, .ref h5, .ref h6]))] sz)) 0 0 (va_A [(h0, .inr (7, [.ref h1, .ref h2, .ref h3, .null, .int 1])), (h1, .inr (1, [.int 0, .int 0, .int 0, .int 0, .ref h4, .ref h5, .ref h6]))] sz) := by
  refine Met.ofW (cc := cX7_mark) (maxL := 3) (ret := (some .int)) (by decide) rfl ?_
  intro p e s m args below meth c s₁ B hml hv
  obtain ⟨rfl, hsz, hE, hP, hK, hD0⟩ := hv
  have hx := B.exec
  have hb := B.bytes
  have hr := B.returns
  have hts := atoms_spec (ws := wsX7_mark) B.pre
  have hown : s.vm.findClass RX7 = some m.cls := findClass_of_methodNamed B.named
  have hlocks := B.notSynchronized
  subst hsz
  have hD := hD0.self (sz := s.heap.size)
  generalize hAe : va_A [(h0, .inr (7, [.ref h1, .ref h2, .ref h3, .null, .int 1])), (h1, .inr (1, [.int 0, .int 0, .int 0, .int 0, .ref h4, .ref h5, .ref h6]))] s.heap.size = A at hD ⊢
  have hA : ∀ q : Nat, s.heap.size ≤ q → A q := fun q h => by rw [← hAe]; exact Or.inr h
  have hS : va_S A s.heap s.heap [] := va_S.rf
  have hP : va_P (dC, dI) vwCl [(h0, .inr (7, [.ref h1, .ref h2, .ref h3, .null, .int 1])), (h1, .inr (1, [.int 0, .int 0, .int 0, .int 0, .ref h4, .ref h5, .ref h6]))] s.heap := hP
  have hl := lv_entry ([.ref h0, .int x0, .int x1]) (n := 3) (Nat.le_of_ble_eq_true rfl)
  rw [lg_entry_eq]
  generalize (lg_sl ([.ref h0, .int x0, .int x1]) ++ List.replicate (3 - (lg_sl ([.ref h0, .int x0, .int x1])).length) Slot.unset).toArray = ls at hl ⊢
  have hl : lv_has ls 3 [(0, .ref h0), (1, .int x0), (2, .int x1)] := hl
  refine lv_aload_n hx hb dX7_mark_0 rfl (lv_at hl 0 rfl) ?_
  refine lv_iload_n hx hb dX7_mark_1 rfl (lv_at hl 1 rfl) ?_
  refine yc_i (wc := [(h0, .inr (7, [.ref h1, .ref h2, .ref h3, .null, .int 1])), (h1, .inr (1, [.int 0, .int 0, .int 0, .int 0, .ref h4, .ref h5, .ref h6]))]) (wr := []) (w1 := fun _ => []) hP hD hS hA [0, 1] [] rfl rfl (by decide) (by decide) (va_runV (As := [.int x0]) (rest := []) ⟨hx, hb, hml, hown, hts⟩ (c0_X7_isCase l dC dI cy _ h0 h1 h2 h3 h4 h5 h6 x0) (cwV 1 hts gX7_mark_X7_isCase rfl rfl rfl (by decide +kernel) ⟨Nat.le_of_ble_eq_true rfl, Nat.le_of_ble_eq_true rfl⟩) (ex_preV hE hK hP hD [0, 1] (by decide) rfl (ci := 7) (q0 := 0) rfl rfl) rfl rfl hl.1 rfl (lv_room (Nat.le_of_ble_eq_true rfl)) dX7_mark_2 ⟨Nat.le_of_ble_eq_true rfl, Nat.le_of_ble_eq_true rfl⟩) (fun r_1 u_1 H locs hw_1 hP hD hS => ?_)
  have hP : va_P (dC, dI) vwCl [] H := hP
  have hD : va_D A [] := hD
  subst hw_1
  refine lv_if_eq (tgt := 21) hx hb dX7_mark_5 (by decide) (fun _ => ?_) (fun c9 => absurd c9 (by decide))
  refine lv_iconst (v := (-1)) hx hb dX7_mark_21 (by decide) ?_
  have hP9 := hP.sub (ws' := []) [] rfl
  have hD9 := hD.sub (ws' := []) [] (by decide) rfl
  exact W.iret (v := (-1)) hx hb hr (fun t ht hW => ⟨⟨(-1), (), rfl, rfl, by rw [ht]; exact hP9, hD9⟩, hS.F ht⟩) hS.2.2 dX7_mark_22

set_option maxHeartbeats 4000000 in
set_option maxRecDepth 100000 in
theorem c0_X7_of (l : Launch) (dC : Nat → ClassId) (dI : Nat → Nat → Nat) (cy : Nat → ClassId) (sz : Nat) (h0 h1 h2 h3 h4 h5 h6 : Nat) (x0 x1 : Int32) : Met l yX7_of wsX7_of ({ frames := 3, cells := 0, slots := 0, locals := 192 }) (va_Pc [.ref h0, .int x0, .int x1] (ex_Pre dC dI cy sz [(h0, .inr (7, [.ref h1, .ref h2, .ref h3, .null, .int 1])), (h1, .inr (1, [.int 0, .int 0, .int 0, .int 0, .ref h4, .ref h5, .ref h6]))])) (va_Qi (fun (r : Int32) (u : Unit) => r = -1) (fun u t => ex_Pst dC dI (va_A [(h0, .inr (7, [.ref h1, .ref h2, .ref h3, .null, .int 1])), (h1, .inr (1, [.int 0, .int 0, .int 0, .int 0, .ref h4, .ref h5, .ref h6]))] sz) ([]) t) (va_A [(h0, .inr (7, [.ref h1, .ref h2, .ref h3, .null, .int 1])), (h1, .inr (1, [.int 0, .int 0, .int 0, .int 0, .ref h4, .ref h5, .ref h6]))] sz)) 0 0 (va_A [(h0, .inr (7, [.ref h1, .ref h2, .ref h3, .null, .int 1])), (h1, .inr (1, [.int 0, .int 0, .int 0, .int 0, .ref h4, .ref h5, .ref h6]))] sz) := by
  refine Met.ofW (cc := cX7_of) (maxL := 4) (ret := (some .int)) (by decide) rfl ?_
  intro p e s m args below meth c s₁ B hml hv
  obtain ⟨rfl, hsz, hE, hP, hK, hD0⟩ := hv
  have hx := B.exec
  have hb := B.bytes
  have hr := B.returns
  have hts := atoms_spec (ws := wsX7_of) B.pre
  have hown : s.vm.findClass RX7 = some m.cls := findClass_of_methodNamed B.named
  have hlocks := B.notSynchronized
  subst hsz
  have hD := hD0.self (sz := s.heap.size)
  generalize hAe : va_A [(h0, .inr (7, [.ref h1, .ref h2, .ref h3, .null, .int 1])), (h1, .inr (1, [.int 0, .int 0, .int 0, .int 0, .ref h4, .ref h5, .ref h6]))] s.heap.size = A at hD ⊢
  have hA : ∀ q : Nat, s.heap.size ≤ q → A q := fun q h => by rw [← hAe]; exact Or.inr h
  have hS : va_S A s.heap s.heap [] := va_S.rf
  have hP : va_P (dC, dI) vwCl [(h0, .inr (7, [.ref h1, .ref h2, .ref h3, .null, .int 1])), (h1, .inr (1, [.int 0, .int 0, .int 0, .int 0, .ref h4, .ref h5, .ref h6]))] s.heap := hP
  have hl := lv_entry ([.ref h0, .int x0, .int x1]) (n := 4) (Nat.le_of_ble_eq_true rfl)
  rw [lg_entry_eq]
  generalize (lg_sl ([.ref h0, .int x0, .int x1]) ++ List.replicate (4 - (lg_sl ([.ref h0, .int x0, .int x1])).length) Slot.unset).toArray = ls at hl ⊢
  have hl : lv_has ls 4 [(0, .ref h0), (1, .int x0), (2, .int x1)] := hl
  refine lv_aload_n hx hb dX7_of_0 rfl (lv_at hl 0 rfl) ?_
  refine lv_iload_n hx hb dX7_of_1 rfl (lv_at hl 1 rfl) ?_
  refine yc_i (wc := [(h0, .inr (7, [.ref h1, .ref h2, .ref h3, .null, .int 1])), (h1, .inr (1, [.int 0, .int 0, .int 0, .int 0, .ref h4, .ref h5, .ref h6]))]) (wr := []) (w1 := fun _ => []) hP hD hS hA [0, 1] [] rfl rfl (by decide) (by decide) (va_runV (As := [.int x0]) (rest := []) ⟨hx, hb, hml, hown, hts⟩ (c0_X7_isCase l dC dI cy _ h0 h1 h2 h3 h4 h5 h6 x0) (cwV 1 hts gX7_of_X7_isCase rfl rfl rfl (by decide +kernel) ⟨Nat.le_of_ble_eq_true rfl, Nat.le_of_ble_eq_true rfl⟩) (ex_preV hE hK hP hD [0, 1] (by decide) rfl (ci := 7) (q0 := 0) rfl rfl) rfl rfl hl.1 rfl (lv_room (Nat.le_of_ble_eq_true rfl)) dX7_of_2 ⟨Nat.le_of_ble_eq_true rfl, Nat.le_of_ble_eq_true rfl⟩) (fun r_1 u_1 H locs hw_1 hP hD hS => ?_)
  have hP : va_P (dC, dI) vwCl [] H := hP
  have hD : va_D A [] := hD
  subst hw_1
  refine lv_if_ne (tgt := 10) hx hb dX7_of_5 (by decide) (fun c9 => absurd c9 (by decide)) (fun _ => ?_)
  refine lv_iconst (v := (-1)) hx hb dX7_of_8 (by decide) ?_
  have hP9 := hP.sub (ws' := []) [] rfl
  have hD9 := hD.sub (ws' := []) [] (by decide) rfl
  exact W.iret (v := (-1)) hx hb hr (fun t ht hW => ⟨⟨(-1), (), rfl, rfl, by rw [ht]; exact hP9, hD9⟩, hS.F ht⟩) hS.2.2 dX7_of_9

set_option maxHeartbeats 4000000 in
set_option maxRecDepth 100000 in
theorem c0_X7_offer (l : Launch) (dC : Nat → ClassId) (dI : Nat → Nat → Nat) (cy : Nat → ClassId) (sz : Nat) (h0 h1 h2 h3 h4 h5 h6 : Nat) (x0 x1 x2 : Int32) : Met l yX7_offer wsX7_offer ({ frames := 3, cells := 0, slots := 0, locals := 192 }) (va_Pc [.ref h0, .int x0, .int x1, .int x2] (ex_Pre dC dI cy sz [(h0, .inr (7, [.ref h1, .ref h2, .ref h3, .null, .int 1])), (h1, .inr (1, [.int 0, .int 0, .int 0, .int 0, .ref h4, .ref h5, .ref h6]))])) (va_Qi (fun (r : Int32) (u : Unit) => r = -1) (fun u t => ex_Pst dC dI (va_A [(h0, .inr (7, [.ref h1, .ref h2, .ref h3, .null, .int 1])), (h1, .inr (1, [.int 0, .int 0, .int 0, .int 0, .ref h4, .ref h5, .ref h6]))] sz) ([]) t) (va_A [(h0, .inr (7, [.ref h1, .ref h2, .ref h3, .null, .int 1])), (h1, .inr (1, [.int 0, .int 0, .int 0, .int 0, .ref h4, .ref h5, .ref h6]))] sz)) 0 0 (va_A [(h0, .inr (7, [.ref h1, .ref h2, .ref h3, .null, .int 1])), (h1, .inr (1, [.int 0, .int 0, .int 0, .int 0, .ref h4, .ref h5, .ref h6]))] sz) := by
  refine Met.ofW (cc := cX7_offer) (maxL := 5) (ret := (some .int)) (by decide) rfl ?_
  intro p e s m args below meth c s₁ B hml hv
  obtain ⟨rfl, hsz, hE, hP, hK, hD0⟩ := hv
  have hx := B.exec
  have hb := B.bytes
  have hr := B.returns
  have hts := atoms_spec (ws := wsX7_offer) B.pre
  have hown : s.vm.findClass RX7 = some m.cls := findClass_of_methodNamed B.named
  have hlocks := B.notSynchronized
  subst hsz
  have hD := hD0.self (sz := s.heap.size)
  generalize hAe : va_A [(h0, .inr (7, [.ref h1, .ref h2, .ref h3, .null, .int 1])), (h1, .inr (1, [.int 0, .int 0, .int 0, .int 0, .ref h4, .ref h5, .ref h6]))] s.heap.size = A at hD ⊢
  have hA : ∀ q : Nat, s.heap.size ≤ q → A q := fun q h => by rw [← hAe]; exact Or.inr h
  have hS : va_S A s.heap s.heap [] := va_S.rf
  have hP : va_P (dC, dI) vwCl [(h0, .inr (7, [.ref h1, .ref h2, .ref h3, .null, .int 1])), (h1, .inr (1, [.int 0, .int 0, .int 0, .int 0, .ref h4, .ref h5, .ref h6]))] s.heap := hP
  have hl := lv_entry ([.ref h0, .int x0, .int x1, .int x2]) (n := 5) (Nat.le_of_ble_eq_true rfl)
  rw [lg_entry_eq]
  generalize (lg_sl ([.ref h0, .int x0, .int x1, .int x2]) ++ List.replicate (5 - (lg_sl ([.ref h0, .int x0, .int x1, .int x2])).length) Slot.unset).toArray = ls at hl ⊢
  have hl : lv_has ls 5 [(0, .ref h0), (1, .int x0), (2, .int x1), (3, .int x2)] := hl
  refine lv_aload_n hx hb dX7_offer_0 rfl (lv_at hl 0 rfl) ?_
  refine lv_iload_n hx hb dX7_offer_1 rfl (lv_at hl 1 rfl) ?_
  refine yc_i (wc := [(h0, .inr (7, [.ref h1, .ref h2, .ref h3, .null, .int 1])), (h1, .inr (1, [.int 0, .int 0, .int 0, .int 0, .ref h4, .ref h5, .ref h6]))]) (wr := []) (w1 := fun _ => []) hP hD hS hA [0, 1] [] rfl rfl (by decide) (by decide) (va_runV (As := [.int x0]) (rest := []) ⟨hx, hb, hml, hown, hts⟩ (c0_X7_isCase l dC dI cy _ h0 h1 h2 h3 h4 h5 h6 x0) (cwV 1 hts gX7_offer_X7_isCase rfl rfl rfl (by decide +kernel) ⟨Nat.le_of_ble_eq_true rfl, Nat.le_of_ble_eq_true rfl⟩) (ex_preV hE hK hP hD [0, 1] (by decide) rfl (ci := 7) (q0 := 0) rfl rfl) rfl rfl hl.1 rfl (lv_room (Nat.le_of_ble_eq_true rfl)) dX7_offer_2 ⟨Nat.le_of_ble_eq_true rfl, Nat.le_of_ble_eq_true rfl⟩) (fun r_1 u_1 H locs hw_1 hP hD hS => ?_)
  have hP : va_P (dC, dI) vwCl [] H := hP
  have hD : va_D A [] := hD
  subst hw_1
  refine lv_if_eq (tgt := 25) hx hb dX7_offer_5 (by decide) (fun _ => ?_) (fun c9 => absurd c9 (by decide))
  refine lv_iconst (v := (-1)) hx hb dX7_offer_25 (by decide) ?_
  have hP9 := hP.sub (ws' := []) [] rfl
  have hD9 := hD.sub (ws' := []) [] (by decide) rfl
  exact W.iret (v := (-1)) hx hb hr (fun t ht hW => ⟨⟨(-1), (), rfl, rfl, by rw [ht]; exact hP9, hD9⟩, hS.F ht⟩) hS.2.2 dX7_offer_26

set_option maxHeartbeats 4000000 in
set_option maxRecDepth 100000 in
theorem c0_X7_put (l : Launch) (dC : Nat → ClassId) (dI : Nat → Nat → Nat) (cy : Nat → ClassId) (sz : Nat) (h0 h1 h2 h3 h4 h5 h6 : Nat) (x0 x1 : Int32) : Met l yX7_put wsX7_put ({ frames := 3, cells := 0, slots := 0, locals := 192 }) (va_Pc [.ref h0, .int x0, .int x1] (ex_Pre dC dI cy sz [(h0, .inr (7, [.ref h1, .ref h2, .ref h3, .null, .int 1])), (h1, .inr (1, [.int 0, .int 0, .int 0, .int 0, .ref h4, .ref h5, .ref h6]))])) (va_Qi (fun (r : Int32) (u : Unit) => r = -1) (fun u t => ex_Pst dC dI (va_A [(h0, .inr (7, [.ref h1, .ref h2, .ref h3, .null, .int 1])), (h1, .inr (1, [.int 0, .int 0, .int 0, .int 0, .ref h4, .ref h5, .ref h6]))] sz) ([]) t) (va_A [(h0, .inr (7, [.ref h1, .ref h2, .ref h3, .null, .int 1])), (h1, .inr (1, [.int 0, .int 0, .int 0, .int 0, .ref h4, .ref h5, .ref h6]))] sz)) 0 0 (va_A [(h0, .inr (7, [.ref h1, .ref h2, .ref h3, .null, .int 1])), (h1, .inr (1, [.int 0, .int 0, .int 0, .int 0, .ref h4, .ref h5, .ref h6]))] sz) := by
  refine Met.ofW (cc := cX7_put) (maxL := 3) (ret := (some .int)) (by decide) rfl ?_
  intro p e s m args below meth c s₁ B hml hv
  obtain ⟨rfl, hsz, hE, hP, hK, hD0⟩ := hv
  have hx := B.exec
  have hb := B.bytes
  have hr := B.returns
  have hts := atoms_spec (ws := wsX7_put) B.pre
  have hown : s.vm.findClass RX7 = some m.cls := findClass_of_methodNamed B.named
  have hlocks := B.notSynchronized
  subst hsz
  have hD := hD0.self (sz := s.heap.size)
  generalize hAe : va_A [(h0, .inr (7, [.ref h1, .ref h2, .ref h3, .null, .int 1])), (h1, .inr (1, [.int 0, .int 0, .int 0, .int 0, .ref h4, .ref h5, .ref h6]))] s.heap.size = A at hD ⊢
  have hA : ∀ q : Nat, s.heap.size ≤ q → A q := fun q h => by rw [← hAe]; exact Or.inr h
  have hS : va_S A s.heap s.heap [] := va_S.rf
  have hP : va_P (dC, dI) vwCl [(h0, .inr (7, [.ref h1, .ref h2, .ref h3, .null, .int 1])), (h1, .inr (1, [.int 0, .int 0, .int 0, .int 0, .ref h4, .ref h5, .ref h6]))] s.heap := hP
  have hl := lv_entry ([.ref h0, .int x0, .int x1]) (n := 3) (Nat.le_of_ble_eq_true rfl)
  rw [lg_entry_eq]
  generalize (lg_sl ([.ref h0, .int x0, .int x1]) ++ List.replicate (3 - (lg_sl ([.ref h0, .int x0, .int x1])).length) Slot.unset).toArray = ls at hl ⊢
  have hl : lv_has ls 3 [(0, .ref h0), (1, .int x0), (2, .int x1)] := hl
  refine lv_aload_n hx hb dX7_put_0 rfl (lv_at hl 0 rfl) ?_
  refine lv_iload_n hx hb dX7_put_1 rfl (lv_at hl 1 rfl) ?_
  refine yc_i (wc := [(h0, .inr (7, [.ref h1, .ref h2, .ref h3, .null, .int 1])), (h1, .inr (1, [.int 0, .int 0, .int 0, .int 0, .ref h4, .ref h5, .ref h6]))]) (wr := []) (w1 := fun _ => []) hP hD hS hA [0, 1] [] rfl rfl (by decide) (by decide) (va_runV (As := [.int x0]) (rest := []) ⟨hx, hb, hml, hown, hts⟩ (c0_X7_isCase l dC dI cy _ h0 h1 h2 h3 h4 h5 h6 x0) (cwV 1 hts gX7_put_X7_isCase rfl rfl rfl (by decide +kernel) ⟨Nat.le_of_ble_eq_true rfl, Nat.le_of_ble_eq_true rfl⟩) (ex_preV hE hK hP hD [0, 1] (by decide) rfl (ci := 7) (q0 := 0) rfl rfl) rfl rfl hl.1 rfl (lv_room (Nat.le_of_ble_eq_true rfl)) dX7_put_2 ⟨Nat.le_of_ble_eq_true rfl, Nat.le_of_ble_eq_true rfl⟩) (fun r_1 u_1 H locs hw_1 hP hD hS => ?_)
  have hP : va_P (dC, dI) vwCl [] H := hP
  have hD : va_D A [] := hD
  subst hw_1
  refine lv_if_eq (tgt := 15) hx hb dX7_put_5 (by decide) (fun _ => ?_) (fun c9 => absurd c9 (by decide))
  refine lv_iconst (v := (-1)) hx hb dX7_put_15 (by decide) ?_
  have hP9 := hP.sub (ws' := []) [] rfl
  have hD9 := hD.sub (ws' := []) [] (by decide) rfl
  exact W.iret (v := (-1)) hx hb hr (fun t ht hW => ⟨⟨(-1), (), rfl, rfl, by rw [ht]; exact hP9, hD9⟩, hS.F ht⟩) hS.2.2 dX7_put_16

set_option maxHeartbeats 4000000 in
set_option maxRecDepth 100000 in
theorem c0_X7_learns (l : Launch) (dC : Nat → ClassId) (dI : Nat → Nat → Nat) (cy : Nat → ClassId) (sz : Nat) (h0 h1 h2 h3 h4 h5 h6 : Nat) (x0 x1 x2 x3 : Int32) : Met l yX7_learns wsX7_learns ({ frames := 3, cells := 0, slots := 0, locals := 192 }) (va_Pc [.ref h0, .int x0, .int x1, .int x2, .int x3] (ex_Pre dC dI cy sz [(h0, .inr (7, [.ref h1, .ref h2, .ref h3, .null, .int 1])), (h1, .inr (1, [.int 0, .int 0, .int 0, .int 0, .ref h4, .ref h5, .ref h6]))])) (va_Qi (fun (r : Int32) (u : Unit) => r = -1) (fun u t => ex_Pst dC dI (va_A [(h0, .inr (7, [.ref h1, .ref h2, .ref h3, .null, .int 1])), (h1, .inr (1, [.int 0, .int 0, .int 0, .int 0, .ref h4, .ref h5, .ref h6]))] sz) ([]) t) (va_A [(h0, .inr (7, [.ref h1, .ref h2, .ref h3, .null, .int 1])), (h1, .inr (1, [.int 0, .int 0, .int 0, .int 0, .ref h4, .ref h5, .ref h6]))] sz)) 0 0 (va_A [(h0, .inr (7, [.ref h1, .ref h2, .ref h3, .null, .int 1])), (h1, .inr (1, [.int 0, .int 0, .int 0, .int 0, .ref h4, .ref h5, .ref h6]))] sz) := by
  refine Met.ofW (cc := cX7_learns) (maxL := 6) (ret := (some .int)) (by decide) rfl ?_
  intro p e s m args below meth c s₁ B hml hv
  obtain ⟨rfl, hsz, hE, hP, hK, hD0⟩ := hv
  have hx := B.exec
  have hb := B.bytes
  have hr := B.returns
  have hts := atoms_spec (ws := wsX7_learns) B.pre
  have hown : s.vm.findClass RX7 = some m.cls := findClass_of_methodNamed B.named
  have hlocks := B.notSynchronized
  subst hsz
  have hD := hD0.self (sz := s.heap.size)
  generalize hAe : va_A [(h0, .inr (7, [.ref h1, .ref h2, .ref h3, .null, .int 1])), (h1, .inr (1, [.int 0, .int 0, .int 0, .int 0, .ref h4, .ref h5, .ref h6]))] s.heap.size = A at hD ⊢
  have hA : ∀ q : Nat, s.heap.size ≤ q → A q := fun q h => by rw [← hAe]; exact Or.inr h
  have hS : va_S A s.heap s.heap [] := va_S.rf
  have hP : va_P (dC, dI) vwCl [(h0, .inr (7, [.ref h1, .ref h2, .ref h3, .null, .int 1])), (h1, .inr (1, [.int 0, .int 0, .int 0, .int 0, .ref h4, .ref h5, .ref h6]))] s.heap := hP
  have hl := lv_entry ([.ref h0, .int x0, .int x1, .int x2, .int x3]) (n := 6) (Nat.le_of_ble_eq_true rfl)
  rw [lg_entry_eq]
  generalize (lg_sl ([.ref h0, .int x0, .int x1, .int x2, .int x3]) ++ List.replicate (6 - (lg_sl ([.ref h0, .int x0, .int x1, .int x2, .int x3])).length) Slot.unset).toArray = ls at hl ⊢
  have hl : lv_has ls 6 [(0, .ref h0), (1, .int x0), (2, .int x1), (3, .int x2), (4, .int x3)] := hl
  refine lv_aload_n hx hb dX7_learns_0 rfl (lv_at hl 0 rfl) ?_
  refine lv_iload_n hx hb dX7_learns_1 rfl (lv_at hl 1 rfl) ?_
  refine yc_i (wc := [(h0, .inr (7, [.ref h1, .ref h2, .ref h3, .null, .int 1])), (h1, .inr (1, [.int 0, .int 0, .int 0, .int 0, .ref h4, .ref h5, .ref h6]))]) (wr := []) (w1 := fun _ => []) hP hD hS hA [0, 1] [] rfl rfl (by decide) (by decide) (va_runV (As := [.int x0]) (rest := []) ⟨hx, hb, hml, hown, hts⟩ (c0_X7_isCase l dC dI cy _ h0 h1 h2 h3 h4 h5 h6 x0) (cwV 1 hts gX7_learns_X7_isCase rfl rfl rfl (by decide +kernel) ⟨Nat.le_of_ble_eq_true rfl, Nat.le_of_ble_eq_true rfl⟩) (ex_preV hE hK hP hD [0, 1] (by decide) rfl (ci := 7) (q0 := 0) rfl rfl) rfl rfl hl.1 rfl (lv_room (Nat.le_of_ble_eq_true rfl)) dX7_learns_2 ⟨Nat.le_of_ble_eq_true rfl, Nat.le_of_ble_eq_true rfl⟩) (fun r_1 u_1 H locs hw_1 hP hD hS => ?_)
  have hP : va_P (dC, dI) vwCl [] H := hP
  have hD : va_D A [] := hD
  subst hw_1
  refine lv_if_eq (tgt := 15) hx hb dX7_learns_5 (by decide) (fun _ => ?_) (fun c9 => absurd c9 (by decide))
  refine lv_iconst (v := (-1)) hx hb dX7_learns_15 (by decide) ?_
  have hP9 := hP.sub (ws' := []) [] rfl
  have hD9 := hD.sub (ws' := []) [] (by decide) rfl
  exact W.iret (v := (-1)) hx hb hr (fun t ht hW => ⟨⟨(-1), (), rfl, rfl, by rw [ht]; exact hP9, hD9⟩, hS.F ht⟩) hS.2.2 dX7_learns_16

set_option maxHeartbeats 4000000 in
set_option maxRecDepth 100000 in
theorem c0_X7_plan (l : Launch) (dC : Nat → ClassId) (dI : Nat → Nat → Nat) (cy : Nat → ClassId) (sz : Nat) (h0 h1 h2 h3 h4 h5 h6 : Nat) (x0 : Int32) : Met l yX7_plan wsX7_plan ({ frames := 3, cells := 0, slots := 0, locals := 192 }) (va_Pc [.ref h0, .int x0] (ex_Pre dC dI cy sz [(h0, .inr (7, [.ref h1, .ref h2, .ref h3, .null, .int 1])), (h1, .inr (1, [.int 0, .int 0, .int 0, .int 0, .ref h4, .ref h5, .ref h6]))])) (va_Qi (fun (r : Int32) (u : Unit) => r = -1) (fun u t => ex_Pst dC dI (va_A [(h0, .inr (7, [.ref h1, .ref h2, .ref h3, .null, .int 1])), (h1, .inr (1, [.int 0, .int 0, .int 0, .int 0, .ref h4, .ref h5, .ref h6]))] sz) ([]) t) (va_A [(h0, .inr (7, [.ref h1, .ref h2, .ref h3, .null, .int 1])), (h1, .inr (1, [.int 0, .int 0, .int 0, .int 0, .ref h4, .ref h5, .ref h6]))] sz)) 0 0 (va_A [(h0, .inr (7, [.ref h1, .ref h2, .ref h3, .null, .int 1])), (h1, .inr (1, [.int 0, .int 0, .int 0, .int 0, .ref h4, .ref h5, .ref h6]))] sz) := by
  refine Met.ofW (cc := cX7_plan) (maxL := 2) (ret := (some .int)) (by decide) rfl ?_
  intro p e s m args below meth c s₁ B hml hv
  obtain ⟨rfl, hsz, hE, hP, hK, hD0⟩ := hv
  have hx := B.exec
  have hb := B.bytes
  have hr := B.returns
  have hts := atoms_spec (ws := wsX7_plan) B.pre
  have hown : s.vm.findClass RX7 = some m.cls := findClass_of_methodNamed B.named
  have hlocks := B.notSynchronized
  subst hsz
  have hD := hD0.self (sz := s.heap.size)
  generalize hAe : va_A [(h0, .inr (7, [.ref h1, .ref h2, .ref h3, .null, .int 1])), (h1, .inr (1, [.int 0, .int 0, .int 0, .int 0, .ref h4, .ref h5, .ref h6]))] s.heap.size = A at hD ⊢
  have hA : ∀ q : Nat, s.heap.size ≤ q → A q := fun q h => by rw [← hAe]; exact Or.inr h
  have hS : va_S A s.heap s.heap [] := va_S.rf
  have hP : va_P (dC, dI) vwCl [(h0, .inr (7, [.ref h1, .ref h2, .ref h3, .null, .int 1])), (h1, .inr (1, [.int 0, .int 0, .int 0, .int 0, .ref h4, .ref h5, .ref h6]))] s.heap := hP
  have hl := lv_entry ([.ref h0, .int x0]) (n := 2) (Nat.le_of_ble_eq_true rfl)
  rw [lg_entry_eq]
  generalize (lg_sl ([.ref h0, .int x0]) ++ List.replicate (2 - (lg_sl ([.ref h0, .int x0])).length) Slot.unset).toArray = ls at hl ⊢
  have hl : lv_has ls 2 [(0, .ref h0), (1, .int x0)] := hl
  refine lv_aload_n hx hb dX7_plan_0 rfl (lv_at hl 0 rfl) ?_
  refine lv_iload_n hx hb dX7_plan_1 rfl (lv_at hl 1 rfl) ?_
  refine yc_i (wc := [(h0, .inr (7, [.ref h1, .ref h2, .ref h3, .null, .int 1])), (h1, .inr (1, [.int 0, .int 0, .int 0, .int 0, .ref h4, .ref h5, .ref h6]))]) (wr := []) (w1 := fun _ => []) hP hD hS hA [0, 1] [] rfl rfl (by decide) (by decide) (va_runV (As := [.int x0]) (rest := []) ⟨hx, hb, hml, hown, hts⟩ (c0_X7_isCase l dC dI cy _ h0 h1 h2 h3 h4 h5 h6 x0) (cwV 1 hts gX7_plan_X7_isCase rfl rfl rfl (by decide +kernel) ⟨Nat.le_of_ble_eq_true rfl, Nat.le_of_ble_eq_true rfl⟩) (ex_preV hE hK hP hD [0, 1] (by decide) rfl (ci := 7) (q0 := 0) rfl rfl) rfl rfl hl.1 rfl (lv_room (Nat.le_of_ble_eq_true rfl)) dX7_plan_2 ⟨Nat.le_of_ble_eq_true rfl, Nat.le_of_ble_eq_true rfl⟩) (fun r_1 u_1 H locs hw_1 hP hD hS => ?_)
  have hP : va_P (dC, dI) vwCl [] H := hP
  have hD : va_D A [] := hD
  subst hw_1
  refine lv_if_ne (tgt := 10) hx hb dX7_plan_5 (by decide) (fun c9 => absurd c9 (by decide)) (fun _ => ?_)
  refine lv_iconst (v := (-1)) hx hb dX7_plan_8 (by decide) ?_
  have hP9 := hP.sub (ws' := []) [] rfl
  have hD9 := hD.sub (ws' := []) [] (by decide) rfl
  exact W.iret (v := (-1)) hx hb hr (fun t ht hW => ⟨⟨(-1), (), rfl, rfl, by rw [ht]; exact hP9, hD9⟩, hS.F ht⟩) hS.2.2 dX7_plan_9

set_option maxHeartbeats 4000000 in
set_option maxRecDepth 100000 in
theorem c0_X7_term (l : Launch) (dC : Nat → ClassId) (dI : Nat → Nat → Nat) (cy : Nat → ClassId) (sz : Nat) (h0 h1 h2 h3 h4 h5 h6 : Nat) (x0 x1 x2 x3 x4 x5 : Int32) : Met l yX7_term wsX7_term ({ frames := 3, cells := 0, slots := 0, locals := 192 }) (va_Pc [.ref h0, .int x0, .int x1, .int x2, .int x3, .int x4, .int x5] (ex_Pre dC dI cy sz [(h0, .inr (7, [.ref h1, .ref h2, .ref h3, .null, .int 1])), (h1, .inr (1, [.int 0, .int 0, .int 0, .int 0, .ref h4, .ref h5, .ref h6]))])) (va_Qi (fun (r : Int32) (u : Unit) => r = -1) (fun u t => ex_Pst dC dI (va_A [(h0, .inr (7, [.ref h1, .ref h2, .ref h3, .null, .int 1])), (h1, .inr (1, [.int 0, .int 0, .int 0, .int 0, .ref h4, .ref h5, .ref h6]))] sz) ([]) t) (va_A [(h0, .inr (7, [.ref h1, .ref h2, .ref h3, .null, .int 1])), (h1, .inr (1, [.int 0, .int 0, .int 0, .int 0, .ref h4, .ref h5, .ref h6]))] sz)) 0 0 (va_A [(h0, .inr (7, [.ref h1, .ref h2, .ref h3, .null, .int 1])), (h1, .inr (1, [.int 0, .int 0, .int 0, .int 0, .ref h4, .ref h5, .ref h6]))] sz) := by
  refine Met.ofW (cc := cX7_term) (maxL := 9) (ret := (some .int)) (by decide) rfl ?_
  intro p e s m args below meth c s₁ B hml hv
  obtain ⟨rfl, hsz, hE, hP, hK, hD0⟩ := hv
  have hx := B.exec
  have hb := B.bytes
  have hr := B.returns
  have hts := atoms_spec (ws := wsX7_term) B.pre
  have hown : s.vm.findClass RX7 = some m.cls := findClass_of_methodNamed B.named
  have hlocks := B.notSynchronized
  subst hsz
  have hD := hD0.self (sz := s.heap.size)
  generalize hAe : va_A [(h0, .inr (7, [.ref h1, .ref h2, .ref h3, .null, .int 1])), (h1, .inr (1, [.int 0, .int 0, .int 0, .int 0, .ref h4, .ref h5, .ref h6]))] s.heap.size = A at hD ⊢
  have hA : ∀ q : Nat, s.heap.size ≤ q → A q := fun q h => by rw [← hAe]; exact Or.inr h
  have hS : va_S A s.heap s.heap [] := va_S.rf
  have hP : va_P (dC, dI) vwCl [(h0, .inr (7, [.ref h1, .ref h2, .ref h3, .null, .int 1])), (h1, .inr (1, [.int 0, .int 0, .int 0, .int 0, .ref h4, .ref h5, .ref h6]))] s.heap := hP
  have hl := lv_entry ([.ref h0, .int x0, .int x1, .int x2, .int x3, .int x4, .int x5]) (n := 9) (Nat.le_of_ble_eq_true rfl)
  rw [lg_entry_eq]
  generalize (lg_sl ([.ref h0, .int x0, .int x1, .int x2, .int x3, .int x4, .int x5]) ++ List.replicate (9 - (lg_sl ([.ref h0, .int x0, .int x1, .int x2, .int x3, .int x4, .int x5])).length) Slot.unset).toArray = ls at hl ⊢
  have hl : lv_has ls 9 [(0, .ref h0), (1, .int x0), (2, .int x1), (3, .int x2), (4, .int x3), (5, .int x4), (6, .int x5)] := hl
  refine lv_aload_n hx hb dX7_term_0 rfl (lv_at hl 0 rfl) ?_
  refine lv_iload_n hx hb dX7_term_1 rfl (lv_at hl 1 rfl) ?_
  refine yc_i (wc := [(h0, .inr (7, [.ref h1, .ref h2, .ref h3, .null, .int 1])), (h1, .inr (1, [.int 0, .int 0, .int 0, .int 0, .ref h4, .ref h5, .ref h6]))]) (wr := []) (w1 := fun _ => []) hP hD hS hA [0, 1] [] rfl rfl (by decide) (by decide) (va_runV (As := [.int x0]) (rest := []) ⟨hx, hb, hml, hown, hts⟩ (c0_X7_isCase l dC dI cy _ h0 h1 h2 h3 h4 h5 h6 x0) (cwV 1 hts gX7_term_X7_isCase rfl rfl rfl (by decide +kernel) ⟨Nat.le_of_ble_eq_true rfl, Nat.le_of_ble_eq_true rfl⟩) (ex_preV hE hK hP hD [0, 1] (by decide) rfl (ci := 7) (q0 := 0) rfl rfl) rfl rfl hl.1 rfl (lv_room (Nat.le_of_ble_eq_true rfl)) dX7_term_2 ⟨Nat.le_of_ble_eq_true rfl, Nat.le_of_ble_eq_true rfl⟩) (fun r_1 u_1 H locs hw_1 hP hD hS => ?_)
  have hP : va_P (dC, dI) vwCl [] H := hP
  have hD : va_D A [] := hD
  subst hw_1
  refine lv_if_eq (tgt := 48) hx hb dX7_term_5 (by decide) (fun _ => ?_) (fun c9 => absurd c9 (by decide))
  refine lv_iconst (v := (-1)) hx hb dX7_term_48 (by decide) ?_
  have hP9 := hP.sub (ws' := []) [] rfl
  have hD9 := hD.sub (ws' := []) [] (by decide) rfl
  exact W.iret (v := (-1)) hx hb hr (fun t ht hW => ⟨⟨(-1), (), rfl, rfl, by rw [ht]; exact hP9, hD9⟩, hS.F ht⟩) hS.2.2 dX7_term_49

set_option maxHeartbeats 4000000 in
set_option maxRecDepth 100000 in
theorem c0_X7_strike (l : Launch) (dC : Nat → ClassId) (dI : Nat → Nat → Nat) (cy : Nat → ClassId) (sz : Nat) (h0 h1 h2 h3 h4 h5 h6 : Nat) (x0 : Int32) : Met l yX7_strike wsX7_strike ({ frames := 3, cells := 0, slots := 0, locals := 192 }) (va_Pc [.ref h0, .int x0] (ex_Pre dC dI cy sz [(h0, .inr (7, [.ref h1, .ref h2, .ref h3, .null, .int 1])), (h1, .inr (1, [.int 0, .int 0, .int 0, .int 0, .ref h4, .ref h5, .ref h6]))])) (va_Qi (fun (r : Int32) (u : Unit) => r = -1) (fun u t => ex_Pst dC dI (va_A [(h0, .inr (7, [.ref h1, .ref h2, .ref h3, .null, .int 1])), (h1, .inr (1, [.int 0, .int 0, .int 0, .int 0, .ref h4, .ref h5, .ref h6]))] sz) ([]) t) (va_A [(h0, .inr (7, [.ref h1, .ref h2, .ref h3, .null, .int 1])), (h1, .inr (1, [.int 0, .int 0, .int 0, .int 0, .ref h4, .ref h5, .ref h6]))] sz)) 0 0 (va_A [(h0, .inr (7, [.ref h1, .ref h2, .ref h3, .null, .int 1])), (h1, .inr (1, [.int 0, .int 0, .int 0, .int 0, .ref h4, .ref h5, .ref h6]))] sz) := by
  refine Met.ofW (cc := cX7_strike) (maxL := 2) (ret := (some .int)) (by decide) rfl ?_
  intro p e s m args below meth c s₁ B hml hv
  obtain ⟨rfl, hsz, hE, hP, hK, hD0⟩ := hv
  have hx := B.exec
  have hb := B.bytes
  have hr := B.returns
  have hts := atoms_spec (ws := wsX7_strike) B.pre
  have hown : s.vm.findClass RX7 = some m.cls := findClass_of_methodNamed B.named
  have hlocks := B.notSynchronized
  subst hsz
  have hD := hD0.self (sz := s.heap.size)
  generalize hAe : va_A [(h0, .inr (7, [.ref h1, .ref h2, .ref h3, .null, .int 1])), (h1, .inr (1, [.int 0, .int 0, .int 0, .int 0, .ref h4, .ref h5, .ref h6]))] s.heap.size = A at hD ⊢
  have hA : ∀ q : Nat, s.heap.size ≤ q → A q := fun q h => by rw [← hAe]; exact Or.inr h
  have hS : va_S A s.heap s.heap [] := va_S.rf
  have hP : va_P (dC, dI) vwCl [(h0, .inr (7, [.ref h1, .ref h2, .ref h3, .null, .int 1])), (h1, .inr (1, [.int 0, .int 0, .int 0, .int 0, .ref h4, .ref h5, .ref h6]))] s.heap := hP
  have hl := lv_entry ([.ref h0, .int x0]) (n := 2) (Nat.le_of_ble_eq_true rfl)
  rw [lg_entry_eq]
  generalize (lg_sl ([.ref h0, .int x0]) ++ List.replicate (2 - (lg_sl ([.ref h0, .int x0])).length) Slot.unset).toArray = ls at hl ⊢
  have hl : lv_has ls 2 [(0, .ref h0), (1, .int x0)] := hl
  refine lv_aload_n hx hb dX7_strike_0 rfl (lv_at hl 0 rfl) ?_
  refine lv_iload_n hx hb dX7_strike_1 rfl (lv_at hl 1 rfl) ?_
  refine yc_i (wc := [(h0, .inr (7, [.ref h1, .ref h2, .ref h3, .null, .int 1])), (h1, .inr (1, [.int 0, .int 0, .int 0, .int 0, .ref h4, .ref h5, .ref h6]))]) (wr := []) (w1 := fun _ => []) hP hD hS hA [0, 1] [] rfl rfl (by decide) (by decide) (va_runV (As := [.int x0]) (rest := []) ⟨hx, hb, hml, hown, hts⟩ (c0_X7_isCase l dC dI cy _ h0 h1 h2 h3 h4 h5 h6 x0) (cwV 1 hts gX7_strike_X7_isCase rfl rfl rfl (by decide +kernel) ⟨Nat.le_of_ble_eq_true rfl, Nat.le_of_ble_eq_true rfl⟩) (ex_preV hE hK hP hD [0, 1] (by decide) rfl (ci := 7) (q0 := 0) rfl rfl) rfl rfl hl.1 rfl (lv_room (Nat.le_of_ble_eq_true rfl)) dX7_strike_2 ⟨Nat.le_of_ble_eq_true rfl, Nat.le_of_ble_eq_true rfl⟩) (fun r_1 u_1 H locs hw_1 hP hD hS => ?_)
  have hP : va_P (dC, dI) vwCl [] H := hP
  have hD : va_D A [] := hD
  subst hw_1
  refine lv_if_ne (tgt := 10) hx hb dX7_strike_5 (by decide) (fun c9 => absurd c9 (by decide)) (fun _ => ?_)
  refine lv_iconst (v := (-1)) hx hb dX7_strike_8 (by decide) ?_
  have hP9 := hP.sub (ws' := []) [] rfl
  have hD9 := hD.sub (ws' := []) [] (by decide) rfl
  exact W.iret (v := (-1)) hx hb hr (fun t ht hW => ⟨⟨(-1), (), rfl, rfl, by rw [ht]; exact hP9, hD9⟩, hS.F ht⟩) hS.2.2 dX7_strike_9

set_option maxHeartbeats 4000000 in
set_option maxRecDepth 100000 in
theorem c0_X7_termOf (l : Launch) (dC : Nat → ClassId) (dI : Nat → Nat → Nat) (cy : Nat → ClassId) (sz : Nat) (h0 h1 h2 h3 h4 h5 h6 : Nat) (x0 x1 x2 : Int32) : Met l yX7_termOf wsX7_termOf ({ frames := 3, cells := 0, slots := 0, locals := 192 }) (va_Pc [.ref h0, .int x0, .int x1, .int x2] (ex_Pre dC dI cy sz [(h0, .inr (7, [.ref h1, .ref h2, .ref h3, .null, .int 1])), (h1, .inr (1, [.int 0, .int 0, .int 0, .int 0, .ref h4, .ref h5, .ref h6]))])) (va_Qi (fun (r : Int32) (u : Unit) => r = -1) (fun u t => ex_Pst dC dI (va_A [(h0, .inr (7, [.ref h1, .ref h2, .ref h3, .null, .int 1])), (h1, .inr (1, [.int 0, .int 0, .int 0, .int 0, .ref h4, .ref h5, .ref h6]))] sz) ([]) t) (va_A [(h0, .inr (7, [.ref h1, .ref h2, .ref h3, .null, .int 1])), (h1, .inr (1, [.int 0, .int 0, .int 0, .int 0, .ref h4, .ref h5, .ref h6]))] sz)) 0 0 (va_A [(h0, .inr (7, [.ref h1, .ref h2, .ref h3, .null, .int 1])), (h1, .inr (1, [.int 0, .int 0, .int 0, .int 0, .ref h4, .ref h5, .ref h6]))] sz) := by
  refine Met.ofW (cc := cX7_termOf) (maxL := 5) (ret := (some .int)) (by decide) rfl ?_
  intro p e s m args below meth c s₁ B hml hv
  obtain ⟨rfl, hsz, hE, hP, hK, hD0⟩ := hv
  have hx := B.exec
  have hb := B.bytes
  have hr := B.returns
  have hts := atoms_spec (ws := wsX7_termOf) B.pre
  have hown : s.vm.findClass RX7 = some m.cls := findClass_of_methodNamed B.named
  have hlocks := B.notSynchronized
  subst hsz
  have hD := hD0.self (sz := s.heap.size)
  generalize hAe : va_A [(h0, .inr (7, [.ref h1, .ref h2, .ref h3, .null, .int 1])), (h1, .inr (1, [.int 0, .int 0, .int 0, .int 0, .ref h4, .ref h5, .ref h6]))] s.heap.size = A at hD ⊢
  have hA : ∀ q : Nat, s.heap.size ≤ q → A q := fun q h => by rw [← hAe]; exact Or.inr h
  have hS : va_S A s.heap s.heap [] := va_S.rf
  have hP : va_P (dC, dI) vwCl [(h0, .inr (7, [.ref h1, .ref h2, .ref h3, .null, .int 1])), (h1, .inr (1, [.int 0, .int 0, .int 0, .int 0, .ref h4, .ref h5, .ref h6]))] s.heap := hP
  have hl := lv_entry ([.ref h0, .int x0, .int x1, .int x2]) (n := 5) (Nat.le_of_ble_eq_true rfl)
  rw [lg_entry_eq]
  generalize (lg_sl ([.ref h0, .int x0, .int x1, .int x2]) ++ List.replicate (5 - (lg_sl ([.ref h0, .int x0, .int x1, .int x2])).length) Slot.unset).toArray = ls at hl ⊢
  have hl : lv_has ls 5 [(0, .ref h0), (1, .int x0), (2, .int x1), (3, .int x2)] := hl
  refine lv_aload_n hx hb dX7_termOf_0 rfl (lv_at hl 0 rfl) ?_
  refine lv_iload_n hx hb dX7_termOf_1 rfl (lv_at hl 1 rfl) ?_
  refine lv_iload_n hx hb dX7_termOf_2 rfl (lv_at hl 2 rfl) ?_
  refine yc_i (wc := [(h0, .inr (7, [.ref h1, .ref h2, .ref h3, .null, .int 1])), (h1, .inr (1, [.int 0, .int 0, .int 0, .int 0, .ref h4, .ref h5, .ref h6]))]) (wr := []) (w1 := fun _ => []) hP hD hS hA [0, 1] [] rfl rfl (by decide) (by decide) (va_runV (As := [.int x0, .int x1]) (rest := []) ⟨hx, hb, hml, hown, hts⟩ (c0_X7_isTerm l dC dI cy _ h0 h1 h2 h3 h4 h5 h6 x0 x1) (cwV 2 hts gX7_termOf_X7_isTerm rfl rfl rfl (by decide +kernel) ⟨Nat.le_of_ble_eq_true rfl, Nat.le_of_ble_eq_true rfl⟩) (ex_preV hE hK hP hD [0, 1] (by decide) rfl (ci := 7) (q0 := 0) rfl rfl) rfl rfl hl.1 rfl (lv_room (Nat.le_of_ble_eq_true rfl)) dX7_termOf_3 ⟨Nat.le_of_ble_eq_true rfl, Nat.le_of_ble_eq_true rfl⟩) (fun r_1 u_1 H locs hw_1 hP hD hS => ?_)
  have hP : va_P (dC, dI) vwCl [] H := hP
  have hD : va_D A [] := hD
  subst hw_1
  refine lv_if_ne (tgt := 11) hx hb dX7_termOf_6 (by decide) (fun c9 => absurd c9 (by decide)) (fun _ => ?_)
  refine lv_iconst (v := (-1)) hx hb dX7_termOf_9 (by decide) ?_
  have hP9 := hP.sub (ws' := []) [] rfl
  have hD9 := hD.sub (ws' := []) [] (by decide) rfl
  exact W.iret (v := (-1)) hx hb hr (fun t ht hW => ⟨⟨(-1), (), rfl, rfl, by rw [ht]; exact hP9, hD9⟩, hS.F ht⟩) hS.2.2 dX7_termOf_10

set_option maxHeartbeats 4000000 in
set_option maxRecDepth 100000 in
theorem c0_X7_hour (l : Launch) (dC : Nat → ClassId) (dI : Nat → Nat → Nat) (cy : Nat → ClassId) (sz : Nat) (h0 h1 h2 h3 h4 h5 h6 : Nat) (x0 x1 : Int32) : Met l yX7_hour wsX7_hour ({ frames := 3, cells := 0, slots := 0, locals := 192 }) (va_Pc [.ref h0, .int x0, .int x1] (ex_Pre dC dI cy sz [(h0, .inr (7, [.ref h1, .ref h2, .ref h3, .null, .int 1])), (h1, .inr (1, [.int 0, .int 0, .int 0, .int 0, .ref h4, .ref h5, .ref h6]))])) (va_Qi (fun (r : Int32) (u : Unit) => r = -1) (fun u t => ex_Pst dC dI (va_A [(h0, .inr (7, [.ref h1, .ref h2, .ref h3, .null, .int 1])), (h1, .inr (1, [.int 0, .int 0, .int 0, .int 0, .ref h4, .ref h5, .ref h6]))] sz) ([]) t) (va_A [(h0, .inr (7, [.ref h1, .ref h2, .ref h3, .null, .int 1])), (h1, .inr (1, [.int 0, .int 0, .int 0, .int 0, .ref h4, .ref h5, .ref h6]))] sz)) 0 0 (va_A [(h0, .inr (7, [.ref h1, .ref h2, .ref h3, .null, .int 1])), (h1, .inr (1, [.int 0, .int 0, .int 0, .int 0, .ref h4, .ref h5, .ref h6]))] sz) := by
  refine Met.ofW (cc := cX7_hour) (maxL := 4) (ret := (some .int)) (by decide) rfl ?_
  intro p e s m args below meth c s₁ B hml hv
  obtain ⟨rfl, hsz, hE, hP, hK, hD0⟩ := hv
  have hx := B.exec
  have hb := B.bytes
  have hr := B.returns
  have hts := atoms_spec (ws := wsX7_hour) B.pre
  have hown : s.vm.findClass RX7 = some m.cls := findClass_of_methodNamed B.named
  have hlocks := B.notSynchronized
  subst hsz
  have hD := hD0.self (sz := s.heap.size)
  generalize hAe : va_A [(h0, .inr (7, [.ref h1, .ref h2, .ref h3, .null, .int 1])), (h1, .inr (1, [.int 0, .int 0, .int 0, .int 0, .ref h4, .ref h5, .ref h6]))] s.heap.size = A at hD ⊢
  have hA : ∀ q : Nat, s.heap.size ≤ q → A q := fun q h => by rw [← hAe]; exact Or.inr h
  have hS : va_S A s.heap s.heap [] := va_S.rf
  have hP : va_P (dC, dI) vwCl [(h0, .inr (7, [.ref h1, .ref h2, .ref h3, .null, .int 1])), (h1, .inr (1, [.int 0, .int 0, .int 0, .int 0, .ref h4, .ref h5, .ref h6]))] s.heap := hP
  have hl := lv_entry ([.ref h0, .int x0, .int x1]) (n := 4) (Nat.le_of_ble_eq_true rfl)
  rw [lg_entry_eq]
  generalize (lg_sl ([.ref h0, .int x0, .int x1]) ++ List.replicate (4 - (lg_sl ([.ref h0, .int x0, .int x1])).length) Slot.unset).toArray = ls at hl ⊢
  have hl : lv_has ls 4 [(0, .ref h0), (1, .int x0), (2, .int x1)] := hl
  refine lv_aload_n hx hb dX7_hour_0 rfl (lv_at hl 0 rfl) ?_
  refine lv_iload_n hx hb dX7_hour_1 rfl (lv_at hl 1 rfl) ?_
  refine lv_iload_n hx hb dX7_hour_2 rfl (lv_at hl 2 rfl) ?_
  refine yc_i (wc := [(h0, .inr (7, [.ref h1, .ref h2, .ref h3, .null, .int 1])), (h1, .inr (1, [.int 0, .int 0, .int 0, .int 0, .ref h4, .ref h5, .ref h6]))]) (wr := []) (w1 := fun _ => []) hP hD hS hA [0, 1] [] rfl rfl (by decide) (by decide) (va_runV (As := [.int x0, .int x1]) (rest := []) ⟨hx, hb, hml, hown, hts⟩ (c0_X7_isTerm l dC dI cy _ h0 h1 h2 h3 h4 h5 h6 x0 x1) (cwV 2 hts gX7_hour_X7_isTerm rfl rfl rfl (by decide +kernel) ⟨Nat.le_of_ble_eq_true rfl, Nat.le_of_ble_eq_true rfl⟩) (ex_preV hE hK hP hD [0, 1] (by decide) rfl (ci := 7) (q0 := 0) rfl rfl) rfl rfl hl.1 rfl (lv_room (Nat.le_of_ble_eq_true rfl)) dX7_hour_3 ⟨Nat.le_of_ble_eq_true rfl, Nat.le_of_ble_eq_true rfl⟩) (fun r_1 u_1 H locs hw_1 hP hD hS => ?_)
  have hP : va_P (dC, dI) vwCl [] H := hP
  have hD : va_D A [] := hD
  subst hw_1
  refine lv_if_ne (tgt := 11) hx hb dX7_hour_6 (by decide) (fun c9 => absurd c9 (by decide)) (fun _ => ?_)
  refine lv_iconst (v := (-1)) hx hb dX7_hour_9 (by decide) ?_
  have hP9 := hP.sub (ws' := []) [] rfl
  have hD9 := hD.sub (ws' := []) [] (by decide) rfl
  exact W.iret (v := (-1)) hx hb hr (fun t ht hW => ⟨⟨(-1), (), rfl, rfl, by rw [ht]; exact hP9, hD9⟩, hS.F ht⟩) hS.2.2 dX7_hour_10

set_option maxHeartbeats 4000000 in
set_option maxRecDepth 100000 in
theorem c0_X7_canHold (l : Launch) (dC : Nat → ClassId) (dI : Nat → Nat → Nat) (cy : Nat → ClassId) (sz : Nat) (h0 h1 h2 h3 h4 h5 h6 : Nat) (x0 x1 : Int32) : Met l yX7_canHold wsX7_canHold ({ frames := 3, cells := 0, slots := 0, locals := 192 }) (va_Pc [.ref h0, .int x0, .int x1] (ex_Pre dC dI cy sz [(h0, .inr (7, [.ref h1, .ref h2, .ref h3, .null, .int 1])), (h1, .inr (1, [.int 0, .int 0, .int 0, .int 0, .ref h4, .ref h5, .ref h6]))])) (va_Qi (fun (r : Int32) (u : Unit) => r = -1) (fun u t => ex_Pst dC dI (va_A [(h0, .inr (7, [.ref h1, .ref h2, .ref h3, .null, .int 1])), (h1, .inr (1, [.int 0, .int 0, .int 0, .int 0, .ref h4, .ref h5, .ref h6]))] sz) ([]) t) (va_A [(h0, .inr (7, [.ref h1, .ref h2, .ref h3, .null, .int 1])), (h1, .inr (1, [.int 0, .int 0, .int 0, .int 0, .ref h4, .ref h5, .ref h6]))] sz)) 0 0 (va_A [(h0, .inr (7, [.ref h1, .ref h2, .ref h3, .null, .int 1])), (h1, .inr (1, [.int 0, .int 0, .int 0, .int 0, .ref h4, .ref h5, .ref h6]))] sz) := by
  refine Met.ofW (cc := cX7_canHold) (maxL := 3) (ret := (some .int)) (by decide) rfl ?_
  intro p e s m args below meth c s₁ B hml hv
  obtain ⟨rfl, hsz, hE, hP, hK, hD0⟩ := hv
  have hx := B.exec
  have hb := B.bytes
  have hr := B.returns
  have hts := atoms_spec (ws := wsX7_canHold) B.pre
  have hown : s.vm.findClass RX7 = some m.cls := findClass_of_methodNamed B.named
  have hlocks := B.notSynchronized
  subst hsz
  have hD := hD0.self (sz := s.heap.size)
  generalize hAe : va_A [(h0, .inr (7, [.ref h1, .ref h2, .ref h3, .null, .int 1])), (h1, .inr (1, [.int 0, .int 0, .int 0, .int 0, .ref h4, .ref h5, .ref h6]))] s.heap.size = A at hD ⊢
  have hA : ∀ q : Nat, s.heap.size ≤ q → A q := fun q h => by rw [← hAe]; exact Or.inr h
  have hS : va_S A s.heap s.heap [] := va_S.rf
  have hP : va_P (dC, dI) vwCl [(h0, .inr (7, [.ref h1, .ref h2, .ref h3, .null, .int 1])), (h1, .inr (1, [.int 0, .int 0, .int 0, .int 0, .ref h4, .ref h5, .ref h6]))] s.heap := hP
  have hl := lv_entry ([.ref h0, .int x0, .int x1]) (n := 3) (Nat.le_of_ble_eq_true rfl)
  rw [lg_entry_eq]
  generalize (lg_sl ([.ref h0, .int x0, .int x1]) ++ List.replicate (3 - (lg_sl ([.ref h0, .int x0, .int x1])).length) Slot.unset).toArray = ls at hl ⊢
  have hl : lv_has ls 3 [(0, .ref h0), (1, .int x0), (2, .int x1)] := hl
  refine lv_aload_n hx hb dX7_canHold_0 rfl (lv_at hl 0 rfl) ?_
  refine lv_iload_n hx hb dX7_canHold_1 rfl (lv_at hl 1 rfl) ?_
  refine yc_i (wc := [(h0, .inr (7, [.ref h1, .ref h2, .ref h3, .null, .int 1])), (h1, .inr (1, [.int 0, .int 0, .int 0, .int 0, .ref h4, .ref h5, .ref h6]))]) (wr := []) (w1 := fun _ => []) hP hD hS hA [0, 1] [] rfl rfl (by decide) (by decide) (va_runV (As := [.int x0]) (rest := []) ⟨hx, hb, hml, hown, hts⟩ (c0_X7_isCase l dC dI cy _ h0 h1 h2 h3 h4 h5 h6 x0) (cwV 1 hts gX7_canHold_X7_isCase rfl rfl rfl (by decide +kernel) ⟨Nat.le_of_ble_eq_true rfl, Nat.le_of_ble_eq_true rfl⟩) (ex_preV hE hK hP hD [0, 1] (by decide) rfl (ci := 7) (q0 := 0) rfl rfl) rfl rfl hl.1 rfl (lv_room (Nat.le_of_ble_eq_true rfl)) dX7_canHold_2 ⟨Nat.le_of_ble_eq_true rfl, Nat.le_of_ble_eq_true rfl⟩) (fun r_1 u_1 H locs hw_1 hP hD hS => ?_)
  have hP : va_P (dC, dI) vwCl [] H := hP
  have hD : va_D A [] := hD
  subst hw_1
  refine lv_if_eq (tgt := 15) hx hb dX7_canHold_5 (by decide) (fun _ => ?_) (fun c9 => absurd c9 (by decide))
  refine lv_iconst (v := (-1)) hx hb dX7_canHold_15 (by decide) ?_
  have hP9 := hP.sub (ws' := []) [] rfl
  have hD9 := hD.sub (ws' := []) [] (by decide) rfl
  exact W.iret (v := (-1)) hx hb hr (fun t ht hW => ⟨⟨(-1), (), rfl, rfl, by rw [ht]; exact hP9, hD9⟩, hS.F ht⟩) hS.2.2 dX7_canHold_16

set_option maxHeartbeats 4000000 in
set_option maxRecDepth 100000 in
theorem c0_X7_breaks (l : Launch) (dC : Nat → ClassId) (dI : Nat → Nat → Nat) (cy : Nat → ClassId) (sz : Nat) (h0 h1 h2 h3 h4 h5 h6 : Nat) (x0 x1 : Int32) : Met l yX7_breaks wsX7_breaks ({ frames := 3, cells := 0, slots := 0, locals := 192 }) (va_Pc [.ref h0, .int x0, .int x1] (ex_Pre dC dI cy sz [(h0, .inr (7, [.ref h1, .ref h2, .ref h3, .null, .int 1])), (h1, .inr (1, [.int 0, .int 0, .int 0, .int 0, .ref h4, .ref h5, .ref h6]))])) (va_Qi (fun (r : Int32) (u : Unit) => r = -1) (fun u t => ex_Pst dC dI (va_A [(h0, .inr (7, [.ref h1, .ref h2, .ref h3, .null, .int 1])), (h1, .inr (1, [.int 0, .int 0, .int 0, .int 0, .ref h4, .ref h5, .ref h6]))] sz) ([]) t) (va_A [(h0, .inr (7, [.ref h1, .ref h2, .ref h3, .null, .int 1])), (h1, .inr (1, [.int 0, .int 0, .int 0, .int 0, .ref h4, .ref h5, .ref h6]))] sz)) 0 0 (va_A [(h0, .inr (7, [.ref h1, .ref h2, .ref h3, .null, .int 1])), (h1, .inr (1, [.int 0, .int 0, .int 0, .int 0, .ref h4, .ref h5, .ref h6]))] sz) := by
  refine Met.ofW (cc := cX7_breaks) (maxL := 5) (ret := (some .int)) (by decide) rfl ?_
  intro p e s m args below meth c s₁ B hml hv
  obtain ⟨rfl, hsz, hE, hP, hK, hD0⟩ := hv
  have hx := B.exec
  have hb := B.bytes
  have hr := B.returns
  have hts := atoms_spec (ws := wsX7_breaks) B.pre
  have hown : s.vm.findClass RX7 = some m.cls := findClass_of_methodNamed B.named
  have hlocks := B.notSynchronized
  subst hsz
  have hD := hD0.self (sz := s.heap.size)
  generalize hAe : va_A [(h0, .inr (7, [.ref h1, .ref h2, .ref h3, .null, .int 1])), (h1, .inr (1, [.int 0, .int 0, .int 0, .int 0, .ref h4, .ref h5, .ref h6]))] s.heap.size = A at hD ⊢
  have hA : ∀ q : Nat, s.heap.size ≤ q → A q := fun q h => by rw [← hAe]; exact Or.inr h
  have hS : va_S A s.heap s.heap [] := va_S.rf
  have hP : va_P (dC, dI) vwCl [(h0, .inr (7, [.ref h1, .ref h2, .ref h3, .null, .int 1])), (h1, .inr (1, [.int 0, .int 0, .int 0, .int 0, .ref h4, .ref h5, .ref h6]))] s.heap := hP
  have hl := lv_entry ([.ref h0, .int x0, .int x1]) (n := 5) (Nat.le_of_ble_eq_true rfl)
  rw [lg_entry_eq]
  generalize (lg_sl ([.ref h0, .int x0, .int x1]) ++ List.replicate (5 - (lg_sl ([.ref h0, .int x0, .int x1])).length) Slot.unset).toArray = ls at hl ⊢
  have hl : lv_has ls 5 [(0, .ref h0), (1, .int x0), (2, .int x1)] := hl
  refine lv_aload_n hx hb dX7_breaks_0 rfl (lv_at hl 0 rfl) ?_
  refine lv_iload_n hx hb dX7_breaks_1 rfl (lv_at hl 1 rfl) ?_
  refine yc_i (wc := [(h0, .inr (7, [.ref h1, .ref h2, .ref h3, .null, .int 1])), (h1, .inr (1, [.int 0, .int 0, .int 0, .int 0, .ref h4, .ref h5, .ref h6]))]) (wr := []) (w1 := fun _ => []) hP hD hS hA [0, 1] [] rfl rfl (by decide) (by decide) (va_runV (As := [.int x0]) (rest := []) ⟨hx, hb, hml, hown, hts⟩ (c0_X7_isCase l dC dI cy _ h0 h1 h2 h3 h4 h5 h6 x0) (cwV 1 hts gX7_breaks_X7_isCase rfl rfl rfl (by decide +kernel) ⟨Nat.le_of_ble_eq_true rfl, Nat.le_of_ble_eq_true rfl⟩) (ex_preV hE hK hP hD [0, 1] (by decide) rfl (ci := 7) (q0 := 0) rfl rfl) rfl rfl hl.1 rfl (lv_room (Nat.le_of_ble_eq_true rfl)) dX7_breaks_2 ⟨Nat.le_of_ble_eq_true rfl, Nat.le_of_ble_eq_true rfl⟩) (fun r_1 u_1 H locs hw_1 hP hD hS => ?_)
  have hP : va_P (dC, dI) vwCl [] H := hP
  have hD : va_D A [] := hD
  subst hw_1
  refine lv_if_eq (tgt := 15) hx hb dX7_breaks_5 (by decide) (fun _ => ?_) (fun c9 => absurd c9 (by decide))
  refine lv_iconst (v := (-1)) hx hb dX7_breaks_15 (by decide) ?_
  have hP9 := hP.sub (ws' := []) [] rfl
  have hD9 := hD.sub (ws' := []) [] (by decide) rfl
  exact W.iret (v := (-1)) hx hb hr (fun t ht hW => ⟨⟨(-1), (), rfl, rfl, by rw [ht]; exact hP9, hD9⟩, hS.F ht⟩) hS.2.2 dX7_breaks_16

set_option maxHeartbeats 4000000 in
set_option maxRecDepth 100000 in
theorem c0_X7_log (l : Launch) (dC : Nat → ClassId) (dI : Nat → Nat → Nat) (cy : Nat → ClassId) (sz : Nat) (h0 h1 h2 h3 h4 h5 h6 : Nat) (x0 x1 x2 x3 : Int32) : Met l yX7_log wsX7_log ({ frames := 3, cells := 0, slots := 0, locals := 192 }) (va_Pc [.ref h0, .int x0, .int x1, .int x2, .int x3] (ex_Pre dC dI cy sz [(h0, .inr (7, [.ref h1, .ref h2, .ref h3, .null, .int 1])), (h1, .inr (1, [.int 0, .int 0, .int 0, .int 0, .ref h4, .ref h5, .ref h6]))])) (va_Qi (fun (r : Int32) (u : Unit) => r = -1) (fun u t => ex_Pst dC dI (va_A [(h0, .inr (7, [.ref h1, .ref h2, .ref h3, .null, .int 1])), (h1, .inr (1, [.int 0, .int 0, .int 0, .int 0, .ref h4, .ref h5, .ref h6]))] sz) ([]) t) (va_A [(h0, .inr (7, [.ref h1, .ref h2, .ref h3, .null, .int 1])), (h1, .inr (1, [.int 0, .int 0, .int 0, .int 0, .ref h4, .ref h5, .ref h6]))] sz)) 0 0 (va_A [(h0, .inr (7, [.ref h1, .ref h2, .ref h3, .null, .int 1])), (h1, .inr (1, [.int 0, .int 0, .int 0, .int 0, .ref h4, .ref h5, .ref h6]))] sz) := by
  refine Met.ofW (cc := cX7_log) (maxL := 7) (ret := (some .int)) (by decide) rfl ?_
  intro p e s m args below meth c s₁ B hml hv
  obtain ⟨rfl, hsz, hE, hP, hK, hD0⟩ := hv
  have hx := B.exec
  have hb := B.bytes
  have hr := B.returns
  have hts := atoms_spec (ws := wsX7_log) B.pre
  have hown : s.vm.findClass RX7 = some m.cls := findClass_of_methodNamed B.named
  have hlocks := B.notSynchronized
  subst hsz
  have hD := hD0.self (sz := s.heap.size)
  generalize hAe : va_A [(h0, .inr (7, [.ref h1, .ref h2, .ref h3, .null, .int 1])), (h1, .inr (1, [.int 0, .int 0, .int 0, .int 0, .ref h4, .ref h5, .ref h6]))] s.heap.size = A at hD ⊢
  have hA : ∀ q : Nat, s.heap.size ≤ q → A q := fun q h => by rw [← hAe]; exact Or.inr h
  have hS : va_S A s.heap s.heap [] := va_S.rf
  have hP : va_P (dC, dI) vwCl [(h0, .inr (7, [.ref h1, .ref h2, .ref h3, .null, .int 1])), (h1, .inr (1, [.int 0, .int 0, .int 0, .int 0, .ref h4, .ref h5, .ref h6]))] s.heap := hP
  have hl := lv_entry ([.ref h0, .int x0, .int x1, .int x2, .int x3]) (n := 7) (Nat.le_of_ble_eq_true rfl)
  rw [lg_entry_eq]
  generalize (lg_sl ([.ref h0, .int x0, .int x1, .int x2, .int x3]) ++ List.replicate (7 - (lg_sl ([.ref h0, .int x0, .int x1, .int x2, .int x3])).length) Slot.unset).toArray = ls at hl ⊢
  have hl : lv_has ls 7 [(0, .ref h0), (1, .int x0), (2, .int x1), (3, .int x2), (4, .int x3)] := hl
  refine lv_aload_n hx hb dX7_log_0 rfl (lv_at hl 0 rfl) ?_
  refine lv_iload_n hx hb dX7_log_1 rfl (lv_at hl 1 rfl) ?_
  refine yc_i (wc := [(h0, .inr (7, [.ref h1, .ref h2, .ref h3, .null, .int 1])), (h1, .inr (1, [.int 0, .int 0, .int 0, .int 0, .ref h4, .ref h5, .ref h6]))]) (wr := []) (w1 := fun _ => []) hP hD hS hA [0, 1] [] rfl rfl (by decide) (by decide) (va_runV (As := [.int x0]) (rest := []) ⟨hx, hb, hml, hown, hts⟩ (c0_X7_isCase l dC dI cy _ h0 h1 h2 h3 h4 h5 h6 x0) (cwV 1 hts gX7_log_X7_isCase rfl rfl rfl (by decide +kernel) ⟨Nat.le_of_ble_eq_true rfl, Nat.le_of_ble_eq_true rfl⟩) (ex_preV hE hK hP hD [0, 1] (by decide) rfl (ci := 7) (q0 := 0) rfl rfl) rfl rfl hl.1 rfl (lv_room (Nat.le_of_ble_eq_true rfl)) dX7_log_2 ⟨Nat.le_of_ble_eq_true rfl, Nat.le_of_ble_eq_true rfl⟩) (fun r_1 u_1 H locs hw_1 hP hD hS => ?_)
  have hP : va_P (dC, dI) vwCl [] H := hP
  have hD : va_D A [] := hD
  subst hw_1
  refine lv_if_eq (tgt := 33) hx hb dX7_log_5 (by decide) (fun _ => ?_) (fun c9 => absurd c9 (by decide))
  refine lv_iconst (v := (-1)) hx hb dX7_log_33 (by decide) ?_
  have hP9 := hP.sub (ws' := []) [] rfl
  have hD9 := hD.sub (ws' := []) [] (by decide) rfl
  exact W.iret (v := (-1)) hx hb hr (fun t ht hW => ⟨⟨(-1), (), rfl, rfl, by rw [ht]; exact hP9, hD9⟩, hS.F ht⟩) hS.2.2 dX7_log_34

set_option maxHeartbeats 4000000 in
set_option maxRecDepth 100000 in
theorem c0_X7_judged (l : Launch) (dC : Nat → ClassId) (dI : Nat → Nat → Nat) (cy : Nat → ClassId) (sz : Nat) (h0 h1 h2 h3 h4 h5 h6 : Nat) (x0 x1 : Int32) : Met l yX7_judged wsX7_judged ({ frames := 3, cells := 0, slots := 0, locals := 192 }) (va_Pc [.ref h0, .int x0, .int x1] (ex_Pre dC dI cy sz [(h0, .inr (7, [.ref h1, .ref h2, .ref h3, .null, .int 1])), (h1, .inr (1, [.int 0, .int 0, .int 0, .int 0, .ref h4, .ref h5, .ref h6]))])) (va_Qi (fun (r : Int32) (u : Unit) => r = -1) (fun u t => ex_Pst dC dI (va_A [(h0, .inr (7, [.ref h1, .ref h2, .ref h3, .null, .int 1])), (h1, .inr (1, [.int 0, .int 0, .int 0, .int 0, .ref h4, .ref h5, .ref h6]))] sz) ([]) t) (va_A [(h0, .inr (7, [.ref h1, .ref h2, .ref h3, .null, .int 1])), (h1, .inr (1, [.int 0, .int 0, .int 0, .int 0, .ref h4, .ref h5, .ref h6]))] sz)) 0 0 (va_A [(h0, .inr (7, [.ref h1, .ref h2, .ref h3, .null, .int 1])), (h1, .inr (1, [.int 0, .int 0, .int 0, .int 0, .ref h4, .ref h5, .ref h6]))] sz) := by
  refine Met.ofW (cc := cX7_judged) (maxL := 3) (ret := (some .int)) (by decide) rfl ?_
  intro p e s m args below meth c s₁ B hml hv
  obtain ⟨rfl, hsz, hE, hP, hK, hD0⟩ := hv
  have hx := B.exec
  have hb := B.bytes
  have hr := B.returns
  have hts := atoms_spec (ws := wsX7_judged) B.pre
  have hown : s.vm.findClass RX7 = some m.cls := findClass_of_methodNamed B.named
  have hlocks := B.notSynchronized
  subst hsz
  have hD := hD0.self (sz := s.heap.size)
  generalize hAe : va_A [(h0, .inr (7, [.ref h1, .ref h2, .ref h3, .null, .int 1])), (h1, .inr (1, [.int 0, .int 0, .int 0, .int 0, .ref h4, .ref h5, .ref h6]))] s.heap.size = A at hD ⊢
  have hA : ∀ q : Nat, s.heap.size ≤ q → A q := fun q h => by rw [← hAe]; exact Or.inr h
  have hS : va_S A s.heap s.heap [] := va_S.rf
  have hP : va_P (dC, dI) vwCl [(h0, .inr (7, [.ref h1, .ref h2, .ref h3, .null, .int 1])), (h1, .inr (1, [.int 0, .int 0, .int 0, .int 0, .ref h4, .ref h5, .ref h6]))] s.heap := hP
  have hl := lv_entry ([.ref h0, .int x0, .int x1]) (n := 3) (Nat.le_of_ble_eq_true rfl)
  rw [lg_entry_eq]
  generalize (lg_sl ([.ref h0, .int x0, .int x1]) ++ List.replicate (3 - (lg_sl ([.ref h0, .int x0, .int x1])).length) Slot.unset).toArray = ls at hl ⊢
  have hl : lv_has ls 3 [(0, .ref h0), (1, .int x0), (2, .int x1)] := hl
  refine lv_aload_n hx hb dX7_judged_0 rfl (lv_at hl 0 rfl) ?_
  refine lv_iload_n hx hb dX7_judged_1 rfl (lv_at hl 1 rfl) ?_
  refine lv_iload_n hx hb dX7_judged_2 rfl (lv_at hl 2 rfl) ?_
  refine yc_i (wc := [(h0, .inr (7, [.ref h1, .ref h2, .ref h3, .null, .int 1])), (h1, .inr (1, [.int 0, .int 0, .int 0, .int 0, .ref h4, .ref h5, .ref h6]))]) (wr := []) (w1 := fun _ => []) hP hD hS hA [0, 1] [] rfl rfl (by decide) (by decide) (va_runV (As := [.int x0, .int x1]) (rest := []) ⟨hx, hb, hml, hown, hts⟩ (c0_X7_isTerm l dC dI cy _ h0 h1 h2 h3 h4 h5 h6 x0 x1) (cwV 2 hts gX7_judged_X7_isTerm rfl rfl rfl (by decide +kernel) ⟨Nat.le_of_ble_eq_true rfl, Nat.le_of_ble_eq_true rfl⟩) (ex_preV hE hK hP hD [0, 1] (by decide) rfl (ci := 7) (q0 := 0) rfl rfl) rfl rfl hl.1 rfl (lv_room (Nat.le_of_ble_eq_true rfl)) dX7_judged_3 ⟨Nat.le_of_ble_eq_true rfl, Nat.le_of_ble_eq_true rfl⟩) (fun r_1 u_1 H locs hw_1 hP hD hS => ?_)
  have hP : va_P (dC, dI) vwCl [] H := hP
  have hD : va_D A [] := hD
  subst hw_1
  refine lv_if_ne (tgt := 11) hx hb dX7_judged_6 (by decide) (fun c9 => absurd c9 (by decide)) (fun _ => ?_)
  refine lv_iconst (v := (-1)) hx hb dX7_judged_9 (by decide) ?_
  have hP9 := hP.sub (ws' := []) [] rfl
  have hD9 := hD.sub (ws' := []) [] (by decide) rfl
  exact W.iret (v := (-1)) hx hb hr (fun t ht hW => ⟨⟨(-1), (), rfl, rfl, by rw [ht]; exact hP9, hD9⟩, hS.F ht⟩) hS.2.2 dX7_judged_10
