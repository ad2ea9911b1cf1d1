set_option maxRecDepth 20000 in
theorem db_X8_oneOf_0 : (decode cX8_oneOf 0 = .ok (.iload_n 0, 1)) ∧ (decode cX8_oneOf 1 = .ok (.iconst 3, 1)) ∧ (decode cX8_oneOf 2 = .ok (.if_icmp .ge 7, 3)) ∧ (decode cX8_oneOf 9 = .ok (.iload_n 0, 1)) ∧ (decode cX8_oneOf 10 = .ok (.iconst 5, 1)) ∧ (decode cX8_oneOf 11 = .ok (.if_icmp .ge 7, 3)) ∧ (decode cX8_oneOf 18 = .ok (.iconst 2, 1)) ∧ (decode cX8_oneOf 19 = .ok (.ireturn, 1)) := by decide +kernel
theorem dX8_oneOf_0 : decode cX8_oneOf 0 = .ok (.iload_n 0, 1) := db_X8_oneOf_0.1
theorem dX8_oneOf_1 : decode cX8_oneOf 1 = .ok (.iconst 3, 1) := db_X8_oneOf_0.2.1
theorem dX8_oneOf_2 : decode cX8_oneOf 2 = .ok (.if_icmp .ge 7, 3) := db_X8_oneOf_0.2.2.1
theorem dX8_oneOf_9 : decode cX8_oneOf 9 = .ok (.iload_n 0, 1) := db_X8_oneOf_0.2.2.2.1
theorem dX8_oneOf_10 : decode cX8_oneOf 10 = .ok (.iconst 5, 1) := db_X8_oneOf_0.2.2.2.2.1
theorem dX8_oneOf_11 : decode cX8_oneOf 11 = .ok (.if_icmp .ge 7, 3) := db_X8_oneOf_0.2.2.2.2.2.1
theorem dX8_oneOf_18 : decode cX8_oneOf 18 = .ok (.iconst 2, 1) := db_X8_oneOf_0.2.2.2.2.2.2.1
theorem dX8_oneOf_19 : decode cX8_oneOf 19 = .ok (.ireturn, 1) := db_X8_oneOf_0.2.2.2.2.2.2.2
set_option maxRecDepth 20000 in
theorem db_X8_oneOf_14 : (decode cX8_oneOf 14 = .ok (.iconst 1, 1)) ∧ (decode cX8_oneOf 15 = .ok (.goto 4, 3)) ∧ (decode cX8_oneOf 5 = .ok (.iconst 0, 1)) ∧ (decode cX8_oneOf 6 = .ok (.goto 13, 3)) := by decide +kernel
theorem dX8_oneOf_14 : decode cX8_oneOf 14 = .ok (.iconst 1, 1) := db_X8_oneOf_14.1
theorem dX8_oneOf_15 : decode cX8_oneOf 15 = .ok (.goto 4, 3) := db_X8_oneOf_14.2.1
theorem dX8_oneOf_5 : decode cX8_oneOf 5 = .ok (.iconst 0, 1) := db_X8_oneOf_14.2.2.1
theorem dX8_oneOf_6 : decode cX8_oneOf 6 = .ok (.goto 13, 3) := db_X8_oneOf_14.2.2.2
set_option maxRecDepth 20000 in
theorem db_X8_otherOf_0 : (decode cX8_otherOf 0 = .ok (.iload_n 0, 1)) ∧ (decode cX8_otherOf 1 = .ok (.iconst 3, 1)) ∧ (decode cX8_otherOf 2 = .ok (.if_icmp .ge 9, 3)) ∧ (decode cX8_otherOf 11 = .ok (.iload_n 0, 1)) ∧ (decode cX8_otherOf 12 = .ok (.iconst 5, 1)) ∧ (decode cX8_otherOf 13 = .ok (.if_icmp .ge 9, 3)) ∧ (decode cX8_otherOf 22 = .ok (.iconst 3, 1)) ∧ (decode cX8_otherOf 23 = .ok (.ireturn, 1)) := by decide +kernel
theorem dX8_otherOf_0 : decode cX8_otherOf 0 = .ok (.iload_n 0, 1) := db_X8_otherOf_0.1
theorem dX8_otherOf_1 : decode cX8_otherOf 1 = .ok (.iconst 3, 1) := db_X8_otherOf_0.2.1
theorem dX8_otherOf_2 : decode cX8_otherOf 2 = .ok (.if_icmp .ge 9, 3) := db_X8_otherOf_0.2.2.1
theorem dX8_otherOf_11 : decode cX8_otherOf 11 = .ok (.iload_n 0, 1) := db_X8_otherOf_0.2.2.2.1
theorem dX8_otherOf_12 : decode cX8_otherOf 12 = .ok (.iconst 5, 1) := db_X8_otherOf_0.2.2.2.2.1
theorem dX8_otherOf_13 : decode cX8_otherOf 13 = .ok (.if_icmp .ge 9, 3) := db_X8_otherOf_0.2.2.2.2.2.1
theorem dX8_otherOf_22 : decode cX8_otherOf 22 = .ok (.iconst 3, 1) := db_X8_otherOf_0.2.2.2.2.2.2.1
theorem dX8_otherOf_23 : decode cX8_otherOf 23 = .ok (.ireturn, 1) := db_X8_otherOf_0.2.2.2.2.2.2.2
set_option maxRecDepth 20000 in
theorem db_X8_otherOf_16 : (decode cX8_otherOf 16 = .ok (.iload_n 0, 1)) ∧ (decode cX8_otherOf 17 = .ok (.iconst 1, 1)) ∧ (decode cX8_otherOf 18 = .ok (.isub, 1)) ∧ (decode cX8_otherOf 19 = .ok (.goto 4, 3)) ∧ (decode cX8_otherOf 5 = .ok (.iload_n 0, 1)) ∧ (decode cX8_otherOf 6 = .ok (.iconst 1, 1)) ∧ (decode cX8_otherOf 7 = .ok (.iadd, 1)) ∧ (decode cX8_otherOf 8 = .ok (.goto 15, 3)) := by decide +kernel
theorem dX8_otherOf_16 : decode cX8_otherOf 16 = .ok (.iload_n 0, 1) := db_X8_otherOf_16.1
theorem dX8_otherOf_17 : decode cX8_otherOf 17 = .ok (.iconst 1, 1) := db_X8_otherOf_16.2.1
theorem dX8_otherOf_18 : decode cX8_otherOf 18 = .ok (.isub, 1) := db_X8_otherOf_16.2.2.1
theorem dX8_otherOf_19 : decode cX8_otherOf 19 = .ok (.goto 4, 3) := db_X8_otherOf_16.2.2.2.1
theorem dX8_otherOf_5 : decode cX8_otherOf 5 = .ok (.iload_n 0, 1) := db_X8_otherOf_16.2.2.2.2.1
theorem dX8_otherOf_6 : decode cX8_otherOf 6 = .ok (.iconst 1, 1) := db_X8_otherOf_16.2.2.2.2.2.1
theorem dX8_otherOf_7 : decode cX8_otherOf 7 = .ok (.iadd, 1) := db_X8_otherOf_16.2.2.2.2.2.2.1
theorem dX8_otherOf_8 : decode cX8_otherOf 8 = .ok (.goto 15, 3) := db_X8_otherOf_16.2.2.2.2.2.2.2
set_option maxRecDepth 20000 in
theorem db_X8_isParty_0 : (decode cX8_isParty 0 = .ok (.iload_n 1, 1)) ∧ (decode cX8_isParty 1 = .ok (.iconst 0, 1)) ∧ (decode cX8_isParty 2 = .ok (.aload_n 0, 1)) ∧ (decode cX8_isParty 3 = .ok (.getfield 7, 3)) ∧ (decode cX8_isParty 6 = .ok (.iconst 0, 1)) ∧ (decode cX8_isParty 7 = .ok (.iaload, 1)) ∧ (decode cX8_isParty 8 = .ok (.iconst 1, 1)) ∧ (decode cX8_isParty 9 = .ok (.isub, 1)) := by decide +kernel
theorem dX8_isParty_0 : decode cX8_isParty 0 = .ok (.iload_n 1, 1) := db_X8_isParty_0.1
theorem dX8_isParty_1 : decode cX8_isParty 1 = .ok (.iconst 0, 1) := db_X8_isParty_0.2.1
theorem dX8_isParty_2 : decode cX8_isParty 2 = .ok (.aload_n 0, 1) := db_X8_isParty_0.2.2.1
theorem dX8_isParty_3 : decode cX8_isParty 3 = .ok (.getfield 7, 3) := db_X8_isParty_0.2.2.2.1
theorem dX8_isParty_6 : decode cX8_isParty 6 = .ok (.iconst 0, 1) := db_X8_isParty_0.2.2.2.2.1
theorem dX8_isParty_7 : decode cX8_isParty 7 = .ok (.iaload, 1) := db_X8_isParty_0.2.2.2.2.2.1
theorem dX8_isParty_8 : decode cX8_isParty 8 = .ok (.iconst 1, 1) := db_X8_isParty_0.2.2.2.2.2.2.1
theorem dX8_isParty_9 : decode cX8_isParty 9 = .ok (.isub, 1) := db_X8_isParty_0.2.2.2.2.2.2.2
set_option maxRecDepth 20000 in
theorem ggX8_isParty_X8_in : GoodIn wsX8_isParty wsX8_in := goodIn_r _ [5] rfl (by decide +kernel)
set_option maxRecDepth 20000 in
theorem gX8_isParty_X8_in : GoodIn wsX8_isParty (va_wsS RX8 35 yX8_in wsX8_in) := goodIn_app (goodIn_r _ [2, 3, 4] rfl (by decide +kernel)) ggX8_isParty_X8_in
set_option maxRecDepth 20000 in
theorem db_X8_isParty_10 : (decode cX8_isParty 10 = .ok (.invokestatic 35, 3)) ∧ (decode cX8_isParty 13 = .ok (.ireturn, 1)) := by decide +kernel
theorem dX8_isParty_10 : decode cX8_isParty 10 = .ok (.invokestatic 35, 3) := db_X8_isParty_10.1
theorem dX8_isParty_13 : decode cX8_isParty 13 = .ok (.ireturn, 1) := db_X8_isParty_10.2
set_option maxRecDepth 20000 in
theorem db_X8_isMediator_0 : (decode cX8_isMediator 0 = .ok (.iload_n 1, 1)) ∧ (decode cX8_isMediator 1 = .ok (.iconst 0, 1)) ∧ (decode cX8_isMediator 2 = .ok (.aload_n 0, 1)) ∧ (decode cX8_isMediator 3 = .ok (.getfield 7, 3)) ∧ (decode cX8_isMediator 6 = .ok (.iconst 1, 1)) ∧ (decode cX8_isMediator 7 = .ok (.iaload, 1)) ∧ (decode cX8_isMediator 8 = .ok (.iconst 1, 1)) ∧ (decode cX8_isMediator 9 = .ok (.isub, 1)) := by decide +kernel
theorem dX8_isMediator_0 : decode cX8_isMediator 0 = .ok (.iload_n 1, 1) := db_X8_isMediator_0.1
theorem dX8_isMediator_1 : decode cX8_isMediator 1 = .ok (.iconst 0, 1) := db_X8_isMediator_0.2.1
theorem dX8_isMediator_2 : decode cX8_isMediator 2 = .ok (.aload_n 0, 1) := db_X8_isMediator_0.2.2.1
theorem dX8_isMediator_3 : decode cX8_isMediator 3 = .ok (.getfield 7, 3) := db_X8_isMediator_0.2.2.2.1
theorem dX8_isMediator_6 : decode cX8_isMediator 6 = .ok (.iconst 1, 1) := db_X8_isMediator_0.2.2.2.2.1
theorem dX8_isMediator_7 : decode cX8_isMediator 7 = .ok (.iaload, 1) := db_X8_isMediator_0.2.2.2.2.2.1
theorem dX8_isMediator_8 : decode cX8_isMediator 8 = .ok (.iconst 1, 1) := db_X8_isMediator_0.2.2.2.2.2.2.1
theorem dX8_isMediator_9 : decode cX8_isMediator 9 = .ok (.isub, 1) := db_X8_isMediator_0.2.2.2.2.2.2.2
set_option maxRecDepth 20000 in
theorem ggX8_isMediator_X8_in : GoodIn wsX8_isMediator wsX8_in := goodIn_r _ [5] rfl (by decide +kernel)
set_option maxRecDepth 20000 in
theorem gX8_isMediator_X8_in : GoodIn wsX8_isMediator (va_wsS RX8 35 yX8_in wsX8_in) := goodIn_app (goodIn_r _ [2, 3, 4] rfl (by decide +kernel)) ggX8_isMediator_X8_in
set_option maxRecDepth 20000 in
theorem db_X8_isMediator_10 : (decode cX8_isMediator 10 = .ok (.invokestatic 35, 3)) ∧ (decode cX8_isMediator 13 = .ok (.ireturn, 1)) := by decide +kernel
theorem dX8_isMediator_10 : decode cX8_isMediator 10 = .ok (.invokestatic 35, 3) := db_X8_isMediator_10.1
theorem dX8_isMediator_13 : decode cX8_isMediator 13 = .ok (.ireturn, 1) := db_X8_isMediator_10.2
set_option maxRecDepth 20000 in
theorem db_X8_isCase_0 : (decode cX8_isCase 0 = .ok (.iload_n 1, 1)) ∧ (decode cX8_isCase 1 = .ok (.iconst 0, 1)) ∧ (decode cX8_isCase 2 = .ok (.aload_n 0, 1)) ∧ (decode cX8_isCase 3 = .ok (.getfield 7, 3)) ∧ (decode cX8_isCase 6 = .ok (.iconst 2, 1)) ∧ (decode cX8_isCase 7 = .ok (.iaload, 1)) ∧ (decode cX8_isCase 8 = .ok (.iconst 1, 1)) ∧ (decode cX8_isCase 9 = .ok (.isub, 1)) := by decide +kernel
theorem dX8_isCase_0 : decode cX8_isCase 0 = .ok (.iload_n 1, 1) := db_X8_isCase_0.1
theorem dX8_isCase_1 : decode cX8_isCase 1 = .ok (.iconst 0, 1) := db_X8_isCase_0.2.1
theorem dX8_isCase_2 : decode cX8_isCase 2 = .ok (.aload_n 0, 1) := db_X8_isCase_0.2.2.1
theorem dX8_isCase_3 : decode cX8_isCase 3 = .ok (.getfield 7, 3) := db_X8_isCase_0.2.2.2.1
theorem dX8_isCase_6 : decode cX8_isCase 6 = .ok (.iconst 2, 1) := db_X8_isCase_0.2.2.2.2.1
theorem dX8_isCase_7 : decode cX8_isCase 7 = .ok (.iaload, 1) := db_X8_isCase_0.2.2.2.2.2.1
theorem dX8_isCase_8 : decode cX8_isCase 8 = .ok (.iconst 1, 1) := db_X8_isCase_0.2.2.2.2.2.2.1
theorem dX8_isCase_9 : decode cX8_isCase 9 = .ok (.isub, 1) := db_X8_isCase_0.2.2.2.2.2.2.2
set_option maxRecDepth 20000 in
theorem ggX8_isCase_X8_in : GoodIn wsX8_isCase wsX8_in := goodIn_r _ [5] rfl (by decide +kernel)
set_option maxRecDepth 20000 in
theorem gX8_isCase_X8_in : GoodIn wsX8_isCase (va_wsS RX8 35 yX8_in wsX8_in) := goodIn_app (goodIn_r _ [2, 3, 4] rfl (by decide +kernel)) ggX8_isCase_X8_in
set_option maxRecDepth 20000 in
theorem db_X8_isCase_10 : (decode cX8_isCase 10 = .ok (.invokestatic 35, 3)) ∧ (decode cX8_isCase 13 = .ok (.ireturn, 1)) := by decide +kernel
theorem dX8_isCase_10 : decode cX8_isCase 10 = .ok (.invokestatic 35, 3) := db_X8_isCase_10.1
theorem dX8_isCase_13 : decode cX8_isCase 13 = .ok (.ireturn, 1) := db_X8_isCase_10.2
set_option maxRecDepth 20000 in
theorem db_X8_isPair_0 : (decode cX8_isPair 0 = .ok (.iload_n 1, 1)) ∧ (decode cX8_isPair 1 = .ok (.iconst 0, 1)) ∧ (decode cX8_isPair 2 = .ok (.iconst 5, 1)) ∧ (decode cX8_isPair 3 = .ok (.invokestatic 35, 3)) ∧ (decode cX8_isPair 6 = .ok (.ifCond .eq 18, 3)) ∧ (decode cX8_isPair 9 = .ok (.aload_n 0, 1)) ∧ (decode cX8_isPair 10 = .ok (.iload_n 1, 1)) ∧ (decode cX8_isPair 11 = .ok (.invokestatic 63, 3)) := by decide +kernel
theorem dX8_isPair_0 : decode cX8_isPair 0 = .ok (.iload_n 1, 1) := db_X8_isPair_0.1
theorem dX8_isPair_1 : decode cX8_isPair 1 = .ok (.iconst 0, 1) := db_X8_isPair_0.2.1
theorem dX8_isPair_2 : decode cX8_isPair 2 = .ok (.iconst 5, 1) := db_X8_isPair_0.2.2.1
set_option maxRecDepth 20000 in
theorem ggX8_isPair_X8_in : GoodIn wsX8_isPair wsX8_in := goodIn_r _ [4] rfl (by decide +kernel)
set_option maxRecDepth 20000 in
theorem gX8_isPair_X8_in : GoodIn wsX8_isPair (va_wsS RX8 35 yX8_in wsX8_in) := goodIn_app (goodIn_r _ [1, 2, 3] rfl (by decide +kernel)) ggX8_isPair_X8_in
theorem dX8_isPair_3 : decode cX8_isPair 3 = .ok (.invokestatic 35, 3) := db_X8_isPair_0.2.2.2.1
theorem dX8_isPair_6 : decode cX8_isPair 6 = .ok (.ifCond .eq 18, 3) := db_X8_isPair_0.2.2.2.2.1
theorem dX8_isPair_9 : decode cX8_isPair 9 = .ok (.aload_n 0, 1) := db_X8_isPair_0.2.2.2.2.2.1
theorem dX8_isPair_10 : decode cX8_isPair 10 = .ok (.iload_n 1, 1) := db_X8_isPair_0.2.2.2.2.2.2.1
set_option maxRecDepth 20000 in
theorem ggX8_isPair_X8_otherOf : GoodIn wsX8_isPair wsX8_otherOf := goodIn_r _ [7] rfl (by decide +kernel)
set_option maxRecDepth 20000 in
theorem gX8_isPair_X8_otherOf : GoodIn wsX8_isPair (va_wsS RX8 63 yX8_otherOf wsX8_otherOf) := goodIn_app (goodIn_r _ [5, 6, 3] rfl (by decide +kernel)) ggX8_isPair_X8_otherOf
theorem dX8_isPair_11 : decode cX8_isPair 11 = .ok (.invokestatic 63, 3) := db_X8_isPair_0.2.2.2.2.2.2.2
set_option maxRecDepth 20000 in
theorem ggX8_isPair_X8_isMediator : GoodIn wsX8_isPair wsX8_isMediator := goodIn_r _ [11, 12, 1, 2, 3, 4, 13, 14, 15, 16, 17, 18, 19, 20, 21, 22, 23] rfl (by decide +kernel)
set_option maxRecDepth 20000 in
theorem gX8_isPair_X8_isMediator : GoodIn wsX8_isPair (wsV RX8 39 RX8 yX8_isMediator wsX8_isMediator) := goodIn_app (goodIn_r _ [8, 9, 10, 3] rfl (by decide +kernel)) ggX8_isPair_X8_isMediator
set_option maxRecDepth 20000 in
theorem db_X8_isPair_14 : (decode cX8_isPair 14 = .ok (.invokevirtual 39, 3)) ∧ (decode cX8_isPair 17 = .ok (.ifCond .eq 7, 3)) ∧ (decode cX8_isPair 20 = .ok (.iconst 1, 1)) ∧ (decode cX8_isPair 21 = .ok (.goto 4, 3)) ∧ (decode cX8_isPair 25 = .ok (.ireturn, 1)) ∧ (decode cX8_isPair 24 = .ok (.iconst 0, 1)) := by decide +kernel
theorem dX8_isPair_14 : decode cX8_isPair 14 = .ok (.invokevirtual 39, 3) := db_X8_isPair_14.1
theorem dX8_isPair_17 : decode cX8_isPair 17 = .ok (.ifCond .eq 7, 3) := db_X8_isPair_14.2.1
theorem dX8_isPair_20 : decode cX8_isPair 20 = .ok (.iconst 1, 1) := db_X8_isPair_14.2.2.1
theorem dX8_isPair_21 : decode cX8_isPair 21 = .ok (.goto 4, 3) := db_X8_isPair_14.2.2.2.1
theorem dX8_isPair_25 : decode cX8_isPair 25 = .ok (.ireturn, 1) := db_X8_isPair_14.2.2.2.2.1
theorem dX8_isPair_24 : decode cX8_isPair 24 = .ok (.iconst 0, 1) := db_X8_isPair_14.2.2.2.2.2
set_option maxRecDepth 20000 in
theorem db_X8_mayMeet_0 : (decode cX8_mayMeet 0 = .ok (.aload_n 0, 1)) ∧ (decode cX8_mayMeet 1 = .ok (.getfield 7, 3)) ∧ (decode cX8_mayMeet 4 = .ok (.bipush 20, 2)) ∧ (decode cX8_mayMeet 6 = .ok (.iconst 2, 1)) ∧ (decode cX8_mayMeet 7 = .ok (.iload_n 1, 1)) ∧ (decode cX8_mayMeet 8 = .ok (.imul, 1)) ∧ (decode cX8_mayMeet 9 = .ok (.iadd, 1)) ∧ (decode cX8_mayMeet 10 = .ok (.iaload, 1)) := by decide +kernel
theorem dX8_mayMeet_0 : decode cX8_mayMeet 0 = .ok (.aload_n 0, 1) := db_X8_mayMeet_0.1
theorem dX8_mayMeet_1 : decode cX8_mayMeet 1 = .ok (.getfield 7, 3) := db_X8_mayMeet_0.2.1
theorem dX8_mayMeet_4 : decode cX8_mayMeet 4 = .ok (.bipush 20, 2) := db_X8_mayMeet_0.2.2.1
theorem dX8_mayMeet_6 : decode cX8_mayMeet 6 = .ok (.iconst 2, 1) := db_X8_mayMeet_0.2.2.2.1
theorem dX8_mayMeet_7 : decode cX8_mayMeet 7 = .ok (.iload_n 1, 1) := db_X8_mayMeet_0.2.2.2.2.1
theorem dX8_mayMeet_8 : decode cX8_mayMeet 8 = .ok (.imul, 1) := db_X8_mayMeet_0.2.2.2.2.2.1
theorem dX8_mayMeet_9 : decode cX8_mayMeet 9 = .ok (.iadd, 1) := db_X8_mayMeet_0.2.2.2.2.2.2.1
theorem dX8_mayMeet_10 : decode cX8_mayMeet 10 = .ok (.iaload, 1) := db_X8_mayMeet_0.2.2.2.2.2.2.2
set_option maxRecDepth 20000 in
theorem db_X8_mayMeet_11 : (decode cX8_mayMeet 11 = .ok (.aload_n 0, 1)) ∧ (decode cX8_mayMeet 12 = .ok (.getfield 7, 3)) ∧ (decode cX8_mayMeet 15 = .ok (.iconst 4, 1)) ∧ (decode cX8_mayMeet 16 = .ok (.iconst 2, 1)) ∧ (decode cX8_mayMeet 17 = .ok (.iload_n 2, 1)) ∧ (decode cX8_mayMeet 18 = .ok (.imul, 1)) ∧ (decode cX8_mayMeet 19 = .ok (.iadd, 1)) ∧ (decode cX8_mayMeet 20 = .ok (.iaload, 1)) := by decide +kernel
theorem dX8_mayMeet_11 : decode cX8_mayMeet 11 = .ok (.aload_n 0, 1) := db_X8_mayMeet_11.1
theorem dX8_mayMeet_12 : decode cX8_mayMeet 12 = .ok (.getfield 7, 3) := db_X8_mayMeet_11.2.1
theorem dX8_mayMeet_15 : decode cX8_mayMeet 15 = .ok (.iconst 4, 1) := db_X8_mayMeet_11.2.2.1
theorem dX8_mayMeet_16 : decode cX8_mayMeet 16 = .ok (.iconst 2, 1) := db_X8_mayMeet_11.2.2.2.1
theorem dX8_mayMeet_17 : decode cX8_mayMeet 17 = .ok (.iload_n 2, 1) := db_X8_mayMeet_11.2.2.2.2.1
theorem dX8_mayMeet_18 : decode cX8_mayMeet 18 = .ok (.imul, 1) := db_X8_mayMeet_11.2.2.2.2.2.1
theorem dX8_mayMeet_19 : decode cX8_mayMeet 19 = .ok (.iadd, 1) := db_X8_mayMeet_11.2.2.2.2.2.2.1
theorem dX8_mayMeet_20 : decode cX8_mayMeet 20 = .ok (.iaload, 1) := db_X8_mayMeet_11.2.2.2.2.2.2.2
set_option maxRecDepth 20000 in
theorem db_X8_mayMeet_21 : (decode cX8_mayMeet 21 = .ok (.if_icmp .eq 23, 3)) ∧ (decode cX8_mayMeet 44 = .ok (.iconst 0, 1)) ∧ (decode cX8_mayMeet 45 = .ok (.ireturn, 1)) ∧ (decode cX8_mayMeet 24 = .ok (.aload_n 0, 1)) ∧ (decode cX8_mayMeet 25 = .ok (.getfield 7, 3)) ∧ (decode cX8_mayMeet 28 = .ok (.bipush 28, 2)) ∧ (decode cX8_mayMeet 30 = .ok (.iload_n 1, 1)) ∧ (decode cX8_mayMeet 31 = .ok (.iadd, 1)) := by decide +kernel
theorem dX8_mayMeet_21 : decode cX8_mayMeet 21 = .ok (.if_icmp .eq 23, 3) := db_X8_mayMeet_21.1
theorem dX8_mayMeet_44 : decode cX8_mayMeet 44 = .ok (.iconst 0, 1) := db_X8_mayMeet_21.2.1
theorem dX8_mayMeet_45 : decode cX8_mayMeet 45 = .ok (.ireturn, 1) := db_X8_mayMeet_21.2.2.1
theorem dX8_mayMeet_24 : decode cX8_mayMeet 24 = .ok (.aload_n 0, 1) := db_X8_mayMeet_21.2.2.2.1
theorem dX8_mayMeet_25 : decode cX8_mayMeet 25 = .ok (.getfield 7, 3) := db_X8_mayMeet_21.2.2.2.2.1
theorem dX8_mayMeet_28 : decode cX8_mayMeet 28 = .ok (.bipush 28, 2) := db_X8_mayMeet_21.2.2.2.2.2.1
theorem dX8_mayMeet_30 : decode cX8_mayMeet 30 = .ok (.iload_n 1, 1) := db_X8_mayMeet_21.2.2.2.2.2.2.1
theorem dX8_mayMeet_31 : decode cX8_mayMeet 31 = .ok (.iadd, 1) := db_X8_mayMeet_21.2.2.2.2.2.2.2
set_option maxRecDepth 20000 in
theorem db_X8_mayMeet_32 : (decode cX8_mayMeet 32 = .ok (.iaload, 1)) ∧ (decode cX8_mayMeet 33 = .ok (.iload_n 2, 1)) ∧ (decode cX8_mayMeet 34 = .ok (.ishr, 1)) ∧ (decode cX8_mayMeet 35 = .ok (.iconst 1, 1)) ∧ (decode cX8_mayMeet 36 = .ok (.iand, 1)) ∧ (decode cX8_mayMeet 37 = .ok (.ifCond .ne 7, 3)) ∧ (decode cX8_mayMeet 40 = .ok (.iconst 1, 1)) ∧ (decode cX8_mayMeet 41 = .ok (.goto 4, 3)) := by decide +kernel
theorem dX8_mayMeet_32 : decode cX8_mayMeet 32 = .ok (.iaload, 1) := db_X8_mayMeet_32.1
theorem dX8_mayMeet_33 : decode cX8_mayMeet 33 = .ok (.iload_n 2, 1) := db_X8_mayMeet_32.2.1
theorem dX8_mayMeet_34 : decode cX8_mayMeet 34 = .ok (.ishr, 1) := db_X8_mayMeet_32.2.2.1
theorem dX8_mayMeet_35 : decode cX8_mayMeet 35 = .ok (.iconst 1, 1) := db_X8_mayMeet_32.2.2.2.1
theorem dX8_mayMeet_36 : decode cX8_mayMeet 36 = .ok (.iand, 1) := db_X8_mayMeet_32.2.2.2.2.1
theorem dX8_mayMeet_37 : decode cX8_mayMeet 37 = .ok (.ifCond .ne 7, 3) := db_X8_mayMeet_32.2.2.2.2.2.1
theorem dX8_mayMeet_40 : decode cX8_mayMeet 40 = .ok (.iconst 1, 1) := db_X8_mayMeet_32.2.2.2.2.2.2.1
theorem dX8_mayMeet_41 : decode cX8_mayMeet 41 = .ok (.goto 4, 3) := db_X8_mayMeet_32.2.2.2.2.2.2.2
set_option maxRecDepth 20000 in
theorem db_X8_may_0 : (decode cX8_may 0 = .ok (.iload_n 1, 1)) ∧ (decode cX8_may 1 = .ok (.invokestatic 66, 3)) ∧ (decode cX8_may 4 = .ok (.istore_n 3, 1)) ∧ (decode cX8_may 5 = .ok (.iload_n 1, 1)) ∧ (decode cX8_may 6 = .ok (.invokestatic 63, 3)) ∧ (decode cX8_may 9 = .ok (.istore 4, 2)) ∧ (decode cX8_may 11 = .ok (.aload_n 0, 1)) ∧ (decode cX8_may 12 = .ok (.getfield 7, 3)) := by decide +kernel
theorem dX8_may_0 : decode cX8_may 0 = .ok (.iload_n 1, 1) := db_X8_may_0.1
set_option maxRecDepth 20000 in
theorem ggX8_may_X8_oneOf : GoodIn wsX8_may wsX8_oneOf := goodIn_r _ [5] rfl (by decide +kernel)
set_option maxRecDepth 20000 in
theorem gX8_may_X8_oneOf : GoodIn wsX8_may (va_wsS RX8 66 yX8_oneOf wsX8_oneOf) := goodIn_app (goodIn_r _ [2, 3, 4] rfl (by decide +kernel)) ggX8_may_X8_oneOf
theorem dX8_may_1 : decode cX8_may 1 = .ok (.invokestatic 66, 3) := db_X8_may_0.2.1
theorem dX8_may_4 : decode cX8_may 4 = .ok (.istore_n 3, 1) := db_X8_may_0.2.2.1
theorem dX8_may_5 : decode cX8_may 5 = .ok (.iload_n 1, 1) := db_X8_may_0.2.2.2.1
set_option maxRecDepth 20000 in
theorem ggX8_may_X8_otherOf : GoodIn wsX8_may wsX8_otherOf := goodIn_r _ [8] rfl (by decide +kernel)
set_option maxRecDepth 20000 in
theorem gX8_may_X8_otherOf : GoodIn wsX8_may (va_wsS RX8 63 yX8_otherOf wsX8_otherOf) := goodIn_app (goodIn_r _ [6, 7, 4] rfl (by decide +kernel)) ggX8_may_X8_otherOf
theorem dX8_may_6 : decode cX8_may 6 = .ok (.invokestatic 63, 3) := db_X8_may_0.2.2.2.2.1
theorem dX8_may_9 : decode cX8_may 9 = .ok (.istore 4, 2) := db_X8_may_0.2.2.2.2.2.1
theorem dX8_may_11 : decode cX8_may 11 = .ok (.aload_n 0, 1) := db_X8_may_0.2.2.2.2.2.2.1
theorem dX8_may_12 : decode cX8_may 12 = .ok (.getfield 7, 3) := db_X8_may_0.2.2.2.2.2.2.2
set_option maxRecDepth 20000 in
theorem db_X8_may_15 : (decode cX8_may 15 = .ok (.bipush 20, 2)) ∧ (decode cX8_may 17 = .ok (.iconst 2, 1)) ∧ (decode cX8_may 18 = .ok (.iload_n 3, 1)) ∧ (decode cX8_may 19 = .ok (.imul, 1)) ∧ (decode cX8_may 20 = .ok (.iadd, 1)) ∧ (decode cX8_may 21 = .ok (.iconst 1, 1)) ∧ (decode cX8_may 22 = .ok (.iadd, 1)) ∧ (decode cX8_may 23 = .ok (.iaload, 1)) := by decide +kernel
theorem dX8_may_15 : decode cX8_may 15 = .ok (.bipush 20, 2) := db_X8_may_15.1
theorem dX8_may_17 : decode cX8_may 17 = .ok (.iconst 2, 1) := db_X8_may_15.2.1
theorem dX8_may_18 : decode cX8_may 18 = .ok (.iload_n 3, 1) := db_X8_may_15.2.2.1
theorem dX8_may_19 : decode cX8_may 19 = .ok (.imul, 1) := db_X8_may_15.2.2.2.1
theorem dX8_may_20 : decode cX8_may 20 = .ok (.iadd, 1) := db_X8_may_15.2.2.2.2.1
theorem dX8_may_21 : decode cX8_may 21 = .ok (.iconst 1, 1) := db_X8_may_15.2.2.2.2.2.1
theorem dX8_may_22 : decode cX8_may 22 = .ok (.iadd, 1) := db_X8_may_15.2.2.2.2.2.2.1
theorem dX8_may_23 : decode cX8_may 23 = .ok (.iaload, 1) := db_X8_may_15.2.2.2.2.2.2.2
set_option maxRecDepth 20000 in
theorem db_X8_may_24 : (decode cX8_may 24 = .ok (.aload_n 0, 1)) ∧ (decode cX8_may 25 = .ok (.getfield 7, 3)) ∧ (decode cX8_may 28 = .ok (.bipush 20, 2)) ∧ (decode cX8_may 30 = .ok (.iconst 2, 1)) ∧ (decode cX8_may 31 = .ok (.iload 4, 2)) ∧ (decode cX8_may 33 = .ok (.imul, 1)) ∧ (decode cX8_may 34 = .ok (.iadd, 1)) ∧ (decode cX8_may 35 = .ok (.iconst 1, 1)) := by decide +kernel
theorem dX8_may_24 : decode cX8_may 24 = .ok (.aload_n 0, 1) := db_X8_may_24.1
theorem dX8_may_25 : decode cX8_may 25 = .ok (.getfield 7, 3) := db_X8_may_24.2.1
theorem dX8_may_28 : decode cX8_may 28 = .ok (.bipush 20, 2) := db_X8_may_24.2.2.1
theorem dX8_may_30 : decode cX8_may 30 = .ok (.iconst 2, 1) := db_X8_may_24.2.2.2.1
theorem dX8_may_31 : decode cX8_may 31 = .ok (.iload 4, 2) := db_X8_may_24.2.2.2.2.1
theorem dX8_may_33 : decode cX8_may 33 = .ok (.imul, 1) := db_X8_may_24.2.2.2.2.2.1
theorem dX8_may_34 : decode cX8_may 34 = .ok (.iadd, 1) := db_X8_may_24.2.2.2.2.2.2.1
theorem dX8_may_35 : decode cX8_may 35 = .ok (.iconst 1, 1) := db_X8_may_24.2.2.2.2.2.2.2
set_option maxRecDepth 20000 in
theorem db_X8_may_36 : (decode cX8_may 36 = .ok (.iadd, 1)) ∧ (decode cX8_may 37 = .ok (.iaload, 1)) ∧ (decode cX8_may 38 = .ok (.ior, 1)) ∧ (decode cX8_may 39 = .ok (.istore 5, 2)) ∧ (decode cX8_may 41 = .ok (.iconst 1, 1)) ∧ (decode cX8_may 42 = .ok (.istore 6, 2)) ∧ (decode cX8_may 44 = .ok (.iconst 0, 1)) ∧ (decode cX8_may 45 = .ok (.istore 7, 2)) := by decide +kernel
theorem dX8_may_36 : decode cX8_may 36 = .ok (.iadd, 1) := db_X8_may_36.1
theorem dX8_may_37 : decode cX8_may 37 = .ok (.iaload, 1) := db_X8_may_36.2.1
theorem dX8_may_38 : decode cX8_may 38 = .ok (.ior, 1) := db_X8_may_36.2.2.1
theorem dX8_may_39 : decode cX8_may 39 = .ok (.istore 5, 2) := db_X8_may_36.2.2.2.1
theorem dX8_may_41 : decode cX8_may 41 = .ok (.iconst 1, 1) := db_X8_may_36.2.2.2.2.1
theorem dX8_may_42 : decode cX8_may 42 = .ok (.istore 6, 2) := db_X8_may_36.2.2.2.2.2.1
theorem dX8_may_44 : decode cX8_may 44 = .ok (.iconst 0, 1) := db_X8_may_36.2.2.2.2.2.2.1
theorem dX8_may_45 : decode cX8_may 45 = .ok (.istore 7, 2) := db_X8_may_36.2.2.2.2.2.2.2
set_option maxRecDepth 20000 in
theorem db_X8_may_47 : (decode cX8_may 47 = .ok (.iload 7, 2)) ∧ (decode cX8_may 49 = .ok (.iconst 2, 1)) ∧ (decode cX8_may 50 = .ok (.if_icmp .ge 77, 3)) ∧ (decode cX8_may 127 = .ok (.iload 6, 2)) ∧ (decode cX8_may 129 = .ok (.ireturn, 1)) ∧ (decode cX8_may 53 = .ok (.aload_n 0, 1)) ∧ (decode cX8_may 54 = .ok (.getfield 7, 3)) ∧ (decode cX8_may 57 = .ok (.iload_n 2, 1)) := by decide +kernel
theorem dX8_may_47 : decode cX8_may 47 = .ok (.iload 7, 2) := db_X8_may_47.1
theorem dX8_may_49 : decode cX8_may 49 = .ok (.iconst 2, 1) := db_X8_may_47.2.1
theorem dX8_may_50 : decode cX8_may 50 = .ok (.if_icmp .ge 77, 3) := db_X8_may_47.2.2.1
theorem dX8_may_127 : decode cX8_may 127 = .ok (.iload 6, 2) := db_X8_may_47.2.2.2.1
theorem dX8_may_129 : decode cX8_may 129 = .ok (.ireturn, 1) := db_X8_may_47.2.2.2.2.1
theorem dX8_may_53 : decode cX8_may 53 = .ok (.aload_n 0, 1) := db_X8_may_47.2.2.2.2.2.1
theorem dX8_may_54 : decode cX8_may 54 = .ok (.getfield 7, 3) := db_X8_may_47.2.2.2.2.2.2.1
theorem dX8_may_57 : decode cX8_may 57 = .ok (.iload_n 2, 1) := db_X8_may_47.2.2.2.2.2.2.2
set_option maxRecDepth 20000 in
theorem db_X8_may_58 : (decode cX8_may 58 = .ok (.iload 7, 2)) ∧ (decode cX8_may 60 = .ok (.invokestatic 46, 3)) ∧ (decode cX8_may 63 = .ok (.iaload, 1)) ∧ (decode cX8_may 64 = .ok (.istore 8, 2)) ∧ (decode cX8_may 66 = .ok (.iload 6, 2)) ∧ (decode cX8_may 68 = .ok (.ifCond .eq 50, 3)) ∧ (decode cX8_may 118 = .ok (.iconst 0, 1)) ∧ (decode cX8_may 119 = .ok (.istore 6, 2)) := by decide +kernel
theorem dX8_may_58 : decode cX8_may 58 = .ok (.iload 7, 2) := db_X8_may_58.1
set_option maxRecDepth 20000 in
theorem ggX8_may_X8_at : GoodIn wsX8_may wsX8_at := goodIn_r _ [11] rfl (by decide +kernel)
set_option maxRecDepth 20000 in
theorem gX8_may_X8_at : GoodIn wsX8_may (va_wsS RX8 46 yX8_at wsX8_at) := goodIn_app (goodIn_r _ [9, 10, 4] rfl (by decide +kernel)) ggX8_may_X8_at
theorem dX8_may_60 : decode cX8_may 60 = .ok (.invokestatic 46, 3) := db_X8_may_58.2.1
theorem dX8_may_63 : decode cX8_may 63 = .ok (.iaload, 1) := db_X8_may_58.2.2.1
theorem dX8_may_64 : decode cX8_may 64 = .ok (.istore 8, 2) := db_X8_may_58.2.2.2.1
theorem dX8_may_66 : decode cX8_may 66 = .ok (.iload 6, 2) := db_X8_may_58.2.2.2.2.1
theorem dX8_may_68 : decode cX8_may 68 = .ok (.ifCond .eq 50, 3) := db_X8_may_58.2.2.2.2.2.1
theorem dX8_may_118 : decode cX8_may 118 = .ok (.iconst 0, 1) := db_X8_may_58.2.2.2.2.2.2.1
theorem dX8_may_119 : decode cX8_may 119 = .ok (.istore 6, 2) := db_X8_may_58.2.2.2.2.2.2.2
set_option maxRecDepth 20000 in
theorem db_X8_may_121 : (decode cX8_may 121 = .ok (.iinc 7 1, 3)) ∧ (decode cX8_may 124 = .ok (.goto (-77), 3)) ∧ (decode cX8_may 71 = .ok (.iload 5, 2)) ∧ (decode cX8_may 73 = .ok (.aload_n 0, 1)) ∧ (decode cX8_may 74 = .ok (.getfield 7, 3)) ∧ (decode cX8_may 77 = .ok (.iconst 4, 1)) ∧ (decode cX8_may 78 = .ok (.iconst 2, 1)) ∧ (decode cX8_may 79 = .ok (.iload 8, 2)) := by decide +kernel
theorem dX8_may_121 : decode cX8_may 121 = .ok (.iinc 7 1, 3) := db_X8_may_121.1
theorem dX8_may_124 : decode cX8_may 124 = .ok (.goto (-77), 3) := db_X8_may_121.2.1
theorem dX8_may_71 : decode cX8_may 71 = .ok (.iload 5, 2) := db_X8_may_121.2.2.1
theorem dX8_may_73 : decode cX8_may 73 = .ok (.aload_n 0, 1) := db_X8_may_121.2.2.2.1
theorem dX8_may_74 : decode cX8_may 74 = .ok (.getfield 7, 3) := db_X8_may_121.2.2.2.2.1
theorem dX8_may_77 : decode cX8_may 77 = .ok (.iconst 4, 1) := db_X8_may_121.2.2.2.2.2.1
theorem dX8_may_78 : decode cX8_may 78 = .ok (.iconst 2, 1) := db_X8_may_121.2.2.2.2.2.2.1
theorem dX8_may_79 : decode cX8_may 79 = .ok (.iload 8, 2) := db_X8_may_121.2.2.2.2.2.2.2
set_option maxRecDepth 20000 in
theorem db_X8_may_81 : (decode cX8_may 81 = .ok (.imul, 1)) ∧ (decode cX8_may 82 = .ok (.iadd, 1)) ∧ (decode cX8_may 83 = .ok (.iconst 1, 1)) ∧ (decode cX8_may 84 = .ok (.iadd, 1)) ∧ (decode cX8_may 85 = .ok (.iaload, 1)) ∧ (decode cX8_may 86 = .ok (.ishr, 1)) ∧ (decode cX8_may 87 = .ok (.iconst 1, 1)) ∧ (decode cX8_may 88 = .ok (.iand, 1)) := by decide +kernel
theorem dX8_may_81 : decode cX8_may 81 = .ok (.imul, 1) := db_X8_may_81.1
theorem dX8_may_82 : decode cX8_may 82 = .ok (.iadd, 1) := db_X8_may_81.2.1
theorem dX8_may_83 : decode cX8_may 83 = .ok (.iconst 1, 1) := db_X8_may_81.2.2.1
theorem dX8_may_84 : decode cX8_may 84 = .ok (.iadd, 1) := db_X8_may_81.2.2.2.1
theorem dX8_may_85 : decode cX8_may 85 = .ok (.iaload, 1) := db_X8_may_81.2.2.2.2.1
theorem dX8_may_86 : decode cX8_may 86 = .ok (.ishr, 1) := db_X8_may_81.2.2.2.2.2.1
theorem dX8_may_87 : decode cX8_may 87 = .ok (.iconst 1, 1) := db_X8_may_81.2.2.2.2.2.2.1
theorem dX8_may_88 : decode cX8_may 88 = .ok (.iand, 1) := db_X8_may_81.2.2.2.2.2.2.2
set_option maxRecDepth 20000 in
theorem db_X8_may_89 : (decode cX8_may 89 = .ok (.iconst 1, 1)) ∧ (decode cX8_may 90 = .ok (.if_icmp .ne 28, 3)) ∧ (decode cX8_may 93 = .ok (.aload_n 0, 1)) ∧ (decode cX8_may 94 = .ok (.iload_n 3, 1)) ∧ (decode cX8_may 95 = .ok (.iload 8, 2)) ∧ (decode cX8_may 97 = .ok (.invokevirtual 69, 3)) ∧ (decode cX8_may 100 = .ok (.ifCond .eq 18, 3)) ∧ (decode cX8_may 103 = .ok (.aload_n 0, 1)) := by decide +kernel
theorem dX8_may_89 : decode cX8_may 89 = .ok (.iconst 1, 1) := db_X8_may_89.1
theorem dX8_may_90 : decode cX8_may 90 = .ok (.if_icmp .ne 28, 3) := db_X8_may_89.2.1
theorem dX8_may_93 : decode cX8_may 93 = .ok (.aload_n 0, 1) := db_X8_may_89.2.2.1
theorem dX8_may_94 : decode cX8_may 94 = .ok (.iload_n 3, 1) := db_X8_may_89.2.2.2.1
theorem dX8_may_95 : decode cX8_may 95 = .ok (.iload 8, 2) := db_X8_may_89.2.2.2.2.1
set_option maxRecDepth 20000 in
theorem ggX8_may_X8_mayMeet : GoodIn wsX8_may wsX8_mayMeet := goodIn_r _ [15, 1, 16, 17, 18, 19, 20, 21, 22, 23, 24, 25, 26] rfl (by decide +kernel)
set_option maxRecDepth 20000 in
theorem gX8_may_X8_mayMeet : GoodIn wsX8_may (wsV RX8 69 RX8 yX8_mayMeet wsX8_mayMeet) := goodIn_app (goodIn_r _ [12, 13, 14, 4] rfl (by decide +kernel)) ggX8_may_X8_mayMeet
theorem dX8_may_97 : decode cX8_may 97 = .ok (.invokevirtual 69, 3) := db_X8_may_89.2.2.2.2.2.1
theorem dX8_may_100 : decode cX8_may 100 = .ok (.ifCond .eq 18, 3) := db_X8_may_89.2.2.2.2.2.2.1
theorem dX8_may_103 : decode cX8_may 103 = .ok (.aload_n 0, 1) := db_X8_may_89.2.2.2.2.2.2.2
set_option maxRecDepth 20000 in
theorem db_X8_may_104 : (decode cX8_may 104 = .ok (.iload 4, 2)) ∧ (decode cX8_may 106 = .ok (.iload 8, 2)) ∧ (decode cX8_may 108 = .ok (.invokevirtual 69, 3)) ∧ (decode cX8_may 111 = .ok (.ifCond .eq 7, 3)) ∧ (decode cX8_may 114 = .ok (.iconst 1, 1)) ∧ (decode cX8_may 115 = .ok (.goto 4, 3)) := by decide +kernel
theorem dX8_may_104 : decode cX8_may 104 = .ok (.iload 4, 2) := db_X8_may_104.1
theorem dX8_may_106 : decode cX8_may 106 = .ok (.iload 8, 2) := db_X8_may_104.2.1
theorem dX8_may_108 : decode cX8_may 108 = .ok (.invokevirtual 69, 3) := db_X8_may_104.2.2.1
theorem dX8_may_111 : decode cX8_may 111 = .ok (.ifCond .eq 7, 3) := db_X8_may_104.2.2.2.1
theorem dX8_may_114 : decode cX8_may 114 = .ok (.iconst 1, 1) := db_X8_may_104.2.2.2.2.1
theorem dX8_may_115 : decode cX8_may 115 = .ok (.goto 4, 3) := db_X8_may_104.2.2.2.2.2
set_option maxRecDepth 20000 in
theorem db_X8_maySit_0 : (decode cX8_maySit 0 = .ok (.aload_n 0, 1)) ∧ (decode cX8_maySit 1 = .ok (.iload_n 1, 1)) ∧ (decode cX8_maySit 2 = .ok (.invokevirtual 73, 3)) ∧ (decode cX8_maySit 5 = .ok (.ifCond .eq 11, 3)) ∧ (decode cX8_maySit 8 = .ok (.aload_n 0, 1)) ∧ (decode cX8_maySit 9 = .ok (.iload_n 2, 1)) ∧ (decode cX8_maySit 10 = .ok (.invokevirtual 50, 3)) ∧ (decode cX8_maySit 13 = .ok (.ifCond .ne 5, 3)) := by decide +kernel
theorem dX8_maySit_0 : decode cX8_maySit 0 = .ok (.aload_n 0, 1) := db_X8_maySit_0.1
theorem dX8_maySit_1 : decode cX8_maySit 1 = .ok (.iload_n 1, 1) := db_X8_maySit_0.2.1
set_option maxRecDepth 20000 in
theorem ggX8_maySit_X8_isPair : GoodIn wsX8_maySit wsX8_isPair := goodIn_r _ [5, 6, 7, 4, 8, 9, 10, 11, 12, 13, 14, 15, 16, 35, 36, 37, 38, 39, 40, 41, 42, 43, 44, 45] rfl (by decide +kernel)
set_option maxRecDepth 20000 in
theorem gX8_maySit_X8_isPair : GoodIn wsX8_maySit (wsV RX8 73 RX8 yX8_isPair wsX8_isPair) := goodIn_app (goodIn_r _ [1, 2, 3, 4] rfl (by decide +kernel)) ggX8_maySit_X8_isPair
theorem dX8_maySit_2 : decode cX8_maySit 2 = .ok (.invokevirtual 73, 3) := db_X8_maySit_0.2.2.1
theorem dX8_maySit_5 : decode cX8_maySit 5 = .ok (.ifCond .eq 11, 3) := db_X8_maySit_0.2.2.2.1
theorem dX8_maySit_8 : decode cX8_maySit 8 = .ok (.aload_n 0, 1) := db_X8_maySit_0.2.2.2.2.1
theorem dX8_maySit_9 : decode cX8_maySit 9 = .ok (.iload_n 2, 1) := db_X8_maySit_0.2.2.2.2.2.1
set_option maxRecDepth 20000 in
theorem ggX8_maySit_X8_isCase : GoodIn wsX8_maySit wsX8_isCase := goodIn_r _ [20, 16, 6, 7, 4, 8, 35, 36, 37, 38, 39, 40, 41, 42, 43, 44, 45] rfl (by decide +kernel)
set_option maxRecDepth 20000 in
theorem gX8_maySit_X8_isCase : GoodIn wsX8_maySit (wsV RX8 50 RX8 yX8_isCase wsX8_isCase) := goodIn_app (goodIn_r _ [17, 18, 19, 4] rfl (by decide +kernel)) ggX8_maySit_X8_isCase
theorem dX8_maySit_10 : decode cX8_maySit 10 = .ok (.invokevirtual 50, 3) := db_X8_maySit_0.2.2.2.2.2.2.1
theorem dX8_maySit_13 : decode cX8_maySit 13 = .ok (.ifCond .ne 5, 3) := db_X8_maySit_0.2.2.2.2.2.2.2
set_option maxRecDepth 20000 in
theorem db_X8_maySit_18 : (decode cX8_maySit 18 = .ok (.aload_n 0, 1)) ∧ (decode cX8_maySit 19 = .ok (.iload_n 1, 1)) ∧ (decode cX8_maySit 20 = .ok (.iload_n 2, 1)) ∧ (decode cX8_maySit 21 = .ok (.invokevirtual 76, 3)) ∧ (decode cX8_maySit 24 = .ok (.ifCond .eq 7, 3)) ∧ (decode cX8_maySit 31 = .ok (.iconst 0, 1)) ∧ (decode cX8_maySit 32 = .ok (.ireturn, 1)) ∧ (decode cX8_maySit 27 = .ok (.iconst 1, 1)) := by decide +kernel
theorem dX8_maySit_18 : decode cX8_maySit 18 = .ok (.aload_n 0, 1) := db_X8_maySit_18.1
theorem dX8_maySit_19 : decode cX8_maySit 19 = .ok (.iload_n 1, 1) := db_X8_maySit_18.2.1
theorem dX8_maySit_20 : decode cX8_maySit 20 = .ok (.iload_n 2, 1) := db_X8_maySit_18.2.2.1
set_option maxRecDepth 20000 in
theorem ggX8_maySit_X8_may : GoodIn wsX8_maySit wsX8_may := goodIn_r _ [24, 16, 25, 26, 4, 27, 9, 10, 11, 28, 29, 30, 31, 32, 33, 34, 35, 36, 37, 38, 39, 40, 41, 42, 43, 44, 45] rfl (by decide +kernel)
set_option maxRecDepth 20000 in
theorem gX8_maySit_X8_may : GoodIn wsX8_maySit (wsV RX8 76 RX8 yX8_may wsX8_may) := goodIn_app (goodIn_r _ [21, 22, 23, 4] rfl (by decide +kernel)) ggX8_maySit_X8_may
theorem dX8_maySit_21 : decode cX8_maySit 21 = .ok (.invokevirtual 76, 3) := db_X8_maySit_18.2.2.2.1
theorem dX8_maySit_24 : decode cX8_maySit 24 = .ok (.ifCond .eq 7, 3) := db_X8_maySit_18.2.2.2.2.1
theorem dX8_maySit_31 : decode cX8_maySit 31 = .ok (.iconst 0, 1) := db_X8_maySit_18.2.2.2.2.2.1
theorem dX8_maySit_32 : decode cX8_maySit 32 = .ok (.ireturn, 1) := db_X8_maySit_18.2.2.2.2.2.2.1
theorem dX8_maySit_27 : decode cX8_maySit 27 = .ok (.iconst 1, 1) := db_X8_maySit_18.2.2.2.2.2.2.2
set_option maxRecDepth 20000 in
theorem db_X8_maySit_28 : (decode cX8_maySit 28 = .ok (.goto 4, 3)) ∧ (decode cX8_maySit 16 = .ok (.iconst (-1), 1)) ∧ (decode cX8_maySit 17 = .ok (.ireturn, 1)) := by decide +kernel
theorem dX8_maySit_28 : decode cX8_maySit 28 = .ok (.goto 4, 3) := db_X8_maySit_28.1
theorem dX8_maySit_16 : decode cX8_maySit 16 = .ok (.iconst (-1), 1) := db_X8_maySit_28.2.1
theorem dX8_maySit_17 : decode cX8_maySit 17 = .ok (.ireturn, 1) := db_X8_maySit_28.2.2
set_option maxRecDepth 20000 in
theorem db_X8_casesThat_0 : (decode cX8_casesThat 0 = .ok (.iconst 0, 1)) ∧ (decode cX8_casesThat 1 = .ok (.istore_n 2, 1)) ∧ (decode cX8_casesThat 2 = .ok (.iconst 0, 1)) ∧ (decode cX8_casesThat 3 = .ok (.istore_n 3, 1)) ∧ (decode cX8_casesThat 4 = .ok (.iload_n 3, 1)) ∧ (decode cX8_casesThat 5 = .ok (.aload_n 0, 1)) ∧ (decode cX8_casesThat 6 = .ok (.getfield 7, 3)) ∧ (decode cX8_casesThat 9 = .ok (.iconst 2, 1)) := by decide +kernel
theorem dX8_casesThat_0 : decode cX8_casesThat 0 = .ok (.iconst 0, 1) := db_X8_casesThat_0.1
theorem dX8_casesThat_1 : decode cX8_casesThat 1 = .ok (.istore_n 2, 1) := db_X8_casesThat_0.2.1
theorem dX8_casesThat_2 : decode cX8_casesThat 2 = .ok (.iconst 0, 1) := db_X8_casesThat_0.2.2.1
theorem dX8_casesThat_3 : decode cX8_casesThat 3 = .ok (.istore_n 3, 1) := db_X8_casesThat_0.2.2.2.1
theorem dX8_casesThat_4 : decode cX8_casesThat 4 = .ok (.iload_n 3, 1) := db_X8_casesThat_0.2.2.2.2.1
theorem dX8_casesThat_5 : decode cX8_casesThat 5 = .ok (.aload_n 0, 1) := db_X8_casesThat_0.2.2.2.2.2.1
theorem dX8_casesThat_6 : decode cX8_casesThat 6 = .ok (.getfield 7, 3) := db_X8_casesThat_0.2.2.2.2.2.2.1
theorem dX8_casesThat_9 : decode cX8_casesThat 9 = .ok (.iconst 2, 1) := db_X8_casesThat_0.2.2.2.2.2.2.2
set_option maxRecDepth 20000 in
theorem db_X8_casesThat_10 : (decode cX8_casesThat 10 = .ok (.iaload, 1)) ∧ (decode cX8_casesThat 11 = .ok (.if_icmp .ge 31, 3)) ∧ (decode cX8_casesThat 42 = .ok (.iload_n 2, 1)) ∧ (decode cX8_casesThat 43 = .ok (.ireturn, 1)) ∧ (decode cX8_casesThat 14 = .ok (.iload_n 2, 1)) ∧ (decode cX8_casesThat 15 = .ok (.aload_n 0, 1)) ∧ (decode cX8_casesThat 16 = .ok (.getfield 7, 3)) ∧ (decode cX8_casesThat 19 = .ok (.iload_n 3, 1)) := by decide +kernel
theorem dX8_casesThat_10 : decode cX8_casesThat 10 = .ok (.iaload, 1) := db_X8_casesThat_10.1
theorem dX8_casesThat_11 : decode cX8_casesThat 11 = .ok (.if_icmp .ge 31, 3) := db_X8_casesThat_10.2.1
theorem dX8_casesThat_42 : decode cX8_casesThat 42 = .ok (.iload_n 2, 1) := db_X8_casesThat_10.2.2.1
theorem dX8_casesThat_43 : decode cX8_casesThat 43 = .ok (.ireturn, 1) := db_X8_casesThat_10.2.2.2.1
theorem dX8_casesThat_14 : decode cX8_casesThat 14 = .ok (.iload_n 2, 1) := db_X8_casesThat_10.2.2.2.2.1
theorem dX8_casesThat_15 : decode cX8_casesThat 15 = .ok (.aload_n 0, 1) := db_X8_casesThat_10.2.2.2.2.2.1
theorem dX8_casesThat_16 : decode cX8_casesThat 16 = .ok (.getfield 7, 3) := db_X8_casesThat_10.2.2.2.2.2.2.1
theorem dX8_casesThat_19 : decode cX8_casesThat 19 = .ok (.iload_n 3, 1) := db_X8_casesThat_10.2.2.2.2.2.2.2
set_option maxRecDepth 20000 in
theorem db_X8_casesThat_20 : (decode cX8_casesThat 20 = .ok (.iconst 2, 1)) ∧ (decode cX8_casesThat 21 = .ok (.invokestatic 46, 3)) ∧ (decode cX8_casesThat 24 = .ok (.iaload, 1)) ∧ (decode cX8_casesThat 25 = .ok (.iload_n 1, 1)) ∧ (decode cX8_casesThat 26 = .ok (.if_icmp .ne 7, 3)) ∧ (decode cX8_casesThat 33 = .ok (.iconst 0, 1)) ∧ (decode cX8_casesThat 34 = .ok (.iadd, 1)) ∧ (decode cX8_casesThat 35 = .ok (.istore_n 2, 1)) := by decide +kernel
theorem dX8_casesThat_20 : decode cX8_casesThat 20 = .ok (.iconst 2, 1) := db_X8_casesThat_20.1
set_option maxRecDepth 20000 in
theorem ggX8_casesThat_X8_at : GoodIn wsX8_casesThat wsX8_at := goodIn_r _ [5] rfl (by decide +kernel)
set_option maxRecDepth 20000 in
theorem gX8_casesThat_X8_at : GoodIn wsX8_casesThat (va_wsS RX8 46 yX8_at wsX8_at) := goodIn_app (goodIn_r _ [2, 3, 4] rfl (by decide +kernel)) ggX8_casesThat_X8_at
theorem dX8_casesThat_21 : decode cX8_casesThat 21 = .ok (.invokestatic 46, 3) := db_X8_casesThat_20.2.1
theorem dX8_casesThat_24 : decode cX8_casesThat 24 = .ok (.iaload, 1) := db_X8_casesThat_20.2.2.1
theorem dX8_casesThat_25 : decode cX8_casesThat 25 = .ok (.iload_n 1, 1) := db_X8_casesThat_20.2.2.2.1
theorem dX8_casesThat_26 : decode cX8_casesThat 26 = .ok (.if_icmp .ne 7, 3) := db_X8_casesThat_20.2.2.2.2.1
theorem dX8_casesThat_33 : decode cX8_casesThat 33 = .ok (.iconst 0, 1) := db_X8_casesThat_20.2.2.2.2.2.1
theorem dX8_casesThat_34 : decode cX8_casesThat 34 = .ok (.iadd, 1) := db_X8_casesThat_20.2.2.2.2.2.2.1
theorem dX8_casesThat_35 : decode cX8_casesThat 35 = .ok (.istore_n 2, 1) := db_X8_casesThat_20.2.2.2.2.2.2.2
set_option maxRecDepth 20000 in
theorem db_X8_casesThat_36 : (decode cX8_casesThat 36 = .ok (.iinc 3 1, 3)) ∧ (decode cX8_casesThat 39 = .ok (.goto (-35), 3)) ∧ (decode cX8_casesThat 29 = .ok (.iconst 1, 1)) ∧ (decode cX8_casesThat 30 = .ok (.goto 4, 3)) := by decide +kernel
theorem dX8_casesThat_36 : decode cX8_casesThat 36 = .ok (.iinc 3 1, 3) := db_X8_casesThat_36.1
theorem dX8_casesThat_39 : decode cX8_casesThat 39 = .ok (.goto (-35), 3) := db_X8_casesThat_36.2.1
theorem dX8_casesThat_29 : decode cX8_casesThat 29 = .ok (.iconst 1, 1) := db_X8_casesThat_36.2.2.1
theorem dX8_casesThat_30 : decode cX8_casesThat 30 = .ok (.goto 4, 3) := db_X8_casesThat_36.2.2.2
set_option maxRecDepth 20000 in
theorem db_X8_joined_0 : (decode cX8_joined 0 = .ok (.iconst 0, 1)) ∧ (decode cX8_joined 1 = .ok (.istore_n 2, 1)) ∧ (decode cX8_joined 2 = .ok (.iconst 0, 1)) ∧ (decode cX8_joined 3 = .ok (.istore_n 3, 1)) ∧ (decode cX8_joined 4 = .ok (.iload_n 3, 1)) ∧ (decode cX8_joined 5 = .ok (.aload_n 0, 1)) ∧ (decode cX8_joined 6 = .ok (.getfield 7, 3)) ∧ (decode cX8_joined 9 = .ok (.iconst 2, 1)) := by decide +kernel
theorem dX8_joined_0 : decode cX8_joined 0 = .ok (.iconst 0, 1) := db_X8_joined_0.1
theorem dX8_joined_1 : decode cX8_joined 1 = .ok (.istore_n 2, 1) := db_X8_joined_0.2.1
theorem dX8_joined_2 : decode cX8_joined 2 = .ok (.iconst 0, 1) := db_X8_joined_0.2.2.1
theorem dX8_joined_3 : decode cX8_joined 3 = .ok (.istore_n 3, 1) := db_X8_joined_0.2.2.2.1
theorem dX8_joined_4 : decode cX8_joined 4 = .ok (.iload_n 3, 1) := db_X8_joined_0.2.2.2.2.1
theorem dX8_joined_5 : decode cX8_joined 5 = .ok (.aload_n 0, 1) := db_X8_joined_0.2.2.2.2.2.1
theorem dX8_joined_6 : decode cX8_joined 6 = .ok (.getfield 7, 3) := db_X8_joined_0.2.2.2.2.2.2.1
theorem dX8_joined_9 : decode cX8_joined 9 = .ok (.iconst 2, 1) := db_X8_joined_0.2.2.2.2.2.2.2
set_option maxRecDepth 20000 in
theorem db_X8_joined_10 : (decode cX8_joined 10 = .ok (.iaload, 1)) ∧ (decode cX8_joined 11 = .ok (.if_icmp .ge 32, 3)) ∧ (decode cX8_joined 43 = .ok (.iload_n 2, 1)) ∧ (decode cX8_joined 44 = .ok (.ireturn, 1)) ∧ (decode cX8_joined 14 = .ok (.iload_n 2, 1)) ∧ (decode cX8_joined 15 = .ok (.aload_n 0, 1)) ∧ (decode cX8_joined 16 = .ok (.getfield 20, 3)) ∧ (decode cX8_joined 19 = .ok (.iload_n 3, 1)) := by decide +kernel
theorem dX8_joined_10 : decode cX8_joined 10 = .ok (.iaload, 1) := db_X8_joined_10.1
theorem dX8_joined_11 : decode cX8_joined 11 = .ok (.if_icmp .ge 32, 3) := db_X8_joined_10.2.1
theorem dX8_joined_43 : decode cX8_joined 43 = .ok (.iload_n 2, 1) := db_X8_joined_10.2.2.1
theorem dX8_joined_44 : decode cX8_joined 44 = .ok (.ireturn, 1) := db_X8_joined_10.2.2.2.1
theorem dX8_joined_14 : decode cX8_joined 14 = .ok (.iload_n 2, 1) := db_X8_joined_10.2.2.2.2.1
theorem dX8_joined_15 : decode cX8_joined 15 = .ok (.aload_n 0, 1) := db_X8_joined_10.2.2.2.2.2.1
theorem dX8_joined_16 : decode cX8_joined 16 = .ok (.getfield 20, 3) := db_X8_joined_10.2.2.2.2.2.2.1
theorem dX8_joined_19 : decode cX8_joined 19 = .ok (.iload_n 3, 1) := db_X8_joined_10.2.2.2.2.2.2.2
set_option maxRecDepth 20000 in
theorem db_X8_joined_20 : (decode cX8_joined 20 = .ok (.iaload, 1)) ∧ (decode cX8_joined 21 = .ok (.aload_n 0, 1)) ∧ (decode cX8_joined 22 = .ok (.getfield 20, 3)) ∧ (decode cX8_joined 25 = .ok (.iload_n 1, 1)) ∧ (decode cX8_joined 26 = .ok (.iaload, 1)) ∧ (decode cX8_joined 27 = .ok (.if_icmp .ne 7, 3)) ∧ (decode cX8_joined 34 = .ok (.iconst 0, 1)) ∧ (decode cX8_joined 35 = .ok (.iadd, 1)) := by decide +kernel
theorem dX8_joined_20 : decode cX8_joined 20 = .ok (.iaload, 1) := db_X8_joined_20.1
theorem dX8_joined_21 : decode cX8_joined 21 = .ok (.aload_n 0, 1) := db_X8_joined_20.2.1
theorem dX8_joined_22 : decode cX8_joined 22 = .ok (.getfield 20, 3) := db_X8_joined_20.2.2.1
theorem dX8_joined_25 : decode cX8_joined 25 = .ok (.iload_n 1, 1) := db_X8_joined_20.2.2.2.1
theorem dX8_joined_26 : decode cX8_joined 26 = .ok (.iaload, 1) := db_X8_joined_20.2.2.2.2.1
theorem dX8_joined_27 : decode cX8_joined 27 = .ok (.if_icmp .ne 7, 3) := db_X8_joined_20.2.2.2.2.2.1
theorem dX8_joined_34 : decode cX8_joined 34 = .ok (.iconst 0, 1) := db_X8_joined_20.2.2.2.2.2.2.1
theorem dX8_joined_35 : decode cX8_joined 35 = .ok (.iadd, 1) := db_X8_joined_20.2.2.2.2.2.2.2
set_option maxRecDepth 20000 in
theorem db_X8_joined_36 : (decode cX8_joined 36 = .ok (.istore_n 2, 1)) ∧ (decode cX8_joined 37 = .ok (.iinc 3 1, 3)) ∧ (decode cX8_joined 40 = .ok (.goto (-36), 3)) ∧ (decode cX8_joined 30 = .ok (.iconst 1, 1)) ∧ (decode cX8_joined 31 = .ok (.goto 4, 3)) := by decide +kernel
theorem dX8_joined_36 : decode cX8_joined 36 = .ok (.istore_n 2, 1) := db_X8_joined_36.1
theorem dX8_joined_37 : decode cX8_joined 37 = .ok (.iinc 3 1, 3) := db_X8_joined_36.2.1
theorem dX8_joined_40 : decode cX8_joined 40 = .ok (.goto (-36), 3) := db_X8_joined_36.2.2.1
theorem dX8_joined_30 : decode cX8_joined 30 = .ok (.iconst 1, 1) := db_X8_joined_36.2.2.2.1
theorem dX8_joined_31 : decode cX8_joined 31 = .ok (.goto 4, 3) := db_X8_joined_36.2.2.2.2
set_option maxRecDepth 20000 in
theorem db_X8_judge_0 : (decode cX8_judge 0 = .ok (.iload_n 1, 1)) ∧ (decode cX8_judge 1 = .ok (.iload_n 2, 1)) ∧ (decode cX8_judge 2 = .ok (.invokestatic 98, 3)) ∧ (decode cX8_judge 5 = .ok (.istore_n 3, 1)) ∧ (decode cX8_judge 6 = .ok (.iconst 0, 1)) ∧ (decode cX8_judge 7 = .ok (.istore 4, 2)) ∧ (decode cX8_judge 9 = .ok (.iconst 1, 1)) ∧ (decode cX8_judge 10 = .ok (.istore 5, 2)) := by decide +kernel
theorem dX8_judge_0 : decode cX8_judge 0 = .ok (.iload_n 1, 1) := db_X8_judge_0.1
theorem dX8_judge_1 : decode cX8_judge 1 = .ok (.iload_n 2, 1) := db_X8_judge_0.2.1
set_option maxRecDepth 20000 in
theorem ggX8_judge_X8_termAt : GoodIn wsX8_judge wsX8_termAt := goodIn_r _ [5] rfl (by decide +kernel)
set_option maxRecDepth 20000 in
theorem gX8_judge_X8_termAt : GoodIn wsX8_judge (va_wsS RX8 98 yX8_termAt wsX8_termAt) := goodIn_app (goodIn_r _ [2, 3, 4] rfl (by decide +kernel)) ggX8_judge_X8_termAt
theorem dX8_judge_2 : decode cX8_judge 2 = .ok (.invokestatic 98, 3) := db_X8_judge_0.2.2.1
theorem dX8_judge_5 : decode cX8_judge 5 = .ok (.istore_n 3, 1) := db_X8_judge_0.2.2.2.1
theorem dX8_judge_6 : decode cX8_judge 6 = .ok (.iconst 0, 1) := db_X8_judge_0.2.2.2.2.1
theorem dX8_judge_7 : decode cX8_judge 7 = .ok (.istore 4, 2) := db_X8_judge_0.2.2.2.2.2.1
theorem dX8_judge_9 : decode cX8_judge 9 = .ok (.iconst 1, 1) := db_X8_judge_0.2.2.2.2.2.2.1
theorem dX8_judge_10 : decode cX8_judge 10 = .ok (.istore 5, 2) := db_X8_judge_0.2.2.2.2.2.2.2
set_option maxRecDepth 20000 in
theorem db_X8_judge_12 : (decode cX8_judge 12 = .ok (.aload_n 0, 1)) ∧ (decode cX8_judge 13 = .ok (.getfield 7, 3)) ∧ (decode cX8_judge 16 = .ok (.iload_n 3, 1)) ∧ (decode cX8_judge 17 = .ok (.iconst 3, 1)) ∧ (decode cX8_judge 18 = .ok (.iadd, 1)) ∧ (decode cX8_judge 19 = .ok (.iaload, 1)) ∧ (decode cX8_judge 20 = .ok (.istore 6, 2)) ∧ (decode cX8_judge 22 = .ok (.iload 6, 2)) := by decide +kernel
theorem dX8_judge_12 : decode cX8_judge 12 = .ok (.aload_n 0, 1) := db_X8_judge_12.1
theorem dX8_judge_13 : decode cX8_judge 13 = .ok (.getfield 7, 3) := db_X8_judge_12.2.1
theorem dX8_judge_16 : decode cX8_judge 16 = .ok (.iload_n 3, 1) := db_X8_judge_12.2.2.1
theorem dX8_judge_17 : decode cX8_judge 17 = .ok (.iconst 3, 1) := db_X8_judge_12.2.2.2.1
theorem dX8_judge_18 : decode cX8_judge 18 = .ok (.iadd, 1) := db_X8_judge_12.2.2.2.2.1
theorem dX8_judge_19 : decode cX8_judge 19 = .ok (.iaload, 1) := db_X8_judge_12.2.2.2.2.2.1
theorem dX8_judge_20 : decode cX8_judge 20 = .ok (.istore 6, 2) := db_X8_judge_12.2.2.2.2.2.2.1
theorem dX8_judge_22 : decode cX8_judge 22 = .ok (.iload 6, 2) := db_X8_judge_12.2.2.2.2.2.2.2
set_option maxRecDepth 20000 in
theorem db_X8_judge_24 : (decode cX8_judge 24 = .ok (.aload_n 0, 1)) ∧ (decode cX8_judge 25 = .ok (.getfield 7, 3)) ∧ (decode cX8_judge 28 = .ok (.iload_n 3, 1)) ∧ (decode cX8_judge 29 = .ok (.iconst 4, 1)) ∧ (decode cX8_judge 30 = .ok (.iadd, 1)) ∧ (decode cX8_judge 31 = .ok (.iaload, 1)) ∧ (decode cX8_judge 32 = .ok (.if_icmp .gt 80, 3)) ∧ (decode cX8_judge 112 = .ok (.aload_n 0, 1)) := by decide +kernel
theorem dX8_judge_24 : decode cX8_judge 24 = .ok (.aload_n 0, 1) := db_X8_judge_24.1
theorem dX8_judge_25 : decode cX8_judge 25 = .ok (.getfield 7, 3) := db_X8_judge_24.2.1
theorem dX8_judge_28 : decode cX8_judge 28 = .ok (.iload_n 3, 1) := db_X8_judge_24.2.2.1
theorem dX8_judge_29 : decode cX8_judge 29 = .ok (.iconst 4, 1) := db_X8_judge_24.2.2.2.1
theorem dX8_judge_30 : decode cX8_judge 30 = .ok (.iadd, 1) := db_X8_judge_24.2.2.2.2.1
theorem dX8_judge_31 : decode cX8_judge 31 = .ok (.iaload, 1) := db_X8_judge_24.2.2.2.2.2.1
theorem dX8_judge_32 : decode cX8_judge 32 = .ok (.if_icmp .gt 80, 3) := db_X8_judge_24.2.2.2.2.2.2.1
theorem dX8_judge_112 : decode cX8_judge 112 = .ok (.aload_n 0, 1) := db_X8_judge_24.2.2.2.2.2.2.2
set_option maxRecDepth 20000 in
theorem db_X8_judge_113 : (decode cX8_judge 113 = .ok (.getfield 7, 3)) ∧ (decode cX8_judge 116 = .ok (.iload_n 3, 1)) ∧ (decode cX8_judge 117 = .ok (.iconst 1, 1)) ∧ (decode cX8_judge 118 = .ok (.iadd, 1)) ∧ (decode cX8_judge 119 = .ok (.iaload, 1)) ∧ (decode cX8_judge 120 = .ok (.iconst 1, 1)) ∧ (decode cX8_judge 121 = .ok (.if_icmp .ne 23, 3)) ∧ (decode cX8_judge 144 = .ok (.iload 4, 2)) := by decide +kernel
theorem dX8_judge_113 : decode cX8_judge 113 = .ok (.getfield 7, 3) := db_X8_judge_113.1
theorem dX8_judge_116 : decode cX8_judge 116 = .ok (.iload_n 3, 1) := db_X8_judge_113.2.1
theorem dX8_judge_117 : decode cX8_judge 117 = .ok (.iconst 1, 1) := db_X8_judge_113.2.2.1
theorem dX8_judge_118 : decode cX8_judge 118 = .ok (.iadd, 1) := db_X8_judge_113.2.2.2.1
theorem dX8_judge_119 : decode cX8_judge 119 = .ok (.iaload, 1) := db_X8_judge_113.2.2.2.2.1
theorem dX8_judge_120 : decode cX8_judge 120 = .ok (.iconst 1, 1) := db_X8_judge_113.2.2.2.2.2.1
theorem dX8_judge_121 : decode cX8_judge 121 = .ok (.if_icmp .ne 23, 3) := db_X8_judge_113.2.2.2.2.2.2.1
theorem dX8_judge_144 : decode cX8_judge 144 = .ok (.iload 4, 2) := db_X8_judge_113.2.2.2.2.2.2.2
set_option maxRecDepth 20000 in
theorem db_X8_judge_146 : (decode cX8_judge 146 = .ok (.ifCond .eq 7, 3)) ∧ (decode cX8_judge 153 = .ok (.iload 5, 2)) ∧ (decode cX8_judge 155 = .ok (.ifCond .eq 7, 3)) ∧ (decode cX8_judge 162 = .ok (.iconst 2, 1)) ∧ (decode cX8_judge 163 = .ok (.ireturn, 1)) ∧ (decode cX8_judge 158 = .ok (.iconst 1, 1)) ∧ (decode cX8_judge 159 = .ok (.goto 4, 3)) ∧ (decode cX8_judge 149 = .ok (.iconst 0, 1)) := by decide +kernel
theorem dX8_judge_146 : decode cX8_judge 146 = .ok (.ifCond .eq 7, 3) := db_X8_judge_146.1
theorem dX8_judge_153 : decode cX8_judge 153 = .ok (.iload 5, 2) := db_X8_judge_146.2.1
theorem dX8_judge_155 : decode cX8_judge 155 = .ok (.ifCond .eq 7, 3) := db_X8_judge_146.2.2.1
theorem dX8_judge_162 : decode cX8_judge 162 = .ok (.iconst 2, 1) := db_X8_judge_146.2.2.2.1
theorem dX8_judge_163 : decode cX8_judge 163 = .ok (.ireturn, 1) := db_X8_judge_146.2.2.2.2.1
theorem dX8_judge_158 : decode cX8_judge 158 = .ok (.iconst 1, 1) := db_X8_judge_146.2.2.2.2.2.1
theorem dX8_judge_159 : decode cX8_judge 159 = .ok (.goto 4, 3) := db_X8_judge_146.2.2.2.2.2.2.1
theorem dX8_judge_149 : decode cX8_judge 149 = .ok (.iconst 0, 1) := db_X8_judge_146.2.2.2.2.2.2.2
set_option maxRecDepth 20000 in
theorem db_X8_judge_150 : (decode cX8_judge 150 = .ok (.goto 13, 3)) ∧ (decode cX8_judge 124 = .ok (.iload 4, 2)) ∧ (decode cX8_judge 126 = .ok (.ifCond .eq 7, 3)) ∧ (decode cX8_judge 133 = .ok (.iload 5, 2)) ∧ (decode cX8_judge 135 = .ok (.ifCond .eq 7, 3)) ∧ (decode cX8_judge 142 = .ok (.iconst 2, 1)) ∧ (decode cX8_judge 143 = .ok (.ireturn, 1)) ∧ (decode cX8_judge 138 = .ok (.iconst 0, 1)) := by decide +kernel
theorem dX8_judge_150 : decode cX8_judge 150 = .ok (.goto 13, 3) := db_X8_judge_150.1
theorem dX8_judge_124 : decode cX8_judge 124 = .ok (.iload 4, 2) := db_X8_judge_150.2.1
theorem dX8_judge_126 : decode cX8_judge 126 = .ok (.ifCond .eq 7, 3) := db_X8_judge_150.2.2.1
theorem dX8_judge_133 : decode cX8_judge 133 = .ok (.iload 5, 2) := db_X8_judge_150.2.2.2.1
theorem dX8_judge_135 : decode cX8_judge 135 = .ok (.ifCond .eq 7, 3) := db_X8_judge_150.2.2.2.2.1
theorem dX8_judge_142 : decode cX8_judge 142 = .ok (.iconst 2, 1) := db_X8_judge_150.2.2.2.2.2.1
theorem dX8_judge_143 : decode cX8_judge 143 = .ok (.ireturn, 1) := db_X8_judge_150.2.2.2.2.2.2.1
theorem dX8_judge_138 : decode cX8_judge 138 = .ok (.iconst 0, 1) := db_X8_judge_150.2.2.2.2.2.2.2
set_option maxRecDepth 20000 in
theorem db_X8_judge_139 : (decode cX8_judge 139 = .ok (.goto 4, 3)) ∧ (decode cX8_judge 129 = .ok (.iconst 1, 1)) ∧ (decode cX8_judge 130 = .ok (.goto 13, 3)) ∧ (decode cX8_judge 35 = .ok (.aload_n 0, 1)) ∧ (decode cX8_judge 36 = .ok (.getfield 7, 3)) ∧ (decode cX8_judge 39 = .ok (.sipush 308, 3)) ∧ (decode cX8_judge 42 = .ok (.bipush 24, 2)) ∧ (decode cX8_judge 44 = .ok (.iconst 2, 1)) := by decide +kernel
theorem dX8_judge_139 : decode cX8_judge 139 = .ok (.goto 4, 3) := db_X8_judge_139.1
theorem dX8_judge_129 : decode cX8_judge 129 = .ok (.iconst 1, 1) := db_X8_judge_139.2.1
theorem dX8_judge_130 : decode cX8_judge 130 = .ok (.goto 13, 3) := db_X8_judge_139.2.2.1
theorem dX8_judge_35 : decode cX8_judge 35 = .ok (.aload_n 0, 1) := db_X8_judge_139.2.2.2.1
theorem dX8_judge_36 : decode cX8_judge 36 = .ok (.getfield 7, 3) := db_X8_judge_139.2.2.2.2.1
theorem dX8_judge_39 : decode cX8_judge 39 = .ok (.sipush 308, 3) := db_X8_judge_139.2.2.2.2.2.1
theorem dX8_judge_42 : decode cX8_judge 42 = .ok (.bipush 24, 2) := db_X8_judge_139.2.2.2.2.2.2.1
theorem dX8_judge_44 : decode cX8_judge 44 = .ok (.iconst 2, 1) := db_X8_judge_139.2.2.2.2.2.2.2
set_option maxRecDepth 20000 in
theorem db_X8_judge_45 : (decode cX8_judge 45 = .ok (.iload_n 1, 1)) ∧ (decode cX8_judge 46 = .ok (.imul, 1)) ∧ (decode cX8_judge 47 = .ok (.aload_n 0, 1)) ∧ (decode cX8_judge 48 = .ok (.getfield 7, 3)) ∧ (decode cX8_judge 51 = .ok (.iload_n 3, 1)) ∧ (decode cX8_judge 52 = .ok (.iaload, 1)) ∧ (decode cX8_judge 53 = .ok (.iadd, 1)) ∧ (decode cX8_judge 54 = .ok (.imul, 1)) := by decide +kernel
theorem dX8_judge_45 : decode cX8_judge 45 = .ok (.iload_n 1, 1) := db_X8_judge_45.1
theorem dX8_judge_46 : decode cX8_judge 46 = .ok (.imul, 1) := db_X8_judge_45.2.1
theorem dX8_judge_47 : decode cX8_judge 47 = .ok (.aload_n 0, 1) := db_X8_judge_45.2.2.1
theorem dX8_judge_48 : decode cX8_judge 48 = .ok (.getfield 7, 3) := db_X8_judge_45.2.2.2.1
theorem dX8_judge_51 : decode cX8_judge 51 = .ok (.iload_n 3, 1) := db_X8_judge_45.2.2.2.2.1
theorem dX8_judge_52 : decode cX8_judge 52 = .ok (.iaload, 1) := db_X8_judge_45.2.2.2.2.2.1
theorem dX8_judge_53 : decode cX8_judge 53 = .ok (.iadd, 1) := db_X8_judge_45.2.2.2.2.2.2.1
theorem dX8_judge_54 : decode cX8_judge 54 = .ok (.imul, 1) := db_X8_judge_45.2.2.2.2.2.2.2
set_option maxRecDepth 20000 in
theorem db_X8_judge_55 : (decode cX8_judge 55 = .ok (.iadd, 1)) ∧ (decode cX8_judge 56 = .ok (.iload 6, 2)) ∧ (decode cX8_judge 58 = .ok (.iadd, 1)) ∧ (decode cX8_judge 59 = .ok (.iaload, 1)) ∧ (decode cX8_judge 60 = .ok (.istore 7, 2)) ∧ (decode cX8_judge 62 = .ok (.iload 4, 2)) ∧ (decode cX8_judge 64 = .ok (.ifCond .ne 16, 3)) ∧ (decode cX8_judge 80 = .ok (.iconst 1, 1)) := by decide +kernel
theorem dX8_judge_55 : decode cX8_judge 55 = .ok (.iadd, 1) := db_X8_judge_55.1
theorem dX8_judge_56 : decode cX8_judge 56 = .ok (.iload 6, 2) := db_X8_judge_55.2.1
theorem dX8_judge_58 : decode cX8_judge 58 = .ok (.iadd, 1) := db_X8_judge_55.2.2.1
theorem dX8_judge_59 : decode cX8_judge 59 = .ok (.iaload, 1) := db_X8_judge_55.2.2.2.1
theorem dX8_judge_60 : decode cX8_judge 60 = .ok (.istore 7, 2) := db_X8_judge_55.2.2.2.2.1
theorem dX8_judge_62 : decode cX8_judge 62 = .ok (.iload 4, 2) := db_X8_judge_55.2.2.2.2.2.1
theorem dX8_judge_64 : decode cX8_judge 64 = .ok (.ifCond .ne 16, 3) := db_X8_judge_55.2.2.2.2.2.2.1
theorem dX8_judge_80 : decode cX8_judge 80 = .ok (.iconst 1, 1) := db_X8_judge_55.2.2.2.2.2.2.2
set_option maxRecDepth 20000 in
theorem db_X8_judge_81 : (decode cX8_judge 81 = .ok (.goto 4, 3)) ∧ (decode cX8_judge 85 = .ok (.istore 4, 2)) ∧ (decode cX8_judge 87 = .ok (.iload 5, 2)) ∧ (decode cX8_judge 89 = .ok (.ifCond .eq 14, 3)) ∧ (decode cX8_judge 103 = .ok (.iconst 0, 1)) ∧ (decode cX8_judge 104 = .ok (.istore 5, 2)) ∧ (decode cX8_judge 106 = .ok (.iinc 6 1, 3)) ∧ (decode cX8_judge 109 = .ok (.goto (-87), 3)) := by decide +kernel
theorem dX8_judge_81 : decode cX8_judge 81 = .ok (.goto 4, 3) := db_X8_judge_81.1
theorem dX8_judge_85 : decode cX8_judge 85 = .ok (.istore 4, 2) := db_X8_judge_81.2.1
theorem dX8_judge_87 : decode cX8_judge 87 = .ok (.iload 5, 2) := db_X8_judge_81.2.2.1
theorem dX8_judge_89 : decode cX8_judge 89 = .ok (.ifCond .eq 14, 3) := db_X8_judge_81.2.2.2.1
theorem dX8_judge_103 : decode cX8_judge 103 = .ok (.iconst 0, 1) := db_X8_judge_81.2.2.2.2.1
theorem dX8_judge_104 : decode cX8_judge 104 = .ok (.istore 5, 2) := db_X8_judge_81.2.2.2.2.2.1
theorem dX8_judge_106 : decode cX8_judge 106 = .ok (.iinc 6 1, 3) := db_X8_judge_81.2.2.2.2.2.2.1
theorem dX8_judge_109 : decode cX8_judge 109 = .ok (.goto (-87), 3) := db_X8_judge_81.2.2.2.2.2.2.2
set_option maxRecDepth 20000 in
theorem db_X8_judge_92 : (decode cX8_judge 92 = .ok (.iload 7, 2)) ∧ (decode cX8_judge 94 = .ok (.bipush 7, 2)) ∧ (decode cX8_judge 96 = .ok (.if_icmp .eq 7, 3)) ∧ (decode cX8_judge 99 = .ok (.iconst 1, 1)) ∧ (decode cX8_judge 100 = .ok (.goto 4, 3)) ∧ (decode cX8_judge 67 = .ok (.iload 7, 2)) ∧ (decode cX8_judge 69 = .ok (.aload_n 0, 1)) ∧ (decode cX8_judge 70 = .ok (.getfield 7, 3)) := by decide +kernel
theorem dX8_judge_92 : decode cX8_judge 92 = .ok (.iload 7, 2) := db_X8_judge_92.1
theorem dX8_judge_94 : decode cX8_judge 94 = .ok (.bipush 7, 2) := db_X8_judge_92.2.1
theorem dX8_judge_96 : decode cX8_judge 96 = .ok (.if_icmp .eq 7, 3) := db_X8_judge_92.2.2.1
theorem dX8_judge_99 : decode cX8_judge 99 = .ok (.iconst 1, 1) := db_X8_judge_92.2.2.2.1
theorem dX8_judge_100 : decode cX8_judge 100 = .ok (.goto 4, 3) := db_X8_judge_92.2.2.2.2.1
theorem dX8_judge_67 : decode cX8_judge 67 = .ok (.iload 7, 2) := db_X8_judge_92.2.2.2.2.2.1
theorem dX8_judge_69 : decode cX8_judge 69 = .ok (.aload_n 0, 1) := db_X8_judge_92.2.2.2.2.2.2.1
theorem dX8_judge_70 : decode cX8_judge 70 = .ok (.getfield 7, 3) := db_X8_judge_92.2.2.2.2.2.2.2
set_option maxRecDepth 20000 in
theorem db_X8_judge_73 : (decode cX8_judge 73 = .ok (.iload_n 3, 1)) ∧ (decode cX8_judge 74 = .ok (.iconst 2, 1)) ∧ (decode cX8_judge 75 = .ok (.iadd, 1)) ∧ (decode cX8_judge 76 = .ok (.iaload, 1)) ∧ (decode cX8_judge 77 = .ok (.if_icmp .ne 7, 3)) ∧ (decode cX8_judge 84 = .ok (.iconst 0, 1)) := by decide +kernel
theorem dX8_judge_73 : decode cX8_judge 73 = .ok (.iload_n 3, 1) := db_X8_judge_73.1
theorem dX8_judge_74 : decode cX8_judge 74 = .ok (.iconst 2, 1) := db_X8_judge_73.2.1
theorem dX8_judge_75 : decode cX8_judge 75 = .ok (.iadd, 1) := db_X8_judge_73.2.2.1
theorem dX8_judge_76 : decode cX8_judge 76 = .ok (.iaload, 1) := db_X8_judge_73.2.2.2.1
theorem dX8_judge_77 : decode cX8_judge 77 = .ok (.if_icmp .ne 7, 3) := db_X8_judge_73.2.2.2.2.1
theorem dX8_judge_84 : decode cX8_judge 84 = .ok (.iconst 0, 1) := db_X8_judge_73.2.2.2.2.2
set_option maxRecDepth 20000 in
theorem db_X8_isTerm_0 : (decode cX8_isTerm 0 = .ok (.aload_n 0, 1)) ∧ (decode cX8_isTerm 1 = .ok (.iload_n 1, 1)) ∧ (decode cX8_isTerm 2 = .ok (.invokevirtual 50, 3)) ∧ (decode cX8_isTerm 5 = .ok (.ifCond .eq 28, 3)) ∧ (decode cX8_isTerm 8 = .ok (.iload_n 2, 1)) ∧ (decode cX8_isTerm 9 = .ok (.iconst 0, 1)) ∧ (decode cX8_isTerm 10 = .ok (.aload_n 0, 1)) ∧ (decode cX8_isTerm 11 = .ok (.getfield 7, 3)) := by decide +kernel
theorem dX8_isTerm_0 : decode cX8_isTerm 0 = .ok (.aload_n 0, 1) := db_X8_isTerm_0.1
theorem dX8_isTerm_1 : decode cX8_isTerm 1 = .ok (.iload_n 1, 1) := db_X8_isTerm_0.2.1
set_option maxRecDepth 20000 in
theorem ggX8_isTerm_X8_isCase : GoodIn wsX8_isTerm wsX8_isCase := goodIn_r _ [6, 1, 7, 8, 5, 9, 13, 14, 15, 16, 17, 18, 19, 20, 21, 22, 23] rfl (by decide +kernel)
set_option maxRecDepth 20000 in
theorem gX8_isTerm_X8_isCase : GoodIn wsX8_isTerm (wsV RX8 50 RX8 yX8_isCase wsX8_isCase) := goodIn_app (goodIn_r _ [2, 3, 4, 5] rfl (by decide +kernel)) ggX8_isTerm_X8_isCase
theorem dX8_isTerm_2 : decode cX8_isTerm 2 = .ok (.invokevirtual 50, 3) := db_X8_isTerm_0.2.2.1
theorem dX8_isTerm_5 : decode cX8_isTerm 5 = .ok (.ifCond .eq 28, 3) := db_X8_isTerm_0.2.2.2.1
theorem dX8_isTerm_8 : decode cX8_isTerm 8 = .ok (.iload_n 2, 1) := db_X8_isTerm_0.2.2.2.2.1
theorem dX8_isTerm_9 : decode cX8_isTerm 9 = .ok (.iconst 0, 1) := db_X8_isTerm_0.2.2.2.2.2.1
theorem dX8_isTerm_10 : decode cX8_isTerm 10 = .ok (.aload_n 0, 1) := db_X8_isTerm_0.2.2.2.2.2.2.1
theorem dX8_isTerm_11 : decode cX8_isTerm 11 = .ok (.getfield 7, 3) := db_X8_isTerm_0.2.2.2.2.2.2.2
set_option maxRecDepth 20000 in
theorem db_X8_isTerm_14 : (decode cX8_isTerm 14 = .ok (.iload_n 1, 1)) ∧ (decode cX8_isTerm 15 = .ok (.bipush 6, 2)) ∧ (decode cX8_isTerm 17 = .ok (.invokestatic 46, 3)) ∧ (decode cX8_isTerm 20 = .ok (.iaload, 1)) ∧ (decode cX8_isTerm 21 = .ok (.iconst 1, 1)) ∧ (decode cX8_isTerm 22 = .ok (.isub, 1)) ∧ (decode cX8_isTerm 23 = .ok (.invokestatic 35, 3)) ∧ (decode cX8_isTerm 26 = .ok (.ifCond .eq 7, 3)) := by decide +kernel
theorem dX8_isTerm_14 : decode cX8_isTerm 14 = .ok (.iload_n 1, 1) := db_X8_isTerm_14.1
theorem dX8_isTerm_15 : decode cX8_isTerm 15 = .ok (.bipush 6, 2) := db_X8_isTerm_14.2.1
set_option maxRecDepth 20000 in
theorem ggX8_isTerm_X8_at : GoodIn wsX8_isTerm wsX8_at := goodIn_r _ [12] rfl (by decide +kernel)
set_option maxRecDepth 20000 in
theorem gX8_isTerm_X8_at : GoodIn wsX8_isTerm (va_wsS RX8 46 yX8_at wsX8_at) := goodIn_app (goodIn_r _ [10, 11, 5] rfl (by decide +kernel)) ggX8_isTerm_X8_at
theorem dX8_isTerm_17 : decode cX8_isTerm 17 = .ok (.invokestatic 46, 3) := db_X8_isTerm_14.2.2.1
theorem dX8_isTerm_20 : decode cX8_isTerm 20 = .ok (.iaload, 1) := db_X8_isTerm_14.2.2.2.1
theorem dX8_isTerm_21 : decode cX8_isTerm 21 = .ok (.iconst 1, 1) := db_X8_isTerm_14.2.2.2.2.1
theorem dX8_isTerm_22 : decode cX8_isTerm 22 = .ok (.isub, 1) := db_X8_isTerm_14.2.2.2.2.2.1
set_option maxRecDepth 20000 in
theorem ggX8_isTerm_X8_in : GoodIn wsX8_isTerm wsX8_in := goodIn_r _ [9] rfl (by decide +kernel)
set_option maxRecDepth 20000 in
theorem gX8_isTerm_X8_in : GoodIn wsX8_isTerm (va_wsS RX8 35 yX8_in wsX8_in) := goodIn_app (goodIn_r _ [7, 8, 5] rfl (by decide +kernel)) ggX8_isTerm_X8_in
theorem dX8_isTerm_23 : decode cX8_isTerm 23 = .ok (.invokestatic 35, 3) := db_X8_isTerm_14.2.2.2.2.2.2.1
theorem dX8_isTerm_26 : decode cX8_isTerm 26 = .ok (.ifCond .eq 7, 3) := db_X8_isTerm_14.2.2.2.2.2.2.2
set_option maxRecDepth 20000 in
theorem db_X8_isTerm_29 : (decode cX8_isTerm 29 = .ok (.iconst 1, 1)) ∧ (decode cX8_isTerm 30 = .ok (.goto 4, 3)) ∧ (decode cX8_isTerm 34 = .ok (.ireturn, 1)) ∧ (decode cX8_isTerm 33 = .ok (.iconst 0, 1)) := by decide +kernel
theorem dX8_isTerm_29 : decode cX8_isTerm 29 = .ok (.iconst 1, 1) := db_X8_isTerm_29.1
theorem dX8_isTerm_30 : decode cX8_isTerm 30 = .ok (.goto 4, 3) := db_X8_isTerm_29.2.1
theorem dX8_isTerm_34 : decode cX8_isTerm 34 = .ok (.ireturn, 1) := db_X8_isTerm_29.2.2.1
theorem dX8_isTerm_33 : decode cX8_isTerm 33 = .ok (.iconst 0, 1) := db_X8_isTerm_29.2.2.2
set_option maxRecDepth 20000 in
theorem db_X8_judged_0 : (decode cX8_judged 0 = .ok (.aload_n 0, 1)) ∧ (decode cX8_judged 1 = .ok (.iload_n 1, 1)) ∧ (decode cX8_judged 2 = .ok (.iload_n 2, 1)) ∧ (decode cX8_judged 3 = .ok (.invokevirtual 101, 3)) ∧ (decode cX8_judged 6 = .ok (.ifCond .eq 12, 3)) ∧ (decode cX8_judged 9 = .ok (.aload_n 0, 1)) ∧ (decode cX8_judged 10 = .ok (.iload_n 1, 1)) ∧ (decode cX8_judged 11 = .ok (.iload_n 2, 1)) := by decide +kernel
theorem dX8_judged_0 : decode cX8_judged 0 = .ok (.aload_n 0, 1) := db_X8_judged_0.1
theorem dX8_judged_1 : decode cX8_judged 1 = .ok (.iload_n 1, 1) := db_X8_judged_0.2.1
theorem dX8_judged_2 : decode cX8_judged 2 = .ok (.iload_n 2, 1) := db_X8_judged_0.2.2.1
set_option maxRecDepth 20000 in
theorem ggX8_judged_X8_isTerm : GoodIn wsX8_judged wsX8_isTerm := goodIn_r _ [5, 6, 7, 8, 9, 4, 10, 11, 12, 13, 14, 15, 16, 24, 25, 26, 27, 28, 29, 30, 31, 32, 33, 34] rfl (by decide +kernel)
set_option maxRecDepth 20000 in
theorem gX8_judged_X8_isTerm : GoodIn wsX8_judged (wsV RX8 101 RX8 yX8_isTerm wsX8_isTerm) := goodIn_app (goodIn_r _ [1, 2, 3, 4] rfl (by decide +kernel)) ggX8_judged_X8_isTerm
theorem dX8_judged_3 : decode cX8_judged 3 = .ok (.invokevirtual 101, 3) := db_X8_judged_0.2.2.2.1
theorem dX8_judged_6 : decode cX8_judged 6 = .ok (.ifCond .eq 12, 3) := db_X8_judged_0.2.2.2.2.1
theorem dX8_judged_9 : decode cX8_judged 9 = .ok (.aload_n 0, 1) := db_X8_judged_0.2.2.2.2.2.1
theorem dX8_judged_10 : decode cX8_judged 10 = .ok (.iload_n 1, 1) := db_X8_judged_0.2.2.2.2.2.2.1
theorem dX8_judged_11 : decode cX8_judged 11 = .ok (.iload_n 2, 1) := db_X8_judged_0.2.2.2.2.2.2.2
set_option maxRecDepth 20000 in
theorem ggX8_judged_X8_judge : GoodIn wsX8_judged wsX8_judge := goodIn_r _ [20, 6, 21, 22, 4, 23, 24, 25, 26, 27, 28, 29, 30, 31, 32, 33, 34] rfl (by decide +kernel)
set_option maxRecDepth 20000 in
theorem gX8_judged_X8_judge : GoodIn wsX8_judged (wsV RX8 121 RX8 yX8_judge wsX8_judge) := goodIn_app (goodIn_r _ [17, 18, 19, 4] rfl (by decide +kernel)) ggX8_judged_X8_judge
set_option maxRecDepth 20000 in
theorem db_X8_judged_12 : (decode cX8_judged 12 = .ok (.invokevirtual 121, 3)) ∧ (decode cX8_judged 15 = .ok (.goto 4, 3)) ∧ (decode cX8_judged 19 = .ok (.ireturn, 1)) ∧ (decode cX8_judged 18 = .ok (.iconst (-1), 1)) := by decide +kernel
theorem dX8_judged_12 : decode cX8_judged 12 = .ok (.invokevirtual 121, 3) := db_X8_judged_12.1
theorem dX8_judged_15 : decode cX8_judged 15 = .ok (.goto 4, 3) := db_X8_judged_12.2.1
theorem dX8_judged_19 : decode cX8_judged 19 = .ok (.ireturn, 1) := db_X8_judged_12.2.2.1
theorem dX8_judged_18 : decode cX8_judged 18 = .ok (.iconst (-1), 1) := db_X8_judged_12.2.2.2
set_option maxRecDepth 20000 in
theorem db_X8_termOf_0 : (decode cX8_termOf 0 = .ok (.aload_n 0, 1)) ∧ (decode cX8_termOf 1 = .ok (.iload_n 1, 1)) ∧ (decode cX8_termOf 2 = .ok (.iload_n 2, 1)) ∧ (decode cX8_termOf 3 = .ok (.invokevirtual 101, 3)) ∧ (decode cX8_termOf 6 = .ok (.ifCond .eq 27, 3)) ∧ (decode cX8_termOf 9 = .ok (.iload_n 3, 1)) ∧ (decode cX8_termOf 10 = .ok (.iconst 0, 1)) ∧ (decode cX8_termOf 11 = .ok (.iconst 4, 1)) := by decide +kernel
theorem dX8_termOf_0 : decode cX8_termOf 0 = .ok (.aload_n 0, 1) := db_X8_termOf_0.1
theorem dX8_termOf_1 : decode cX8_termOf 1 = .ok (.iload_n 1, 1) := db_X8_termOf_0.2.1
theorem dX8_termOf_2 : decode cX8_termOf 2 = .ok (.iload_n 2, 1) := db_X8_termOf_0.2.2.1
set_option maxRecDepth 20000 in
theorem ggX8_termOf_X8_isTerm : GoodIn wsX8_termOf wsX8_isTerm := goodIn_r _ [6, 1, 7, 8, 9, 5, 10, 11, 12, 13, 14, 15, 16, 20, 21, 22, 23, 24, 25, 26, 27, 28, 29, 30] rfl (by decide +kernel)
set_option maxRecDepth 20000 in
theorem gX8_termOf_X8_isTerm : GoodIn wsX8_termOf (wsV RX8 101 RX8 yX8_isTerm wsX8_isTerm) := goodIn_app (goodIn_r _ [2, 3, 4, 5] rfl (by decide +kernel)) ggX8_termOf_X8_isTerm
theorem dX8_termOf_3 : decode cX8_termOf 3 = .ok (.invokevirtual 101, 3) := db_X8_termOf_0.2.2.2.1
theorem dX8_termOf_6 : decode cX8_termOf 6 = .ok (.ifCond .eq 27, 3) := db_X8_termOf_0.2.2.2.2.1
theorem dX8_termOf_9 : decode cX8_termOf 9 = .ok (.iload_n 3, 1) := db_X8_termOf_0.2.2.2.2.2.1
theorem dX8_termOf_10 : decode cX8_termOf 10 = .ok (.iconst 0, 1) := db_X8_termOf_0.2.2.2.2.2.2.1
theorem dX8_termOf_11 : decode cX8_termOf 11 = .ok (.iconst 4, 1) := db_X8_termOf_0.2.2.2.2.2.2.2
set_option maxRecDepth 20000 in
theorem ggX8_termOf_X8_in : GoodIn wsX8_termOf wsX8_in := goodIn_r _ [13] rfl (by decide +kernel)
set_option maxRecDepth 20000 in
theorem gX8_termOf_X8_in : GoodIn wsX8_termOf (va_wsS RX8 35 yX8_in wsX8_in) := goodIn_app (goodIn_r _ [11, 12, 5] rfl (by decide +kernel)) ggX8_termOf_X8_in
set_option maxRecDepth 20000 in
theorem db_X8_termOf_12 : (decode cX8_termOf 12 = .ok (.invokestatic 35, 3)) ∧ (decode cX8_termOf 15 = .ok (.ifCond .eq 18, 3)) ∧ (decode cX8_termOf 18 = .ok (.aload_n 0, 1)) ∧ (decode cX8_termOf 19 = .ok (.getfield 7, 3)) ∧ (decode cX8_termOf 22 = .ok (.iload_n 1, 1)) ∧ (decode cX8_termOf 23 = .ok (.iload_n 2, 1)) ∧ (decode cX8_termOf 24 = .ok (.invokestatic 98, 3)) ∧ (decode cX8_termOf 27 = .ok (.iload_n 3, 1)) := by decide +kernel
theorem dX8_termOf_12 : decode cX8_termOf 12 = .ok (.invokestatic 35, 3) := db_X8_termOf_12.1
theorem dX8_termOf_15 : decode cX8_termOf 15 = .ok (.ifCond .eq 18, 3) := db_X8_termOf_12.2.1
theorem dX8_termOf_18 : decode cX8_termOf 18 = .ok (.aload_n 0, 1) := db_X8_termOf_12.2.2.1
theorem dX8_termOf_19 : decode cX8_termOf 19 = .ok (.getfield 7, 3) := db_X8_termOf_12.2.2.2.1
theorem dX8_termOf_22 : decode cX8_termOf 22 = .ok (.iload_n 1, 1) := db_X8_termOf_12.2.2.2.2.1
theorem dX8_termOf_23 : decode cX8_termOf 23 = .ok (.iload_n 2, 1) := db_X8_termOf_12.2.2.2.2.2.1
set_option maxRecDepth 20000 in
theorem ggX8_termOf_X8_termAt : GoodIn wsX8_termOf wsX8_termAt := goodIn_r _ [19] rfl (by decide +kernel)
set_option maxRecDepth 20000 in
theorem gX8_termOf_X8_termAt : GoodIn wsX8_termOf (va_wsS RX8 98 yX8_termAt wsX8_termAt) := goodIn_app (goodIn_r _ [17, 18, 5] rfl (by decide +kernel)) ggX8_termOf_X8_termAt
theorem dX8_termOf_24 : decode cX8_termOf 24 = .ok (.invokestatic 98, 3) := db_X8_termOf_12.2.2.2.2.2.2.1
theorem dX8_termOf_27 : decode cX8_termOf 27 = .ok (.iload_n 3, 1) := db_X8_termOf_12.2.2.2.2.2.2.2
set_option maxRecDepth 20000 in
theorem db_X8_termOf_28 : (decode cX8_termOf 28 = .ok (.iadd, 1)) ∧ (decode cX8_termOf 29 = .ok (.iaload, 1)) ∧ (decode cX8_termOf 30 = .ok (.goto 4, 3)) ∧ (decode cX8_termOf 34 = .ok (.ireturn, 1)) ∧ (decode cX8_termOf 33 = .ok (.iconst (-1), 1)) := by decide +kernel
theorem dX8_termOf_28 : decode cX8_termOf 28 = .ok (.iadd, 1) := db_X8_termOf_28.1
theorem dX8_termOf_29 : decode cX8_termOf 29 = .ok (.iaload, 1) := db_X8_termOf_28.2.1
theorem dX8_termOf_30 : decode cX8_termOf 30 = .ok (.goto 4, 3) := db_X8_termOf_28.2.2.1
theorem dX8_termOf_34 : decode cX8_termOf 34 = .ok (.ireturn, 1) := db_X8_termOf_28.2.2.2.1
theorem dX8_termOf_33 : decode cX8_termOf 33 = .ok (.iconst (-1), 1) := db_X8_termOf_28.2.2.2.2
set_option maxRecDepth 20000 in
theorem db_X8_termsThat_0 : (decode cX8_termsThat 0 = .ok (.iconst 0, 1)) ∧ (decode cX8_termsThat 1 = .ok (.istore_n 2, 1)) ∧ (decode cX8_termsThat 2 = .ok (.iconst 0, 1)) ∧ (decode cX8_termsThat 3 = .ok (.istore_n 3, 1)) ∧ (decode cX8_termsThat 4 = .ok (.iload_n 3, 1)) ∧ (decode cX8_termsThat 5 = .ok (.aload_n 0, 1)) ∧ (decode cX8_termsThat 6 = .ok (.getfield 7, 3)) ∧ (decode cX8_termsThat 9 = .ok (.iconst 2, 1)) := by decide +kernel
theorem dX8_termsThat_0 : decode cX8_termsThat 0 = .ok (.iconst 0, 1) := db_X8_termsThat_0.1
theorem dX8_termsThat_1 : decode cX8_termsThat 1 = .ok (.istore_n 2, 1) := db_X8_termsThat_0.2.1
theorem dX8_termsThat_2 : decode cX8_termsThat 2 = .ok (.iconst 0, 1) := db_X8_termsThat_0.2.2.1
theorem dX8_termsThat_3 : decode cX8_termsThat 3 = .ok (.istore_n 3, 1) := db_X8_termsThat_0.2.2.2.1
theorem dX8_termsThat_4 : decode cX8_termsThat 4 = .ok (.iload_n 3, 1) := db_X8_termsThat_0.2.2.2.2.1
theorem dX8_termsThat_5 : decode cX8_termsThat 5 = .ok (.aload_n 0, 1) := db_X8_termsThat_0.2.2.2.2.2.1
theorem dX8_termsThat_6 : decode cX8_termsThat 6 = .ok (.getfield 7, 3) := db_X8_termsThat_0.2.2.2.2.2.2.1
theorem dX8_termsThat_9 : decode cX8_termsThat 9 = .ok (.iconst 2, 1) := db_X8_termsThat_0.2.2.2.2.2.2.2
set_option maxRecDepth 20000 in
theorem db_X8_termsThat_10 : (decode cX8_termsThat 10 = .ok (.iaload, 1)) ∧ (decode cX8_termsThat 11 = .ok (.if_icmp .ge 57, 3)) ∧ (decode cX8_termsThat 68 = .ok (.iload_n 2, 1)) ∧ (decode cX8_termsThat 69 = .ok (.ireturn, 1)) ∧ (decode cX8_termsThat 14 = .ok (.iconst 0, 1)) ∧ (decode cX8_termsThat 15 = .ok (.istore 4, 2)) ∧ (decode cX8_termsThat 17 = .ok (.iload 4, 2)) ∧ (decode cX8_termsThat 19 = .ok (.aload_n 0, 1)) := by decide +kernel
theorem dX8_termsThat_10 : decode cX8_termsThat 10 = .ok (.iaload, 1) := db_X8_termsThat_10.1
theorem dX8_termsThat_11 : decode cX8_termsThat 11 = .ok (.if_icmp .ge 57, 3) := db_X8_termsThat_10.2.1
theorem dX8_termsThat_68 : decode cX8_termsThat 68 = .ok (.iload_n 2, 1) := db_X8_termsThat_10.2.2.1
theorem dX8_termsThat_69 : decode cX8_termsThat 69 = .ok (.ireturn, 1) := db_X8_termsThat_10.2.2.2.1
theorem dX8_termsThat_14 : decode cX8_termsThat 14 = .ok (.iconst 0, 1) := db_X8_termsThat_10.2.2.2.2.1
theorem dX8_termsThat_15 : decode cX8_termsThat 15 = .ok (.istore 4, 2) := db_X8_termsThat_10.2.2.2.2.2.1
theorem dX8_termsThat_17 : decode cX8_termsThat 17 = .ok (.iload 4, 2) := db_X8_termsThat_10.2.2.2.2.2.2.1
theorem dX8_termsThat_19 : decode cX8_termsThat 19 = .ok (.aload_n 0, 1) := db_X8_termsThat_10.2.2.2.2.2.2.2
set_option maxRecDepth 20000 in
theorem db_X8_termsThat_20 : (decode cX8_termsThat 20 = .ok (.getfield 7, 3)) ∧ (decode cX8_termsThat 23 = .ok (.iload_n 3, 1)) ∧ (decode cX8_termsThat 24 = .ok (.bipush 6, 2)) ∧ (decode cX8_termsThat 26 = .ok (.invokestatic 46, 3)) ∧ (decode cX8_termsThat 29 = .ok (.iaload, 1)) ∧ (decode cX8_termsThat 30 = .ok (.if_icmp .ge 32, 3)) ∧ (decode cX8_termsThat 62 = .ok (.iinc 3 1, 3)) ∧ (decode cX8_termsThat 65 = .ok (.goto (-61), 3)) := by decide +kernel
theorem dX8_termsThat_20 : decode cX8_termsThat 20 = .ok (.getfield 7, 3) := db_X8_termsThat_20.1
theorem dX8_termsThat_23 : decode cX8_termsThat 23 = .ok (.iload_n 3, 1) := db_X8_termsThat_20.2.1
theorem dX8_termsThat_24 : decode cX8_termsThat 24 = .ok (.bipush 6, 2) := db_X8_termsThat_20.2.2.1
set_option maxRecDepth 20000 in
theorem ggX8_termsThat_X8_at : GoodIn wsX8_termsThat wsX8_at := goodIn_r _ [5] rfl (by decide +kernel)
set_option maxRecDepth 20000 in
theorem gX8_termsThat_X8_at : GoodIn wsX8_termsThat (va_wsS RX8 46 yX8_at wsX8_at) := goodIn_app (goodIn_r _ [2, 3, 4] rfl (by decide +kernel)) ggX8_termsThat_X8_at
theorem dX8_termsThat_26 : decode cX8_termsThat 26 = .ok (.invokestatic 46, 3) := db_X8_termsThat_20.2.2.2.1
theorem dX8_termsThat_29 : decode cX8_termsThat 29 = .ok (.iaload, 1) := db_X8_termsThat_20.2.2.2.2.1
theorem dX8_termsThat_30 : decode cX8_termsThat 30 = .ok (.if_icmp .ge 32, 3) := db_X8_termsThat_20.2.2.2.2.2.1
theorem dX8_termsThat_62 : decode cX8_termsThat 62 = .ok (.iinc 3 1, 3) := db_X8_termsThat_20.2.2.2.2.2.2.1
theorem dX8_termsThat_65 : decode cX8_termsThat 65 = .ok (.goto (-61), 3) := db_X8_termsThat_20.2.2.2.2.2.2.2
set_option maxRecDepth 20000 in
theorem db_X8_termsThat_33 : (decode cX8_termsThat 33 = .ok (.iload_n 2, 1)) ∧ (decode cX8_termsThat 34 = .ok (.iload_n 1, 1)) ∧ (decode cX8_termsThat 35 = .ok (.ifCond .lt 14, 3)) ∧ (decode cX8_termsThat 49 = .ok (.iconst 1, 1)) ∧ (decode cX8_termsThat 50 = .ok (.goto 4, 3)) ∧ (decode cX8_termsThat 54 = .ok (.iadd, 1)) ∧ (decode cX8_termsThat 55 = .ok (.istore_n 2, 1)) ∧ (decode cX8_termsThat 56 = .ok (.iinc 4 1, 3)) := by decide +kernel
theorem dX8_termsThat_33 : decode cX8_termsThat 33 = .ok (.iload_n 2, 1) := db_X8_termsThat_33.1
theorem dX8_termsThat_34 : decode cX8_termsThat 34 = .ok (.iload_n 1, 1) := db_X8_termsThat_33.2.1
theorem dX8_termsThat_35 : decode cX8_termsThat 35 = .ok (.ifCond .lt 14, 3) := db_X8_termsThat_33.2.2.1
theorem dX8_termsThat_49 : decode cX8_termsThat 49 = .ok (.iconst 1, 1) := db_X8_termsThat_33.2.2.2.1
theorem dX8_termsThat_50 : decode cX8_termsThat 50 = .ok (.goto 4, 3) := db_X8_termsThat_33.2.2.2.2.1
theorem dX8_termsThat_54 : decode cX8_termsThat 54 = .ok (.iadd, 1) := db_X8_termsThat_33.2.2.2.2.2.1
theorem dX8_termsThat_55 : decode cX8_termsThat 55 = .ok (.istore_n 2, 1) := db_X8_termsThat_33.2.2.2.2.2.2.1
theorem dX8_termsThat_56 : decode cX8_termsThat 56 = .ok (.iinc 4 1, 3) := db_X8_termsThat_33.2.2.2.2.2.2.2
set_option maxRecDepth 20000 in
theorem db_X8_termsThat_59 : (decode cX8_termsThat 59 = .ok (.goto (-42), 3)) ∧ (decode cX8_termsThat 38 = .ok (.aload_n 0, 1)) ∧ (decode cX8_termsThat 39 = .ok (.iload_n 3, 1)) ∧ (decode cX8_termsThat 40 = .ok (.iload 4, 2)) ∧ (decode cX8_termsThat 42 = .ok (.invokevirtual 121, 3)) ∧ (decode cX8_termsThat 45 = .ok (.iload_n 1, 1)) ∧ (decode cX8_termsThat 46 = .ok (.if_icmp .ne 7, 3)) ∧ (decode cX8_termsThat 53 = .ok (.iconst 0, 1)) := by decide +kernel
theorem dX8_termsThat_59 : decode cX8_termsThat 59 = .ok (.goto (-42), 3) := db_X8_termsThat_59.1
theorem dX8_termsThat_38 : decode cX8_termsThat 38 = .ok (.aload_n 0, 1) := db_X8_termsThat_59.2.1
theorem dX8_termsThat_39 : decode cX8_termsThat 39 = .ok (.iload_n 3, 1) := db_X8_termsThat_59.2.2.1
theorem dX8_termsThat_40 : decode cX8_termsThat 40 = .ok (.iload 4, 2) := db_X8_termsThat_59.2.2.2.1
set_option maxRecDepth 20000 in
theorem ggX8_termsThat_X8_judge : GoodIn wsX8_termsThat wsX8_judge := goodIn_r _ [9, 1, 10, 11, 4, 12, 13, 14, 15, 16, 17, 18, 19, 20, 21, 22, 23] rfl (by decide +kernel)
set_option maxRecDepth 20000 in
theorem gX8_termsThat_X8_judge : GoodIn wsX8_termsThat (wsV RX8 121 RX8 yX8_judge wsX8_judge) := goodIn_app (goodIn_r _ [6, 7, 8, 4] rfl (by decide +kernel)) ggX8_termsThat_X8_judge
theorem dX8_termsThat_42 : decode cX8_termsThat 42 = .ok (.invokevirtual 121, 3) := db_X8_termsThat_59.2.2.2.2.1
theorem dX8_termsThat_45 : decode cX8_termsThat 45 = .ok (.iload_n 1, 1) := db_X8_termsThat_59.2.2.2.2.2.1
theorem dX8_termsThat_46 : decode cX8_termsThat 46 = .ok (.if_icmp .ne 7, 3) := db_X8_termsThat_59.2.2.2.2.2.2.1
theorem dX8_termsThat_53 : decode cX8_termsThat 53 = .ok (.iconst 0, 1) := db_X8_termsThat_59.2.2.2.2.2.2.2
set_option maxRecDepth 20000 in
theorem db_X8_put_0 : (decode cX8_put 0 = .ok (.aload_n 0, 1)) ∧ (decode cX8_put 1 = .ok (.iload_n 1, 1)) ∧ (decode cX8_put 2 = .ok (.invokevirtual 50, 3)) ∧ (decode cX8_put 5 = .ok (.ifCond .eq 10, 3)) ∧ (decode cX8_put 8 = .ok (.iload_n 2, 1)) ∧ (decode cX8_put 9 = .ok (.invokestatic 60, 3)) ∧ (decode cX8_put 12 = .ok (.ifCond .ne 5, 3)) ∧ (decode cX8_put 17 = .ok (.aload_n 0, 1)) := by decide +kernel
theorem dX8_put_0 : decode cX8_put 0 = .ok (.aload_n 0, 1) := db_X8_put_0.1
theorem dX8_put_1 : decode cX8_put 1 = .ok (.iload_n 1, 1) := db_X8_put_0.2.1
set_option maxRecDepth 20000 in
theorem ggX8_put_X8_isCase : GoodIn wsX8_put wsX8_isCase := goodIn_r _ [6, 1, 7, 8, 5, 9, 13, 14, 15, 16, 17, 18, 19, 20, 21, 22, 23] rfl (by decide +kernel)
set_option maxRecDepth 20000 in
theorem gX8_put_X8_isCase : GoodIn wsX8_put (wsV RX8 50 RX8 yX8_isCase wsX8_isCase) := goodIn_app (goodIn_r _ [2, 3, 4, 5] rfl (by decide +kernel)) ggX8_put_X8_isCase
theorem dX8_put_2 : decode cX8_put 2 = .ok (.invokevirtual 50, 3) := db_X8_put_0.2.2.1
theorem dX8_put_5 : decode cX8_put 5 = .ok (.ifCond .eq 10, 3) := db_X8_put_0.2.2.2.1
theorem dX8_put_8 : decode cX8_put 8 = .ok (.iload_n 2, 1) := db_X8_put_0.2.2.2.2.1
set_option maxRecDepth 20000 in
theorem ggX8_put_X8_isSide : GoodIn wsX8_put wsX8_isSide := goodIn_r _ [12, 7, 8, 5, 9] rfl (by decide +kernel)
set_option maxRecDepth 20000 in
theorem gX8_put_X8_isSide : GoodIn wsX8_put (va_wsS RX8 60 yX8_isSide wsX8_isSide) := goodIn_app (goodIn_r _ [10, 11, 5] rfl (by decide +kernel)) ggX8_put_X8_isSide
theorem dX8_put_9 : decode cX8_put 9 = .ok (.invokestatic 60, 3) := db_X8_put_0.2.2.2.2.2.1
theorem dX8_put_12 : decode cX8_put 12 = .ok (.ifCond .ne 5, 3) := db_X8_put_0.2.2.2.2.2.2.1
theorem dX8_put_17 : decode cX8_put 17 = .ok (.aload_n 0, 1) := db_X8_put_0.2.2.2.2.2.2.2
set_option maxRecDepth 20000 in
theorem db_X8_put_18 : (decode cX8_put 18 = .ok (.getfield 7, 3)) ∧ (decode cX8_put 21 = .ok (.bipush 74, 2)) ∧ (decode cX8_put 23 = .ok (.iconst 2, 1)) ∧ (decode cX8_put 24 = .ok (.iload_n 1, 1)) ∧ (decode cX8_put 25 = .ok (.imul, 1)) ∧ (decode cX8_put 26 = .ok (.iadd, 1)) ∧ (decode cX8_put 27 = .ok (.iload_n 2, 1)) ∧ (decode cX8_put 28 = .ok (.iadd, 1)) := by decide +kernel
theorem dX8_put_18 : decode cX8_put 18 = .ok (.getfield 7, 3) := db_X8_put_18.1
theorem dX8_put_21 : decode cX8_put 21 = .ok (.bipush 74, 2) := db_X8_put_18.2.1
theorem dX8_put_23 : decode cX8_put 23 = .ok (.iconst 2, 1) := db_X8_put_18.2.2.1
theorem dX8_put_24 : decode cX8_put 24 = .ok (.iload_n 1, 1) := db_X8_put_18.2.2.2.1
theorem dX8_put_25 : decode cX8_put 25 = .ok (.imul, 1) := db_X8_put_18.2.2.2.2.1
theorem dX8_put_26 : decode cX8_put 26 = .ok (.iadd, 1) := db_X8_put_18.2.2.2.2.2.1
theorem dX8_put_27 : decode cX8_put 27 = .ok (.iload_n 2, 1) := db_X8_put_18.2.2.2.2.2.2.1
theorem dX8_put_28 : decode cX8_put 28 = .ok (.iadd, 1) := db_X8_put_18.2.2.2.2.2.2.2
set_option maxRecDepth 20000 in
theorem db_X8_put_29 : (decode cX8_put 29 = .ok (.iaload, 1)) ∧ (decode cX8_put 30 = .ok (.ifCond .lt 7, 3)) ∧ (decode cX8_put 37 = .ok (.iconst 0, 1)) ∧ (decode cX8_put 38 = .ok (.ireturn, 1)) ∧ (decode cX8_put 33 = .ok (.iconst 1, 1)) ∧ (decode cX8_put 34 = .ok (.goto 4, 3)) ∧ (decode cX8_put 15 = .ok (.iconst (-1), 1)) ∧ (decode cX8_put 16 = .ok (.ireturn, 1)) := by decide +kernel
theorem dX8_put_29 : decode cX8_put 29 = .ok (.iaload, 1) := db_X8_put_29.1
theorem dX8_put_30 : decode cX8_put 30 = .ok (.ifCond .lt 7, 3) := db_X8_put_29.2.1
theorem dX8_put_37 : decode cX8_put 37 = .ok (.iconst 0, 1) := db_X8_put_29.2.2.1
theorem dX8_put_38 : decode cX8_put 38 = .ok (.ireturn, 1) := db_X8_put_29.2.2.2.1
theorem dX8_put_33 : decode cX8_put 33 = .ok (.iconst 1, 1) := db_X8_put_29.2.2.2.2.1
theorem dX8_put_34 : decode cX8_put 34 = .ok (.goto 4, 3) := db_X8_put_29.2.2.2.2.2.1
theorem dX8_put_15 : decode cX8_put 15 = .ok (.iconst (-1), 1) := db_X8_put_29.2.2.2.2.2.2.1
theorem dX8_put_16 : decode cX8_put 16 = .ok (.ireturn, 1) := db_X8_put_29.2.2.2.2.2.2.2
set_option maxRecDepth 20000 in
theorem db_X8_learns_0 : (decode cX8_learns 0 = .ok (.aload_n 0, 1)) ∧ (decode cX8_learns 1 = .ok (.iload_n 1, 1)) ∧ (decode cX8_learns 2 = .ok (.invokevirtual 50, 3)) ∧ (decode cX8_learns 5 = .ok (.ifCond .eq 10, 3)) ∧ (decode cX8_learns 8 = .ok (.iload_n 2, 1)) ∧ (decode cX8_learns 9 = .ok (.invokestatic 60, 3)) ∧ (decode cX8_learns 12 = .ok (.ifCond .ne 5, 3)) ∧ (decode cX8_learns 17 = .ok (.iload_n 3, 1)) := by decide +kernel
theorem dX8_learns_0 : decode cX8_learns 0 = .ok (.aload_n 0, 1) := db_X8_learns_0.1
theorem dX8_learns_1 : decode cX8_learns 1 = .ok (.iload_n 1, 1) := db_X8_learns_0.2.1
set_option maxRecDepth 20000 in
theorem ggX8_learns_X8_isCase : GoodIn wsX8_learns wsX8_isCase := goodIn_r _ [6, 1, 7, 8, 5, 9, 16, 17, 18, 19, 20, 21, 22, 23, 24, 25, 26] rfl (by decide +kernel)
set_option maxRecDepth 20000 in
theorem gX8_learns_X8_isCase : GoodIn wsX8_learns (wsV RX8 50 RX8 yX8_isCase wsX8_isCase) := goodIn_app (goodIn_r _ [2, 3, 4, 5] rfl (by decide +kernel)) ggX8_learns_X8_isCase
theorem dX8_learns_2 : decode cX8_learns 2 = .ok (.invokevirtual 50, 3) := db_X8_learns_0.2.2.1
theorem dX8_learns_5 : decode cX8_learns 5 = .ok (.ifCond .eq 10, 3) := db_X8_learns_0.2.2.2.1
theorem dX8_learns_8 : decode cX8_learns 8 = .ok (.iload_n 2, 1) := db_X8_learns_0.2.2.2.2.1
set_option maxRecDepth 20000 in
theorem ggX8_learns_X8_isSide : GoodIn wsX8_learns wsX8_isSide := goodIn_r _ [12, 7, 8, 5, 9] rfl (by decide +kernel)
set_option maxRecDepth 20000 in
theorem gX8_learns_X8_isSide : GoodIn wsX8_learns (va_wsS RX8 60 yX8_isSide wsX8_isSide) := goodIn_app (goodIn_r _ [10, 11, 5] rfl (by decide +kernel)) ggX8_learns_X8_isSide
theorem dX8_learns_9 : decode cX8_learns 9 = .ok (.invokestatic 60, 3) := db_X8_learns_0.2.2.2.2.2.1
theorem dX8_learns_12 : decode cX8_learns 12 = .ok (.ifCond .ne 5, 3) := db_X8_learns_0.2.2.2.2.2.2.1
theorem dX8_learns_17 : decode cX8_learns 17 = .ok (.iload_n 3, 1) := db_X8_learns_0.2.2.2.2.2.2.2
set_option maxRecDepth 20000 in
theorem db_X8_learns_18 : (decode cX8_learns 18 = .ok (.iconst 0, 1)) ∧ (decode cX8_learns 19 = .ok (.aload_n 0, 1)) ∧ (decode cX8_learns 20 = .ok (.getfield 7, 3)) ∧ (decode cX8_learns 23 = .ok (.iload_n 1, 1)) ∧ (decode cX8_learns 24 = .ok (.iconst 4, 1)) ∧ (decode cX8_learns 25 = .ok (.invokestatic 46, 3)) ∧ (decode cX8_learns 28 = .ok (.iaload, 1)) ∧ (decode cX8_learns 29 = .ok (.iconst 1, 1)) := by decide +kernel
theorem dX8_learns_18 : decode cX8_learns 18 = .ok (.iconst 0, 1) := db_X8_learns_18.1
theorem dX8_learns_19 : decode cX8_learns 19 = .ok (.aload_n 0, 1) := db_X8_learns_18.2.1
theorem dX8_learns_20 : decode cX8_learns 20 = .ok (.getfield 7, 3) := db_X8_learns_18.2.2.1
theorem dX8_learns_23 : decode cX8_learns 23 = .ok (.iload_n 1, 1) := db_X8_learns_18.2.2.2.1
theorem dX8_learns_24 : decode cX8_learns 24 = .ok (.iconst 4, 1) := db_X8_learns_18.2.2.2.2.1
set_option maxRecDepth 20000 in
theorem ggX8_learns_X8_at : GoodIn wsX8_learns wsX8_at := goodIn_r _ [15] rfl (by decide +kernel)
set_option maxRecDepth 20000 in
theorem gX8_learns_X8_at : GoodIn wsX8_learns (va_wsS RX8 46 yX8_at wsX8_at) := goodIn_app (goodIn_r _ [13, 14, 5] rfl (by decide +kernel)) ggX8_learns_X8_at
theorem dX8_learns_25 : decode cX8_learns 25 = .ok (.invokestatic 46, 3) := db_X8_learns_18.2.2.2.2.2.1
theorem dX8_learns_28 : decode cX8_learns 28 = .ok (.iaload, 1) := db_X8_learns_18.2.2.2.2.2.2.1
theorem dX8_learns_29 : decode cX8_learns 29 = .ok (.iconst 1, 1) := db_X8_learns_18.2.2.2.2.2.2.2
set_option maxRecDepth 20000 in
theorem db_X8_learns_30 : (decode cX8_learns 30 = .ok (.isub, 1)) ∧ (decode cX8_learns 31 = .ok (.invokestatic 35, 3)) ∧ (decode cX8_learns 34 = .ok (.ifCond .ne 6, 3)) ∧ (decode cX8_learns 40 = .ok (.aload_n 0, 1)) ∧ (decode cX8_learns 41 = .ok (.getfield 7, 3)) ∧ (decode cX8_learns 44 = .ok (.bipush 86, 2)) ∧ (decode cX8_learns 46 = .ok (.bipush 10, 2)) ∧ (decode cX8_learns 48 = .ok (.iload_n 1, 1)) := by decide +kernel
theorem dX8_learns_30 : decode cX8_learns 30 = .ok (.isub, 1) := db_X8_learns_30.1
set_option maxRecDepth 20000 in
theorem ggX8_learns_X8_in : GoodIn wsX8_learns wsX8_in := goodIn_r _ [9] rfl (by decide +kernel)
set_option maxRecDepth 20000 in
theorem gX8_learns_X8_in : GoodIn wsX8_learns (va_wsS RX8 35 yX8_in wsX8_in) := goodIn_app (goodIn_r _ [7, 8, 5] rfl (by decide +kernel)) ggX8_learns_X8_in
theorem dX8_learns_31 : decode cX8_learns 31 = .ok (.invokestatic 35, 3) := db_X8_learns_30.2.1
theorem dX8_learns_34 : decode cX8_learns 34 = .ok (.ifCond .ne 6, 3) := db_X8_learns_30.2.2.1
theorem dX8_learns_40 : decode cX8_learns 40 = .ok (.aload_n 0, 1) := db_X8_learns_30.2.2.2.1
theorem dX8_learns_41 : decode cX8_learns 41 = .ok (.getfield 7, 3) := db_X8_learns_30.2.2.2.2.1
theorem dX8_learns_44 : decode cX8_learns 44 = .ok (.bipush 86, 2) := db_X8_learns_30.2.2.2.2.2.1
theorem dX8_learns_46 : decode cX8_learns 46 = .ok (.bipush 10, 2) := db_X8_learns_30.2.2.2.2.2.2.1
theorem dX8_learns_48 : decode cX8_learns 48 = .ok (.iload_n 1, 1) := db_X8_learns_30.2.2.2.2.2.2.2
set_option maxRecDepth 20000 in
theorem db_X8_learns_49 : (decode cX8_learns 49 = .ok (.imul, 1)) ∧ (decode cX8_learns 50 = .ok (.iadd, 1)) ∧ (decode cX8_learns 51 = .ok (.iconst 2, 1)) ∧ (decode cX8_learns 52 = .ok (.iload_n 3, 1)) ∧ (decode cX8_learns 53 = .ok (.imul, 1)) ∧ (decode cX8_learns 54 = .ok (.iadd, 1)) ∧ (decode cX8_learns 55 = .ok (.iload_n 2, 1)) ∧ (decode cX8_learns 56 = .ok (.iadd, 1)) := by decide +kernel
theorem dX8_learns_49 : decode cX8_learns 49 = .ok (.imul, 1) := db_X8_learns_49.1
theorem dX8_learns_50 : decode cX8_learns 50 = .ok (.iadd, 1) := db_X8_learns_49.2.1
theorem dX8_learns_51 : decode cX8_learns 51 = .ok (.iconst 2, 1) := db_X8_learns_49.2.2.1
theorem dX8_learns_52 : decode cX8_learns 52 = .ok (.iload_n 3, 1) := db_X8_learns_49.2.2.2.1
theorem dX8_learns_53 : decode cX8_learns 53 = .ok (.imul, 1) := db_X8_learns_49.2.2.2.2.1
theorem dX8_learns_54 : decode cX8_learns 54 = .ok (.iadd, 1) := db_X8_learns_49.2.2.2.2.2.1
theorem dX8_learns_55 : decode cX8_learns 55 = .ok (.iload_n 2, 1) := db_X8_learns_49.2.2.2.2.2.2.1
theorem dX8_learns_56 : decode cX8_learns 56 = .ok (.iadd, 1) := db_X8_learns_49.2.2.2.2.2.2.2
set_option maxRecDepth 20000 in
theorem db_X8_learns_57 : (decode cX8_learns 57 = .ok (.iaload, 1)) ∧ (decode cX8_learns 58 = .ok (.istore 5, 2)) ∧ (decode cX8_learns 60 = .ok (.aload_n 0, 1)) ∧ (decode cX8_learns 61 = .ok (.getfield 7, 3)) ∧ (decode cX8_learns 64 = .ok (.bipush 86, 2)) ∧ (decode cX8_learns 66 = .ok (.bipush 10, 2)) ∧ (decode cX8_learns 68 = .ok (.iload_n 1, 1)) ∧ (decode cX8_learns 69 = .ok (.imul, 1)) := by decide +kernel
theorem dX8_learns_57 : decode cX8_learns 57 = .ok (.iaload, 1) := db_X8_learns_57.1
theorem dX8_learns_58 : decode cX8_learns 58 = .ok (.istore 5, 2) := db_X8_learns_57.2.1
theorem dX8_learns_60 : decode cX8_learns 60 = .ok (.aload_n 0, 1) := db_X8_learns_57.2.2.1
theorem dX8_learns_61 : decode cX8_learns 61 = .ok (.getfield 7, 3) := db_X8_learns_57.2.2.2.1
theorem dX8_learns_64 : decode cX8_learns 64 = .ok (.bipush 86, 2) := db_X8_learns_57.2.2.2.2.1
theorem dX8_learns_66 : decode cX8_learns 66 = .ok (.bipush 10, 2) := db_X8_learns_57.2.2.2.2.2.1
theorem dX8_learns_68 : decode cX8_learns 68 = .ok (.iload_n 1, 1) := db_X8_learns_57.2.2.2.2.2.2.1
theorem dX8_learns_69 : decode cX8_learns 69 = .ok (.imul, 1) := db_X8_learns_57.2.2.2.2.2.2.2
set_option maxRecDepth 20000 in
theorem db_X8_learns_70 : (decode cX8_learns 70 = .ok (.iadd, 1)) ∧ (decode cX8_learns 71 = .ok (.iconst 2, 1)) ∧ (decode cX8_learns 72 = .ok (.iload_n 3, 1)) ∧ (decode cX8_learns 73 = .ok (.imul, 1)) ∧ (decode cX8_learns 74 = .ok (.iadd, 1)) ∧ (decode cX8_learns 75 = .ok (.iconst 1, 1)) ∧ (decode cX8_learns 76 = .ok (.iadd, 1)) ∧ (decode cX8_learns 77 = .ok (.iload_n 2, 1)) := by decide +kernel
theorem dX8_learns_70 : decode cX8_learns 70 = .ok (.iadd, 1) := db_X8_learns_70.1
theorem dX8_learns_71 : decode cX8_learns 71 = .ok (.iconst 2, 1) := db_X8_learns_70.2.1
theorem dX8_learns_72 : decode cX8_learns 72 = .ok (.iload_n 3, 1) := db_X8_learns_70.2.2.1
theorem dX8_learns_73 : decode cX8_learns 73 = .ok (.imul, 1) := db_X8_learns_70.2.2.2.1
theorem dX8_learns_74 : decode cX8_learns 74 = .ok (.iadd, 1) := db_X8_learns_70.2.2.2.2.1
theorem dX8_learns_75 : decode cX8_learns 75 = .ok (.iconst 1, 1) := db_X8_learns_70.2.2.2.2.2.1
theorem dX8_learns_76 : decode cX8_learns 76 = .ok (.iadd, 1) := db_X8_learns_70.2.2.2.2.2.2.1
theorem dX8_learns_77 : decode cX8_learns 77 = .ok (.iload_n 2, 1) := db_X8_learns_70.2.2.2.2.2.2.2
set_option maxRecDepth 20000 in
theorem db_X8_learns_78 : (decode cX8_learns 78 = .ok (.isub, 1)) ∧ (decode cX8_learns 79 = .ok (.iaload, 1)) ∧ (decode cX8_learns 80 = .ok (.istore 6, 2)) ∧ (decode cX8_learns 82 = .ok (.iload_n 2, 1)) ∧ (decode cX8_learns 83 = .ok (.ifCond .ne 8, 3)) ∧ (decode cX8_learns 91 = .ok (.iload 6, 2)) ∧ (decode cX8_learns 93 = .ok (.istore 7, 2)) ∧ (decode cX8_learns 95 = .ok (.iload_n 2, 1)) := by decide +kernel
theorem dX8_learns_78 : decode cX8_learns 78 = .ok (.isub, 1) := db_X8_learns_78.1
theorem dX8_learns_79 : decode cX8_learns 79 = .ok (.iaload, 1) := db_X8_learns_78.2.1
theorem dX8_learns_80 : decode cX8_learns 80 = .ok (.istore 6, 2) := db_X8_learns_78.2.2.1
theorem dX8_learns_82 : decode cX8_learns 82 = .ok (.iload_n 2, 1) := db_X8_learns_78.2.2.2.1
theorem dX8_learns_83 : decode cX8_learns 83 = .ok (.ifCond .ne 8, 3) := db_X8_learns_78.2.2.2.2.1
theorem dX8_learns_91 : decode cX8_learns 91 = .ok (.iload 6, 2) := db_X8_learns_78.2.2.2.2.2.1
theorem dX8_learns_93 : decode cX8_learns 93 = .ok (.istore 7, 2) := db_X8_learns_78.2.2.2.2.2.2.1
theorem dX8_learns_95 : decode cX8_learns 95 = .ok (.iload_n 2, 1) := db_X8_learns_78.2.2.2.2.2.2.2
set_option maxRecDepth 20000 in
theorem db_X8_learns_96 : (decode cX8_learns 96 = .ok (.ifCond .ne 8, 3)) ∧ (decode cX8_learns 104 = .ok (.iload 5, 2)) ∧ (decode cX8_learns 106 = .ok (.istore 8, 2)) ∧ (decode cX8_learns 108 = .ok (.bipush (-5), 2)) ∧ (decode cX8_learns 110 = .ok (.istore 9, 2)) ∧ (decode cX8_learns 112 = .ok (.iconst 0, 1)) ∧ (decode cX8_learns 113 = .ok (.istore 10, 2)) ∧ (decode cX8_learns 115 = .ok (.iload 10, 2)) := by decide +kernel
theorem dX8_learns_96 : decode cX8_learns 96 = .ok (.ifCond .ne 8, 3) := db_X8_learns_96.1
theorem dX8_learns_104 : decode cX8_learns 104 = .ok (.iload 5, 2) := db_X8_learns_96.2.1
theorem dX8_learns_106 : decode cX8_learns 106 = .ok (.istore 8, 2) := db_X8_learns_96.2.2.1
theorem dX8_learns_108 : decode cX8_learns 108 = .ok (.bipush (-5), 2) := db_X8_learns_96.2.2.2.1
theorem dX8_learns_110 : decode cX8_learns 110 = .ok (.istore 9, 2) := db_X8_learns_96.2.2.2.2.1
theorem dX8_learns_112 : decode cX8_learns 112 = .ok (.iconst 0, 1) := db_X8_learns_96.2.2.2.2.2.1
theorem dX8_learns_113 : decode cX8_learns 113 = .ok (.istore 10, 2) := db_X8_learns_96.2.2.2.2.2.2.1
theorem dX8_learns_115 : decode cX8_learns 115 = .ok (.iload 10, 2) := db_X8_learns_96.2.2.2.2.2.2.2
set_option maxRecDepth 20000 in
theorem db_X8_learns_117 : (decode cX8_learns 117 = .ok (.bipush 100, 2)) ∧ (decode cX8_learns 119 = .ok (.if_icmp .gt 112, 3)) ∧ (decode cX8_learns 231 = .ok (.iload 9, 2)) ∧ (decode cX8_learns 233 = .ok (.ireturn, 1)) ∧ (decode cX8_learns 122 = .ok (.iload_n 2, 1)) ∧ (decode cX8_learns 123 = .ok (.ifCond .ne 8, 3)) ∧ (decode cX8_learns 131 = .ok (.iload 10, 2)) ∧ (decode cX8_learns 133 = .ok (.istore 11, 2)) := by decide +kernel
theorem dX8_learns_117 : decode cX8_learns 117 = .ok (.bipush 100, 2) := db_X8_learns_117.1
theorem dX8_learns_119 : decode cX8_learns 119 = .ok (.if_icmp .gt 112, 3) := db_X8_learns_117.2.1
theorem dX8_learns_231 : decode cX8_learns 231 = .ok (.iload 9, 2) := db_X8_learns_117.2.2.1
theorem dX8_learns_233 : decode cX8_learns 233 = .ok (.ireturn, 1) := db_X8_learns_117.2.2.2.1
theorem dX8_learns_122 : decode cX8_learns 122 = .ok (.iload_n 2, 1) := db_X8_learns_117.2.2.2.2.1
theorem dX8_learns_123 : decode cX8_learns 123 = .ok (.ifCond .ne 8, 3) := db_X8_learns_117.2.2.2.2.2.1
theorem dX8_learns_131 : decode cX8_learns 131 = .ok (.iload 10, 2) := db_X8_learns_117.2.2.2.2.2.2.1
theorem dX8_learns_133 : decode cX8_learns 133 = .ok (.istore 11, 2) := db_X8_learns_117.2.2.2.2.2.2.2
set_option maxRecDepth 20000 in
theorem db_X8_learns_135 : (decode cX8_learns 135 = .ok (.iload_n 2, 1)) ∧ (decode cX8_learns 136 = .ok (.ifCond .ne 8, 3)) ∧ (decode cX8_learns 144 = .ok (.iload 5, 2)) ∧ (decode cX8_learns 146 = .ok (.istore 12, 2)) ∧ (decode cX8_learns 148 = .ok (.iload 8, 2)) ∧ (decode cX8_learns 150 = .ok (.iload 7, 2)) ∧ (decode cX8_learns 152 = .ok (.if_icmp .ge 18, 3)) ∧ (decode cX8_learns 170 = .ok (.iload 12, 2)) := by decide +kernel
theorem dX8_learns_135 : decode cX8_learns 135 = .ok (.iload_n 2, 1) := db_X8_learns_135.1
theorem dX8_learns_136 : decode cX8_learns 136 = .ok (.ifCond .ne 8, 3) := db_X8_learns_135.2.1
theorem dX8_learns_144 : decode cX8_learns 144 = .ok (.iload 5, 2) := db_X8_learns_135.2.2.1
theorem dX8_learns_146 : decode cX8_learns 146 = .ok (.istore 12, 2) := db_X8_learns_135.2.2.2.1
theorem dX8_learns_148 : decode cX8_learns 148 = .ok (.iload 8, 2) := db_X8_learns_135.2.2.2.2.1
theorem dX8_learns_150 : decode cX8_learns 150 = .ok (.iload 7, 2) := db_X8_learns_135.2.2.2.2.2.1
theorem dX8_learns_152 : decode cX8_learns 152 = .ok (.if_icmp .ge 18, 3) := db_X8_learns_135.2.2.2.2.2.2.1
theorem dX8_learns_170 : decode cX8_learns 170 = .ok (.iload 12, 2) := db_X8_learns_135.2.2.2.2.2.2.2
set_option maxRecDepth 20000 in
theorem db_X8_learns_172 : (decode cX8_learns 172 = .ok (.iload 11, 2)) ∧ (decode cX8_learns 174 = .ok (.if_icmp .lt 24, 3)) ∧ (decode cX8_learns 198 = .ok (.iconst 0, 1)) ∧ (decode cX8_learns 199 = .ok (.istore 13, 2)) ∧ (decode cX8_learns 201 = .ok (.iload 13, 2)) ∧ (decode cX8_learns 203 = .ok (.ifCond .eq 18, 3)) ∧ (decode cX8_learns 221 = .ok (.iload 9, 2)) ∧ (decode cX8_learns 223 = .ok (.istore 9, 2)) := by decide +kernel
theorem dX8_learns_172 : decode cX8_learns 172 = .ok (.iload 11, 2) := db_X8_learns_172.1
theorem dX8_learns_174 : decode cX8_learns 174 = .ok (.if_icmp .lt 24, 3) := db_X8_learns_172.2.1
theorem dX8_learns_198 : decode cX8_learns 198 = .ok (.iconst 0, 1) := db_X8_learns_172.2.2.1
theorem dX8_learns_199 : decode cX8_learns 199 = .ok (.istore 13, 2) := db_X8_learns_172.2.2.2.1
theorem dX8_learns_201 : decode cX8_learns 201 = .ok (.iload 13, 2) := db_X8_learns_172.2.2.2.2.1
theorem dX8_learns_203 : decode cX8_learns 203 = .ok (.ifCond .eq 18, 3) := db_X8_learns_172.2.2.2.2.2.1
theorem dX8_learns_221 : decode cX8_learns 221 = .ok (.iload 9, 2) := db_X8_learns_172.2.2.2.2.2.2.1
theorem dX8_learns_223 : decode cX8_learns 223 = .ok (.istore 9, 2) := db_X8_learns_172.2.2.2.2.2.2.2
set_option maxRecDepth 20000 in
theorem db_X8_learns_225 : (decode cX8_learns 225 = .ok (.iinc 10 1, 3)) ∧ (decode cX8_learns 228 = .ok (.goto (-113), 3)) ∧ (decode cX8_learns 177 = .ok (.iload 11, 2)) ∧ (decode cX8_learns 179 = .ok (.iload 12, 2)) ∧ (decode cX8_learns 181 = .ok (.iadd, 1)) ∧ (decode cX8_learns 182 = .ok (.iconst 2, 1)) ∧ (decode cX8_learns 183 = .ok (.idiv, 1)) ∧ (decode cX8_learns 184 = .ok (.iload 7, 2)) := by decide +kernel
theorem dX8_learns_225 : decode cX8_learns 225 = .ok (.iinc 10 1, 3) := db_X8_learns_225.1
theorem dX8_learns_228 : decode cX8_learns 228 = .ok (.goto (-113), 3) := db_X8_learns_225.2.1
theorem dX8_learns_177 : decode cX8_learns 177 = .ok (.iload 11, 2) := db_X8_learns_225.2.2.1
theorem dX8_learns_179 : decode cX8_learns 179 = .ok (.iload 12, 2) := db_X8_learns_225.2.2.2.1
theorem dX8_learns_181 : decode cX8_learns 181 = .ok (.iadd, 1) := db_X8_learns_225.2.2.2.2.1
theorem dX8_learns_182 : decode cX8_learns 182 = .ok (.iconst 2, 1) := db_X8_learns_225.2.2.2.2.2.1
theorem dX8_learns_183 : decode cX8_learns 183 = .ok (.idiv, 1) := db_X8_learns_225.2.2.2.2.2.2.1
theorem dX8_learns_184 : decode cX8_learns 184 = .ok (.iload 7, 2) := db_X8_learns_225.2.2.2.2.2.2.2
set_option maxRecDepth 20000 in
theorem db_X8_learns_186 : (decode cX8_learns 186 = .ok (.iload 8, 2)) ∧ (decode cX8_learns 188 = .ok (.iadd, 1)) ∧ (decode cX8_learns 189 = .ok (.iconst 2, 1)) ∧ (decode cX8_learns 190 = .ok (.idiv, 1)) ∧ (decode cX8_learns 191 = .ok (.if_icmp .ne 7, 3)) ∧ (decode cX8_learns 194 = .ok (.iconst 1, 1)) ∧ (decode cX8_learns 195 = .ok (.goto 4, 3)) ∧ (decode cX8_learns 206 = .ok (.iload 9, 2)) := by decide +kernel
theorem dX8_learns_186 : decode cX8_learns 186 = .ok (.iload 8, 2) := db_X8_learns_186.1
theorem dX8_learns_188 : decode cX8_learns 188 = .ok (.iadd, 1) := db_X8_learns_186.2.1
theorem dX8_learns_189 : decode cX8_learns 189 = .ok (.iconst 2, 1) := db_X8_learns_186.2.2.1
theorem dX8_learns_190 : decode cX8_learns 190 = .ok (.idiv, 1) := db_X8_learns_186.2.2.2.1
theorem dX8_learns_191 : decode cX8_learns 191 = .ok (.if_icmp .ne 7, 3) := db_X8_learns_186.2.2.2.2.1
theorem dX8_learns_194 : decode cX8_learns 194 = .ok (.iconst 1, 1) := db_X8_learns_186.2.2.2.2.2.1
theorem dX8_learns_195 : decode cX8_learns 195 = .ok (.goto 4, 3) := db_X8_learns_186.2.2.2.2.2.2.1
theorem dX8_learns_206 : decode cX8_learns 206 = .ok (.iload 9, 2) := db_X8_learns_186.2.2.2.2.2.2.2
set_option maxRecDepth 20000 in
theorem db_X8_learns_208 : (decode cX8_learns 208 = .ok (.ifCond .lt 8, 3)) ∧ (decode cX8_learns 216 = .ok (.iload 10, 2)) ∧ (decode cX8_learns 218 = .ok (.goto 5, 3)) ∧ (decode cX8_learns 211 = .ok (.iload 4, 2)) ∧ (decode cX8_learns 213 = .ok (.ifCond .eq 8, 3)) ∧ (decode cX8_learns 155 = .ok (.iload 12, 2)) ∧ (decode cX8_learns 157 = .ok (.iload 11, 2)) ∧ (decode cX8_learns 159 = .ok (.if_icmp .ge 7, 3)) := by decide +kernel
theorem dX8_learns_208 : decode cX8_learns 208 = .ok (.ifCond .lt 8, 3) := db_X8_learns_208.1
theorem dX8_learns_216 : decode cX8_learns 216 = .ok (.iload 10, 2) := db_X8_learns_208.2.1
theorem dX8_learns_218 : decode cX8_learns 218 = .ok (.goto 5, 3) := db_X8_learns_208.2.2.1
theorem dX8_learns_211 : decode cX8_learns 211 = .ok (.iload 4, 2) := db_X8_learns_208.2.2.2.1
theorem dX8_learns_213 : decode cX8_learns 213 = .ok (.ifCond .eq 8, 3) := db_X8_learns_208.2.2.2.2.1
theorem dX8_learns_155 : decode cX8_learns 155 = .ok (.iload 12, 2) := db_X8_learns_208.2.2.2.2.2.1
theorem dX8_learns_157 : decode cX8_learns 157 = .ok (.iload 11, 2) := db_X8_learns_208.2.2.2.2.2.2.1
theorem dX8_learns_159 : decode cX8_learns 159 = .ok (.if_icmp .ge 7, 3) := db_X8_learns_208.2.2.2.2.2.2.2
set_option maxRecDepth 20000 in
theorem db_X8_learns_166 : (decode cX8_learns 166 = .ok (.iconst 0, 1)) ∧ (decode cX8_learns 167 = .ok (.goto 32, 3)) ∧ (decode cX8_learns 162 = .ok (.iconst 1, 1)) ∧ (decode cX8_learns 163 = .ok (.goto 36, 3)) ∧ (decode cX8_learns 86 = .ok (.iload 5, 2)) ∧ (decode cX8_learns 88 = .ok (.goto 5, 3)) ∧ (decode cX8_learns 99 = .ok (.iload 6, 2)) ∧ (decode cX8_learns 101 = .ok (.goto 5, 3)) := by decide +kernel
theorem dX8_learns_166 : decode cX8_learns 166 = .ok (.iconst 0, 1) := db_X8_learns_166.1
theorem dX8_learns_167 : decode cX8_learns 167 = .ok (.goto 32, 3) := db_X8_learns_166.2.1
theorem dX8_learns_162 : decode cX8_learns 162 = .ok (.iconst 1, 1) := db_X8_learns_166.2.2.1
theorem dX8_learns_163 : decode cX8_learns 163 = .ok (.goto 36, 3) := db_X8_learns_166.2.2.2.1
theorem dX8_learns_86 : decode cX8_learns 86 = .ok (.iload 5, 2) := db_X8_learns_166.2.2.2.2.1
theorem dX8_learns_88 : decode cX8_learns 88 = .ok (.goto 5, 3) := db_X8_learns_166.2.2.2.2.2.1
theorem dX8_learns_99 : decode cX8_learns 99 = .ok (.iload 6, 2) := db_X8_learns_166.2.2.2.2.2.2.1
theorem dX8_learns_101 : decode cX8_learns 101 = .ok (.goto 5, 3) := db_X8_learns_166.2.2.2.2.2.2.2
set_option maxRecDepth 20000 in
theorem db_X8_learns_126 : (decode cX8_learns 126 = .ok (.iload 5, 2)) ∧ (decode cX8_learns 128 = .ok (.goto 5, 3)) ∧ (decode cX8_learns 139 = .ok (.iload 10, 2)) ∧ (decode cX8_learns 141 = .ok (.goto 5, 3)) ∧ (decode cX8_learns 37 = .ok (.bipush (-5), 2)) ∧ (decode cX8_learns 39 = .ok (.ireturn, 1)) ∧ (decode cX8_learns 15 = .ok (.iconst (-1), 1)) ∧ (decode cX8_learns 16 = .ok (.ireturn, 1)) := by decide +kernel
theorem dX8_learns_126 : decode cX8_learns 126 = .ok (.iload 5, 2) := db_X8_learns_126.1
theorem dX8_learns_128 : decode cX8_learns 128 = .ok (.goto 5, 3) := db_X8_learns_126.2.1
theorem dX8_learns_139 : decode cX8_learns 139 = .ok (.iload 10, 2) := db_X8_learns_126.2.2.1
theorem dX8_learns_141 : decode cX8_learns 141 = .ok (.goto 5, 3) := db_X8_learns_126.2.2.2.1
theorem dX8_learns_37 : decode cX8_learns 37 = .ok (.bipush (-5), 2) := db_X8_learns_126.2.2.2.2.1
theorem dX8_learns_39 : decode cX8_learns 39 = .ok (.ireturn, 1) := db_X8_learns_126.2.2.2.2.2.1
theorem dX8_learns_15 : decode cX8_learns 15 = .ok (.iconst (-1), 1) := db_X8_learns_126.2.2.2.2.2.2.1
theorem dX8_learns_16 : decode cX8_learns 16 = .ok (.ireturn, 1) := db_X8_learns_126.2.2.2.2.2.2.2
def pn (x : Int) : Int := if x < 3 then 0 else if x < 5 then 1 else 2
def pt (x : Int) : Int := if x < 3 then x + 1 else if x < 5 then x - 1 else 3
theorem pn_b (x : Int) : 0 ≤ pn x ∧ pn x ≤ 2 := by
  unfold pn
  split
  · omega
  · split <;> omega
theorem pt_b (x : Int) (h : 0 ≤ x) : 0 ≤ pt x ∧ pt x ≤ 3 := by
  unfold pt
  split
  · omega
  · split <;> omega
/-- indexes of arrays, told apart -/
theorem nt {x : Int32} {n : Nat} (h : x.toInt = n) : x.toNatClampNeg = n := by
  show x.toInt.toNat = n
  omega
theorem nn {x y : Int32} (hx : 0 ≤ x.toInt) (hy : 0 ≤ y.toInt) (h : x.toInt ≠ y.toInt) : x.toNatClampNeg ≠ y.toNatClampNeg := by
  have a := t_nn hx
  have b := t_nn hy
  omega

set_option maxHeartbeats 4000000 in
set_option maxRecDepth 100000 in
theorem c_X8_oneOf (l : Launch) (x0 : Int32) : Met l yX8_oneOf wsX8_oneOf ({ frames := 0, cells := 0, slots := 0, locals := 0 }) (va_Pc [.int x0] (fun _ => True)) (va_Qi (fun (r : Int32) (_ : Unit) => r.toInt = pn x0.toInt) (fun _ _ => True) (fun _ => False)) 0 0 (fun _ => False) := by
  refine Met.ofW (cc := cX8_oneOf) (maxL := 1) (ret := (some .int)) (by decide) rfl ?_
  intro p e s m args below meth c s₁ B hml hv
  obtain ⟨rfl, -⟩ := hv
  have hx := B.exec
  have hb := B.bytes
  have hr := B.returns
  have hts := atoms_spec (ws := wsX8_oneOf) B.pre
  have hown : s.vm.findClass RX8 = some m.cls := findClass_of_methodNamed B.named
  have hlocks := B.notSynchronized
  have hl := lv_entry ([.int x0]) (n := 1) (Nat.le_of_ble_eq_true rfl)
  rw [lg_entry_eq]
  generalize (lg_sl ([.int x0]) ++ List.replicate (1 - (lg_sl ([.int x0])).length) Slot.unset).toArray = ls at hl ⊢
  have hl : lv_has ls 1 [(0, .int x0)] := hl
  have hS : va_S (fun _ => False) s.heap s.heap [] := va_S.rf
  have hlo : -2147483648 ≤ x0.toInt := by have q := Int32.le_toInt x0; omega
  have hhi : x0.toInt < 2147483648 := by have q := Int32.toInt_lt x0; omega
  refine lv_iload_n hx hb dX8_oneOf_0 rfl (lv_at hl 0 rfl) ?_
  refine lv_iconst (v := 3) hx hb dX8_oneOf_1 (by decide) ?_
  have k_3 : (3 : Int32).toInt = 3 := by decide
  refine lv_icmp_ge (tgt := 9) hx hb dX8_oneOf_2 (by decide) (fun c_1 => ?_) (fun c_1 => ?_)
  · have tc_1 : x0.toInt ≥ (3 : Int32).toInt := Int32.le_iff_toInt_le.mp c_1
    refine lv_iload_n hx hb dX8_oneOf_9 rfl (lv_at hl 0 rfl) ?_
    refine lv_iconst (v := 5) hx hb dX8_oneOf_10 (by decide) ?_
    have k_5 : (5 : Int32).toInt = 5 := by decide
    refine lv_icmp_ge (tgt := 18) hx hb dX8_oneOf_11 (by decide) (fun c_2 => ?_) (fun c_2 => ?_)
    · have tc_2 : x0.toInt ≥ (5 : Int32).toInt := Int32.le_iff_toInt_le.mp c_2
      refine lv_iconst (v := 2) hx hb dX8_oneOf_18 (by decide) ?_
      have k_2 : (2 : Int32).toInt = 2 := by decide
      exact W.iret (v := 2) hx hb hr (fun t ht hW => ⟨⟨2, (), rfl, (by unfold pn; repeat' split; all_goals omega), trivial⟩, hS.F ht⟩) hS.2.2 dX8_oneOf_19
    · have tc_2 : x0.toInt < (5 : Int32).toInt := Int32.lt_iff_toInt_lt.mp (Int32.not_le.mp c_2)
      refine lv_iconst (v := 1) hx hb dX8_oneOf_14 (by decide) ?_
      refine lv_goto (tgt := 19) hx hb dX8_oneOf_15 (by decide) ?_
      have k_1 : (1 : Int32).toInt = 1 := by decide
      exact W.iret (v := 1) hx hb hr (fun t ht hW => ⟨⟨1, (), rfl, (by unfold pn; repeat' split; all_goals omega), trivial⟩, hS.F ht⟩) hS.2.2 dX8_oneOf_19
  · have tc_1 : x0.toInt < (3 : Int32).toInt := Int32.lt_iff_toInt_lt.mp (Int32.not_le.mp c_1)
    refine lv_iconst (v := 0) hx hb dX8_oneOf_5 (by decide) ?_
    refine lv_goto (tgt := 19) hx hb dX8_oneOf_6 (by decide) ?_
    have k_0 : (0 : Int32).toInt = 0 := by decide
    exact W.iret (v := 0) hx hb hr (fun t ht hW => ⟨⟨0, (), rfl, (by unfold pn; repeat' split; all_goals omega), trivial⟩, hS.F ht⟩) hS.2.2 dX8_oneOf_19

set_option maxHeartbeats 4000000 in
set_option maxRecDepth 100000 in
theorem c_X8_otherOf (l : Launch) (x0 : Int32) : Met l yX8_otherOf wsX8_otherOf ({ frames := 0, cells := 0, slots := 0, locals := 0 }) (va_Pc [.int x0] (fun _ => True)) (va_Qi (fun (r : Int32) (_ : Unit) => r.toInt = pt x0.toInt) (fun _ _ => True) (fun _ => False)) 0 0 (fun _ => False) := by
  refine Met.ofW (cc := cX8_otherOf) (maxL := 1) (ret := (some .int)) (by decide) rfl ?_
  intro p e s m args below meth c s₁ B hml hv
  obtain ⟨rfl, -⟩ := hv
  have hx := B.exec
  have hb := B.bytes
  have hr := B.returns
  have hts := atoms_spec (ws := wsX8_otherOf) B.pre
  have hown : s.vm.findClass RX8 = some m.cls := findClass_of_methodNamed B.named
  have hlocks := B.notSynchronized
  have hl := lv_entry ([.int x0]) (n := 1) (Nat.le_of_ble_eq_true rfl)
  rw [lg_entry_eq]
  generalize (lg_sl ([.int x0]) ++ List.replicate (1 - (lg_sl ([.int x0])).length) Slot.unset).toArray = ls at hl ⊢
  have hl : lv_has ls 1 [(0, .int x0)] := hl
  have hS : va_S (fun _ => False) s.heap s.heap [] := va_S.rf
  have hlo : -2147483648 ≤ x0.toInt := by have q := Int32.le_toInt x0; omega
  have hhi : x0.toInt < 2147483648 := by have q := Int32.toInt_lt x0; omega
  refine lv_iload_n hx hb dX8_otherOf_0 rfl (lv_at hl 0 rfl) ?_
  refine lv_iconst (v := 3) hx hb dX8_otherOf_1 (by decide) ?_
  have k_3 : (3 : Int32).toInt = 3 := by decide
  refine lv_icmp_ge (tgt := 11) hx hb dX8_otherOf_2 (by decide) (fun c_1 => ?_) (fun c_1 => ?_)
  · have tc_1 : x0.toInt ≥ (3 : Int32).toInt := Int32.le_iff_toInt_le.mp c_1
    refine lv_iload_n hx hb dX8_otherOf_11 rfl (lv_at hl 0 rfl) ?_
    refine lv_iconst (v := 5) hx hb dX8_otherOf_12 (by decide) ?_
    have k_5 : (5 : Int32).toInt = 5 := by decide
    refine lv_icmp_ge (tgt := 22) hx hb dX8_otherOf_13 (by decide) (fun c_2 => ?_) (fun c_2 => ?_)
    · have tc_2 : x0.toInt ≥ (5 : Int32).toInt := Int32.le_iff_toInt_le.mp c_2
      refine lv_iconst (v := 3) hx hb dX8_otherOf_22 (by decide) ?_
      exact W.iret (v := 3) hx hb hr (fun t ht hW => ⟨⟨3, (), rfl, (by unfold pt; repeat' split; all_goals omega), trivial⟩, hS.F ht⟩) hS.2.2 dX8_otherOf_23
    · have tc_2 : x0.toInt < (5 : Int32).toInt := Int32.lt_iff_toInt_lt.mp (Int32.not_le.mp c_2)
      refine lv_iload_n hx hb dX8_otherOf_16 rfl (lv_at hl 0 rfl) ?_
      refine lv_iconst (v := 1) hx hb dX8_otherOf_17 (by decide) ?_
      refine lv_isub hx hb dX8_otherOf_18 ?_
      refine lv_topi (fun x_3 ex_3 => ?_)
      have k_1 : (1 : Int32).toInt = 1 := by decide
      have tx_3 : x_3.toInt = x0.toInt - (1 : Int32).toInt := by rw [ex_3]; exact t_sub ⟨by omega, by omega⟩
      refine lv_goto (tgt := 23) hx hb dX8_otherOf_19 (by decide) ?_
      exact W.iret (v := x_3) hx hb hr (fun t ht hW => ⟨⟨x_3, (), rfl, (by unfold pt; repeat' split; all_goals omega), trivial⟩, hS.F ht⟩) hS.2.2 dX8_otherOf_23
  · have tc_1 : x0.toInt < (3 : Int32).toInt := Int32.lt_iff_toInt_lt.mp (Int32.not_le.mp c_1)
    refine lv_iload_n hx hb dX8_otherOf_5 rfl (lv_at hl 0 rfl) ?_
    refine lv_iconst (v := 1) hx hb dX8_otherOf_6 (by decide) ?_
    refine lv_iadd hx hb dX8_otherOf_7 ?_
    refine lv_topi (fun x_2 ex_2 => ?_)
    have k_1 : (1 : Int32).toInt = 1 := by decide
    have tx_2 : x_2.toInt = x0.toInt + (1 : Int32).toInt := by rw [ex_2]; exact t_add ⟨by omega, by omega⟩
    refine lv_goto (tgt := 23) hx hb dX8_otherOf_8 (by decide) ?_
    exact W.iret (v := x_2) hx hb hr (fun t ht hW => ⟨⟨x_2, (), rfl, (by unfold pt; repeat' split; all_goals omega), trivial⟩, hS.F ht⟩) hS.2.2 dX8_otherOf_23

set_option maxHeartbeats 4000000 in
set_option maxRecDepth 100000 in
theorem q_X8_isParty (l : Launch) (dC : Nat → ClassId) (dI : Nat → Nat → Nat) (cy : Nat → ClassId) (sz : Nat) (ad : Nat → Nat) (v : Nat → Nat → Int32) (hv : Ir v) (x0 : Int32) : Met l yX8_isParty wsX8_isParty ({ frames := 1, cells := 0, slots := 0, locals := 64 }) (va_Pc [.ref (ad 0), .int x0] (ex_Pre dC dI cy sz (wm ad cy v))) (va_Qi (fun (r : Int32) (u : Nat → Nat → Int32) => Ir u ∧ u = v ∧ ((r = 1 ∧ 0 ≤ x0.toInt ∧ x0.toInt < (v 1 0).toInt) ∨ (r = 0 ∧ ¬ (0 ≤ x0.toInt ∧ x0.toInt < (v 1 0).toInt)))) (fun u t => ex_Pst dC dI (va_A (wm ad cy v) sz) (wm ad cy u) t) (va_A (wm ad cy v) sz)) 0 0 (va_A (wm ad cy v) sz) := by
  refine Met.ofW (cc := cX8_isParty) (maxL := 2) (ret := (some .boolean)) (by decide) rfl ?_
  intro p e s m args below meth c s₁ B hml hv
  obtain ⟨rfl, hsz, hE, hP, hK, hD0⟩ := hv
  have hx := B.exec
  have hb := B.bytes
  have hr := B.returns
  have hts := atoms_spec (ws := wsX8_isParty) B.pre
  have hown : s.vm.findClass RX8 = some m.cls := findClass_of_methodNamed B.named
  have hlocks := B.notSynchronized
  subst hsz
  have hD := hD0.self (sz := s.heap.size)
  generalize hAe : va_A (wm ad cy v) s.heap.size = A at hD ⊢
  have hA : ∀ q : Nat, s.heap.size ≤ q → A q := fun q h => by rw [← hAe]; exact Or.inr h
  have hS : va_S A s.heap s.heap [] := va_S.rf
  have hP : va_P (dC, dI) vwCl (wm ad cy v) s.heap := hP
  have hl := lv_entry ([.ref (ad 0), .int x0]) (n := 2) (Nat.le_of_ble_eq_true rfl)
  rw [lg_entry_eq]
  generalize (lg_sl ([.ref (ad 0), .int x0]) ++ List.replicate (2 - (lg_sl ([.ref (ad 0), .int x0])).length) Slot.unset).toArray = ls at hl ⊢
  have hl : lv_has ls 2 [(0, .ref (ad 0)), (1, .int x0)] := hl
  refine lv_iload_n hx hb dX8_isParty_0 rfl (lv_at hl 1 rfl) ?_
  refine lv_iconst (v := 0) hx hb dX8_isParty_1 (by decide) ?_
  refine lv_aload_n hx hb dX8_isParty_2 rfl (lv_at hl 0 rfl) ?_
  refine va_get (D := (dC, dI)) (ci := 8) (v := .ref (ad 1)) (C := RX8) (T := TX8) (N := 11) hx hb hts iwX8_isParty_X8 hown hK hP (0) (wm_at (by decide) rc_0) rfl 0 (by decide) (hts (.fieldLink RX8 7 "QuietStairsModel" "s" "[I") fwX8_isParty_1) (fun _ h9 => h9) rfl dX8_isParty_3 ?_
  refine lv_iconst (v := 0) hx hb dX8_isParty_6 (by decide) ?_
  have k_0 : (0 : Int32).toInt = 0 := by decide
  refine va_iald hx hb hK hP (1) 0 (wm_at (by decide) rc_1) rfl (by unfold vp_in; decide) dX8_isParty_7 ?_
  refine lv_topi (fun x_1 ex_1 => ?_)
  have ex_1 : x_1 = v 1 0 := ex_1
  have bx_1 : 0 ≤ x_1.toInt ∧ x_1.toInt ≤ 8 := by rw [ex_1]; exact hv 1 _ 8 (show bS 0 = some 8 from by decide)
  refine lv_iconst (v := 1) hx hb dX8_isParty_8 (by decide) ?_
  refine lv_isub hx hb dX8_isParty_9 ?_
  refine lv_topi (fun x_2 ex_2 => ?_)
  have k_1 : (1 : Int32).toInt = 1 := by decide
  have tx_2 : x_2.toInt = x_1.toInt - (1 : Int32).toInt := by rw [ex_2]; exact t_sub ⟨by omega, by omega⟩
  have kk : x_1.toInt = (v 1 0).toInt := by rw [ex_1]
  refine yc_p hP hS (va_runS (As := [.int x0, .int 0, .int x_2]) (rest := []) ⟨hx, hb, hml, hown, hts⟩ (c_X8_in l x0 0 x_2) (cwS 3 hts gX8_isParty_X8_in rfl rfl rfl hd_S_X8_in_3 ⟨Nat.le_of_ble_eq_true rfl, Nat.le_of_ble_eq_true rfl⟩) ex_preP rfl rfl hl.1 rfl (lv_room (Nat.le_of_ble_eq_true rfl)) dX8_isParty_10 ⟨Nat.le_of_ble_eq_true rfl, Nat.le_of_ble_eq_true rfl⟩) (fun r_3 H locs hw_3 hP hS => ?_)
  rcases wi_ca hw_3 with ⟨rfl, hc_4⟩ | ⟨rfl, hc_4⟩
  · have tc_4 := wi_tl hc_4
    exact W.zret (ty := .boolean) (v := 1) hx hb hr rfl (fun t ht hW => ⟨⟨1, v, rfl, ⟨hv, rfl, Or.inl ⟨rfl, by omega, by omega⟩⟩, by rw [ht]; exact hP, hD⟩, hS.F ht⟩) hS.2.2 dX8_isParty_13
  · have tc_4 : ¬ ((0 : Int32).toInt ≤ x0.toInt ∧ x0.toInt ≤ x_2.toInt) := fun q => hc_4 ⟨Int32.le_iff_toInt_le.mpr q.1, Int32.le_iff_toInt_le.mpr q.2⟩
    exact W.zret (ty := .boolean) (v := 0) hx hb hr rfl (fun t ht hW => ⟨⟨0, v, rfl, ⟨hv, rfl, Or.inr ⟨rfl, by omega⟩⟩, by rw [ht]; exact hP, hD⟩, hS.F ht⟩) hS.2.2 dX8_isParty_13

set_option maxHeartbeats 4000000 in
set_option maxRecDepth 100000 in
theorem q_X8_isMediator (l : Launch) (dC : Nat → ClassId) (dI : Nat → Nat → Nat) (cy : Nat → ClassId) (sz : Nat) (ad : Nat → Nat) (v : Nat → Nat → Int32) (hv : Ir v) (x0 : Int32) : Met l yX8_isMediator wsX8_isMediator ({ frames := 1, cells := 0, slots := 0, locals := 64 }) (va_Pc [.ref (ad 0), .int x0] (ex_Pre dC dI cy sz (wm ad cy v))) (va_Qi (fun (r : Int32) (u : Nat → Nat → Int32) => Ir u ∧ u = v ∧ ((r = 1 ∧ 0 ≤ x0.toInt ∧ x0.toInt < (v 1 1).toInt) ∨ (r = 0 ∧ ¬ (0 ≤ x0.toInt ∧ x0.toInt < (v 1 1).toInt)))) (fun u t => ex_Pst dC dI (va_A (wm ad cy v) sz) (wm ad cy u) t) (va_A (wm ad cy v) sz)) 0 0 (va_A (wm ad cy v) sz) := by
  refine Met.ofW (cc := cX8_isMediator) (maxL := 2) (ret := (some .boolean)) (by decide) rfl ?_
  intro p e s m args below meth c s₁ B hml hv
  obtain ⟨rfl, hsz, hE, hP, hK, hD0⟩ := hv
  have hx := B.exec
  have hb := B.bytes
  have hr := B.returns
  have hts := atoms_spec (ws := wsX8_isMediator) B.pre
  have hown : s.vm.findClass RX8 = some m.cls := findClass_of_methodNamed B.named
  have hlocks := B.notSynchronized
  subst hsz
  have hD := hD0.self (sz := s.heap.size)
  generalize hAe : va_A (wm ad cy v) s.heap.size = A at hD ⊢
  have hA : ∀ q : Nat, s.heap.size ≤ q → A q := fun q h => by rw [← hAe]; exact Or.inr h
  have hS : va_S A s.heap s.heap [] := va_S.rf
  have hP : va_P (dC, dI) vwCl (wm ad cy v) s.heap := hP
  have hl := lv_entry ([.ref (ad 0), .int x0]) (n := 2) (Nat.le_of_ble_eq_true rfl)
  rw [lg_entry_eq]
  generalize (lg_sl ([.ref (ad 0), .int x0]) ++ List.replicate (2 - (lg_sl ([.ref (ad 0), .int x0])).length) Slot.unset).toArray = ls at hl ⊢
  have hl : lv_has ls 2 [(0, .ref (ad 0)), (1, .int x0)] := hl
  refine lv_iload_n hx hb dX8_isMediator_0 rfl (lv_at hl 1 rfl) ?_
  refine lv_iconst (v := 0) hx hb dX8_isMediator_1 (by decide) ?_
  refine lv_aload_n hx hb dX8_isMediator_2 rfl (lv_at hl 0 rfl) ?_
  refine va_get (D := (dC, dI)) (ci := 8) (v := .ref (ad 1)) (C := RX8) (T := TX8) (N := 11) hx hb hts iwX8_isMediator_X8 hown hK hP (0) (wm_at (by decide) rc_0) rfl 0 (by decide) (hts (.fieldLink RX8 7 "QuietStairsModel" "s" "[I") fwX8_isMediator_1) (fun _ h9 => h9) rfl dX8_isMediator_3 ?_
  refine lv_iconst (v := 1) hx hb dX8_isMediator_6 (by decide) ?_
  have k_1 : (1 : Int32).toInt = 1 := by decide
  refine va_iald hx hb hK hP (1) 0 (wm_at (by decide) rc_1) rfl (by unfold vp_in; decide) dX8_isMediator_7 ?_
  refine lv_topi (fun x_1 ex_1 => ?_)
  have ex_1 : x_1 = v 1 1 := ex_1
  have bx_1 : 0 ≤ x_1.toInt ∧ x_1.toInt ≤ 4 := by rw [ex_1]; exact hv 1 _ 4 (show bS 1 = some 4 from by decide)
  refine lv_iconst (v := 1) hx hb dX8_isMediator_8 (by decide) ?_
  refine lv_isub hx hb dX8_isMediator_9 ?_
  refine lv_topi (fun x_2 ex_2 => ?_)
  have tx_2 : x_2.toInt = x_1.toInt - (1 : Int32).toInt := by rw [ex_2]; exact t_sub ⟨by omega, by omega⟩
  have kk : x_1.toInt = (v 1 1).toInt := by rw [ex_1]
  refine yc_p hP hS (va_runS (As := [.int x0, .int 0, .int x_2]) (rest := []) ⟨hx, hb, hml, hown, hts⟩ (c_X8_in l x0 0 x_2) (cwS 3 hts gX8_isMediator_X8_in rfl rfl rfl hd_S_X8_in_3 ⟨Nat.le_of_ble_eq_true rfl, Nat.le_of_ble_eq_true rfl⟩) ex_preP rfl rfl hl.1 rfl (lv_room (Nat.le_of_ble_eq_true rfl)) dX8_isMediator_10 ⟨Nat.le_of_ble_eq_true rfl, Nat.le_of_ble_eq_true rfl⟩) (fun r_3 H locs hw_3 hP hS => ?_)
  rcases wi_ca hw_3 with ⟨rfl, hc_4⟩ | ⟨rfl, hc_4⟩
  · have k_0 : (0 : Int32).toInt = 0 := by decide
    have tc_4 := wi_tl hc_4
    exact W.zret (ty := .boolean) (v := 1) hx hb hr rfl (fun t ht hW => ⟨⟨1, v, rfl, ⟨hv, rfl, Or.inl ⟨rfl, by omega, by omega⟩⟩, by rw [ht]; exact hP, hD⟩, hS.F ht⟩) hS.2.2 dX8_isMediator_13
  · have k_0 : (0 : Int32).toInt = 0 := by decide
    have tc_4 : ¬ ((0 : Int32).toInt ≤ x0.toInt ∧ x0.toInt ≤ x_2.toInt) := fun q => hc_4 ⟨Int32.le_iff_toInt_le.mpr q.1, Int32.le_iff_toInt_le.mpr q.2⟩
    exact W.zret (ty := .boolean) (v := 0) hx hb hr rfl (fun t ht hW => ⟨⟨0, v, rfl, ⟨hv, rfl, Or.inr ⟨rfl, by omega⟩⟩, by rw [ht]; exact hP, hD⟩, hS.F ht⟩) hS.2.2 dX8_isMediator_13

set_option maxHeartbeats 4000000 in
set_option maxRecDepth 100000 in
theorem q_X8_isCase (l : Launch) (dC : Nat → ClassId) (dI : Nat → Nat → Nat) (cy : Nat → ClassId) (sz : Nat) (ad : Nat → Nat) (v : Nat → Nat → Int32) (hv : Ir v) (x0 : Int32) : Met l yX8_isCase wsX8_isCase ({ frames := 1, cells := 0, slots := 0, locals := 64 }) (va_Pc [.ref (ad 0), .int x0] (ex_Pre dC dI cy sz (wm ad cy v))) (va_Qi (fun (r : Int32) (u : Nat → Nat → Int32) => Ir u ∧ u = v ∧ ((r = 1 ∧ 0 ≤ x0.toInt ∧ x0.toInt < (v 1 2).toInt) ∨ (r = 0 ∧ ¬ (0 ≤ x0.toInt ∧ x0.toInt < (v 1 2).toInt)))) (fun u t => ex_Pst dC dI (va_A (wm ad cy v) sz) (wm ad cy u) t) (va_A (wm ad cy v) sz)) 0 0 (va_A (wm ad cy v) sz) := by
  refine Met.ofW (cc := cX8_isCase) (maxL := 2) (ret := (some .boolean)) (by decide) rfl ?_
  intro p e s m args below meth c s₁ B hml hv
  obtain ⟨rfl, hsz, hE, hP, hK, hD0⟩ := hv
  have hx := B.exec
  have hb := B.bytes
  have hr := B.returns
  have hts := atoms_spec (ws := wsX8_isCase) B.pre
  have hown : s.vm.findClass RX8 = some m.cls := findClass_of_methodNamed B.named
  have hlocks := B.notSynchronized
  subst hsz
  have hD := hD0.self (sz := s.heap.size)
  generalize hAe : va_A (wm ad cy v) s.heap.size = A at hD ⊢
  have hA : ∀ q : Nat, s.heap.size ≤ q → A q := fun q h => by rw [← hAe]; exact Or.inr h
  have hS : va_S A s.heap s.heap [] := va_S.rf
  have hP : va_P (dC, dI) vwCl (wm ad cy v) s.heap := hP
  have hl := lv_entry ([.ref (ad 0), .int x0]) (n := 2) (Nat.le_of_ble_eq_true rfl)
  rw [lg_entry_eq]
  generalize (lg_sl ([.ref (ad 0), .int x0]) ++ List.replicate (2 - (lg_sl ([.ref (ad 0), .int x0])).length) Slot.unset).toArray = ls at hl ⊢
  have hl : lv_has ls 2 [(0, .ref (ad 0)), (1, .int x0)] := hl
  refine lv_iload_n hx hb dX8_isCase_0 rfl (lv_at hl 1 rfl) ?_
  refine lv_iconst (v := 0) hx hb dX8_isCase_1 (by decide) ?_
  refine lv_aload_n hx hb dX8_isCase_2 rfl (lv_at hl 0 rfl) ?_
  refine va_get (D := (dC, dI)) (ci := 8) (v := .ref (ad 1)) (C := RX8) (T := TX8) (N := 11) hx hb hts iwX8_isCase_X8 hown hK hP (0) (wm_at (by decide) rc_0) rfl 0 (by decide) (hts (.fieldLink RX8 7 "QuietStairsModel" "s" "[I") fwX8_isCase_1) (fun _ h9 => h9) rfl dX8_isCase_3 ?_
  refine lv_iconst (v := 2) hx hb dX8_isCase_6 (by decide) ?_
  have k_2 : (2 : Int32).toInt = 2 := by decide
  refine va_iald hx hb hK hP (1) 0 (wm_at (by decide) rc_1) rfl (by unfold vp_in; decide) dX8_isCase_7 ?_
  refine lv_topi (fun x_1 ex_1 => ?_)
  have ex_1 : x_1 = v 1 2 := ex_1
  have bx_1 : 0 ≤ x_1.toInt ∧ x_1.toInt ≤ 6 := by rw [ex_1]; exact hv 1 _ 6 (show bS 2 = some 6 from by decide)
  refine lv_iconst (v := 1) hx hb dX8_isCase_8 (by decide) ?_
  refine lv_isub hx hb dX8_isCase_9 ?_
  refine lv_topi (fun x_2 ex_2 => ?_)
  have k_1 : (1 : Int32).toInt = 1 := by decide
  have tx_2 : x_2.toInt = x_1.toInt - (1 : Int32).toInt := by rw [ex_2]; exact t_sub ⟨by omega, by omega⟩
  have kk : x_1.toInt = (v 1 2).toInt := by rw [ex_1]
  refine yc_p hP hS (va_runS (As := [.int x0, .int 0, .int x_2]) (rest := []) ⟨hx, hb, hml, hown, hts⟩ (c_X8_in l x0 0 x_2) (cwS 3 hts gX8_isCase_X8_in rfl rfl rfl hd_S_X8_in_3 ⟨Nat.le_of_ble_eq_true rfl, Nat.le_of_ble_eq_true rfl⟩) ex_preP rfl rfl hl.1 rfl (lv_room (Nat.le_of_ble_eq_true rfl)) dX8_isCase_10 ⟨Nat.le_of_ble_eq_true rfl, Nat.le_of_ble_eq_true rfl⟩) (fun r_3 H locs hw_3 hP hS => ?_)
  rcases wi_ca hw_3 with ⟨rfl, hc_4⟩ | ⟨rfl, hc_4⟩
  · have k_0 : (0 : Int32).toInt = 0 := by decide
    have tc_4 := wi_tl hc_4
    exact W.zret (ty := .boolean) (v := 1) hx hb hr rfl (fun t ht hW => ⟨⟨1, v, rfl, ⟨hv, rfl, Or.inl ⟨rfl, by omega, by omega⟩⟩, by rw [ht]; exact hP, hD⟩, hS.F ht⟩) hS.2.2 dX8_isCase_13
  · have k_0 : (0 : Int32).toInt = 0 := by decide
    have tc_4 : ¬ ((0 : Int32).toInt ≤ x0.toInt ∧ x0.toInt ≤ x_2.toInt) := fun q => hc_4 ⟨Int32.le_iff_toInt_le.mpr q.1, Int32.le_iff_toInt_le.mpr q.2⟩
    exact W.zret (ty := .boolean) (v := 0) hx hb hr rfl (fun t ht hW => ⟨⟨0, v, rfl, ⟨hv, rfl, Or.inr ⟨rfl, by omega⟩⟩, by rw [ht]; exact hP, hD⟩, hS.F ht⟩) hS.2.2 dX8_isCase_13

set_option maxHeartbeats 4000000 in
set_option maxRecDepth 100000 in
theorem q_X8_isPair (l : Launch) (dC : Nat → ClassId) (dI : Nat → Nat → Nat) (cy : Nat → ClassId) (sz : Nat) (ad : Nat → Nat) (v : Nat → Nat → Int32) (hv : Ir v) (x0 : Int32) : Met l yX8_isPair wsX8_isPair ({ frames := 2, cells := 0, slots := 0, locals := 128 }) (va_Pc [.ref (ad 0), .int x0] (ex_Pre dC dI cy sz (wm ad cy v))) (va_Qi (fun (r : Int32) (u : Nat → Nat → Int32) => Ir u ∧ u = v ∧ ((r = 1 ∧ (0 ≤ x0.toInt ∧ x0.toInt ≤ 5) ∧ pt x0.toInt < (v 1 1).toInt) ∨ (r = 0 ∧ ¬ ((0 ≤ x0.toInt ∧ x0.toInt ≤ 5) ∧ pt x0.toInt < (v 1 1).toInt)))) (fun u t => ex_Pst dC dI (va_A (wm ad cy v) sz) (wm ad cy u) t) (va_A (wm ad cy v) sz)) 0 0 (va_A (wm ad cy v) sz) := by
  refine Met.ofW (cc := cX8_isPair) (maxL := 2) (ret := (some .boolean)) (by decide) rfl ?_
  intro p e s m args below meth c s₁ B hml hv
  obtain ⟨rfl, hsz, hE, hP, hK, hD0⟩ := hv
  have hx := B.exec
  have hb := B.bytes
  have hr := B.returns
  have hts := atoms_spec (ws := wsX8_isPair) B.pre
  have hown : s.vm.findClass RX8 = some m.cls := findClass_of_methodNamed B.named
  have hlocks := B.notSynchronized
  subst hsz
  have hD := hD0.self (sz := s.heap.size)
  generalize hAe : va_A (wm ad cy v) s.heap.size = A at hD ⊢
  have hA : ∀ q : Nat, s.heap.size ≤ q → A q := fun q h => by rw [← hAe]; exact Or.inr h
  have hS : va_S A s.heap s.heap [] := va_S.rf
  have hP : va_P (dC, dI) vwCl (wm ad cy v) s.heap := hP
  have hl := lv_entry ([.ref (ad 0), .int x0]) (n := 2) (Nat.le_of_ble_eq_true rfl)
  rw [lg_entry_eq]
  generalize (lg_sl ([.ref (ad 0), .int x0]) ++ List.replicate (2 - (lg_sl ([.ref (ad 0), .int x0])).length) Slot.unset).toArray = ls at hl ⊢
  have hl : lv_has ls 2 [(0, .ref (ad 0)), (1, .int x0)] := hl
  refine lv_iload_n hx hb dX8_isPair_0 rfl (lv_at hl 1 rfl) ?_
  refine lv_iconst (v := 0) hx hb dX8_isPair_1 (by decide) ?_
  refine lv_iconst (v := 5) hx hb dX8_isPair_2 (by decide) ?_
  refine yc_p hP hS (va_runS (As := [.int x0, .int 0, .int 5]) (rest := []) ⟨hx, hb, hml, hown, hts⟩ (c_X8_in l x0 0 5) (cwS 3 hts gX8_isPair_X8_in rfl rfl rfl hd_S_X8_in_3 ⟨Nat.le_of_ble_eq_true rfl, Nat.le_of_ble_eq_true rfl⟩) ex_preP rfl rfl hl.1 rfl (lv_room (Nat.le_of_ble_eq_true rfl)) dX8_isPair_3 ⟨Nat.le_of_ble_eq_true rfl, Nat.le_of_ble_eq_true rfl⟩) (fun r_1 H locs hw_1 hP hS => ?_)
  rcases wi_ca hw_1 with ⟨rfl, hc_2⟩ | ⟨rfl, hc_2⟩
  · have k_0 : (0 : Int32).toInt = 0 := by decide
    have k_5 : (5 : Int32).toInt = 5 := by decide
    have tc_2 := wi_tl hc_2
    refine lv_if_eq (tgt := 24) hx hb dX8_isPair_6 (by decide) (fun c9 => absurd c9 (by decide)) (fun _ => ?_)
    refine lv_aload_n hx hb dX8_isPair_9 rfl (lv_at hl 0 rfl) ?_
    refine lv_iload_n hx hb dX8_isPair_10 rfl (lv_at hl 1 rfl) ?_
    refine yc_p hP hS (va_runS (As := [.int x0]) (rest := [.ref (ad 0)]) ⟨hx, hb, hml, hown, hts⟩ (c_X8_otherOf l x0) (cwS 1 hts gX8_isPair_X8_otherOf rfl rfl rfl hd_S_X8_otherOf_1 ⟨Nat.le_of_ble_eq_true rfl, Nat.le_of_ble_eq_true rfl⟩) ex_preP rfl rfl hl.1 rfl (lv_room (Nat.le_of_ble_eq_true rfl)) dX8_isPair_11 ⟨Nat.le_of_ble_eq_true rfl, Nat.le_of_ble_eq_true rfl⟩) (fun r_3 H locs hw_3 hP hS => ?_)
    have pr_3 := pt_b x0.toInt (by omega)
    have qr_3 : r_3.toInt = pt x0.toInt := hw_3
    refine yw_i (w1 := fun (u : Nat → Nat → Int32) => wm ad cy u) hD hS hA (va_runV (As := [.int r_3]) (rest := []) ⟨hx, hb, hml, hown, hts⟩ (q_X8_isMediator l dC dI cy _ ad v hv r_3) (cwV 1 hts gX8_isPair_X8_isMediator rfl rfl rfl hd_V_X8_isMediator_1 ⟨Nat.le_of_ble_eq_true rfl, Nat.le_of_ble_eq_true rfl⟩) (yw_preV hE hK hP hD (ci := 8) (q := (RX8, TX8, 11)) (q0 := 0) rfl (wm_at (by decide) rc_0)) rfl rfl hl.1 rfl (lv_room (Nat.le_of_ble_eq_true rfl)) dX8_isPair_14 ⟨Nat.le_of_ble_eq_true rfl, Nat.le_of_ble_eq_true rfl⟩) (fun r_4 v_4 H locs hw_4 hP hD hS => ?_)
    obtain ⟨-, hu_4, hw_4⟩ := hw_4
    replace hu_4 := hu_4.symm
    subst hu_4
    rcases hw_4 with ⟨rfl, ha_5⟩ | ⟨rfl, ha_5⟩
    · have hb_5 := hv 1 1 4 (by decide)
      have hj_5 : 0 ≤ r_3.toInt ∧ r_3.toInt ≤ 3 := ⟨by omega, by omega⟩
      refine lv_if_eq (tgt := 24) hx hb dX8_isPair_17 (by decide) (fun c9 => absurd c9 (by decide)) (fun _ => ?_)
      refine lv_iconst (v := 1) hx hb dX8_isPair_20 (by decide) ?_
      refine lv_goto (tgt := 25) hx hb dX8_isPair_21 (by decide) ?_
      exact W.zret (ty := .boolean) (v := 1) hx hb hr rfl (fun t ht hW => ⟨⟨1, v, rfl, ⟨hv, rfl, Or.inl ⟨rfl, ⟨by omega, by omega⟩, by omega⟩⟩, by rw [ht]; exact hP, hD⟩, hS.F ht⟩) hS.2.2 dX8_isPair_25
    · refine lv_if_eq (tgt := 24) hx hb dX8_isPair_17 (by decide) (fun _ => ?_) (fun c9 => absurd c9 (by decide))
      refine lv_iconst (v := 0) hx hb dX8_isPair_24 (by decide) ?_
      exact W.zret (ty := .boolean) (v := 0) hx hb hr rfl (fun t ht hW => ⟨⟨0, v, rfl, ⟨hv, rfl, Or.inr ⟨rfl, by omega⟩⟩, by rw [ht]; exact hP, hD⟩, hS.F ht⟩) hS.2.2 dX8_isPair_25
  · have k_0 : (0 : Int32).toInt = 0 := by decide
    have k_5 : (5 : Int32).toInt = 5 := by decide
    have tc_2 : ¬ ((0 : Int32).toInt ≤ x0.toInt ∧ x0.toInt ≤ (5 : Int32).toInt) := fun q => hc_2 ⟨Int32.le_iff_toInt_le.mpr q.1, Int32.le_iff_toInt_le.mpr q.2⟩
    refine lv_if_eq (tgt := 24) hx hb dX8_isPair_6 (by decide) (fun _ => ?_) (fun c9 => absurd c9 (by decide))
    refine lv_iconst (v := 0) hx hb dX8_isPair_24 (by decide) ?_
    exact W.zret (ty := .boolean) (v := 0) hx hb hr rfl (fun t ht hW => ⟨⟨0, v, rfl, ⟨hv, rfl, Or.inr ⟨rfl, by omega⟩⟩, by rw [ht]; exact hP, hD⟩, hS.F ht⟩) hS.2.2 dX8_isPair_25

set_option maxHeartbeats 4000000 in
set_option maxRecDepth 100000 in
theorem q_X8_mayMeet (l : Launch) (dC : Nat → ClassId) (dI : Nat → Nat → Nat) (cy : Nat → ClassId) (sz : Nat) (ad : Nat → Nat) (v : Nat → Nat → Int32) (hv : Ir v) (x0 x1 : Int32) (h0 : 0 ≤ x0.toInt ∧ x0.toInt ≤ 3) (h1 : 0 ≤ x1.toInt ∧ x1.toInt ≤ 7) : Met l yX8_mayMeet wsX8_mayMeet ({ frames := 0, cells := 0, slots := 0, locals := 0 }) (va_Pc [.ref (ad 0), .int x0, .int x1] (ex_Pre dC dI cy sz (wm ad cy v))) (va_Qi (fun (r : Int32) (u : Nat → Nat → Int32) => Ir u ∧ u = v ∧ (r = 0 ∨ r = 1)) (fun u t => ex_Pst dC dI (va_A (wm ad cy v) sz) (wm ad cy u) t) (va_A (wm ad cy v) sz)) 0 0 (va_A (wm ad cy v) sz) := by
  refine Met.ofW (cc := cX8_mayMeet) (maxL := 3) (ret := (some .boolean)) (by decide) rfl ?_
  intro p e s m args below meth c s₁ B hml hv
  obtain ⟨rfl, hsz, hE, hP, hK, hD0⟩ := hv
  have hx := B.exec
  have hb := B.bytes
  have hr := B.returns
  have hts := atoms_spec (ws := wsX8_mayMeet) B.pre
  have hown : s.vm.findClass RX8 = some m.cls := findClass_of_methodNamed B.named
  have hlocks := B.notSynchronized
  subst hsz
  have hD := hD0.self (sz := s.heap.size)
  generalize hAe : va_A (wm ad cy v) s.heap.size = A at hD ⊢
  have hA : ∀ q : Nat, s.heap.size ≤ q → A q := fun q h => by rw [← hAe]; exact Or.inr h
  have hS : va_S A s.heap s.heap [] := va_S.rf
  have hP : va_P (dC, dI) vwCl (wm ad cy v) s.heap := hP
  have hl := lv_entry ([.ref (ad 0), .int x0, .int x1]) (n := 3) (Nat.le_of_ble_eq_true rfl)
  rw [lg_entry_eq]
  generalize (lg_sl ([.ref (ad 0), .int x0, .int x1]) ++ List.replicate (3 - (lg_sl ([.ref (ad 0), .int x0, .int x1])).length) Slot.unset).toArray = ls at hl ⊢
  have hl : lv_has ls 3 [(0, .ref (ad 0)), (1, .int x0), (2, .int x1)] := hl
  refine lv_aload_n hx hb dX8_mayMeet_0 rfl (lv_at hl 0 rfl) ?_
  refine va_get (D := (dC, dI)) (ci := 8) (v := .ref (ad 1)) (C := RX8) (T := TX8) (N := 11) hx hb hts iwX8_mayMeet_X8 hown hK hP (0) (wm_at (by decide) rc_0) rfl 0 (by decide) (hts (.fieldLink RX8 7 "QuietStairsModel" "s" "[I") fwX8_mayMeet_1) (fun _ h9 => h9) rfl dX8_mayMeet_1 ?_
  refine lv_bipush (v := 20) hx hb dX8_mayMeet_4 (by decide) ?_
  refine lv_iconst (v := 2) hx hb dX8_mayMeet_6 (by decide) ?_
  refine lv_iload_n hx hb dX8_mayMeet_7 rfl (lv_at hl 1 rfl) ?_
  refine lv_imul hx hb dX8_mayMeet_8 ?_
  refine lv_topi (fun x_1 ex_1 => ?_)
  have k_2 : (2 : Int32).toInt = 2 := by decide
  have tx_1 : x_1.toInt = 2 * x0.toInt := by rw [ex_1, t_mul (by rw [k_2]; omega), k_2]
  refine lv_iadd hx hb dX8_mayMeet_9 ?_
  refine lv_topi (fun x_2 ex_2 => ?_)
  have k_20 : (20 : Int32).toInt = 20 := by decide
  have tx_2 : x_2.toInt = (20 : Int32).toInt + x_1.toInt := by rw [ex_2]; exact t_add ⟨by omega, by omega⟩
  refine va_iald hx hb hK hP (1) 0 (wm_at (by decide) rc_1) rfl (vp_in_iff.mpr ⟨by omega, by omega⟩) dX8_mayMeet_10 ?_
  refine lv_topi (fun x_3 ex_3 => ?_)
  refine lv_aload_n hx hb dX8_mayMeet_11 rfl (lv_at hl 0 rfl) ?_
  refine va_get (D := (dC, dI)) (ci := 8) (v := .ref (ad 1)) (C := RX8) (T := TX8) (N := 11) hx hb hts iwX8_mayMeet_X8 hown hK hP (0) (wm_at (by decide) rc_0) rfl 0 (by decide) (hts (.fieldLink RX8 7 "QuietStairsModel" "s" "[I") fwX8_mayMeet_1) (fun _ h9 => h9) rfl dX8_mayMeet_12 ?_
  refine lv_iconst (v := 4) hx hb dX8_mayMeet_15 (by decide) ?_
  refine lv_iconst (v := 2) hx hb dX8_mayMeet_16 (by decide) ?_
  refine lv_iload_n hx hb dX8_mayMeet_17 rfl (lv_at hl 2 rfl) ?_
  refine lv_imul hx hb dX8_mayMeet_18 ?_
  refine lv_topi (fun x_4 ex_4 => ?_)
  have tx_4 : x_4.toInt = 2 * x1.toInt := by rw [ex_4, t_mul (by rw [k_2]; omega), k_2]
  refine lv_iadd hx hb dX8_mayMeet_19 ?_
  refine lv_topi (fun x_5 ex_5 => ?_)
  have k_4 : (4 : Int32).toInt = 4 := by decide
  have tx_5 : x_5.toInt = (4 : Int32).toInt + x_4.toInt := by rw [ex_5]; exact t_add ⟨by omega, by omega⟩
  refine va_iald hx hb hK hP (1) 0 (wm_at (by decide) rc_1) rfl (vp_in_iff.mpr ⟨by omega, by omega⟩) dX8_mayMeet_20 ?_
  refine lv_topi (fun x_6 ex_6 => ?_)
  refine lv_icmp_eq (tgt := 44) hx hb dX8_mayMeet_21 (by decide) (fun c_7 => ?_) (fun c_7 => ?_)
  · have tc_7 : x_3.toInt = x_6.toInt := by rw [c_7]
    refine lv_iconst (v := 0) hx hb dX8_mayMeet_44 (by decide) ?_
    exact W.zret (ty := .boolean) (v := 0) hx hb hr rfl (fun t ht hW => ⟨⟨0, v, rfl, ⟨hv, rfl, by decide⟩, by rw [ht]; exact hP, hD⟩, hS.F ht⟩) hS.2.2 dX8_mayMeet_45
  · have tc_7 : x_3.toInt ≠ x_6.toInt := fun q => absurd (Int32.toInt_inj.mp q) c_7
    refine lv_aload_n hx hb dX8_mayMeet_24 rfl (lv_at hl 0 rfl) ?_
    refine va_get (D := (dC, dI)) (ci := 8) (v := .ref (ad 1)) (C := RX8) (T := TX8) (N := 11) hx hb hts iwX8_mayMeet_X8 hown hK hP (0) (wm_at (by decide) rc_0) rfl 0 (by decide) (hts (.fieldLink RX8 7 "QuietStairsModel" "s" "[I") fwX8_mayMeet_1) (fun _ h9 => h9) rfl dX8_mayMeet_25 ?_
    refine lv_bipush (v := 28) hx hb dX8_mayMeet_28 (by decide) ?_
    refine lv_iload_n hx hb dX8_mayMeet_30 rfl (lv_at hl 1 rfl) ?_
    refine lv_iadd hx hb dX8_mayMeet_31 ?_
    refine lv_topi (fun x_8 ex_8 => ?_)
    have k_28 : (28 : Int32).toInt = 28 := by decide
    have tx_8 : x_8.toInt = (28 : Int32).toInt + x0.toInt := by rw [ex_8]; exact t_add ⟨by omega, by omega⟩
    refine va_iald hx hb hK hP (1) 0 (wm_at (by decide) rc_1) rfl (vp_in_iff.mpr ⟨by omega, by omega⟩) dX8_mayMeet_32 ?_
    refine lv_topi (fun x_9 ex_9 => ?_)
    refine lv_iload_n hx hb dX8_mayMeet_33 rfl (lv_at hl 2 rfl) ?_
    refine lv_ishr hx hb dX8_mayMeet_34 ?_
    refine lv_topi (fun x_10 ex_10 => ?_)
    refine lv_iconst (v := 1) hx hb dX8_mayMeet_35 (by decide) ?_
    refine lv_iand hx hb dX8_mayMeet_36 ?_
    refine lv_topi (fun x_11 ex_11 => ?_)
    have k_0 : (0 : Int32).toInt = 0 := by decide
    refine lv_if_ne (tgt := 44) hx hb dX8_mayMeet_37 (by decide) (fun c_12 => ?_) (fun c_12 => ?_)
    · have tc_12 : x_11.toInt ≠ (0 : Int32).toInt := fun q => absurd (Int32.toInt_inj.mp q) c_12
      refine lv_iconst (v := 0) hx hb dX8_mayMeet_44 (by decide) ?_
      exact W.zret (ty := .boolean) (v := 0) hx hb hr rfl (fun t ht hW => ⟨⟨0, v, rfl, ⟨hv, rfl, by decide⟩, by rw [ht]; exact hP, hD⟩, hS.F ht⟩) hS.2.2 dX8_mayMeet_45
    · have tc_12 : x_11.toInt = (0 : Int32).toInt := by rw [c_12]
      refine lv_iconst (v := 1) hx hb dX8_mayMeet_40 (by decide) ?_
      refine lv_goto (tgt := 45) hx hb dX8_mayMeet_41 (by decide) ?_
      exact W.zret (ty := .boolean) (v := 1) hx hb hr rfl (fun t ht hW => ⟨⟨1, v, rfl, ⟨hv, rfl, by decide⟩, by rw [ht]; exact hP, hD⟩, hS.F ht⟩) hS.2.2 dX8_mayMeet_45

set_option maxHeartbeats 4000000 in
set_option maxRecDepth 100000 in
theorem q_X8_may (l : Launch) (dC : Nat → ClassId) (dI : Nat → Nat → Nat) (cy : Nat → ClassId) (sz : Nat) (ad : Nat → Nat) (v : Nat → Nat → Int32) (hv : Ir v) (x0 x1 : Int32) (h0 : 0 ≤ x0.toInt ∧ x0.toInt ≤ 5) (h1 : 0 ≤ x1.toInt ∧ x1.toInt ≤ 5) : Met l yX8_may wsX8_may ({ frames := 1, cells := 0, slots := 0, locals := 64 }) (va_Pc [.ref (ad 0), .int x0, .int x1] (ex_Pre dC dI cy sz (wm ad cy v))) (va_Qi (fun (r : Int32) (u : Nat → Nat → Int32) => Ir u ∧ u = v ∧ (r = 0 ∨ r = 1)) (fun u t => ex_Pst dC dI (va_A (wm ad cy v) sz) (wm ad cy u) t) (va_A (wm ad cy v) sz)) 0 0 (va_A (wm ad cy v) sz) := by
  refine Met.ofW (cc := cX8_may) (maxL := 9) (ret := (some .boolean)) (by decide) rfl ?_
  intro p e s m args below meth c s₁ B hml hv
  obtain ⟨rfl, hsz, hE, hP, hK, hD0⟩ := hv
  have hx := B.exec
  have hb := B.bytes
  have hr := B.returns
  have hts := atoms_spec (ws := wsX8_may) B.pre
  have hown : s.vm.findClass RX8 = some m.cls := findClass_of_methodNamed B.named
  have hlocks := B.notSynchronized
  subst hsz
  have hD := hD0.self (sz := s.heap.size)
  generalize hAe : va_A (wm ad cy v) s.heap.size = A at hD ⊢
  have hA : ∀ q : Nat, s.heap.size ≤ q → A q := fun q h => by rw [← hAe]; exact Or.inr h
  have hS : va_S A s.heap s.heap [] := va_S.rf
  have hP : va_P (dC, dI) vwCl (wm ad cy v) s.heap := hP
  have hl := lv_entry ([.ref (ad 0), .int x0, .int x1]) (n := 9) (Nat.le_of_ble_eq_true rfl)
  rw [lg_entry_eq]
  generalize (lg_sl ([.ref (ad 0), .int x0, .int x1]) ++ List.replicate (9 - (lg_sl ([.ref (ad 0), .int x0, .int x1])).length) Slot.unset).toArray = ls at hl ⊢
  have hl : lv_has ls 9 [(0, .ref (ad 0)), (1, .int x0), (2, .int x1)] := hl
  refine lv_iload_n hx hb dX8_may_0 rfl (lv_at hl 1 rfl) ?_
  refine yc_p hP hS (va_runS (As := [.int x0]) (rest := []) ⟨hx, hb, hml, hown, hts⟩ (c_X8_oneOf l x0) (cwS 1 hts gX8_may_X8_oneOf rfl rfl rfl hd_S_X8_oneOf_1 ⟨Nat.le_of_ble_eq_true rfl, Nat.le_of_ble_eq_true rfl⟩) ex_preP rfl rfl hl.1 rfl (lv_room (Nat.le_of_ble_eq_true rfl)) dX8_may_1 ⟨Nat.le_of_ble_eq_true rfl, Nat.le_of_ble_eq_true rfl⟩) (fun r_1 H locs hw_1 hP hS => ?_)
  have pr_1 := pn_b x0.toInt
  have qr_1 : r_1.toInt = pn x0.toInt := hw_1
  refine lv_istore_n (lv' := [(3, .int r_1), (0, .ref (ad 0)), (1, .int x0), (2, .int x1)]) hx hb dX8_may_4 rfl hl (by decide) rfl (fun ls hl => ?_)
  refine lv_iload_n hx hb dX8_may_5 rfl (lv_at hl 2 rfl) ?_
  refine yc_p hP hS (va_runS (As := [.int x0]) (rest := []) ⟨hx, hb, hml, hown, hts⟩ (c_X8_otherOf l x0) (cwS 1 hts gX8_may_X8_otherOf rfl rfl rfl hd_S_X8_otherOf_1 ⟨Nat.le_of_ble_eq_true rfl, Nat.le_of_ble_eq_true rfl⟩) ex_preP rfl rfl hl.1 rfl (lv_room (Nat.le_of_ble_eq_true rfl)) dX8_may_6 ⟨Nat.le_of_ble_eq_true rfl, Nat.le_of_ble_eq_true rfl⟩) (fun r_2 H locs hw_2 hP hS => ?_)
  have pr_2 := pt_b x0.toInt (by omega)
  have qr_2 : r_2.toInt = pt x0.toInt := hw_2
  refine lv_istore (lv' := [(4, .int r_2), (3, .int r_1), (0, .ref (ad 0)), (1, .int x0), (2, .int x1)]) hx hb dX8_may_9 hl (by decide) rfl (fun ls hl => ?_)
  refine lv_aload_n hx hb dX8_may_11 rfl (lv_at hl 2 rfl) ?_
  refine va_get (D := (dC, dI)) (ci := 8) (v := .ref (ad 1)) (C := RX8) (T := TX8) (N := 11) hx hb hts iwX8_may_X8 hown hK hP (0) (wm_at (by decide) rc_0) rfl 0 (by decide) (hts (.fieldLink RX8 7 "QuietStairsModel" "s" "[I") fwX8_may_1) (fun _ h9 => h9) rfl dX8_may_12 ?_
  refine lv_bipush (v := 20) hx hb dX8_may_15 (by decide) ?_
  refine lv_iconst (v := 2) hx hb dX8_may_17 (by decide) ?_
  refine lv_iload_n hx hb dX8_may_18 rfl (lv_at hl 1 rfl) ?_
  refine lv_imul hx hb dX8_may_19 ?_
  refine lv_topi (fun x_3 ex_3 => ?_)
  have k_2 : (2 : Int32).toInt = 2 := by decide
  have tx_3 : x_3.toInt = 2 * r_1.toInt := by rw [ex_3, t_mul (by rw [k_2]; omega), k_2]
  refine lv_iadd hx hb dX8_may_20 ?_
  refine lv_topi (fun x_4 ex_4 => ?_)
  have k_20 : (20 : Int32).toInt = 20 := by decide
  have tx_4 : x_4.toInt = (20 : Int32).toInt + x_3.toInt := by rw [ex_4]; exact t_add ⟨by omega, by omega⟩
  refine lv_iconst (v := 1) hx hb dX8_may_21 (by decide) ?_
  refine lv_iadd hx hb dX8_may_22 ?_
  refine lv_topi (fun x_5 ex_5 => ?_)
  have k_1 : (1 : Int32).toInt = 1 := by decide
  have tx_5 : x_5.toInt = x_4.toInt + (1 : Int32).toInt := by rw [ex_5]; exact t_add ⟨by omega, by omega⟩
  refine va_iald hx hb hK hP (1) 0 (wm_at (by decide) rc_1) rfl (vp_in_iff.mpr ⟨by omega, by omega⟩) dX8_may_23 ?_
  refine lv_topi (fun x_6 ex_6 => ?_)
  refine lv_aload_n hx hb dX8_may_24 rfl (lv_at hl 2 rfl) ?_
  refine va_get (D := (dC, dI)) (ci := 8) (v := .ref (ad 1)) (C := RX8) (T := TX8) (N := 11) hx hb hts iwX8_may_X8 hown hK hP (0) (wm_at (by decide) rc_0) rfl 0 (by decide) (hts (.fieldLink RX8 7 "QuietStairsModel" "s" "[I") fwX8_may_1) (fun _ h9 => h9) rfl dX8_may_25 ?_
  refine lv_bipush (v := 20) hx hb dX8_may_28 (by decide) ?_
  refine lv_iconst (v := 2) hx hb dX8_may_30 (by decide) ?_
  refine lv_iload hx hb dX8_may_31 (lv_at hl 0 rfl) ?_
  refine lv_imul hx hb dX8_may_33 ?_
  refine lv_topi (fun x_7 ex_7 => ?_)
  have tx_7 : x_7.toInt = 2 * r_2.toInt := by rw [ex_7, t_mul (by rw [k_2]; omega), k_2]
  refine lv_iadd hx hb dX8_may_34 ?_
  refine lv_topi (fun x_8 ex_8 => ?_)
  have tx_8 : x_8.toInt = (20 : Int32).toInt + x_7.toInt := by rw [ex_8]; exact t_add ⟨by omega, by omega⟩
  refine lv_iconst (v := 1) hx hb dX8_may_35 (by decide) ?_
  refine lv_iadd hx hb dX8_may_36 ?_
  refine lv_topi (fun x_9 ex_9 => ?_)
  have tx_9 : x_9.toInt = x_8.toInt + (1 : Int32).toInt := by rw [ex_9]; exact t_add ⟨by omega, by omega⟩
  refine va_iald hx hb hK hP (1) 0 (wm_at (by decide) rc_1) rfl (vp_in_iff.mpr ⟨by omega, by omega⟩) dX8_may_37 ?_
  refine lv_topi (fun x_10 ex_10 => ?_)
  refine lv_ior hx hb dX8_may_38 ?_
  refine lv_topi (fun x_11 ex_11 => ?_)
  refine lv_istore (lv' := [(5, .int x_11), (4, .int r_2), (3, .int r_1), (0, .ref (ad 0)), (1, .int x0), (2, .int x1)]) hx hb dX8_may_39 hl (by decide) rfl (fun ls hl => ?_)
  refine lv_iconst (v := 1) hx hb dX8_may_41 (by decide) ?_
  refine lv_istore (lv' := [(6, .int 1), (5, .int x_11), (4, .int r_2), (3, .int r_1), (0, .ref (ad 0)), (1, .int x0), (2, .int x1)]) hx hb dX8_may_42 hl (by decide) rfl (fun ls hl => ?_)
  refine lv_iconst (v := 0) hx hb dX8_may_44 (by decide) ?_
  refine lv_istore (lv' := [(7, .int 0), (6, .int 1), (5, .int x_11), (4, .int r_2), (3, .int r_1), (0, .ref (ad 0)), (1, .int x0), (2, .int x1)]) hx hb dX8_may_45 hl (by decide) rfl (fun ls hl => ?_)
  have hc_12 : ∀ (n : Nat) (y12_7 y12_6 : Int32) (H : Heap) (locs : List Loc), 0 ≤ y12_7.toInt → y12_7.toInt ≤ 2 → 0 ≤ y12_6.toInt → y12_6.toInt ≤ 1 → (2 - y12_7.toInt).toNat < n → va_P (dC, dI) vwCl (wm ad cy v) H → va_D A (wm ad cy v) → va_S A s.heap H locs → ∀ ls : Array Slot, lv_has ls 9 [(7, .int y12_7), (6, .int y12_6), (5, .int x_11), (4, .int r_2), (3, .int r_1), (0, .ref (ad 0)), (1, .int x0), (2, .int x1)] → W p l e (headSpec wsX8_may ({ frames := 1, cells := 0, slots := 0, locals := 64 })).room s m [Value.ref (ad 0), Value.int x0, Value.int x1].toArray below meth c H locs 0 0 (MQ below (va_Qi (fun (r : Int32) (u : Nat → Nat → Int32) => Ir u ∧ u = v ∧ (r = 0 ∨ r = 1)) (fun u t => ex_Pst dC dI A (wm ad cy u) t) A) [Value.ref (ad 0), Value.int x0, Value.int x1].toArray s 0 0 A) (F0 m 47 ls []) := by
    intro n
    induction n with
    | zero =>
      intro y12_7 y12_6 H locs ay12_7 by12_7 ay12_6 by12_6 hm_12 hP hD hS ls hl
      exact absurd hm_12 (by omega)
    | succ n ih_12 =>
      intro y12_7 y12_6 H locs ay12_7 by12_7 ay12_6 by12_6 hm_12 hP hD hS ls hl
      refine lv_iload hx hb dX8_may_47 (lv_at hl 0 rfl) ?_
      refine lv_iconst (v := 2) hx hb dX8_may_49 (by decide) ?_
      refine lv_icmp_ge (tgt := 127) hx hb dX8_may_50 (by decide) (fun c_13 => ?_) (fun c_13 => ?_)
      · have tc_13 : y12_7.toInt ≥ (2 : Int32).toInt := Int32.le_iff_toInt_le.mp c_13
        refine lv_iload hx hb dX8_may_127 (lv_at hl 1 rfl) ?_
        exact W.zret (ty := .boolean) (v := y12_6) hx hb hr (by rcases t_bool (x := y12_6) ⟨by omega, by omega⟩ with q | q <;> rw [q] <;> rfl) (fun t ht hW => ⟨⟨y12_6, v, rfl, ⟨hv, rfl, t_bool ⟨by omega, by omega⟩⟩, by rw [ht]; exact hP, hD⟩, hS.F ht⟩) hS.2.2 dX8_may_129
      · have tc_13 : y12_7.toInt < (2 : Int32).toInt := Int32.lt_iff_toInt_lt.mp (Int32.not_le.mp c_13)
        refine lv_aload_n hx hb dX8_may_53 rfl (lv_at hl 5 rfl) ?_
        refine va_get (D := (dC, dI)) (ci := 8) (v := .ref (ad 1)) (C := RX8) (T := TX8) (N := 11) hx hb hts iwX8_may_X8 hown hK hP (0) (wm_at (by decide) rc_0) rfl 0 (by decide) (hts (.fieldLink RX8 7 "QuietStairsModel" "s" "[I") fwX8_may_1) (fun _ h9 => h9) rfl dX8_may_54 ?_
        refine lv_iload_n hx hb dX8_may_57 rfl (lv_at hl 7 rfl) ?_
        refine lv_iload hx hb dX8_may_58 (lv_at hl 0 rfl) ?_
        refine yc_p hP hS (va_runS (As := [.int x1, .int y12_7]) (rest := [.ref (ad 1)]) ⟨hx, hb, hml, hown, hts⟩ (c_X8_at l x1 y12_7) (cwS 2 hts gX8_may_X8_at rfl rfl rfl hd_S_X8_at_2 ⟨Nat.le_of_ble_eq_true rfl, Nat.le_of_ble_eq_true rfl⟩) ex_preP rfl rfl hl.1 rfl (lv_room (Nat.le_of_ble_eq_true rfl)) dX8_may_60 ⟨Nat.le_of_ble_eq_true rfl, Nat.le_of_ble_eq_true rfl⟩) (fun r_14 H locs hw_14 hP hS => ?_)
        have tr_14 : r_14.toInt = 32 + 7 * x1.toInt + y12_7.toInt := t_at hw_14 ⟨by omega, by omega⟩ ⟨by omega, by omega⟩
        refine va_iald hx hb hK hP (1) 0 (wm_at (by decide) rc_1) rfl (vp_in_iff.mpr ⟨by omega, by omega⟩) dX8_may_63 ?_
        refine lv_topi (fun x_15 ex_15 => ?_)
        have bx_15 : 0 ≤ x_15.toInt ∧ x_15.toInt ≤ 7 := by rw [ex_15]; exact hv 1 _ 7 (bx_0 (i := x1.toInt) (s := y12_7.toInt) (by omega) ⟨by omega, by omega⟩ ⟨by omega, by omega⟩)
        refine lv_istore (lv' := [(8, .int x_15), (7, .int y12_7), (6, .int y12_6), (5, .int x_11), (4, .int r_2), (3, .int r_1), (0, .ref (ad 0)), (1, .int x0), (2, .int x1)]) hx hb dX8_may_64 hl (by decide) rfl (fun ls hl => ?_)
        refine lv_iload hx hb dX8_may_66 (lv_at hl 2 rfl) ?_
        have k_0 : (0 : Int32).toInt = 0 := by decide
        refine lv_if_eq (tgt := 118) hx hb dX8_may_68 (by decide) (fun c_16 => ?_) (fun c_16 => ?_)
        · have tc_16 : y12_6.toInt = (0 : Int32).toInt := by rw [c_16]
          refine lv_iconst (v := 0) hx hb dX8_may_118 (by decide) ?_
          refine lv_istore (lv' := [(6, .int 0), (8, .int x_15), (7, .int y12_7), (5, .int x_11), (4, .int r_2), (3, .int r_1), (0, .ref (ad 0)), (1, .int x0), (2, .int x1)]) hx hb dX8_may_119 hl (by decide) rfl (fun ls hl => ?_)
          obtain ⟨x_17, ex_17⟩ : ∃ y : Int32, y = y12_7 + 1 := ⟨_, rfl⟩
          refine lv_iinc (v := x_17) (lv' := [(7, .int x_17), (6, .int 0), (8, .int x_15), (5, .int x_11), (4, .int r_2), (3, .int r_1), (0, .ref (ad 0)), (1, .int x0), (2, .int x1)]) hx hb dX8_may_121 hl (k := 2) rfl (by rw [ex_17]; rfl) (by decide) rfl (fun ls hl => ?_)
          have tx_17 : x_17.toInt = y12_7.toInt + (1 : Int32).toInt := by rw [ex_17]; exact t_add ⟨by omega, by omega⟩
          refine lv_goto (tgt := 47) hx hb dX8_may_124 (by decide) ?_
          exact ih_12 x_17 0 _ _ (by omega) (by omega) (by omega) (by omega) (by omega) hP hD hS ls (lv_sub hl [0, 1, 3, 4, 5, 6, 7, 8] rfl)
        · have tc_16 : y12_6.toInt ≠ (0 : Int32).toInt := fun q => absurd (Int32.toInt_inj.mp q) c_16
          refine lv_iload hx hb dX8_may_71 (lv_at hl 3 rfl) ?_
          refine lv_aload_n hx hb dX8_may_73 rfl (lv_at hl 6 rfl) ?_
          refine va_get (D := (dC, dI)) (ci := 8) (v := .ref (ad 1)) (C := RX8) (T := TX8) (N := 11) hx hb hts iwX8_may_X8 hown hK hP (0) (wm_at (by decide) rc_0) rfl 0 (by decide) (hts (.fieldLink RX8 7 "QuietStairsModel" "s" "[I") fwX8_may_1) (fun _ h9 => h9) rfl dX8_may_74 ?_
          refine lv_iconst (v := 4) hx hb dX8_may_77 (by decide) ?_
          refine lv_iconst (v := 2) hx hb dX8_may_78 (by decide) ?_
          refine lv_iload hx hb dX8_may_79 (lv_at hl 0 rfl) ?_
          refine lv_imul hx hb dX8_may_81 ?_
          refine lv_topi (fun x_17 ex_17 => ?_)
          have tx_17 : x_17.toInt = 2 * x_15.toInt := by rw [ex_17, t_mul (by rw [k_2]; omega), k_2]
          refine lv_iadd hx hb dX8_may_82 ?_
          refine lv_topi (fun x_18 ex_18 => ?_)
          have k_4 : (4 : Int32).toInt = 4 := by decide
          have tx_18 : x_18.toInt = (4 : Int32).toInt + x_17.toInt := by rw [ex_18]; exact t_add ⟨by omega, by omega⟩
          refine lv_iconst (v := 1) hx hb dX8_may_83 (by decide) ?_
          refine lv_iadd hx hb dX8_may_84 ?_
          refine lv_topi (fun x_19 ex_19 => ?_)
          have tx_19 : x_19.toInt = x_18.toInt + (1 : Int32).toInt := by rw [ex_19]; exact t_add ⟨by omega, by omega⟩
          refine va_iald hx hb hK hP (1) 0 (wm_at (by decide) rc_1) rfl (vp_in_iff.mpr ⟨by omega, by omega⟩) dX8_may_85 ?_
          refine lv_topi (fun x_20 ex_20 => ?_)
          refine lv_ishr hx hb dX8_may_86 ?_
          refine lv_topi (fun x_21 ex_21 => ?_)
          refine lv_iconst (v := 1) hx hb dX8_may_87 (by decide) ?_
          refine lv_iand hx hb dX8_may_88 ?_
          refine lv_topi (fun x_22 ex_22 => ?_)
          refine lv_iconst (v := 1) hx hb dX8_may_89 (by decide) ?_
          refine lv_icmp_ne (tgt := 118) hx hb dX8_may_90 (by decide) (fun c_23 => ?_) (fun c_23 => ?_)
          · have tc_23 : x_22.toInt ≠ (1 : Int32).toInt := fun q => absurd (Int32.toInt_inj.mp q) c_23
            refine lv_iconst (v := 0) hx hb dX8_may_118 (by decide) ?_
            refine lv_istore (lv' := [(6, .int 0), (8, .int x_15), (7, .int y12_7), (5, .int x_11), (4, .int r_2), (3, .int r_1), (0, .ref (ad 0)), (1, .int x0), (2, .int x1)]) hx hb dX8_may_119 hl (by decide) rfl (fun ls hl => ?_)
            obtain ⟨x_24, ex_24⟩ : ∃ y : Int32, y = y12_7 + 1 := ⟨_, rfl⟩
            refine lv_iinc (v := x_24) (lv' := [(7, .int x_24), (6, .int 0), (8, .int x_15), (5, .int x_11), (4, .int r_2), (3, .int r_1), (0, .ref (ad 0)), (1, .int x0), (2, .int x1)]) hx hb dX8_may_121 hl (k := 2) rfl (by rw [ex_24]; rfl) (by decide) rfl (fun ls hl => ?_)
            have tx_24 : x_24.toInt = y12_7.toInt + (1 : Int32).toInt := by rw [ex_24]; exact t_add ⟨by omega, by omega⟩
            refine lv_goto (tgt := 47) hx hb dX8_may_124 (by decide) ?_
            exact ih_12 x_24 0 _ _ (by omega) (by omega) (by omega) (by omega) (by omega) hP hD hS ls (lv_sub hl [0, 1, 3, 4, 5, 6, 7, 8] rfl)
          · have tc_23 : x_22.toInt = (1 : Int32).toInt := by rw [c_23]
            refine lv_aload_n hx hb dX8_may_93 rfl (lv_at hl 6 rfl) ?_
            refine lv_iload_n hx hb dX8_may_94 rfl (lv_at hl 5 rfl) ?_
            refine lv_iload hx hb dX8_may_95 (lv_at hl 0 rfl) ?_
            refine yw_i (w1 := fun (u : Nat → Nat → Int32) => wm ad cy u) hD hS hA (va_runV (As := [.int r_1, .int x_15]) (rest := []) ⟨hx, hb, hml, hown, hts⟩ (q_X8_mayMeet l dC dI cy _ ad v hv r_1 x_15 ⟨by omega, by omega⟩ ⟨by omega, by omega⟩) (cwV 2 hts gX8_may_X8_mayMeet rfl rfl rfl hd_V_X8_mayMeet_2 ⟨Nat.le_of_ble_eq_true rfl, Nat.le_of_ble_eq_true rfl⟩) (yw_preV hE hK hP hD (ci := 8) (q := (RX8, TX8, 11)) (q0 := 0) rfl (wm_at (by decide) rc_0)) rfl rfl hl.1 rfl (lv_room (Nat.le_of_ble_eq_true rfl)) dX8_may_97 ⟨Nat.le_of_ble_eq_true rfl, Nat.le_of_ble_eq_true rfl⟩) (fun r_24 v_24 H locs hw_24 hP hD hS => ?_)
            obtain ⟨-, hu_24, hw_24⟩ := hw_24
            replace hu_24 := hu_24.symm
            subst hu_24
            rcases hw_24 with rfl | rfl
            · refine lv_if_eq (tgt := 118) hx hb dX8_may_100 (by decide) (fun _ => ?_) (fun c9 => absurd c9 (by decide))
              refine lv_iconst (v := 0) hx hb dX8_may_118 (by decide) ?_
              refine lv_istore (lv' := [(6, .int 0), (8, .int x_15), (7, .int y12_7), (5, .int x_11), (4, .int r_2), (3, .int r_1), (0, .ref (ad 0)), (1, .int x0), (2, .int x1)]) hx hb dX8_may_119 hl (by decide) rfl (fun ls hl => ?_)
              obtain ⟨x_25, ex_25⟩ : ∃ y : Int32, y = y12_7 + 1 := ⟨_, rfl⟩
              refine lv_iinc (v := x_25) (lv' := [(7, .int x_25), (6, .int 0), (8, .int x_15), (5, .int x_11), (4, .int r_2), (3, .int r_1), (0, .ref (ad 0)), (1, .int x0), (2, .int x1)]) hx hb dX8_may_121 hl (k := 2) rfl (by rw [ex_25]; rfl) (by decide) rfl (fun ls hl => ?_)
              have tx_25 : x_25.toInt = y12_7.toInt + (1 : Int32).toInt := by rw [ex_25]; exact t_add ⟨by omega, by omega⟩
              refine lv_goto (tgt := 47) hx hb dX8_may_124 (by decide) ?_
              exact ih_12 x_25 0 _ _ (by omega) (by omega) (by omega) (by omega) (by omega) hP hD hS ls (lv_sub hl [0, 1, 3, 4, 5, 6, 7, 8] rfl)
            · refine lv_if_eq (tgt := 118) hx hb dX8_may_100 (by decide) (fun c9 => absurd c9 (by decide)) (fun _ => ?_)
              refine lv_aload_n hx hb dX8_may_103 rfl (lv_at hl 6 rfl) ?_
              refine lv_iload hx hb dX8_may_104 (lv_at hl 4 rfl) ?_
              refine lv_iload hx hb dX8_may_106 (lv_at hl 0 rfl) ?_
              refine yw_i (w1 := fun (u : Nat → Nat → Int32) => wm ad cy u) hD hS hA (va_runV (As := [.int r_2, .int x_15]) (rest := []) ⟨hx, hb, hml, hown, hts⟩ (q_X8_mayMeet l dC dI cy _ ad v hv r_2 x_15 ⟨by omega, by omega⟩ ⟨by omega, by omega⟩) (cwV 2 hts gX8_may_X8_mayMeet rfl rfl rfl hd_V_X8_mayMeet_2 ⟨Nat.le_of_ble_eq_true rfl, Nat.le_of_ble_eq_true rfl⟩) (yw_preV hE hK hP hD (ci := 8) (q := (RX8, TX8, 11)) (q0 := 0) rfl (wm_at (by decide) rc_0)) rfl rfl hl.1 rfl (lv_room (Nat.le_of_ble_eq_true rfl)) dX8_may_108 ⟨Nat.le_of_ble_eq_true rfl, Nat.le_of_ble_eq_true rfl⟩) (fun r_25 v_25 H locs hw_25 hP hD hS => ?_)
              obtain ⟨-, hu_25, hw_25⟩ := hw_25
              replace hu_25 := hu_25.symm
              subst hu_25
              rcases hw_25 with rfl | rfl
              · refine lv_if_eq (tgt := 118) hx hb dX8_may_111 (by decide) (fun _ => ?_) (fun c9 => absurd c9 (by decide))
                refine lv_iconst (v := 0) hx hb dX8_may_118 (by decide) ?_
                refine lv_istore (lv' := [(6, .int 0), (8, .int x_15), (7, .int y12_7), (5, .int x_11), (4, .int r_2), (3, .int r_1), (0, .ref (ad 0)), (1, .int x0), (2, .int x1)]) hx hb dX8_may_119 hl (by decide) rfl (fun ls hl => ?_)
                obtain ⟨x_26, ex_26⟩ : ∃ y : Int32, y = y12_7 + 1 := ⟨_, rfl⟩
                refine lv_iinc (v := x_26) (lv' := [(7, .int x_26), (6, .int 0), (8, .int x_15), (5, .int x_11), (4, .int r_2), (3, .int r_1), (0, .ref (ad 0)), (1, .int x0), (2, .int x1)]) hx hb dX8_may_121 hl (k := 2) rfl (by rw [ex_26]; rfl) (by decide) rfl (fun ls hl => ?_)
                have tx_26 : x_26.toInt = y12_7.toInt + (1 : Int32).toInt := by rw [ex_26]; exact t_add ⟨by omega, by omega⟩
                refine lv_goto (tgt := 47) hx hb dX8_may_124 (by decide) ?_
                exact ih_12 x_26 0 _ _ (by omega) (by omega) (by omega) (by omega) (by omega) hP hD hS ls (lv_sub hl [0, 1, 3, 4, 5, 6, 7, 8] rfl)
              · refine lv_if_eq (tgt := 118) hx hb dX8_may_111 (by decide) (fun c9 => absurd c9 (by decide)) (fun _ => ?_)
                refine lv_iconst (v := 1) hx hb dX8_may_114 (by decide) ?_
                refine lv_goto (tgt := 119) hx hb dX8_may_115 (by decide) ?_
                refine lv_istore (lv' := [(6, .int 1), (8, .int x_15), (7, .int y12_7), (5, .int x_11), (4, .int r_2), (3, .int r_1), (0, .ref (ad 0)), (1, .int x0), (2, .int x1)]) hx hb dX8_may_119 hl (by decide) rfl (fun ls hl => ?_)
                obtain ⟨x_26, ex_26⟩ : ∃ y : Int32, y = y12_7 + 1 := ⟨_, rfl⟩
                refine lv_iinc (v := x_26) (lv' := [(7, .int x_26), (6, .int 1), (8, .int x_15), (5, .int x_11), (4, .int r_2), (3, .int r_1), (0, .ref (ad 0)), (1, .int x0), (2, .int x1)]) hx hb dX8_may_121 hl (k := 2) rfl (by rw [ex_26]; rfl) (by decide) rfl (fun ls hl => ?_)
                have tx_26 : x_26.toInt = y12_7.toInt + (1 : Int32).toInt := by rw [ex_26]; exact t_add ⟨by omega, by omega⟩
                refine lv_goto (tgt := 47) hx hb dX8_may_124 (by decide) ?_
                exact ih_12 x_26 1 _ _ (by omega) (by omega) (by omega) (by omega) (by omega) hP hD hS ls (lv_sub hl [0, 1, 3, 4, 5, 6, 7, 8] rfl)
  have k_0 : (0 : Int32).toInt = 0 := by decide
  exact hc_12 ((2 - (0 : Int32).toInt).toNat + 1) 0 1 _ _ (by omega) (by omega) (by omega) (by omega) (by omega) hP hD hS ls (lv_sub hl [0, 1, 2, 3, 4, 5, 6, 7] rfl)

set_option maxHeartbeats 4000000 in
set_option maxRecDepth 100000 in
theorem q_X8_maySit (l : Launch) (dC : Nat → ClassId) (dI : Nat → Nat → Nat) (cy : Nat → ClassId) (sz : Nat) (ad : Nat → Nat) (v : Nat → Nat → Int32) (hv : Ir v) (x0 x1 : Int32) : Met l yX8_maySit wsX8_maySit ({ frames := 3, cells := 0, slots := 0, locals := 192 }) (va_Pc [.ref (ad 0), .int x0, .int x1] (ex_Pre dC dI cy sz (wm ad cy v))) (va_Qi (fun (r : Int32) (u : Nat → Nat → Int32) => Ir u ∧ u = v) (fun u t => ex_Pst dC dI (va_A (wm ad cy v) sz) (wm ad cy u) t) (va_A (wm ad cy v) sz)) 0 0 (va_A (wm ad cy v) sz) := by
  refine Met.ofW (cc := cX8_maySit) (maxL := 3) (ret := (some .int)) (by decide) rfl ?_
  intro p e s m args below meth c s₁ B hml hv
  obtain ⟨rfl, hsz, hE, hP, hK, hD0⟩ := hv
  have hx := B.exec
  have hb := B.bytes
  have hr := B.returns
  have hts := atoms_spec (ws := wsX8_maySit) B.pre
  have hown : s.vm.findClass RX8 = some m.cls := findClass_of_methodNamed B.named
  have hlocks := B.notSynchronized
  subst hsz
  have hD := hD0.self (sz := s.heap.size)
  generalize hAe : va_A (wm ad cy v) s.heap.size = A at hD ⊢
  have hA : ∀ q : Nat, s.heap.size ≤ q → A q := fun q h => by rw [← hAe]; exact Or.inr h
  have hS : va_S A s.heap s.heap [] := va_S.rf
  have hP : va_P (dC, dI) vwCl (wm ad cy v) s.heap := hP
  have hl := lv_entry ([.ref (ad 0), .int x0, .int x1]) (n := 3) (Nat.le_of_ble_eq_true rfl)
  rw [lg_entry_eq]
  generalize (lg_sl ([.ref (ad 0), .int x0, .int x1]) ++ List.replicate (3 - (lg_sl ([.ref (ad 0), .int x0, .int x1])).length) Slot.unset).toArray = ls at hl ⊢
  have hl : lv_has ls 3 [(0, .ref (ad 0)), (1, .int x0), (2, .int x1)] := hl
  refine lv_aload_n hx hb dX8_maySit_0 rfl (lv_at hl 0 rfl) ?_
  refine lv_iload_n hx hb dX8_maySit_1 rfl (lv_at hl 1 rfl) ?_
  refine yw_i (w1 := fun (u : Nat → Nat → Int32) => wm ad cy u) hD hS hA (va_runV (As := [.int x0]) (rest := []) ⟨hx, hb, hml, hown, hts⟩ (q_X8_isPair l dC dI cy _ ad v hv x0) (cwV 1 hts gX8_maySit_X8_isPair rfl rfl rfl hd_V_X8_isPair_1 ⟨Nat.le_of_ble_eq_true rfl, Nat.le_of_ble_eq_true rfl⟩) (yw_preV hE hK hP hD (ci := 8) (q := (RX8, TX8, 11)) (q0 := 0) rfl (wm_at (by decide) rc_0)) rfl rfl hl.1 rfl (lv_room (Nat.le_of_ble_eq_true rfl)) dX8_maySit_2 ⟨Nat.le_of_ble_eq_true rfl, Nat.le_of_ble_eq_true rfl⟩) (fun r_1 v_1 H locs hw_1 hP hD hS => ?_)
  obtain ⟨-, hu_1, hw_1⟩ := hw_1
  replace hu_1 := hu_1.symm
  subst hu_1
  rcases hw_1 with ⟨rfl, ha_2⟩ | ⟨rfl, ha_2⟩
  · have hb_2 := ha_2.1
    refine lv_if_eq (tgt := 16) hx hb dX8_maySit_5 (by decide) (fun c9 => absurd c9 (by decide)) (fun _ => ?_)
    refine lv_aload_n hx hb dX8_maySit_8 rfl (lv_at hl 0 rfl) ?_
    refine lv_iload_n hx hb dX8_maySit_9 rfl (lv_at hl 2 rfl) ?_
    refine yw_i (w1 := fun (u : Nat → Nat → Int32) => wm ad cy u) hD hS hA (va_runV (As := [.int x1]) (rest := []) ⟨hx, hb, hml, hown, hts⟩ (q_X8_isCase l dC dI cy _ ad v hv x1) (cwV 1 hts gX8_maySit_X8_isCase rfl rfl rfl hd_V_X8_isCase_1 ⟨Nat.le_of_ble_eq_true rfl, Nat.le_of_ble_eq_true rfl⟩) (yw_preV hE hK hP hD (ci := 8) (q := (RX8, TX8, 11)) (q0 := 0) rfl (wm_at (by decide) rc_0)) rfl rfl hl.1 rfl (lv_room (Nat.le_of_ble_eq_true rfl)) dX8_maySit_10 ⟨Nat.le_of_ble_eq_true rfl, Nat.le_of_ble_eq_true rfl⟩) (fun r_3 v_3 H locs hw_3 hP hD hS => ?_)
    obtain ⟨-, hu_3, hw_3⟩ := hw_3
    replace hu_3 := hu_3.symm
    subst hu_3
    rcases hw_3 with ⟨rfl, ha_4⟩ | ⟨rfl, ha_4⟩
    · have hb_4 := hv 1 2 6 (by decide)
      have hj_4 : 0 ≤ x1.toInt ∧ x1.toInt ≤ 5 := ⟨by omega, by omega⟩
      refine lv_if_ne (tgt := 18) hx hb dX8_maySit_13 (by decide) (fun _ => ?_) (fun c9 => absurd c9 (by decide))
      refine lv_aload_n hx hb dX8_maySit_18 rfl (lv_at hl 0 rfl) ?_
      refine lv_iload_n hx hb dX8_maySit_19 rfl (lv_at hl 1 rfl) ?_
      refine lv_iload_n hx hb dX8_maySit_20 rfl (lv_at hl 2 rfl) ?_
      refine yw_i (w1 := fun (u : Nat → Nat → Int32) => wm ad cy u) hD hS hA (va_runV (As := [.int x0, .int x1]) (rest := []) ⟨hx, hb, hml, hown, hts⟩ (q_X8_may l dC dI cy _ ad v hv x0 x1 ⟨by omega, by omega⟩ ⟨by omega, by omega⟩) (cwV 2 hts gX8_maySit_X8_may rfl rfl rfl hd_V_X8_may_2 ⟨Nat.le_of_ble_eq_true rfl, Nat.le_of_ble_eq_true rfl⟩) (yw_preV hE hK hP hD (ci := 8) (q := (RX8, TX8, 11)) (q0 := 0) rfl (wm_at (by decide) rc_0)) rfl rfl hl.1 rfl (lv_room (Nat.le_of_ble_eq_true rfl)) dX8_maySit_21 ⟨Nat.le_of_ble_eq_true rfl, Nat.le_of_ble_eq_true rfl⟩) (fun r_5 v_5 H locs hw_5 hP hD hS => ?_)
      obtain ⟨-, hu_5, hw_5⟩ := hw_5
      replace hu_5 := hu_5.symm
      subst hu_5
      rcases hw_5 with rfl | rfl
      · refine lv_if_eq (tgt := 31) hx hb dX8_maySit_24 (by decide) (fun _ => ?_) (fun c9 => absurd c9 (by decide))
        refine lv_iconst (v := 0) hx hb dX8_maySit_31 (by decide) ?_
        exact W.iret (v := 0) hx hb hr (fun t ht hW => ⟨⟨0, v, rfl, ⟨hv, rfl⟩, by rw [ht]; exact hP, hD⟩, hS.F ht⟩) hS.2.2 dX8_maySit_32
      · refine lv_if_eq (tgt := 31) hx hb dX8_maySit_24 (by decide) (fun c9 => absurd c9 (by decide)) (fun _ => ?_)
        refine lv_iconst (v := 1) hx hb dX8_maySit_27 (by decide) ?_
        refine lv_goto (tgt := 32) hx hb dX8_maySit_28 (by decide) ?_
        exact W.iret (v := 1) hx hb hr (fun t ht hW => ⟨⟨1, v, rfl, ⟨hv, rfl⟩, by rw [ht]; exact hP, hD⟩, hS.F ht⟩) hS.2.2 dX8_maySit_32
    · refine lv_if_ne (tgt := 18) hx hb dX8_maySit_13 (by decide) (fun c9 => absurd c9 (by decide)) (fun _ => ?_)
      refine lv_iconst (v := (-1)) hx hb dX8_maySit_16 (by decide) ?_
      exact W.iret (v := (-1)) hx hb hr (fun t ht hW => ⟨⟨(-1), v, rfl, ⟨hv, rfl⟩, by rw [ht]; exact hP, hD⟩, hS.F ht⟩) hS.2.2 dX8_maySit_17
  · refine lv_if_eq (tgt := 16) hx hb dX8_maySit_5 (by decide) (fun _ => ?_) (fun c9 => absurd c9 (by decide))
    refine lv_iconst (v := (-1)) hx hb dX8_maySit_16 (by decide) ?_
    exact W.iret (v := (-1)) hx hb hr (fun t ht hW => ⟨⟨(-1), v, rfl, ⟨hv, rfl⟩, by rw [ht]; exact hP, hD⟩, hS.F ht⟩) hS.2.2 dX8_maySit_17

set_option maxHeartbeats 4000000 in
set_option maxRecDepth 100000 in
theorem q_X8_casesThat (l : Launch) (dC : Nat → ClassId) (dI : Nat → Nat → Nat) (cy : Nat → ClassId) (sz : Nat) (ad : Nat → Nat) (v : Nat → Nat → Int32) (hv : Ir v) (x0 : Int32) : Met l yX8_casesThat wsX8_casesThat ({ frames := 1, cells := 0, slots := 0, locals := 64 }) (va_Pc [.ref (ad 0), .int x0] (ex_Pre dC dI cy sz (wm ad cy v))) (va_Qi (fun (r : Int32) (u : Nat → Nat → Int32) => Ir u ∧ u = v) (fun u t => ex_Pst dC dI (va_A (wm ad cy v) sz) (wm ad cy u) t) (va_A (wm ad cy v) sz)) 0 0 (va_A (wm ad cy v) sz) := by
  refine Met.ofW (cc := cX8_casesThat) (maxL := 4) (ret := (some .int)) (by decide) rfl ?_
  intro p e s m args below meth c s₁ B hml hv
  obtain ⟨rfl, hsz, hE, hP, hK, hD0⟩ := hv
  have hx := B.exec
  have hb := B.bytes
  have hr := B.returns
  have hts := atoms_spec (ws := wsX8_casesThat) B.pre
  have hown : s.vm.findClass RX8 = some m.cls := findClass_of_methodNamed B.named
  have hlocks := B.notSynchronized
  subst hsz
  have hD := hD0.self (sz := s.heap.size)
  generalize hAe : va_A (wm ad cy v) s.heap.size = A at hD ⊢
  have hA : ∀ q : Nat, s.heap.size ≤ q → A q := fun q h => by rw [← hAe]; exact Or.inr h
  have hS : va_S A s.heap s.heap [] := va_S.rf
  have hP : va_P (dC, dI) vwCl (wm ad cy v) s.heap := hP
  have hl := lv_entry ([.ref (ad 0), .int x0]) (n := 4) (Nat.le_of_ble_eq_true rfl)
  rw [lg_entry_eq]
  generalize (lg_sl ([.ref (ad 0), .int x0]) ++ List.replicate (4 - (lg_sl ([.ref (ad 0), .int x0])).length) Slot.unset).toArray = ls at hl ⊢
  have hl : lv_has ls 4 [(0, .ref (ad 0)), (1, .int x0)] := hl
  refine lv_iconst (v := 0) hx hb dX8_casesThat_0 (by decide) ?_
  refine lv_istore_n (lv' := [(2, .int 0), (0, .ref (ad 0)), (1, .int x0)]) hx hb dX8_casesThat_1 rfl hl (by decide) rfl (fun ls hl => ?_)
  refine lv_iconst (v := 0) hx hb dX8_casesThat_2 (by decide) ?_
  refine lv_istore_n (lv' := [(3, .int 0), (2, .int 0), (0, .ref (ad 0)), (1, .int x0)]) hx hb dX8_casesThat_3 rfl hl (by decide) rfl (fun ls hl => ?_)
  have hc_1 : ∀ (n : Nat) (y1_3 y1_2 : Int32) (H : Heap) (locs : List Loc), 0 ≤ y1_3.toInt → y1_3.toInt ≤ 6 → (6 - y1_3.toInt).toNat < n → va_P (dC, dI) vwCl (wm ad cy v) H → va_D A (wm ad cy v) → va_S A s.heap H locs → ∀ ls : Array Slot, lv_has ls 4 [(3, .int y1_3), (2, .int y1_2), (0, .ref (ad 0)), (1, .int x0)] → W p l e (headSpec wsX8_casesThat ({ frames := 1, cells := 0, slots := 0, locals := 64 })).room s m [Value.ref (ad 0), Value.int x0].toArray below meth c H locs 0 0 (MQ below (va_Qi (fun (r : Int32) (u : Nat → Nat → Int32) => Ir u ∧ u = v) (fun u t => ex_Pst dC dI A (wm ad cy u) t) A) [Value.ref (ad 0), Value.int x0].toArray s 0 0 A) (F0 m 4 ls []) := by
    intro n
    induction n with
    | zero =>
      intro y1_3 y1_2 H locs ay1_3 by1_3 hm_1 hP hD hS ls hl
      exact absurd hm_1 (by omega)
    | succ n ih_1 =>
      intro y1_3 y1_2 H locs ay1_3 by1_3 hm_1 hP hD hS ls hl
      refine lv_iload_n hx hb dX8_casesThat_4 rfl (lv_at hl 0 rfl) ?_
      refine lv_aload_n hx hb dX8_casesThat_5 rfl (lv_at hl 2 rfl) ?_
      refine va_get (D := (dC, dI)) (ci := 8) (v := .ref (ad 1)) (C := RX8) (T := TX8) (N := 11) hx hb hts iwX8_casesThat_X8 hown hK hP (0) (wm_at (by decide) rc_0) rfl 0 (by decide) (hts (.fieldLink RX8 7 "QuietStairsModel" "s" "[I") fwX8_casesThat_1) (fun _ h9 => h9) rfl dX8_casesThat_6 ?_
      refine lv_iconst (v := 2) hx hb dX8_casesThat_9 (by decide) ?_
      have k_2 : (2 : Int32).toInt = 2 := by decide
      refine va_iald hx hb hK hP (1) 0 (wm_at (by decide) rc_1) rfl (by unfold vp_in; decide) dX8_casesThat_10 ?_
      refine lv_topi (fun x_2 ex_2 => ?_)
      have ex_2 : x_2 = v 1 2 := ex_2
      have bx_2 : 0 ≤ x_2.toInt ∧ x_2.toInt ≤ 6 := by rw [ex_2]; exact hv 1 _ 6 (show bS 2 = some 6 from by decide)
      refine lv_icmp_ge (tgt := 42) hx hb dX8_casesThat_11 (by decide) (fun c_3 => ?_) (fun c_3 => ?_)
      · have tc_3 : y1_3.toInt ≥ x_2.toInt := Int32.le_iff_toInt_le.mp c_3
        refine lv_iload_n hx hb dX8_casesThat_42 rfl (lv_at hl 1 rfl) ?_
        exact W.iret (v := y1_2) hx hb hr (fun t ht hW => ⟨⟨y1_2, v, rfl, ⟨hv, rfl⟩, by rw [ht]; exact hP, hD⟩, hS.F ht⟩) hS.2.2 dX8_casesThat_43
      · have tc_3 : y1_3.toInt < x_2.toInt := Int32.lt_iff_toInt_lt.mp (Int32.not_le.mp c_3)
        refine lv_iload_n hx hb dX8_casesThat_14 rfl (lv_at hl 1 rfl) ?_
        refine lv_aload_n hx hb dX8_casesThat_15 rfl (lv_at hl 2 rfl) ?_
        refine va_get (D := (dC, dI)) (ci := 8) (v := .ref (ad 1)) (C := RX8) (T := TX8) (N := 11) hx hb hts iwX8_casesThat_X8 hown hK hP (0) (wm_at (by decide) rc_0) rfl 0 (by decide) (hts (.fieldLink RX8 7 "QuietStairsModel" "s" "[I") fwX8_casesThat_1) (fun _ h9 => h9) rfl dX8_casesThat_16 ?_
        refine lv_iload_n hx hb dX8_casesThat_19 rfl (lv_at hl 0 rfl) ?_
        refine lv_iconst (v := 2) hx hb dX8_casesThat_20 (by decide) ?_
        refine yc_p hP hS (va_runS (As := [.int y1_3, .int 2]) (rest := [.ref (ad 1), .int y1_2]) ⟨hx, hb, hml, hown, hts⟩ (c_X8_at l y1_3 2) (cwS 2 hts gX8_casesThat_X8_at rfl rfl rfl hd_S_X8_at_2 ⟨Nat.le_of_ble_eq_true rfl, Nat.le_of_ble_eq_true rfl⟩) ex_preP rfl rfl hl.1 rfl (lv_room (Nat.le_of_ble_eq_true rfl)) dX8_casesThat_21 ⟨Nat.le_of_ble_eq_true rfl, Nat.le_of_ble_eq_true rfl⟩) (fun r_4 H locs hw_4 hP hS => ?_)
        have tr_4 : r_4.toInt = 32 + 7 * y1_3.toInt + (2 : Int32).toInt := t_at hw_4 ⟨by omega, by omega⟩ ⟨by omega, by omega⟩
        refine va_iald hx hb hK hP (1) 0 (wm_at (by decide) rc_1) rfl (vp_in_iff.mpr ⟨by omega, by omega⟩) dX8_casesThat_24 ?_
        refine lv_topi (fun x_5 ex_5 => ?_)
        refine lv_iload_n hx hb dX8_casesThat_25 rfl (lv_at hl 3 rfl) ?_
        refine lv_icmp_ne (tgt := 33) hx hb dX8_casesThat_26 (by decide) (fun c_6 => ?_) (fun c_6 => ?_)
        · have tc_6 : x_5.toInt ≠ x0.toInt := fun q => absurd (Int32.toInt_inj.mp q) c_6
          refine lv_iconst (v := 0) hx hb dX8_casesThat_33 (by decide) ?_
          refine lv_iadd hx hb dX8_casesThat_34 ?_
          refine lv_topi (fun x_7 ex_7 => ?_)
          have k_0 : (0 : Int32).toInt = 0 := by decide
          refine lv_istore_n (lv' := [(2, .int x_7), (3, .int y1_3), (0, .ref (ad 0)), (1, .int x0)]) hx hb dX8_casesThat_35 rfl hl (by decide) rfl (fun ls hl => ?_)
          obtain ⟨x_8, ex_8⟩ : ∃ y : Int32, y = y1_3 + 1 := ⟨_, rfl⟩
          refine lv_iinc (v := x_8) (lv' := [(3, .int x_8), (2, .int x_7), (0, .ref (ad 0)), (1, .int x0)]) hx hb dX8_casesThat_36 hl (k := 1) rfl (by rw [ex_8]; rfl) (by decide) rfl (fun ls hl => ?_)
          have k_1 : (1 : Int32).toInt = 1 := by decide
          have tx_8 : x_8.toInt = y1_3.toInt + (1 : Int32).toInt := by rw [ex_8]; exact t_add ⟨by omega, by omega⟩
          refine lv_goto (tgt := 4) hx hb dX8_casesThat_39 (by decide) ?_
          exact ih_1 x_8 x_7 _ _ (by omega) (by omega) (by omega) hP hD hS ls (lv_sub hl [0, 1, 2, 3] rfl)
        · have tc_6 : x_5.toInt = x0.toInt := by rw [c_6]
          refine lv_iconst (v := 1) hx hb dX8_casesThat_29 (by decide) ?_
          refine lv_goto (tgt := 34) hx hb dX8_casesThat_30 (by decide) ?_
          refine lv_iadd hx hb dX8_casesThat_34 ?_
          refine lv_topi (fun x_7 ex_7 => ?_)
          have k_1 : (1 : Int32).toInt = 1 := by decide
          refine lv_istore_n (lv' := [(2, .int x_7), (3, .int y1_3), (0, .ref (ad 0)), (1, .int x0)]) hx hb dX8_casesThat_35 rfl hl (by decide) rfl (fun ls hl => ?_)
          obtain ⟨x_8, ex_8⟩ : ∃ y : Int32, y = y1_3 + 1 := ⟨_, rfl⟩
          refine lv_iinc (v := x_8) (lv' := [(3, .int x_8), (2, .int x_7), (0, .ref (ad 0)), (1, .int x0)]) hx hb dX8_casesThat_36 hl (k := 1) rfl (by rw [ex_8]; rfl) (by decide) rfl (fun ls hl => ?_)
          have tx_8 : x_8.toInt = y1_3.toInt + (1 : Int32).toInt := by rw [ex_8]; exact t_add ⟨by omega, by omega⟩
          refine lv_goto (tgt := 4) hx hb dX8_casesThat_39 (by decide) ?_
          exact ih_1 x_8 x_7 _ _ (by omega) (by omega) (by omega) hP hD hS ls (lv_sub hl [0, 1, 2, 3] rfl)
  have k_0 : (0 : Int32).toInt = 0 := by decide
  exact hc_1 ((6 - (0 : Int32).toInt).toNat + 1) 0 0 _ _ (by omega) (by omega) (by omega) hP hD hS ls (lv_sub hl [0, 1, 2, 3] rfl)

set_option maxHeartbeats 4000000 in
set_option maxRecDepth 100000 in
theorem q_X8_joined (l : Launch) (dC : Nat → ClassId) (dI : Nat → Nat → Nat) (cy : Nat → ClassId) (sz : Nat) (ad : Nat → Nat) (v : Nat → Nat → Int32) (hv : Ir v) (x0 : Int32) (h0 : 0 ≤ x0.toInt ∧ x0.toInt ≤ 5) : Met l yX8_joined wsX8_joined ({ frames := 0, cells := 0, slots := 0, locals := 0 }) (va_Pc [.ref (ad 0), .int x0] (ex_Pre dC dI cy sz (wm ad cy v))) (va_Qi (fun (r : Int32) (u : Nat → Nat → Int32) => Ir u ∧ u = v) (fun u t => ex_Pst dC dI (va_A (wm ad cy v) sz) (wm ad cy u) t) (va_A (wm ad cy v) sz)) 0 0 (va_A (wm ad cy v) sz) := by
  refine Met.ofW (cc := cX8_joined) (maxL := 4) (ret := (some .int)) (by decide) rfl ?_
  intro p e s m args below meth c s₁ B hml hv
  obtain ⟨rfl, hsz, hE, hP, hK, hD0⟩ := hv
  have hx := B.exec
  have hb := B.bytes
  have hr := B.returns
  have hts := atoms_spec (ws := wsX8_joined) B.pre
  have hown : s.vm.findClass RX8 = some m.cls := findClass_of_methodNamed B.named
  have hlocks := B.notSynchronized
  subst hsz
  have hD := hD0.self (sz := s.heap.size)
  generalize hAe : va_A (wm ad cy v) s.heap.size = A at hD ⊢
  have hA : ∀ q : Nat, s.heap.size ≤ q → A q := fun q h => by rw [← hAe]; exact Or.inr h
  have hS : va_S A s.heap s.heap [] := va_S.rf
  have hP : va_P (dC, dI) vwCl (wm ad cy v) s.heap := hP
  have hl := lv_entry ([.ref (ad 0), .int x0]) (n := 4) (Nat.le_of_ble_eq_true rfl)
  rw [lg_entry_eq]
  generalize (lg_sl ([.ref (ad 0), .int x0]) ++ List.replicate (4 - (lg_sl ([.ref (ad 0), .int x0])).length) Slot.unset).toArray = ls at hl ⊢
  have hl : lv_has ls 4 [(0, .ref (ad 0)), (1, .int x0)] := hl
  refine lv_iconst (v := 0) hx hb dX8_joined_0 (by decide) ?_
  refine lv_istore_n (lv' := [(2, .int 0), (0, .ref (ad 0)), (1, .int x0)]) hx hb dX8_joined_1 rfl hl (by decide) rfl (fun ls hl => ?_)
  refine lv_iconst (v := 0) hx hb dX8_joined_2 (by decide) ?_
  refine lv_istore_n (lv' := [(3, .int 0), (2, .int 0), (0, .ref (ad 0)), (1, .int x0)]) hx hb dX8_joined_3 rfl hl (by decide) rfl (fun ls hl => ?_)
  have hc_1 : ∀ (n : Nat) (y1_3 y1_2 : Int32) (H : Heap) (locs : List Loc), 0 ≤ y1_3.toInt → y1_3.toInt ≤ 6 → (6 - y1_3.toInt).toNat < n → va_P (dC, dI) vwCl (wm ad cy v) H → va_D A (wm ad cy v) → va_S A s.heap H locs → ∀ ls : Array Slot, lv_has ls 4 [(3, .int y1_3), (2, .int y1_2), (0, .ref (ad 0)), (1, .int x0)] → W p l e (headSpec wsX8_joined ({ frames := 0, cells := 0, slots := 0, locals := 0 })).room s m [Value.ref (ad 0), Value.int x0].toArray below meth c H locs 0 0 (MQ below (va_Qi (fun (r : Int32) (u : Nat → Nat → Int32) => Ir u ∧ u = v) (fun u t => ex_Pst dC dI A (wm ad cy u) t) A) [Value.ref (ad 0), Value.int x0].toArray s 0 0 A) (F0 m 4 ls []) := by
    intro n
    induction n with
    | zero =>
      intro y1_3 y1_2 H locs ay1_3 by1_3 hm_1 hP hD hS ls hl
      exact absurd hm_1 (by omega)
    | succ n ih_1 =>
      intro y1_3 y1_2 H locs ay1_3 by1_3 hm_1 hP hD hS ls hl
      refine lv_iload_n hx hb dX8_joined_4 rfl (lv_at hl 0 rfl) ?_
      refine lv_aload_n hx hb dX8_joined_5 rfl (lv_at hl 2 rfl) ?_
      refine va_get (D := (dC, dI)) (ci := 8) (v := .ref (ad 1)) (C := RX8) (T := TX8) (N := 11) hx hb hts iwX8_joined_X8 hown hK hP (0) (wm_at (by decide) rc_0) rfl 0 (by decide) (hts (.fieldLink RX8 7 "QuietStairsModel" "s" "[I") fwX8_joined_1) (fun _ h9 => h9) rfl dX8_joined_6 ?_
      refine lv_iconst (v := 2) hx hb dX8_joined_9 (by decide) ?_
      have k_2 : (2 : Int32).toInt = 2 := by decide
      refine va_iald hx hb hK hP (1) 0 (wm_at (by decide) rc_1) rfl (by unfold vp_in; decide) dX8_joined_10 ?_
      refine lv_topi (fun x_2 ex_2 => ?_)
      have ex_2 : x_2 = v 1 2 := ex_2
      have bx_2 : 0 ≤ x_2.toInt ∧ x_2.toInt ≤ 6 := by rw [ex_2]; exact hv 1 _ 6 (show bS 2 = some 6 from by decide)
      refine lv_icmp_ge (tgt := 43) hx hb dX8_joined_11 (by decide) (fun c_3 => ?_) (fun c_3 => ?_)
      · have tc_3 : y1_3.toInt ≥ x_2.toInt := Int32.le_iff_toInt_le.mp c_3
        refine lv_iload_n hx hb dX8_joined_43 rfl (lv_at hl 1 rfl) ?_
        exact W.iret (v := y1_2) hx hb hr (fun t ht hW => ⟨⟨y1_2, v, rfl, ⟨hv, rfl⟩, by rw [ht]; exact hP, hD⟩, hS.F ht⟩) hS.2.2 dX8_joined_44
      · have tc_3 : y1_3.toInt < x_2.toInt := Int32.lt_iff_toInt_lt.mp (Int32.not_le.mp c_3)
        refine lv_iload_n hx hb dX8_joined_14 rfl (lv_at hl 1 rfl) ?_
        refine lv_aload_n hx hb dX8_joined_15 rfl (lv_at hl 2 rfl) ?_
        refine va_get (D := (dC, dI)) (ci := 8) (v := .ref (ad 3)) (C := RX8) (T := TX8) (N := 11) hx hb hts iwX8_joined_X8 hown hK hP (0) (wm_at (by decide) rc_0) rfl 4 (by decide) (hts (.fieldLink RX8 20 "QuietStairsModel" "headOf" "[I") fwX8_joined_2) (fun _ h9 => h9) rfl dX8_joined_16 ?_
        refine lv_iload_n hx hb dX8_joined_19 rfl (lv_at hl 0 rfl) ?_
        refine va_iald hx hb hK hP (3) 0 (wm_at (by decide) rc_3) rfl (vp_in_iff.mpr ⟨by omega, by omega⟩) dX8_joined_20 ?_
        refine lv_topi (fun x_4 ex_4 => ?_)
        have bx_4 : 0 ≤ x_4.toInt ∧ x_4.toInt ≤ 5 := by rw [ex_4]; exact hv 3 _ 5 rfl
        refine lv_aload_n hx hb dX8_joined_21 rfl (lv_at hl 2 rfl) ?_
        refine va_get (D := (dC, dI)) (ci := 8) (v := .ref (ad 3)) (C := RX8) (T := TX8) (N := 11) hx hb hts iwX8_joined_X8 hown hK hP (0) (wm_at (by decide) rc_0) rfl 4 (by decide) (hts (.fieldLink RX8 20 "QuietStairsModel" "headOf" "[I") fwX8_joined_2) (fun _ h9 => h9) rfl dX8_joined_22 ?_
        refine lv_iload_n hx hb dX8_joined_25 rfl (lv_at hl 3 rfl) ?_
        refine va_iald hx hb hK hP (3) 0 (wm_at (by decide) rc_3) rfl (vp_in_iff.mpr ⟨by omega, by omega⟩) dX8_joined_26 ?_
        refine lv_topi (fun x_5 ex_5 => ?_)
        have bx_5 : 0 ≤ x_5.toInt ∧ x_5.toInt ≤ 5 := by rw [ex_5]; exact hv 3 _ 5 rfl
        refine lv_icmp_ne (tgt := 34) hx hb dX8_joined_27 (by decide) (fun c_6 => ?_) (fun c_6 => ?_)
        · have tc_6 : x_4.toInt ≠ x_5.toInt := fun q => absurd (Int32.toInt_inj.mp q) c_6
          refine lv_iconst (v := 0) hx hb dX8_joined_34 (by decide) ?_
          refine lv_iadd hx hb dX8_joined_35 ?_
          refine lv_topi (fun x_7 ex_7 => ?_)
          have k_0 : (0 : Int32).toInt = 0 := by decide
          refine lv_istore_n (lv' := [(2, .int x_7), (3, .int y1_3), (0, .ref (ad 0)), (1, .int x0)]) hx hb dX8_joined_36 rfl hl (by decide) rfl (fun ls hl => ?_)
          obtain ⟨x_8, ex_8⟩ : ∃ y : Int32, y = y1_3 + 1 := ⟨_, rfl⟩
          refine lv_iinc (v := x_8) (lv' := [(3, .int x_8), (2, .int x_7), (0, .ref (ad 0)), (1, .int x0)]) hx hb dX8_joined_37 hl (k := 1) rfl (by rw [ex_8]; rfl) (by decide) rfl (fun ls hl => ?_)
          have k_1 : (1 : Int32).toInt = 1 := by decide
          have tx_8 : x_8.toInt = y1_3.toInt + (1 : Int32).toInt := by rw [ex_8]; exact t_add ⟨by omega, by omega⟩
          refine lv_goto (tgt := 4) hx hb dX8_joined_40 (by decide) ?_
          exact ih_1 x_8 x_7 _ _ (by omega) (by omega) (by omega) hP hD hS ls (lv_sub hl [0, 1, 2, 3] rfl)
        · have tc_6 : x_4.toInt = x_5.toInt := by rw [c_6]
          refine lv_iconst (v := 1) hx hb dX8_joined_30 (by decide) ?_
          refine lv_goto (tgt := 35) hx hb dX8_joined_31 (by decide) ?_
          refine lv_iadd hx hb dX8_joined_35 ?_
          refine lv_topi (fun x_7 ex_7 => ?_)
          have k_1 : (1 : Int32).toInt = 1 := by decide
          refine lv_istore_n (lv' := [(2, .int x_7), (3, .int y1_3), (0, .ref (ad 0)), (1, .int x0)]) hx hb dX8_joined_36 rfl hl (by decide) rfl (fun ls hl => ?_)
          obtain ⟨x_8, ex_8⟩ : ∃ y : Int32, y = y1_3 + 1 := ⟨_, rfl⟩
          refine lv_iinc (v := x_8) (lv' := [(3, .int x_8), (2, .int x_7), (0, .ref (ad 0)), (1, .int x0)]) hx hb dX8_joined_37 hl (k := 1) rfl (by rw [ex_8]; rfl) (by decide) rfl (fun ls hl => ?_)
          have tx_8 : x_8.toInt = y1_3.toInt + (1 : Int32).toInt := by rw [ex_8]; exact t_add ⟨by omega, by omega⟩
          refine lv_goto (tgt := 4) hx hb dX8_joined_40 (by decide) ?_
          exact ih_1 x_8 x_7 _ _ (by omega) (by omega) (by omega) hP hD hS ls (lv_sub hl [0, 1, 2, 3] rfl)
  have k_0 : (0 : Int32).toInt = 0 := by decide
  exact hc_1 ((6 - (0 : Int32).toInt).toNat + 1) 0 0 _ _ (by omega) (by omega) (by omega) hP hD hS ls (lv_sub hl [0, 1, 2, 3] rfl)

set_option maxHeartbeats 4000000 in
set_option maxRecDepth 100000 in
theorem q_X8_judge (l : Launch) (dC : Nat → ClassId) (dI : Nat → Nat → Nat) (cy : Nat → ClassId) (sz : Nat) (ad : Nat → Nat) (v : Nat → Nat → Int32) (hv : Ir v) (x0 x1 : Int32) (h0 : 0 ≤ x0.toInt ∧ x0.toInt ≤ 5) (h1 : 0 ≤ x1.toInt ∧ x1.toInt ≤ 4) : Met l yX8_judge wsX8_judge ({ frames := 1, cells := 0, slots := 0, locals := 64 }) (va_Pc [.ref (ad 0), .int x0, .int x1] (ex_Pre dC dI cy sz (wm ad cy v))) (va_Qi (fun (r : Int32) (u : Nat → Nat → Int32) => Ir u ∧ u = v) (fun u t => ex_Pst dC dI (va_A (wm ad cy v) sz) (wm ad cy u) t) (va_A (wm ad cy v) sz)) 0 0 (va_A (wm ad cy v) sz) := by
  refine Met.ofW (cc := cX8_judge) (maxL := 8) (ret := (some .int)) (by decide) rfl ?_
  intro p e s m args below meth c s₁ B hml hv
  obtain ⟨rfl, hsz, hE, hP, hK, hD0⟩ := hv
  have hx := B.exec
  have hb := B.bytes
  have hr := B.returns
  have hts := atoms_spec (ws := wsX8_judge) B.pre
  have hown : s.vm.findClass RX8 = some m.cls := findClass_of_methodNamed B.named
  have hlocks := B.notSynchronized
  subst hsz
  have hD := hD0.self (sz := s.heap.size)
  generalize hAe : va_A (wm ad cy v) s.heap.size = A at hD ⊢
  have hA : ∀ q : Nat, s.heap.size ≤ q → A q := fun q h => by rw [← hAe]; exact Or.inr h
  have hS : va_S A s.heap s.heap [] := va_S.rf
  have hP : va_P (dC, dI) vwCl (wm ad cy v) s.heap := hP
  have hl := lv_entry ([.ref (ad 0), .int x0, .int x1]) (n := 8) (Nat.le_of_ble_eq_true rfl)
  rw [lg_entry_eq]
  generalize (lg_sl ([.ref (ad 0), .int x0, .int x1]) ++ List.replicate (8 - (lg_sl ([.ref (ad 0), .int x0, .int x1])).length) Slot.unset).toArray = ls at hl ⊢
  have hl : lv_has ls 8 [(0, .ref (ad 0)), (1, .int x0), (2, .int x1)] := hl
  refine lv_iload_n hx hb dX8_judge_0 rfl (lv_at hl 1 rfl) ?_
  refine lv_iload_n hx hb dX8_judge_1 rfl (lv_at hl 2 rfl) ?_
  refine yc_p hP hS (va_runS (As := [.int x0, .int x1]) (rest := []) ⟨hx, hb, hml, hown, hts⟩ (c_X8_termAt l x0 x1) (cwS 2 hts gX8_judge_X8_termAt rfl rfl rfl hd_S_X8_termAt_2 ⟨Nat.le_of_ble_eq_true rfl, Nat.le_of_ble_eq_true rfl⟩) ex_preP rfl rfl hl.1 rfl (lv_room (Nat.le_of_ble_eq_true rfl)) dX8_judge_2 ⟨Nat.le_of_ble_eq_true rfl, Nat.le_of_ble_eq_true rfl⟩) (fun r_1 H locs hw_1 hP hS => ?_)
  have tr_1 : r_1.toInt = 158 + 25 * x0.toInt + 5 * x1.toInt := t_tm hw_1 ⟨by omega, by omega⟩ ⟨by omega, by omega⟩
  refine lv_istore_n (lv' := [(3, .int r_1), (0, .ref (ad 0)), (1, .int x0), (2, .int x1)]) hx hb dX8_judge_5 rfl hl (by decide) rfl (fun ls hl => ?_)
  refine lv_iconst (v := 0) hx hb dX8_judge_6 (by decide) ?_
  refine lv_istore (lv' := [(4, .int 0), (3, .int r_1), (0, .ref (ad 0)), (1, .int x0), (2, .int x1)]) hx hb dX8_judge_7 hl (by decide) rfl (fun ls hl => ?_)
  refine lv_iconst (v := 1) hx hb dX8_judge_9 (by decide) ?_
  refine lv_istore (lv' := [(5, .int 1), (4, .int 0), (3, .int r_1), (0, .ref (ad 0)), (1, .int x0), (2, .int x1)]) hx hb dX8_judge_10 hl (by decide) rfl (fun ls hl => ?_)
  refine lv_aload_n hx hb dX8_judge_12 rfl (lv_at hl 3 rfl) ?_
  refine va_get (D := (dC, dI)) (ci := 8) (v := .ref (ad 1)) (C := RX8) (T := TX8) (N := 11) hx hb hts iwX8_judge_X8 hown hK hP (0) (wm_at (by decide) rc_0) rfl 0 (by decide) (hts (.fieldLink RX8 7 "QuietStairsModel" "s" "[I") fwX8_judge_1) (fun _ h9 => h9) rfl dX8_judge_13 ?_
  refine lv_iload_n hx hb dX8_judge_16 rfl (lv_at hl 2 rfl) ?_
  refine lv_iconst (v := 3) hx hb dX8_judge_17 (by decide) ?_
  refine lv_iadd hx hb dX8_judge_18 ?_
  refine lv_topi (fun x_2 ex_2 => ?_)
  have k_3 : (3 : Int32).toInt = 3 := by decide
  have tx_2 : x_2.toInt = r_1.toInt + (3 : Int32).toInt := by rw [ex_2]; exact t_add ⟨by omega, by omega⟩
  refine va_iald hx hb hK hP (1) 0 (wm_at (by decide) rc_1) rfl (vp_in_iff.mpr ⟨by omega, by omega⟩) dX8_judge_19 ?_
  refine lv_topi (fun x_3 ex_3 => ?_)
  have bx_3 : 0 ≤ x_3.toInt ∧ x_3.toInt ≤ 23 := by rw [ex_3]; exact hv 1 _ 23 (bx_t3 (i := 5 * x0.toInt + x1.toInt) (s := 3) (by omega) ⟨by omega, by omega⟩ (by omega))
  refine lv_istore (lv' := [(6, .int x_3), (5, .int 1), (4, .int 0), (3, .int r_1), (0, .ref (ad 0)), (1, .int x0), (2, .int x1)]) hx hb dX8_judge_20 hl (by decide) rfl (fun ls hl => ?_)
  have hc_4 : ∀ (n : Nat) (y4_6 y4_4 y4_5 : Int32) (H : Heap) (locs : List Loc), 0 ≤ y4_6.toInt → y4_6.toInt ≤ 24 → 0 ≤ y4_4.toInt → y4_4.toInt ≤ 1 → 0 ≤ y4_5.toInt → y4_5.toInt ≤ 1 → (24 - y4_6.toInt).toNat < n → va_P (dC, dI) vwCl (wm ad cy v) H → va_D A (wm ad cy v) → va_S A s.heap H locs → ∀ ls : Array Slot, lv_has ls 8 [(6, .int y4_6), (5, .int y4_5), (4, .int y4_4), (3, .int r_1), (0, .ref (ad 0)), (1, .int x0), (2, .int x1)] → W p l e (headSpec wsX8_judge ({ frames := 1, cells := 0, slots := 0, locals := 64 })).room s m [Value.ref (ad 0), Value.int x0, Value.int x1].toArray below meth c H locs 0 0 (MQ below (va_Qi (fun (r : Int32) (u : Nat → Nat → Int32) => Ir u ∧ u = v) (fun u t => ex_Pst dC dI A (wm ad cy u) t) A) [Value.ref (ad 0), Value.int x0, Value.int x1].toArray s 0 0 A) (F0 m 22 ls []) := by
    intro n
    induction n with
    | zero =>
      intro y4_6 y4_4 y4_5 H locs ay4_6 by4_6 ay4_4 by4_4 ay4_5 by4_5 hm_4 hP hD hS ls hl
      exact absurd hm_4 (by omega)
    | succ n ih_4 =>
      intro y4_6 y4_4 y4_5 H locs ay4_6 by4_6 ay4_4 by4_4 ay4_5 by4_5 hm_4 hP hD hS ls hl
      refine lv_iload hx hb dX8_judge_22 (lv_at hl 0 rfl) ?_
      refine lv_aload_n hx hb dX8_judge_24 rfl (lv_at hl 4 rfl) ?_
      refine va_get (D := (dC, dI)) (ci := 8) (v := .ref (ad 1)) (C := RX8) (T := TX8) (N := 11) hx hb hts iwX8_judge_X8 hown hK hP (0) (wm_at (by decide) rc_0) rfl 0 (by decide) (hts (.fieldLink RX8 7 "QuietStairsModel" "s" "[I") fwX8_judge_1) (fun _ h9 => h9) rfl dX8_judge_25 ?_
      refine lv_iload_n hx hb dX8_judge_28 rfl (lv_at hl 3 rfl) ?_
      refine lv_iconst (v := 4) hx hb dX8_judge_29 (by decide) ?_
      refine lv_iadd hx hb dX8_judge_30 ?_
      refine lv_topi (fun x_5 ex_5 => ?_)
      have k_4 : (4 : Int32).toInt = 4 := by decide
      have tx_5 : x_5.toInt = r_1.toInt + (4 : Int32).toInt := by rw [ex_5]; exact t_add ⟨by omega, by omega⟩
      refine va_iald hx hb hK hP (1) 0 (wm_at (by decide) rc_1) rfl (vp_in_iff.mpr ⟨by omega, by omega⟩) dX8_judge_31 ?_
      refine lv_topi (fun x_6 ex_6 => ?_)
      have bx_6 : 0 ≤ x_6.toInt ∧ x_6.toInt ≤ 23 := by rw [ex_6]; exact hv 1 _ 23 (bx_t3 (i := 5 * x0.toInt + x1.toInt) (s := 4) (by omega) ⟨by omega, by omega⟩ (by omega))
      refine lv_icmp_gt (tgt := 112) hx hb dX8_judge_32 (by decide) (fun c_7 => ?_) (fun c_7 => ?_)
      · have tc_7 : y4_6.toInt > x_6.toInt := Int32.lt_iff_toInt_lt.mp c_7
        refine lv_aload_n hx hb dX8_judge_112 rfl (lv_at hl 4 rfl) ?_
        refine va_get (D := (dC, dI)) (ci := 8) (v := .ref (ad 1)) (C := RX8) (T := TX8) (N := 11) hx hb hts iwX8_judge_X8 hown hK hP (0) (wm_at (by decide) rc_0) rfl 0 (by decide) (hts (.fieldLink RX8 7 "QuietStairsModel" "s" "[I") fwX8_judge_1) (fun _ h9 => h9) rfl dX8_judge_113 ?_
        refine lv_iload_n hx hb dX8_judge_116 rfl (lv_at hl 3 rfl) ?_
        refine lv_iconst (v := 1) hx hb dX8_judge_117 (by decide) ?_
        refine lv_iadd hx hb dX8_judge_118 ?_
        refine lv_topi (fun x_8 ex_8 => ?_)
        have k_1 : (1 : Int32).toInt = 1 := by decide
        have tx_8 : x_8.toInt = r_1.toInt + (1 : Int32).toInt := by rw [ex_8]; exact t_add ⟨by omega, by omega⟩
        refine va_iald hx hb hK hP (1) 0 (wm_at (by decide) rc_1) rfl (vp_in_iff.mpr ⟨by omega, by omega⟩) dX8_judge_119 ?_
        refine lv_topi (fun x_9 ex_9 => ?_)
        have bx_9 : 0 ≤ x_9.toInt ∧ x_9.toInt ≤ 1 := by rw [ex_9]; exact hv 1 _ 1 (bx_t0 (i := 5 * x0.toInt + x1.toInt) (s := 1) (by omega) ⟨by omega, by omega⟩ (by omega))
        refine lv_iconst (v := 1) hx hb dX8_judge_120 (by decide) ?_
        refine lv_icmp_ne (tgt := 144) hx hb dX8_judge_121 (by decide) (fun c_10 => ?_) (fun c_10 => ?_)
        · have tc_10 : x_9.toInt ≠ (1 : Int32).toInt := fun q => absurd (Int32.toInt_inj.mp q) c_10
          refine lv_iload hx hb dX8_judge_144 (lv_at hl 2 rfl) ?_
          have k_0 : (0 : Int32).toInt = 0 := by decide
          refine lv_if_eq (tgt := 153) hx hb dX8_judge_146 (by decide) (fun c_11 => ?_) (fun c_11 => ?_)
          · have tc_11 : y4_4.toInt = (0 : Int32).toInt := by rw [c_11]
            refine lv_iload hx hb dX8_judge_153 (lv_at hl 1 rfl) ?_
            refine lv_if_eq (tgt := 162) hx hb dX8_judge_155 (by decide) (fun c_12 => ?_) (fun c_12 => ?_)
            · have tc_12 : y4_5.toInt = (0 : Int32).toInt := by rw [c_12]
              refine lv_iconst (v := 2) hx hb dX8_judge_162 (by decide) ?_
              exact W.iret (v := 2) hx hb hr (fun t ht hW => ⟨⟨2, v, rfl, ⟨hv, rfl⟩, by rw [ht]; exact hP, hD⟩, hS.F ht⟩) hS.2.2 dX8_judge_163
            · have tc_12 : y4_5.toInt ≠ (0 : Int32).toInt := fun q => absurd (Int32.toInt_inj.mp q) c_12
              refine lv_iconst (v := 1) hx hb dX8_judge_158 (by decide) ?_
              refine lv_goto (tgt := 163) hx hb dX8_judge_159 (by decide) ?_
              exact W.iret (v := 1) hx hb hr (fun t ht hW => ⟨⟨1, v, rfl, ⟨hv, rfl⟩, by rw [ht]; exact hP, hD⟩, hS.F ht⟩) hS.2.2 dX8_judge_163
          · have tc_11 : y4_4.toInt ≠ (0 : Int32).toInt := fun q => absurd (Int32.toInt_inj.mp q) c_11
            refine lv_iconst (v := 0) hx hb dX8_judge_149 (by decide) ?_
            refine lv_goto (tgt := 163) hx hb dX8_judge_150 (by decide) ?_
            exact W.iret (v := 0) hx hb hr (fun t ht hW => ⟨⟨0, v, rfl, ⟨hv, rfl⟩, by rw [ht]; exact hP, hD⟩, hS.F ht⟩) hS.2.2 dX8_judge_163
        · have tc_10 : x_9.toInt = (1 : Int32).toInt := by rw [c_10]
          refine lv_iload hx hb dX8_judge_124 (lv_at hl 2 rfl) ?_
          have k_0 : (0 : Int32).toInt = 0 := by decide
          refine lv_if_eq (tgt := 133) hx hb dX8_judge_126 (by decide) (fun c_11 => ?_) (fun c_11 => ?_)
          · have tc_11 : y4_4.toInt = (0 : Int32).toInt := by rw [c_11]
            refine lv_iload hx hb dX8_judge_133 (lv_at hl 1 rfl) ?_
            refine lv_if_eq (tgt := 142) hx hb dX8_judge_135 (by decide) (fun c_12 => ?_) (fun c_12 => ?_)
            · have tc_12 : y4_5.toInt = (0 : Int32).toInt := by rw [c_12]
              refine lv_iconst (v := 2) hx hb dX8_judge_142 (by decide) ?_
              exact W.iret (v := 2) hx hb hr (fun t ht hW => ⟨⟨2, v, rfl, ⟨hv, rfl⟩, by rw [ht]; exact hP, hD⟩, hS.F ht⟩) hS.2.2 dX8_judge_143
            · have tc_12 : y4_5.toInt ≠ (0 : Int32).toInt := fun q => absurd (Int32.toInt_inj.mp q) c_12
              refine lv_iconst (v := 0) hx hb dX8_judge_138 (by decide) ?_
              refine lv_goto (tgt := 143) hx hb dX8_judge_139 (by decide) ?_
              exact W.iret (v := 0) hx hb hr (fun t ht hW => ⟨⟨0, v, rfl, ⟨hv, rfl⟩, by rw [ht]; exact hP, hD⟩, hS.F ht⟩) hS.2.2 dX8_judge_143
          · have tc_11 : y4_4.toInt ≠ (0 : Int32).toInt := fun q => absurd (Int32.toInt_inj.mp q) c_11
            refine lv_iconst (v := 1) hx hb dX8_judge_129 (by decide) ?_
            refine lv_goto (tgt := 143) hx hb dX8_judge_130 (by decide) ?_
            exact W.iret (v := 1) hx hb hr (fun t ht hW => ⟨⟨1, v, rfl, ⟨hv, rfl⟩, by rw [ht]; exact hP, hD⟩, hS.F ht⟩) hS.2.2 dX8_judge_143
      · have tc_7 : y4_6.toInt ≤ x_6.toInt := Int32.le_iff_toInt_le.mp (Int32.not_lt.mp c_7)
        refine lv_aload_n hx hb dX8_judge_35 rfl (lv_at hl 4 rfl) ?_
        refine va_get (D := (dC, dI)) (ci := 8) (v := .ref (ad 1)) (C := RX8) (T := TX8) (N := 11) hx hb hts iwX8_judge_X8 hown hK hP (0) (wm_at (by decide) rc_0) rfl 0 (by decide) (hts (.fieldLink RX8 7 "QuietStairsModel" "s" "[I") fwX8_judge_1) (fun _ h9 => h9) rfl dX8_judge_36 ?_
        refine lv_sipush (v := 308) hx hb dX8_judge_39 (by decide) ?_
        refine lv_bipush (v := 24) hx hb dX8_judge_42 (by decide) ?_
        refine lv_iconst (v := 2) hx hb dX8_judge_44 (by decide) ?_
        refine lv_iload_n hx hb dX8_judge_45 rfl (lv_at hl 5 rfl) ?_
        refine lv_imul hx hb dX8_judge_46 ?_
        refine lv_topi (fun x_8 ex_8 => ?_)
        have k_2 : (2 : Int32).toInt = 2 := by decide
        have tx_8 : x_8.toInt = 2 * x0.toInt := by rw [ex_8, t_mul (by rw [k_2]; omega), k_2]
        refine lv_aload_n hx hb dX8_judge_47 rfl (lv_at hl 4 rfl) ?_
        refine va_get (D := (dC, dI)) (ci := 8) (v := .ref (ad 1)) (C := RX8) (T := TX8) (N := 11) hx hb hts iwX8_judge_X8 hown hK hP (0) (wm_at (by decide) rc_0) rfl 0 (by decide) (hts (.fieldLink RX8 7 "QuietStairsModel" "s" "[I") fwX8_judge_1) (fun _ h9 => h9) rfl dX8_judge_48 ?_
        refine lv_iload_n hx hb dX8_judge_51 rfl (lv_at hl 3 rfl) ?_
        refine va_iald hx hb hK hP (1) 0 (wm_at (by decide) rc_1) rfl (vp_in_iff.mpr ⟨by omega, by omega⟩) dX8_judge_52 ?_
        refine lv_topi (fun x_9 ex_9 => ?_)
        have bx_9 : 0 ≤ x_9.toInt ∧ x_9.toInt ≤ 1 := by rw [ex_9]; exact hv 1 _ 1 (bx_t0 (i := 5 * x0.toInt + x1.toInt) (s := 0) (by omega) ⟨by omega, by omega⟩ (by omega))
        refine lv_iadd hx hb dX8_judge_53 ?_
        refine lv_topi (fun x_10 ex_10 => ?_)
        have tx_10 : x_10.toInt = x_8.toInt + x_9.toInt := by rw [ex_10]; exact t_add ⟨by omega, by omega⟩
        refine lv_imul hx hb dX8_judge_54 ?_
        refine lv_topi (fun x_11 ex_11 => ?_)
        have k_24 : (24 : Int32).toInt = 24 := by decide
        have tx_11 : x_11.toInt = 24 * x_10.toInt := by rw [ex_11, t_mul (by rw [k_24]; omega), k_24]
        refine lv_iadd hx hb dX8_judge_55 ?_
        refine lv_topi (fun x_12 ex_12 => ?_)
        have k_308 : (308 : Int32).toInt = 308 := by decide
        have tx_12 : x_12.toInt = (308 : Int32).toInt + x_11.toInt := by rw [ex_12]; exact t_add ⟨by omega, by omega⟩
        refine lv_iload hx hb dX8_judge_56 (lv_at hl 0 rfl) ?_
        refine lv_iadd hx hb dX8_judge_58 ?_
        refine lv_topi (fun x_13 ex_13 => ?_)
        have tx_13 : x_13.toInt = x_12.toInt + y4_6.toInt := by rw [ex_13]; exact t_add ⟨by omega, by omega⟩
        refine va_iald hx hb hK hP (1) 0 (wm_at (by decide) rc_1) rfl (vp_in_iff.mpr ⟨by omega, by omega⟩) dX8_judge_59 ?_
        refine lv_topi (fun x_14 ex_14 => ?_)
        refine lv_istore (lv' := [(7, .int x_14), (6, .int y4_6), (5, .int y4_5), (4, .int y4_4), (3, .int r_1), (0, .ref (ad 0)), (1, .int x0), (2, .int x1)]) hx hb dX8_judge_60 hl (by decide) rfl (fun ls hl => ?_)
        refine lv_iload hx hb dX8_judge_62 (lv_at hl 3 rfl) ?_
        have k_0 : (0 : Int32).toInt = 0 := by decide
        refine lv_if_ne (tgt := 80) hx hb dX8_judge_64 (by decide) (fun c_15 => ?_) (fun c_15 => ?_)
        · have tc_15 : y4_4.toInt ≠ (0 : Int32).toInt := fun q => absurd (Int32.toInt_inj.mp q) c_15
          refine lv_iconst (v := 1) hx hb dX8_judge_80 (by decide) ?_
          refine lv_goto (tgt := 85) hx hb dX8_judge_81 (by decide) ?_
          refine lv_istore (lv' := [(4, .int 1), (7, .int x_14), (6, .int y4_6), (5, .int y4_5), (3, .int r_1), (0, .ref (ad 0)), (1, .int x0), (2, .int x1)]) hx hb dX8_judge_85 hl (by decide) rfl (fun ls hl => ?_)
          refine lv_iload hx hb dX8_judge_87 (lv_at hl 3 rfl) ?_
          refine lv_if_eq (tgt := 103) hx hb dX8_judge_89 (by decide) (fun c_16 => ?_) (fun c_16 => ?_)
          · have tc_16 : y4_5.toInt = (0 : Int32).toInt := by rw [c_16]
            refine lv_iconst (v := 0) hx hb dX8_judge_103 (by decide) ?_
            refine lv_istore (lv' := [(5, .int 0), (4, .int 1), (7, .int x_14), (6, .int y4_6), (3, .int r_1), (0, .ref (ad 0)), (1, .int x0), (2, .int x1)]) hx hb dX8_judge_104 hl (by decide) rfl (fun ls hl => ?_)
            obtain ⟨x_17, ex_17⟩ : ∃ y : Int32, y = y4_6 + 1 := ⟨_, rfl⟩
            refine lv_iinc (v := x_17) (lv' := [(6, .int x_17), (5, .int 0), (4, .int 1), (7, .int x_14), (3, .int r_1), (0, .ref (ad 0)), (1, .int x0), (2, .int x1)]) hx hb dX8_judge_106 hl (k := 3) rfl (by rw [ex_17]; rfl) (by decide) rfl (fun ls hl => ?_)
            have k_1 : (1 : Int32).toInt = 1 := by decide
            have tx_17 : x_17.toInt = y4_6.toInt + (1 : Int32).toInt := by rw [ex_17]; exact t_add ⟨by omega, by omega⟩
            refine lv_goto (tgt := 22) hx hb dX8_judge_109 (by decide) ?_
            exact ih_4 x_17 1 0 _ _ (by omega) (by omega) (by omega) (by omega) (by omega) (by omega) (by omega) hP hD hS ls (lv_sub hl [0, 1, 2, 4, 5, 6, 7] rfl)
          · have tc_16 : y4_5.toInt ≠ (0 : Int32).toInt := fun q => absurd (Int32.toInt_inj.mp q) c_16
            refine lv_iload hx hb dX8_judge_92 (lv_at hl 1 rfl) ?_
            refine lv_bipush (v := 7) hx hb dX8_judge_94 (by decide) ?_
            have k_7 : (7 : Int32).toInt = 7 := by decide
            refine lv_icmp_eq (tgt := 103) hx hb dX8_judge_96 (by decide) (fun c_17 => ?_) (fun c_17 => ?_)
            · have tc_17 : x_14.toInt = (7 : Int32).toInt := by rw [c_17]
              refine lv_iconst (v := 0) hx hb dX8_judge_103 (by decide) ?_
              refine lv_istore (lv' := [(5, .int 0), (4, .int 1), (7, .int x_14), (6, .int y4_6), (3, .int r_1), (0, .ref (ad 0)), (1, .int x0), (2, .int x1)]) hx hb dX8_judge_104 hl (by decide) rfl (fun ls hl => ?_)
              obtain ⟨x_18, ex_18⟩ : ∃ y : Int32, y = y4_6 + 1 := ⟨_, rfl⟩
              refine lv_iinc (v := x_18) (lv' := [(6, .int x_18), (5, .int 0), (4, .int 1), (7, .int x_14), (3, .int r_1), (0, .ref (ad 0)), (1, .int x0), (2, .int x1)]) hx hb dX8_judge_106 hl (k := 3) rfl (by rw [ex_18]; rfl) (by decide) rfl (fun ls hl => ?_)
              have k_1 : (1 : Int32).toInt = 1 := by decide
              have tx_18 : x_18.toInt = y4_6.toInt + (1 : Int32).toInt := by rw [ex_18]; exact t_add ⟨by omega, by omega⟩
              refine lv_goto (tgt := 22) hx hb dX8_judge_109 (by decide) ?_
              exact ih_4 x_18 1 0 _ _ (by omega) (by omega) (by omega) (by omega) (by omega) (by omega) (by omega) hP hD hS ls (lv_sub hl [0, 1, 2, 4, 5, 6, 7] rfl)
            · have tc_17 : x_14.toInt ≠ (7 : Int32).toInt := fun q => absurd (Int32.toInt_inj.mp q) c_17
              refine lv_iconst (v := 1) hx hb dX8_judge_99 (by decide) ?_
              refine lv_goto (tgt := 104) hx hb dX8_judge_100 (by decide) ?_
              refine lv_istore (lv' := [(5, .int 1), (4, .int 1), (7, .int x_14), (6, .int y4_6), (3, .int r_1), (0, .ref (ad 0)), (1, .int x0), (2, .int x1)]) hx hb dX8_judge_104 hl (by decide) rfl (fun ls hl => ?_)
              obtain ⟨x_18, ex_18⟩ : ∃ y : Int32, y = y4_6 + 1 := ⟨_, rfl⟩
              refine lv_iinc (v := x_18) (lv' := [(6, .int x_18), (5, .int 1), (4, .int 1), (7, .int x_14), (3, .int r_1), (0, .ref (ad 0)), (1, .int x0), (2, .int x1)]) hx hb dX8_judge_106 hl (k := 3) rfl (by rw [ex_18]; rfl) (by decide) rfl (fun ls hl => ?_)
              have k_1 : (1 : Int32).toInt = 1 := by decide
              have tx_18 : x_18.toInt = y4_6.toInt + (1 : Int32).toInt := by rw [ex_18]; exact t_add ⟨by omega, by omega⟩
              refine lv_goto (tgt := 22) hx hb dX8_judge_109 (by decide) ?_
              exact ih_4 x_18 1 1 _ _ (by omega) (by omega) (by omega) (by omega) (by omega) (by omega) (by omega) hP hD hS ls (lv_sub hl [0, 1, 2, 4, 5, 6, 7] rfl)
        · have tc_15 : y4_4.toInt = (0 : Int32).toInt := by rw [c_15]
          refine lv_iload hx hb dX8_judge_67 (lv_at hl 0 rfl) ?_
          refine lv_aload_n hx hb dX8_judge_69 rfl (lv_at hl 5 rfl) ?_
          refine va_get (D := (dC, dI)) (ci := 8) (v := .ref (ad 1)) (C := RX8) (T := TX8) (N := 11) hx hb hts iwX8_judge_X8 hown hK hP (0) (wm_at (by decide) rc_0) rfl 0 (by decide) (hts (.fieldLink RX8 7 "QuietStairsModel" "s" "[I") fwX8_judge_1) (fun _ h9 => h9) rfl dX8_judge_70 ?_
          refine lv_iload_n hx hb dX8_judge_73 rfl (lv_at hl 4 rfl) ?_
          refine lv_iconst (v := 2) hx hb dX8_judge_74 (by decide) ?_
          refine lv_iadd hx hb dX8_judge_75 ?_
          refine lv_topi (fun x_16 ex_16 => ?_)
          have tx_16 : x_16.toInt = r_1.toInt + (2 : Int32).toInt := by rw [ex_16]; exact t_add ⟨by omega, by omega⟩
          refine va_iald hx hb hK hP (1) 0 (wm_at (by decide) rc_1) rfl (vp_in_iff.mpr ⟨by omega, by omega⟩) dX8_judge_76 ?_
          refine lv_topi (fun x_17 ex_17 => ?_)
          refine lv_icmp_ne (tgt := 84) hx hb dX8_judge_77 (by decide) (fun c_18 => ?_) (fun c_18 => ?_)
          · have tc_18 : x_14.toInt ≠ x_17.toInt := fun q => absurd (Int32.toInt_inj.mp q) c_18
            refine lv_iconst (v := 0) hx hb dX8_judge_84 (by decide) ?_
            refine lv_istore (lv' := [(4, .int 0), (7, .int x_14), (6, .int y4_6), (5, .int y4_5), (3, .int r_1), (0, .ref (ad 0)), (1, .int x0), (2, .int x1)]) hx hb dX8_judge_85 hl (by decide) rfl (fun ls hl => ?_)
            refine lv_iload hx hb dX8_judge_87 (lv_at hl 3 rfl) ?_
            refine lv_if_eq (tgt := 103) hx hb dX8_judge_89 (by decide) (fun c_19 => ?_) (fun c_19 => ?_)
            · have tc_19 : y4_5.toInt = (0 : Int32).toInt := by rw [c_19]
              refine lv_iconst (v := 0) hx hb dX8_judge_103 (by decide) ?_
              refine lv_istore (lv' := [(5, .int 0), (4, .int 0), (7, .int x_14), (6, .int y4_6), (3, .int r_1), (0, .ref (ad 0)), (1, .int x0), (2, .int x1)]) hx hb dX8_judge_104 hl (by decide) rfl (fun ls hl => ?_)
              obtain ⟨x_20, ex_20⟩ : ∃ y : Int32, y = y4_6 + 1 := ⟨_, rfl⟩
              refine lv_iinc (v := x_20) (lv' := [(6, .int x_20), (5, .int 0), (4, .int 0), (7, .int x_14), (3, .int r_1), (0, .ref (ad 0)), (1, .int x0), (2, .int x1)]) hx hb dX8_judge_106 hl (k := 3) rfl (by rw [ex_20]; rfl) (by decide) rfl (fun ls hl => ?_)
              have k_1 : (1 : Int32).toInt = 1 := by decide
              have tx_20 : x_20.toInt = y4_6.toInt + (1 : Int32).toInt := by rw [ex_20]; exact t_add ⟨by omega, by omega⟩
              refine lv_goto (tgt := 22) hx hb dX8_judge_109 (by decide) ?_
              exact ih_4 x_20 0 0 _ _ (by omega) (by omega) (by omega) (by omega) (by omega) (by omega) (by omega) hP hD hS ls (lv_sub hl [0, 1, 2, 4, 5, 6, 7] rfl)
            · have tc_19 : y4_5.toInt ≠ (0 : Int32).toInt := fun q => absurd (Int32.toInt_inj.mp q) c_19
              refine lv_iload hx hb dX8_judge_92 (lv_at hl 1 rfl) ?_
              refine lv_bipush (v := 7) hx hb dX8_judge_94 (by decide) ?_
              have k_7 : (7 : Int32).toInt = 7 := by decide
              refine lv_icmp_eq (tgt := 103) hx hb dX8_judge_96 (by decide) (fun c_20 => ?_) (fun c_20 => ?_)
              · have tc_20 : x_14.toInt = (7 : Int32).toInt := by rw [c_20]
                refine lv_iconst (v := 0) hx hb dX8_judge_103 (by decide) ?_
                refine lv_istore (lv' := [(5, .int 0), (4, .int 0), (7, .int x_14), (6, .int y4_6), (3, .int r_1), (0, .ref (ad 0)), (1, .int x0), (2, .int x1)]) hx hb dX8_judge_104 hl (by decide) rfl (fun ls hl => ?_)
                obtain ⟨x_21, ex_21⟩ : ∃ y : Int32, y = y4_6 + 1 := ⟨_, rfl⟩
                refine lv_iinc (v := x_21) (lv' := [(6, .int x_21), (5, .int 0), (4, .int 0), (7, .int x_14), (3, .int r_1), (0, .ref (ad 0)), (1, .int x0), (2, .int x1)]) hx hb dX8_judge_106 hl (k := 3) rfl (by rw [ex_21]; rfl) (by decide) rfl (fun ls hl => ?_)
                have k_1 : (1 : Int32).toInt = 1 := by decide
                have tx_21 : x_21.toInt = y4_6.toInt + (1 : Int32).toInt := by rw [ex_21]; exact t_add ⟨by omega, by omega⟩
                refine lv_goto (tgt := 22) hx hb dX8_judge_109 (by decide) ?_
                exact ih_4 x_21 0 0 _ _ (by omega) (by omega) (by omega) (by omega) (by omega) (by omega) (by omega) hP hD hS ls (lv_sub hl [0, 1, 2, 4, 5, 6, 7] rfl)
              · have tc_20 : x_14.toInt ≠ (7 : Int32).toInt := fun q => absurd (Int32.toInt_inj.mp q) c_20
                refine lv_iconst (v := 1) hx hb dX8_judge_99 (by decide) ?_
                refine lv_goto (tgt := 104) hx hb dX8_judge_100 (by decide) ?_
                refine lv_istore (lv' := [(5, .int 1), (4, .int 0), (7, .int x_14), (6, .int y4_6), (3, .int r_1), (0, .ref (ad 0)), (1, .int x0), (2, .int x1)]) hx hb dX8_judge_104 hl (by decide) rfl (fun ls hl => ?_)
                obtain ⟨x_21, ex_21⟩ : ∃ y : Int32, y = y4_6 + 1 := ⟨_, rfl⟩
                refine lv_iinc (v := x_21) (lv' := [(6, .int x_21), (5, .int 1), (4, .int 0), (7, .int x_14), (3, .int r_1), (0, .ref (ad 0)), (1, .int x0), (2, .int x1)]) hx hb dX8_judge_106 hl (k := 3) rfl (by rw [ex_21]; rfl) (by decide) rfl (fun ls hl => ?_)
                have k_1 : (1 : Int32).toInt = 1 := by decide
                have tx_21 : x_21.toInt = y4_6.toInt + (1 : Int32).toInt := by rw [ex_21]; exact t_add ⟨by omega, by omega⟩
                refine lv_goto (tgt := 22) hx hb dX8_judge_109 (by decide) ?_
                exact ih_4 x_21 0 1 _ _ (by omega) (by omega) (by omega) (by omega) (by omega) (by omega) (by omega) hP hD hS ls (lv_sub hl [0, 1, 2, 4, 5, 6, 7] rfl)
          · have tc_18 : x_14.toInt = x_17.toInt := by rw [c_18]
            refine lv_iconst (v := 1) hx hb dX8_judge_80 (by decide) ?_
            refine lv_goto (tgt := 85) hx hb dX8_judge_81 (by decide) ?_
            refine lv_istore (lv' := [(4, .int 1), (7, .int x_14), (6, .int y4_6), (5, .int y4_5), (3, .int r_1), (0, .ref (ad 0)), (1, .int x0), (2, .int x1)]) hx hb dX8_judge_85 hl (by decide) rfl (fun ls hl => ?_)
            refine lv_iload hx hb dX8_judge_87 (lv_at hl 3 rfl) ?_
            refine lv_if_eq (tgt := 103) hx hb dX8_judge_89 (by decide) (fun c_19 => ?_) (fun c_19 => ?_)
            · have tc_19 : y4_5.toInt = (0 : Int32).toInt := by rw [c_19]
              refine lv_iconst (v := 0) hx hb dX8_judge_103 (by decide) ?_
              refine lv_istore (lv' := [(5, .int 0), (4, .int 1), (7, .int x_14), (6, .int y4_6), (3, .int r_1), (0, .ref (ad 0)), (1, .int x0), (2, .int x1)]) hx hb dX8_judge_104 hl (by decide) rfl (fun ls hl => ?_)
              obtain ⟨x_20, ex_20⟩ : ∃ y : Int32, y = y4_6 + 1 := ⟨_, rfl⟩
              refine lv_iinc (v := x_20) (lv' := [(6, .int x_20), (5, .int 0), (4, .int 1), (7, .int x_14), (3, .int r_1), (0, .ref (ad 0)), (1, .int x0), (2, .int x1)]) hx hb dX8_judge_106 hl (k := 3) rfl (by rw [ex_20]; rfl) (by decide) rfl (fun ls hl => ?_)
              have k_1 : (1 : Int32).toInt = 1 := by decide
              have tx_20 : x_20.toInt = y4_6.toInt + (1 : Int32).toInt := by rw [ex_20]; exact t_add ⟨by omega, by omega⟩
              refine lv_goto (tgt := 22) hx hb dX8_judge_109 (by decide) ?_
              exact ih_4 x_20 1 0 _ _ (by omega) (by omega) (by omega) (by omega) (by omega) (by omega) (by omega) hP hD hS ls (lv_sub hl [0, 1, 2, 4, 5, 6, 7] rfl)
            · have tc_19 : y4_5.toInt ≠ (0 : Int32).toInt := fun q => absurd (Int32.toInt_inj.mp q) c_19
              refine lv_iload hx hb dX8_judge_92 (lv_at hl 1 rfl) ?_
              refine lv_bipush (v := 7) hx hb dX8_judge_94 (by decide) ?_
              have k_7 : (7 : Int32).toInt = 7 := by decide
              refine lv_icmp_eq (tgt := 103) hx hb dX8_judge_96 (by decide) (fun c_20 => ?_) (fun c_20 => ?_)
              · have tc_20 : x_14.toInt = (7 : Int32).toInt := by rw [c_20]
                refine lv_iconst (v := 0) hx hb dX8_judge_103 (by decide) ?_
                refine lv_istore (lv' := [(5, .int 0), (4, .int 1), (7, .int x_14), (6, .int y4_6), (3, .int r_1), (0, .ref (ad 0)), (1, .int x0), (2, .int x1)]) hx hb dX8_judge_104 hl (by decide) rfl (fun ls hl => ?_)
                obtain ⟨x_21, ex_21⟩ : ∃ y : Int32, y = y4_6 + 1 := ⟨_, rfl⟩
                refine lv_iinc (v := x_21) (lv' := [(6, .int x_21), (5, .int 0), (4, .int 1), (7, .int x_14), (3, .int r_1), (0, .ref (ad 0)), (1, .int x0), (2, .int x1)]) hx hb dX8_judge_106 hl (k := 3) rfl (by rw [ex_21]; rfl) (by decide) rfl (fun ls hl => ?_)
                have k_1 : (1 : Int32).toInt = 1 := by decide
                have tx_21 : x_21.toInt = y4_6.toInt + (1 : Int32).toInt := by rw [ex_21]; exact t_add ⟨by omega, by omega⟩
                refine lv_goto (tgt := 22) hx hb dX8_judge_109 (by decide) ?_
                exact ih_4 x_21 1 0 _ _ (by omega) (by omega) (by omega) (by omega) (by omega) (by omega) (by omega) hP hD hS ls (lv_sub hl [0, 1, 2, 4, 5, 6, 7] rfl)
              · have tc_20 : x_14.toInt ≠ (7 : Int32).toInt := fun q => absurd (Int32.toInt_inj.mp q) c_20
                refine lv_iconst (v := 1) hx hb dX8_judge_99 (by decide) ?_
                refine lv_goto (tgt := 104) hx hb dX8_judge_100 (by decide) ?_
                refine lv_istore (lv' := [(5, .int 1), (4, .int 1), (7, .int x_14), (6, .int y4_6), (3, .int r_1), (0, .ref (ad 0)), (1, .int x0), (2, .int x1)]) hx hb dX8_judge_104 hl (by decide) rfl (fun ls hl => ?_)
                obtain ⟨x_21, ex_21⟩ : ∃ y : Int32, y = y4_6 + 1 := ⟨_, rfl⟩
                refine lv_iinc (v := x_21) (lv' := [(6, .int x_21), (5, .int 1), (4, .int 1), (7, .int x_14), (3, .int r_1), (0, .ref (ad 0)), (1, .int x0), (2, .int x1)]) hx hb dX8_judge_106 hl (k := 3) rfl (by rw [ex_21]; rfl) (by decide) rfl (fun ls hl => ?_)
                have k_1 : (1 : Int32).toInt = 1 := by decide
                have tx_21 : x_21.toInt = y4_6.toInt + (1 : Int32).toInt := by rw [ex_21]; exact t_add ⟨by omega, by omega⟩
                refine lv_goto (tgt := 22) hx hb dX8_judge_109 (by decide) ?_
                exact ih_4 x_21 1 1 _ _ (by omega) (by omega) (by omega) (by omega) (by omega) (by omega) (by omega) hP hD hS ls (lv_sub hl [0, 1, 2, 4, 5, 6, 7] rfl)
  have k_0 : (0 : Int32).toInt = 0 := by decide
  have k_1 : (1 : Int32).toInt = 1 := by decide
  exact hc_4 ((24 - x_3.toInt).toNat + 1) x_3 0 1 _ _ (by omega) (by omega) (by omega) (by omega) (by omega) (by omega) (by omega) hP hD hS ls (lv_sub hl [0, 1, 2, 3, 4, 5, 6] rfl)

set_option maxHeartbeats 4000000 in
set_option maxRecDepth 100000 in
theorem q_X8_isTerm (l : Launch) (dC : Nat → ClassId) (dI : Nat → Nat → Nat) (cy : Nat → ClassId) (sz : Nat) (ad : Nat → Nat) (v : Nat → Nat → Int32) (hv : Ir v) (x0 x1 : Int32) : Met l yX8_isTerm wsX8_isTerm ({ frames := 2, cells := 0, slots := 0, locals := 128 }) (va_Pc [.ref (ad 0), .int x0, .int x1] (ex_Pre dC dI cy sz (wm ad cy v))) (va_Qi (fun (r : Int32) (u : Nat → Nat → Int32) => Ir u ∧ u = v ∧ ((r = 1 ∧ (0 ≤ x0.toInt ∧ x0.toInt ≤ 5) ∧ (0 ≤ x1.toInt ∧ x1.toInt ≤ 4)) ∨ r = 0)) (fun u t => ex_Pst dC dI (va_A (wm ad cy v) sz) (wm ad cy u) t) (va_A (wm ad cy v) sz)) 0 0 (va_A (wm ad cy v) sz) := by
  refine Met.ofW (cc := cX8_isTerm) (maxL := 3) (ret := (some .boolean)) (by decide) rfl ?_
  intro p e s m args below meth c s₁ B hml hv
  obtain ⟨rfl, hsz, hE, hP, hK, hD0⟩ := hv
  have hx := B.exec
  have hb := B.bytes
  have hr := B.returns
  have hts := atoms_spec (ws := wsX8_isTerm) B.pre
  have hown : s.vm.findClass RX8 = some m.cls := findClass_of_methodNamed B.named
  have hlocks := B.notSynchronized
  subst hsz
  have hD := hD0.self (sz := s.heap.size)
  generalize hAe : va_A (wm ad cy v) s.heap.size = A at hD ⊢
  have hA : ∀ q : Nat, s.heap.size ≤ q → A q := fun q h => by rw [← hAe]; exact Or.inr h
  have hS : va_S A s.heap s.heap [] := va_S.rf
  have hP : va_P (dC, dI) vwCl (wm ad cy v) s.heap := hP
  have hl := lv_entry ([.ref (ad 0), .int x0, .int x1]) (n := 3) (Nat.le_of_ble_eq_true rfl)
  rw [lg_entry_eq]
  generalize (lg_sl ([.ref (ad 0), .int x0, .int x1]) ++ List.replicate (3 - (lg_sl ([.ref (ad 0), .int x0, .int x1])).length) Slot.unset).toArray = ls at hl ⊢
  have hl : lv_has ls 3 [(0, .ref (ad 0)), (1, .int x0), (2, .int x1)] := hl
  refine lv_aload_n hx hb dX8_isTerm_0 rfl (lv_at hl 0 rfl) ?_
  refine lv_iload_n hx hb dX8_isTerm_1 rfl (lv_at hl 1 rfl) ?_
  refine yw_i (w1 := fun (u : Nat → Nat → Int32) => wm ad cy u) hD hS hA (va_runV (As := [.int x0]) (rest := []) ⟨hx, hb, hml, hown, hts⟩ (q_X8_isCase l dC dI cy _ ad v hv x0) (cwV 1 hts gX8_isTerm_X8_isCase rfl rfl rfl hd_V_X8_isCase_1 ⟨Nat.le_of_ble_eq_true rfl, Nat.le_of_ble_eq_true rfl⟩) (yw_preV hE hK hP hD (ci := 8) (q := (RX8, TX8, 11)) (q0 := 0) rfl (wm_at (by decide) rc_0)) rfl rfl hl.1 rfl (lv_room (Nat.le_of_ble_eq_true rfl)) dX8_isTerm_2 ⟨Nat.le_of_ble_eq_true rfl, Nat.le_of_ble_eq_true rfl⟩) (fun r_1 v_1 H locs hw_1 hP hD hS => ?_)
  obtain ⟨-, hu_1, hw_1⟩ := hw_1
  replace hu_1 := hu_1.symm
  subst hu_1
  rcases hw_1 with ⟨rfl, ha_2⟩ | ⟨rfl, ha_2⟩
  · have hb_2 := hv 1 2 6 (by decide)
    have hj_2 : 0 ≤ x0.toInt ∧ x0.toInt ≤ 5 := ⟨by omega, by omega⟩
    refine lv_if_eq (tgt := 33) hx hb dX8_isTerm_5 (by decide) (fun c9 => absurd c9 (by decide)) (fun _ => ?_)
    refine lv_iload_n hx hb dX8_isTerm_8 rfl (lv_at hl 2 rfl) ?_
    refine lv_iconst (v := 0) hx hb dX8_isTerm_9 (by decide) ?_
    refine lv_aload_n hx hb dX8_isTerm_10 rfl (lv_at hl 0 rfl) ?_
    refine va_get (D := (dC, dI)) (ci := 8) (v := .ref (ad 1)) (C := RX8) (T := TX8) (N := 11) hx hb hts iwX8_isTerm_X8 hown hK hP (0) (wm_at (by decide) rc_0) rfl 0 (by decide) (hts (.fieldLink RX8 7 "QuietStairsModel" "s" "[I") fwX8_isTerm_1) (fun _ h9 => h9) rfl dX8_isTerm_11 ?_
    refine lv_iload_n hx hb dX8_isTerm_14 rfl (lv_at hl 1 rfl) ?_
    refine lv_bipush (v := 6) hx hb dX8_isTerm_15 (by decide) ?_
    refine yc_p hP hS (va_runS (As := [.int x0, .int 6]) (rest := [.ref (ad 1), .int 0, .int x1]) ⟨hx, hb, hml, hown, hts⟩ (c_X8_at l x0 6) (cwS 2 hts gX8_isTerm_X8_at rfl rfl rfl hd_S_X8_at_2 ⟨Nat.le_of_ble_eq_true rfl, Nat.le_of_ble_eq_true rfl⟩) ex_preP rfl rfl hl.1 rfl (lv_room (Nat.le_of_ble_eq_true rfl)) dX8_isTerm_17 ⟨Nat.le_of_ble_eq_true rfl, Nat.le_of_ble_eq_true rfl⟩) (fun r_3 H locs hw_3 hP hS => ?_)
    have k_6 : (6 : Int32).toInt = 6 := by decide
    have tr_3 : r_3.toInt = 32 + 7 * x0.toInt + (6 : Int32).toInt := t_at hw_3 ⟨by omega, by omega⟩ ⟨by omega, by omega⟩
    refine va_iald hx hb hK hP (1) 0 (wm_at (by decide) rc_1) rfl (vp_in_iff.mpr ⟨by omega, by omega⟩) dX8_isTerm_20 ?_
    refine lv_topi (fun x_4 ex_4 => ?_)
    have bx_4 : 0 ≤ x_4.toInt ∧ x_4.toInt ≤ 5 := by rw [ex_4]; exact hv 1 _ 5 (bx_4 (i := x0.toInt) (s := 6) (by omega) ⟨by omega, by omega⟩ (by omega))
    refine lv_iconst (v := 1) hx hb dX8_isTerm_21 (by decide) ?_
    refine lv_isub hx hb dX8_isTerm_22 ?_
    refine lv_topi (fun x_5 ex_5 => ?_)
    have k_1 : (1 : Int32).toInt = 1 := by decide
    have tx_5 : x_5.toInt = x_4.toInt - (1 : Int32).toInt := by rw [ex_5]; exact t_sub ⟨by omega, by omega⟩
    refine yc_p hP hS (va_runS (As := [.int x1, .int 0, .int x_5]) (rest := []) ⟨hx, hb, hml, hown, hts⟩ (c_X8_in l x1 0 x_5) (cwS 3 hts gX8_isTerm_X8_in rfl rfl rfl hd_S_X8_in_3 ⟨Nat.le_of_ble_eq_true rfl, Nat.le_of_ble_eq_true rfl⟩) ex_preP rfl rfl hl.1 rfl (lv_room (Nat.le_of_ble_eq_true rfl)) dX8_isTerm_23 ⟨Nat.le_of_ble_eq_true rfl, Nat.le_of_ble_eq_true rfl⟩) (fun r_6 H locs hw_6 hP hS => ?_)
    rcases wi_ca hw_6 with ⟨rfl, hc_7⟩ | ⟨rfl, hc_7⟩
    · have k_0 : (0 : Int32).toInt = 0 := by decide
      have tc_7 := wi_tl hc_7
      refine lv_if_eq (tgt := 33) hx hb dX8_isTerm_26 (by decide) (fun c9 => absurd c9 (by decide)) (fun _ => ?_)
      refine lv_iconst (v := 1) hx hb dX8_isTerm_29 (by decide) ?_
      refine lv_goto (tgt := 34) hx hb dX8_isTerm_30 (by decide) ?_
      exact W.zret (ty := .boolean) (v := 1) hx hb hr rfl (fun t ht hW => ⟨⟨1, v, rfl, ⟨hv, rfl, Or.inl ⟨rfl, ⟨by omega, by omega⟩, by omega, by omega⟩⟩, by rw [ht]; exact hP, hD⟩, hS.F ht⟩) hS.2.2 dX8_isTerm_34
    · have k_0 : (0 : Int32).toInt = 0 := by decide
      have tc_7 : ¬ ((0 : Int32).toInt ≤ x1.toInt ∧ x1.toInt ≤ x_5.toInt) := fun q => hc_7 ⟨Int32.le_iff_toInt_le.mpr q.1, Int32.le_iff_toInt_le.mpr q.2⟩
      refine lv_if_eq (tgt := 33) hx hb dX8_isTerm_26 (by decide) (fun _ => ?_) (fun c9 => absurd c9 (by decide))
      refine lv_iconst (v := 0) hx hb dX8_isTerm_33 (by decide) ?_
      exact W.zret (ty := .boolean) (v := 0) hx hb hr rfl (fun t ht hW => ⟨⟨0, v, rfl, ⟨hv, rfl, Or.inr rfl⟩, by rw [ht]; exact hP, hD⟩, hS.F ht⟩) hS.2.2 dX8_isTerm_34
  · refine lv_if_eq (tgt := 33) hx hb dX8_isTerm_5 (by decide) (fun _ => ?_) (fun c9 => absurd c9 (by decide))
    refine lv_iconst (v := 0) hx hb dX8_isTerm_33 (by decide) ?_
    exact W.zret (ty := .boolean) (v := 0) hx hb hr rfl (fun t ht hW => ⟨⟨0, v, rfl, ⟨hv, rfl, Or.inr rfl⟩, by rw [ht]; exact hP, hD⟩, hS.F ht⟩) hS.2.2 dX8_isTerm_34

set_option maxHeartbeats 4000000 in
set_option maxRecDepth 100000 in
theorem q_X8_judged (l : Launch) (dC : Nat → ClassId) (dI : Nat → Nat → Nat) (cy : Nat → ClassId) (sz : Nat) (ad : Nat → Nat) (v : Nat → Nat → Int32) (hv : Ir v) (x0 x1 : Int32) : Met l yX8_judged wsX8_judged ({ frames := 3, cells := 0, slots := 0, locals := 192 }) (va_Pc [.ref (ad 0), .int x0, .int x1] (ex_Pre dC dI cy sz (wm ad cy v))) (va_Qi (fun (r : Int32) (u : Nat → Nat → Int32) => Ir u ∧ u = v) (fun u t => ex_Pst dC dI (va_A (wm ad cy v) sz) (wm ad cy u) t) (va_A (wm ad cy v) sz)) 0 0 (va_A (wm ad cy v) sz) := by
  refine Met.ofW (cc := cX8_judged) (maxL := 3) (ret := (some .int)) (by decide) rfl ?_
  intro p e s m args below meth c s₁ B hml hv
  obtain ⟨rfl, hsz, hE, hP, hK, hD0⟩ := hv
  have hx := B.exec
  have hb := B.bytes
  have hr := B.returns
  have hts := atoms_spec (ws := wsX8_judged) B.pre
  have hown : s.vm.findClass RX8 = some m.cls := findClass_of_methodNamed B.named
  have hlocks := B.notSynchronized
  subst hsz
  have hD := hD0.self (sz := s.heap.size)
  generalize hAe : va_A (wm ad cy v) s.heap.size = A at hD ⊢
  have hA : ∀ q : Nat, s.heap.size ≤ q → A q := fun q h => by rw [← hAe]; exact Or.inr h
  have hS : va_S A s.heap s.heap [] := va_S.rf
  have hP : va_P (dC, dI) vwCl (wm ad cy v) s.heap := hP
  have hl := lv_entry ([.ref (ad 0), .int x0, .int x1]) (n := 3) (Nat.le_of_ble_eq_true rfl)
  rw [lg_entry_eq]
  generalize (lg_sl ([.ref (ad 0), .int x0, .int x1]) ++ List.replicate (3 - (lg_sl ([.ref (ad 0), .int x0, .int x1])).length) Slot.unset).toArray = ls at hl ⊢
  have hl : lv_has ls 3 [(0, .ref (ad 0)), (1, .int x0), (2, .int x1)] := hl
  refine lv_aload_n hx hb dX8_judged_0 rfl (lv_at hl 0 rfl) ?_
  refine lv_iload_n hx hb dX8_judged_1 rfl (lv_at hl 1 rfl) ?_
  refine lv_iload_n hx hb dX8_judged_2 rfl (lv_at hl 2 rfl) ?_
  refine yw_i (w1 := fun (u : Nat → Nat → Int32) => wm ad cy u) hD hS hA (va_runV (As := [.int x0, .int x1]) (rest := []) ⟨hx, hb, hml, hown, hts⟩ (q_X8_isTerm l dC dI cy _ ad v hv x0 x1) (cwV 2 hts gX8_judged_X8_isTerm rfl rfl rfl hd_V_X8_isTerm_2 ⟨Nat.le_of_ble_eq_true rfl, Nat.le_of_ble_eq_true rfl⟩) (yw_preV hE hK hP hD (ci := 8) (q := (RX8, TX8, 11)) (q0 := 0) rfl (wm_at (by decide) rc_0)) rfl rfl hl.1 rfl (lv_room (Nat.le_of_ble_eq_true rfl)) dX8_judged_3 ⟨Nat.le_of_ble_eq_true rfl, Nat.le_of_ble_eq_true rfl⟩) (fun r_1 v_1 H locs hw_1 hP hD hS => ?_)
  obtain ⟨-, hu_1, hw_1⟩ := hw_1
  replace hu_1 := hu_1.symm
  subst hu_1
  rcases hw_1 with ⟨rfl, ha_2, hb_2⟩ | rfl
  · refine lv_if_eq (tgt := 18) hx hb dX8_judged_6 (by decide) (fun c9 => absurd c9 (by decide)) (fun _ => ?_)
    refine lv_aload_n hx hb dX8_judged_9 rfl (lv_at hl 0 rfl) ?_
    refine lv_iload_n hx hb dX8_judged_10 rfl (lv_at hl 1 rfl) ?_
    refine lv_iload_n hx hb dX8_judged_11 rfl (lv_at hl 2 rfl) ?_
    refine yw_i (w1 := fun (u : Nat → Nat → Int32) => wm ad cy u) hD hS hA (va_runV (As := [.int x0, .int x1]) (rest := []) ⟨hx, hb, hml, hown, hts⟩ (q_X8_judge l dC dI cy _ ad v hv x0 x1 ⟨by omega, by omega⟩ ⟨by omega, by omega⟩) (cwV 2 hts gX8_judged_X8_judge rfl rfl rfl hd_V_X8_judge_2 ⟨Nat.le_of_ble_eq_true rfl, Nat.le_of_ble_eq_true rfl⟩) (yw_preV hE hK hP hD (ci := 8) (q := (RX8, TX8, 11)) (q0 := 0) rfl (wm_at (by decide) rc_0)) rfl rfl hl.1 rfl (lv_room (Nat.le_of_ble_eq_true rfl)) dX8_judged_12 ⟨Nat.le_of_ble_eq_true rfl, Nat.le_of_ble_eq_true rfl⟩) (fun r_3 v_3 H locs hw_3 hP hD hS => ?_)
    obtain ⟨-, hw_3⟩ := hw_3
    replace hw_3 := hw_3.symm
    subst hw_3
    refine lv_goto (tgt := 19) hx hb dX8_judged_15 (by decide) ?_
    exact W.iret (v := r_3) hx hb hr (fun t ht hW => ⟨⟨r_3, v, rfl, ⟨hv, rfl⟩, by rw [ht]; exact hP, hD⟩, hS.F ht⟩) hS.2.2 dX8_judged_19
  · refine lv_if_eq (tgt := 18) hx hb dX8_judged_6 (by decide) (fun _ => ?_) (fun c9 => absurd c9 (by decide))
    refine lv_iconst (v := (-1)) hx hb dX8_judged_18 (by decide) ?_
    exact W.iret (v := (-1)) hx hb hr (fun t ht hW => ⟨⟨(-1), v, rfl, ⟨hv, rfl⟩, by rw [ht]; exact hP, hD⟩, hS.F ht⟩) hS.2.2 dX8_judged_19

set_option maxHeartbeats 4000000 in
set_option maxRecDepth 100000 in
theorem q_X8_termOf (l : Launch) (dC : Nat → ClassId) (dI : Nat → Nat → Nat) (cy : Nat → ClassId) (sz : Nat) (ad : Nat → Nat) (v : Nat → Nat → Int32) (hv : Ir v) (x0 x1 x2 : Int32) : Met l yX8_termOf wsX8_termOf ({ frames := 3, cells := 0, slots := 0, locals := 192 }) (va_Pc [.ref (ad 0), .int x0, .int x1, .int x2] (ex_Pre dC dI cy sz (wm ad cy v))) (va_Qi (fun (r : Int32) (u : Nat → Nat → Int32) => Ir u ∧ u = v) (fun u t => ex_Pst dC dI (va_A (wm ad cy v) sz) (wm ad cy u) t) (va_A (wm ad cy v) sz)) 0 0 (va_A (wm ad cy v) sz) := by
  refine Met.ofW (cc := cX8_termOf) (maxL := 4) (ret := (some .int)) (by decide) rfl ?_
  intro p e s m args below meth c s₁ B hml hv
  obtain ⟨rfl, hsz, hE, hP, hK, hD0⟩ := hv
  have hx := B.exec
  have hb := B.bytes
  have hr := B.returns
  have hts := atoms_spec (ws := wsX8_termOf) B.pre
  have hown : s.vm.findClass RX8 = some m.cls := findClass_of_methodNamed B.named
  have hlocks := B.notSynchronized
  subst hsz
  have hD := hD0.self (sz := s.heap.size)
  generalize hAe : va_A (wm ad cy v) s.heap.size = A at hD ⊢
  have hA : ∀ q : Nat, s.heap.size ≤ q → A q := fun q h => by rw [← hAe]; exact Or.inr h
  have hS : va_S A s.heap s.heap [] := va_S.rf
  have hP : va_P (dC, dI) vwCl (wm ad cy v) s.heap := hP
  have hl := lv_entry ([.ref (ad 0), .int x0, .int x1, .int x2]) (n := 4) (Nat.le_of_ble_eq_true rfl)
  rw [lg_entry_eq]
  generalize (lg_sl ([.ref (ad 0), .int x0, .int x1, .int x2]) ++ List.replicate (4 - (lg_sl ([.ref (ad 0), .int x0, .int x1, .int x2])).length) Slot.unset).toArray = ls at hl ⊢
  have hl : lv_has ls 4 [(0, .ref (ad 0)), (1, .int x0), (2, .int x1), (3, .int x2)] := hl
  refine lv_aload_n hx hb dX8_termOf_0 rfl (lv_at hl 0 rfl) ?_
  refine lv_iload_n hx hb dX8_termOf_1 rfl (lv_at hl 1 rfl) ?_
  refine lv_iload_n hx hb dX8_termOf_2 rfl (lv_at hl 2 rfl) ?_
  refine yw_i (w1 := fun (u : Nat → Nat → Int32) => wm ad cy u) hD hS hA (va_runV (As := [.int x0, .int x1]) (rest := []) ⟨hx, hb, hml, hown, hts⟩ (q_X8_isTerm l dC dI cy _ ad v hv x0 x1) (cwV 2 hts gX8_termOf_X8_isTerm rfl rfl rfl hd_V_X8_isTerm_2 ⟨Nat.le_of_ble_eq_true rfl, Nat.le_of_ble_eq_true rfl⟩) (yw_preV hE hK hP hD (ci := 8) (q := (RX8, TX8, 11)) (q0 := 0) rfl (wm_at (by decide) rc_0)) rfl rfl hl.1 rfl (lv_room (Nat.le_of_ble_eq_true rfl)) dX8_termOf_3 ⟨Nat.le_of_ble_eq_true rfl, Nat.le_of_ble_eq_true rfl⟩) (fun r_1 v_1 H locs hw_1 hP hD hS => ?_)
  obtain ⟨-, hu_1, hw_1⟩ := hw_1
  replace hu_1 := hu_1.symm
  subst hu_1
  rcases hw_1 with ⟨rfl, ha_2, hb_2⟩ | rfl
  · refine lv_if_eq (tgt := 33) hx hb dX8_termOf_6 (by decide) (fun c9 => absurd c9 (by decide)) (fun _ => ?_)
    refine lv_iload_n hx hb dX8_termOf_9 rfl (lv_at hl 3 rfl) ?_
    refine lv_iconst (v := 0) hx hb dX8_termOf_10 (by decide) ?_
    refine lv_iconst (v := 4) hx hb dX8_termOf_11 (by decide) ?_
    refine yc_p hP hS (va_runS (As := [.int x2, .int 0, .int 4]) (rest := []) ⟨hx, hb, hml, hown, hts⟩ (c_X8_in l x2 0 4) (cwS 3 hts gX8_termOf_X8_in rfl rfl rfl hd_S_X8_in_3 ⟨Nat.le_of_ble_eq_true rfl, Nat.le_of_ble_eq_true rfl⟩) ex_preP rfl rfl hl.1 rfl (lv_room (Nat.le_of_ble_eq_true rfl)) dX8_termOf_12 ⟨Nat.le_of_ble_eq_true rfl, Nat.le_of_ble_eq_true rfl⟩) (fun r_3 H locs hw_3 hP hS => ?_)
    rcases wi_ca hw_3 with ⟨rfl, hc_4⟩ | ⟨rfl, hc_4⟩
    · have k_0 : (0 : Int32).toInt = 0 := by decide
      have k_4 : (4 : Int32).toInt = 4 := by decide
      have tc_4 := wi_tl hc_4
      refine lv_if_eq (tgt := 33) hx hb dX8_termOf_15 (by decide) (fun c9 => absurd c9 (by decide)) (fun _ => ?_)
      refine lv_aload_n hx hb dX8_termOf_18 rfl (lv_at hl 0 rfl) ?_
      refine va_get (D := (dC, dI)) (ci := 8) (v := .ref (ad 1)) (C := RX8) (T := TX8) (N := 11) hx hb hts iwX8_termOf_X8 hown hK hP (0) (wm_at (by decide) rc_0) rfl 0 (by decide) (hts (.fieldLink RX8 7 "QuietStairsModel" "s" "[I") fwX8_termOf_1) (fun _ h9 => h9) rfl dX8_termOf_19 ?_
      refine lv_iload_n hx hb dX8_termOf_22 rfl (lv_at hl 1 rfl) ?_
      refine lv_iload_n hx hb dX8_termOf_23 rfl (lv_at hl 2 rfl) ?_
      refine yc_p hP hS (va_runS (As := [.int x0, .int x1]) (rest := [.ref (ad 1)]) ⟨hx, hb, hml, hown, hts⟩ (c_X8_termAt l x0 x1) (cwS 2 hts gX8_termOf_X8_termAt rfl rfl rfl hd_S_X8_termAt_2 ⟨Nat.le_of_ble_eq_true rfl, Nat.le_of_ble_eq_true rfl⟩) ex_preP rfl rfl hl.1 rfl (lv_room (Nat.le_of_ble_eq_true rfl)) dX8_termOf_24 ⟨Nat.le_of_ble_eq_true rfl, Nat.le_of_ble_eq_true rfl⟩) (fun r_5 H locs hw_5 hP hS => ?_)
      have tr_5 : r_5.toInt = 158 + 25 * x0.toInt + 5 * x1.toInt := t_tm hw_5 ⟨by omega, by omega⟩ ⟨by omega, by omega⟩
      refine lv_iload_n hx hb dX8_termOf_27 rfl (lv_at hl 3 rfl) ?_
      refine lv_iadd hx hb dX8_termOf_28 ?_
      refine lv_topi (fun x_6 ex_6 => ?_)
      have tx_6 : x_6.toInt = r_5.toInt + x2.toInt := by rw [ex_6]; exact t_add ⟨by omega, by omega⟩
      refine va_iald hx hb hK hP (1) 0 (wm_at (by decide) rc_1) rfl (vp_in_iff.mpr ⟨by omega, by omega⟩) dX8_termOf_29 ?_
      refine lv_topi (fun x_7 ex_7 => ?_)
      refine lv_goto (tgt := 34) hx hb dX8_termOf_30 (by decide) ?_
      exact W.iret (v := x_7) hx hb hr (fun t ht hW => ⟨⟨x_7, v, rfl, ⟨hv, rfl⟩, by rw [ht]; exact hP, hD⟩, hS.F ht⟩) hS.2.2 dX8_termOf_34
    · have k_0 : (0 : Int32).toInt = 0 := by decide
      have k_4 : (4 : Int32).toInt = 4 := by decide
      have tc_4 : ¬ ((0 : Int32).toInt ≤ x2.toInt ∧ x2.toInt ≤ (4 : Int32).toInt) := fun q => hc_4 ⟨Int32.le_iff_toInt_le.mpr q.1, Int32.le_iff_toInt_le.mpr q.2⟩
      refine lv_if_eq (tgt := 33) hx hb dX8_termOf_15 (by decide) (fun _ => ?_) (fun c9 => absurd c9 (by decide))
      refine lv_iconst (v := (-1)) hx hb dX8_termOf_33 (by decide) ?_
      exact W.iret (v := (-1)) hx hb hr (fun t ht hW => ⟨⟨(-1), v, rfl, ⟨hv, rfl⟩, by rw [ht]; exact hP, hD⟩, hS.F ht⟩) hS.2.2 dX8_termOf_34
  · refine lv_if_eq (tgt := 33) hx hb dX8_termOf_6 (by decide) (fun _ => ?_) (fun c9 => absurd c9 (by decide))
    refine lv_iconst (v := (-1)) hx hb dX8_termOf_33 (by decide) ?_
    exact W.iret (v := (-1)) hx hb hr (fun t ht hW => ⟨⟨(-1), v, rfl, ⟨hv, rfl⟩, by rw [ht]; exact hP, hD⟩, hS.F ht⟩) hS.2.2 dX8_termOf_34

set_option maxHeartbeats 4000000 in
set_option maxRecDepth 100000 in
theorem q_X8_termsThat (l : Launch) (dC : Nat → ClassId) (dI : Nat → Nat → Nat) (cy : Nat → ClassId) (sz : Nat) (ad : Nat → Nat) (v : Nat → Nat → Int32) (hv : Ir v) (x0 : Int32) : Met l yX8_termsThat wsX8_termsThat ({ frames := 2, cells := 0, slots := 0, locals := 128 }) (va_Pc [.ref (ad 0), .int x0] (ex_Pre dC dI cy sz (wm ad cy v))) (va_Qi (fun (r : Int32) (u : Nat → Nat → Int32) => Ir u ∧ u = v) (fun u t => ex_Pst dC dI (va_A (wm ad cy v) sz) (wm ad cy u) t) (va_A (wm ad cy v) sz)) 0 0 (va_A (wm ad cy v) sz) := by
  refine Met.ofW (cc := cX8_termsThat) (maxL := 5) (ret := (some .int)) (by decide) rfl ?_
  intro p e s m args below meth c s₁ B hml hv
  obtain ⟨rfl, hsz, hE, hP, hK, hD0⟩ := hv
  have hx := B.exec
  have hb := B.bytes
  have hr := B.returns
  have hts := atoms_spec (ws := wsX8_termsThat) B.pre
  have hown : s.vm.findClass RX8 = some m.cls := findClass_of_methodNamed B.named
  have hlocks := B.notSynchronized
  subst hsz
  have hD := hD0.self (sz := s.heap.size)
  generalize hAe : va_A (wm ad cy v) s.heap.size = A at hD ⊢
  have hA : ∀ q : Nat, s.heap.size ≤ q → A q := fun q h => by rw [← hAe]; exact Or.inr h
  have hS : va_S A s.heap s.heap [] := va_S.rf
  have hP : va_P (dC, dI) vwCl (wm ad cy v) s.heap := hP
  have hl := lv_entry ([.ref (ad 0), .int x0]) (n := 5) (Nat.le_of_ble_eq_true rfl)
  rw [lg_entry_eq]
  generalize (lg_sl ([.ref (ad 0), .int x0]) ++ List.replicate (5 - (lg_sl ([.ref (ad 0), .int x0])).length) Slot.unset).toArray = ls at hl ⊢
  have hl : lv_has ls 5 [(0, .ref (ad 0)), (1, .int x0)] := hl
  refine lv_iconst (v := 0) hx hb dX8_termsThat_0 (by decide) ?_
  refine lv_istore_n (lv' := [(2, .int 0), (0, .ref (ad 0)), (1, .int x0)]) hx hb dX8_termsThat_1 rfl hl (by decide) rfl (fun ls hl => ?_)
  refine lv_iconst (v := 0) hx hb dX8_termsThat_2 (by decide) ?_
  refine lv_istore_n (lv' := [(3, .int 0), (2, .int 0), (0, .ref (ad 0)), (1, .int x0)]) hx hb dX8_termsThat_3 rfl hl (by decide) rfl (fun ls hl => ?_)
  have hc_1 : ∀ (n : Nat) (y1_3 y1_2 : Int32) (H : Heap) (locs : List Loc), 0 ≤ y1_3.toInt → y1_3.toInt ≤ 6 → (6 - y1_3.toInt).toNat < n → va_P (dC, dI) vwCl (wm ad cy v) H → va_D A (wm ad cy v) → va_S A s.heap H locs → ∀ ls : Array Slot, lv_has ls 5 [(3, .int y1_3), (2, .int y1_2), (0, .ref (ad 0)), (1, .int x0)] → W p l e (headSpec wsX8_termsThat ({ frames := 2, cells := 0, slots := 0, locals := 128 })).room s m [Value.ref (ad 0), Value.int x0].toArray below meth c H locs 0 0 (MQ below (va_Qi (fun (r : Int32) (u : Nat → Nat → Int32) => Ir u ∧ u = v) (fun u t => ex_Pst dC dI A (wm ad cy u) t) A) [Value.ref (ad 0), Value.int x0].toArray s 0 0 A) (F0 m 4 ls []) := by
    intro n
    induction n with
    | zero =>
      intro y1_3 y1_2 H locs ay1_3 by1_3 hm_1 hP hD hS ls hl
      exact absurd hm_1 (by omega)
    | succ n ih_1 =>
      intro y1_3 y1_2 H locs ay1_3 by1_3 hm_1 hP hD hS ls hl
      refine lv_iload_n hx hb dX8_termsThat_4 rfl (lv_at hl 0 rfl) ?_
      refine lv_aload_n hx hb dX8_termsThat_5 rfl (lv_at hl 2 rfl) ?_
      refine va_get (D := (dC, dI)) (ci := 8) (v := .ref (ad 1)) (C := RX8) (T := TX8) (N := 11) hx hb hts iwX8_termsThat_X8 hown hK hP (0) (wm_at (by decide) rc_0) rfl 0 (by decide) (hts (.fieldLink RX8 7 "QuietStairsModel" "s" "[I") fwX8_termsThat_1) (fun _ h9 => h9) rfl dX8_termsThat_6 ?_
      refine lv_iconst (v := 2) hx hb dX8_termsThat_9 (by decide) ?_
      have k_2 : (2 : Int32).toInt = 2 := by decide
      refine va_iald hx hb hK hP (1) 0 (wm_at (by decide) rc_1) rfl (by unfold vp_in; decide) dX8_termsThat_10 ?_
      refine lv_topi (fun x_2 ex_2 => ?_)
      have ex_2 : x_2 = v 1 2 := ex_2
      have bx_2 : 0 ≤ x_2.toInt ∧ x_2.toInt ≤ 6 := by rw [ex_2]; exact hv 1 _ 6 (show bS 2 = some 6 from by decide)
      refine lv_icmp_ge (tgt := 68) hx hb dX8_termsThat_11 (by decide) (fun c_3 => ?_) (fun c_3 => ?_)
      · have tc_3 : y1_3.toInt ≥ x_2.toInt := Int32.le_iff_toInt_le.mp c_3
        refine lv_iload_n hx hb dX8_termsThat_68 rfl (lv_at hl 1 rfl) ?_
        exact W.iret (v := y1_2) hx hb hr (fun t ht hW => ⟨⟨y1_2, v, rfl, ⟨hv, rfl⟩, by rw [ht]; exact hP, hD⟩, hS.F ht⟩) hS.2.2 dX8_termsThat_69
      · have tc_3 : y1_3.toInt < x_2.toInt := Int32.lt_iff_toInt_lt.mp (Int32.not_le.mp c_3)
        refine lv_iconst (v := 0) hx hb dX8_termsThat_14 (by decide) ?_
        refine lv_istore (lv' := [(4, .int 0), (3, .int y1_3), (2, .int y1_2), (0, .ref (ad 0)), (1, .int x0)]) hx hb dX8_termsThat_15 hl (by decide) rfl (fun ls hl => ?_)
        have hc_4 : ∀ (n : Nat) (y4_4 y4_2 : Int32) (H : Heap) (locs : List Loc), 0 ≤ y4_4.toInt → y4_4.toInt ≤ 5 → (5 - y4_4.toInt).toNat < n → va_P (dC, dI) vwCl (wm ad cy v) H → va_D A (wm ad cy v) → va_S A s.heap H locs → ∀ ls : Array Slot, lv_has ls 5 [(4, .int y4_4), (3, .int y1_3), (2, .int y4_2), (0, .ref (ad 0)), (1, .int x0)] → W p l e (headSpec wsX8_termsThat ({ frames := 2, cells := 0, slots := 0, locals := 128 })).room s m [Value.ref (ad 0), Value.int x0].toArray below meth c H locs 0 0 (MQ below (va_Qi (fun (r : Int32) (u : Nat → Nat → Int32) => Ir u ∧ u = v) (fun u t => ex_Pst dC dI A (wm ad cy u) t) A) [Value.ref (ad 0), Value.int x0].toArray s 0 0 A) (F0 m 17 ls []) := by
          intro n
          induction n with
          | zero =>
            intro y4_4 y4_2 H locs ay4_4 by4_4 hm_4 hP hD hS ls hl
            exact absurd hm_4 (by omega)
          | succ n ih_4 =>
            intro y4_4 y4_2 H locs ay4_4 by4_4 hm_4 hP hD hS ls hl
            refine lv_iload hx hb dX8_termsThat_17 (lv_at hl 0 rfl) ?_
            refine lv_aload_n hx hb dX8_termsThat_19 rfl (lv_at hl 3 rfl) ?_
            refine va_get (D := (dC, dI)) (ci := 8) (v := .ref (ad 1)) (C := RX8) (T := TX8) (N := 11) hx hb hts iwX8_termsThat_X8 hown hK hP (0) (wm_at (by decide) rc_0) rfl 0 (by decide) (hts (.fieldLink RX8 7 "QuietStairsModel" "s" "[I") fwX8_termsThat_1) (fun _ h9 => h9) rfl dX8_termsThat_20 ?_
            refine lv_iload_n hx hb dX8_termsThat_23 rfl (lv_at hl 1 rfl) ?_
            refine lv_bipush (v := 6) hx hb dX8_termsThat_24 (by decide) ?_
            refine yc_p hP hS (va_runS (As := [.int y1_3, .int 6]) (rest := [.ref (ad 1), .int y4_4]) ⟨hx, hb, hml, hown, hts⟩ (c_X8_at l y1_3 6) (cwS 2 hts gX8_termsThat_X8_at rfl rfl rfl hd_S_X8_at_2 ⟨Nat.le_of_ble_eq_true rfl, Nat.le_of_ble_eq_true rfl⟩) ex_preP rfl rfl hl.1 rfl (lv_room (Nat.le_of_ble_eq_true rfl)) dX8_termsThat_26 ⟨Nat.le_of_ble_eq_true rfl, Nat.le_of_ble_eq_true rfl⟩) (fun r_5 H locs hw_5 hP hS => ?_)
            have k_6 : (6 : Int32).toInt = 6 := by decide
            have tr_5 : r_5.toInt = 32 + 7 * y1_3.toInt + (6 : Int32).toInt := t_at hw_5 ⟨by omega, by omega⟩ ⟨by omega, by omega⟩
            refine va_iald hx hb hK hP (1) 0 (wm_at (by decide) rc_1) rfl (vp_in_iff.mpr ⟨by omega, by omega⟩) dX8_termsThat_29 ?_
            refine lv_topi (fun x_6 ex_6 => ?_)
            have bx_6 : 0 ≤ x_6.toInt ∧ x_6.toInt ≤ 5 := by rw [ex_6]; exact hv 1 _ 5 (bx_4 (i := y1_3.toInt) (s := 6) (by omega) ⟨by omega, by omega⟩ (by omega))
            refine lv_icmp_ge (tgt := 62) hx hb dX8_termsThat_30 (by decide) (fun c_7 => ?_) (fun c_7 => ?_)
            · have tc_7 : y4_4.toInt ≥ x_6.toInt := Int32.le_iff_toInt_le.mp c_7
              obtain ⟨x_8, ex_8⟩ : ∃ y : Int32, y = y1_3 + 1 := ⟨_, rfl⟩
              refine lv_iinc (v := x_8) (lv' := [(3, .int x_8), (4, .int y4_4), (2, .int y4_2), (0, .ref (ad 0)), (1, .int x0)]) hx hb dX8_termsThat_62 hl (k := 1) rfl (by rw [ex_8]; rfl) (by decide) rfl (fun ls hl => ?_)
              have k_1 : (1 : Int32).toInt = 1 := by decide
              have tx_8 : x_8.toInt = y1_3.toInt + (1 : Int32).toInt := by rw [ex_8]; exact t_add ⟨by omega, by omega⟩
              refine lv_goto (tgt := 4) hx hb dX8_termsThat_65 (by decide) ?_
              exact ih_1 x_8 y4_2 _ _ (by omega) (by omega) (by omega) hP hD hS ls (lv_sub hl [0, 2, 3, 4] rfl)
            · have tc_7 : y4_4.toInt < x_6.toInt := Int32.lt_iff_toInt_lt.mp (Int32.not_le.mp c_7)
              refine lv_iload_n hx hb dX8_termsThat_33 rfl (lv_at hl 2 rfl) ?_
              refine lv_iload_n hx hb dX8_termsThat_34 rfl (lv_at hl 4 rfl) ?_
              have k_0 : (0 : Int32).toInt = 0 := by decide
              refine lv_if_lt (tgt := 49) hx hb dX8_termsThat_35 (by decide) (fun c_8 => ?_) (fun c_8 => ?_)
              · have tc_8 : x0.toInt < (0 : Int32).toInt := Int32.lt_iff_toInt_lt.mp c_8
                refine lv_iconst (v := 1) hx hb dX8_termsThat_49 (by decide) ?_
                refine lv_goto (tgt := 54) hx hb dX8_termsThat_50 (by decide) ?_
                refine lv_iadd hx hb dX8_termsThat_54 ?_
                refine lv_topi (fun x_9 ex_9 => ?_)
                have k_1 : (1 : Int32).toInt = 1 := by decide
                refine lv_istore_n (lv' := [(2, .int x_9), (4, .int y4_4), (3, .int y1_3), (0, .ref (ad 0)), (1, .int x0)]) hx hb dX8_termsThat_55 rfl hl (by decide) rfl (fun ls hl => ?_)
                obtain ⟨x_10, ex_10⟩ : ∃ y : Int32, y = y4_4 + 1 := ⟨_, rfl⟩
                refine lv_iinc (v := x_10) (lv' := [(4, .int x_10), (2, .int x_9), (3, .int y1_3), (0, .ref (ad 0)), (1, .int x0)]) hx hb dX8_termsThat_56 hl (k := 1) rfl (by rw [ex_10]; rfl) (by decide) rfl (fun ls hl => ?_)
                have tx_10 : x_10.toInt = y4_4.toInt + (1 : Int32).toInt := by rw [ex_10]; exact t_add ⟨by omega, by omega⟩
                refine lv_goto (tgt := 17) hx hb dX8_termsThat_59 (by decide) ?_
                exact ih_4 x_10 x_9 _ _ (by omega) (by omega) (by omega) hP hD hS ls (lv_sub hl [0, 2, 1, 3, 4] rfl)
              · have tc_8 : x0.toInt ≥ (0 : Int32).toInt := Int32.le_iff_toInt_le.mp (Int32.not_lt.mp c_8)
                refine lv_aload_n hx hb dX8_termsThat_38 rfl (lv_at hl 3 rfl) ?_
                refine lv_iload_n hx hb dX8_termsThat_39 rfl (lv_at hl 1 rfl) ?_
                refine lv_iload hx hb dX8_termsThat_40 (lv_at hl 0 rfl) ?_
                refine yw_i (w1 := fun (u : Nat → Nat → Int32) => wm ad cy u) hD hS hA (va_runV (As := [.int y1_3, .int y4_4]) (rest := [.int y4_2]) ⟨hx, hb, hml, hown, hts⟩ (q_X8_judge l dC dI cy _ ad v hv y1_3 y4_4 ⟨by omega, by omega⟩ ⟨by omega, by omega⟩) (cwV 2 hts gX8_termsThat_X8_judge rfl rfl rfl hd_V_X8_judge_2 ⟨Nat.le_of_ble_eq_true rfl, Nat.le_of_ble_eq_true rfl⟩) (yw_preV hE hK hP hD (ci := 8) (q := (RX8, TX8, 11)) (q0 := 0) rfl (wm_at (by decide) rc_0)) rfl rfl hl.1 rfl (lv_room (Nat.le_of_ble_eq_true rfl)) dX8_termsThat_42 ⟨Nat.le_of_ble_eq_true rfl, Nat.le_of_ble_eq_true rfl⟩) (fun r_9 v_9 H locs hw_9 hP hD hS => ?_)
                obtain ⟨-, hw_9⟩ := hw_9
                replace hw_9 := hw_9.symm
                subst hw_9
                refine lv_iload_n hx hb dX8_termsThat_45 rfl (lv_at hl 4 rfl) ?_
                refine lv_icmp_ne (tgt := 53) hx hb dX8_termsThat_46 (by decide) (fun c_10 => ?_) (fun c_10 => ?_)
                · have tc_10 : r_9.toInt ≠ x0.toInt := fun q => absurd (Int32.toInt_inj.mp q) c_10
                  refine lv_iconst (v := 0) hx hb dX8_termsThat_53 (by decide) ?_
                  refine lv_iadd hx hb dX8_termsThat_54 ?_
                  refine lv_topi (fun x_11 ex_11 => ?_)
                  refine lv_istore_n (lv' := [(2, .int x_11), (4, .int y4_4), (3, .int y1_3), (0, .ref (ad 0)), (1, .int x0)]) hx hb dX8_termsThat_55 rfl hl (by decide) rfl (fun ls hl => ?_)
                  obtain ⟨x_12, ex_12⟩ : ∃ y : Int32, y = y4_4 + 1 := ⟨_, rfl⟩
                  refine lv_iinc (v := x_12) (lv' := [(4, .int x_12), (2, .int x_11), (3, .int y1_3), (0, .ref (ad 0)), (1, .int x0)]) hx hb dX8_termsThat_56 hl (k := 1) rfl (by rw [ex_12]; rfl) (by decide) rfl (fun ls hl => ?_)
                  have k_1 : (1 : Int32).toInt = 1 := by decide
                  have tx_12 : x_12.toInt = y4_4.toInt + (1 : Int32).toInt := by rw [ex_12]; exact t_add ⟨by omega, by omega⟩
                  refine lv_goto (tgt := 17) hx hb dX8_termsThat_59 (by decide) ?_
                  exact ih_4 x_12 x_11 _ _ (by omega) (by omega) (by omega) hP hD hS ls (lv_sub hl [0, 2, 1, 3, 4] rfl)
                · have tc_10 : r_9.toInt = x0.toInt := by rw [c_10]
                  refine lv_iconst (v := 1) hx hb dX8_termsThat_49 (by decide) ?_
                  refine lv_goto (tgt := 54) hx hb dX8_termsThat_50 (by decide) ?_
                  refine lv_iadd hx hb dX8_termsThat_54 ?_
                  refine lv_topi (fun x_11 ex_11 => ?_)
                  have k_1 : (1 : Int32).toInt = 1 := by decide
                  refine lv_istore_n (lv' := [(2, .int x_11), (4, .int y4_4), (3, .int y1_3), (0, .ref (ad 0)), (1, .int x0)]) hx hb dX8_termsThat_55 rfl hl (by decide) rfl (fun ls hl => ?_)
                  obtain ⟨x_12, ex_12⟩ : ∃ y : Int32, y = y4_4 + 1 := ⟨_, rfl⟩
                  refine lv_iinc (v := x_12) (lv' := [(4, .int x_12), (2, .int x_11), (3, .int y1_3), (0, .ref (ad 0)), (1, .int x0)]) hx hb dX8_termsThat_56 hl (k := 1) rfl (by rw [ex_12]; rfl) (by decide) rfl (fun ls hl => ?_)
                  have tx_12 : x_12.toInt = y4_4.toInt + (1 : Int32).toInt := by rw [ex_12]; exact t_add ⟨by omega, by omega⟩
                  refine lv_goto (tgt := 17) hx hb dX8_termsThat_59 (by decide) ?_
                  exact ih_4 x_12 x_11 _ _ (by omega) (by omega) (by omega) hP hD hS ls (lv_sub hl [0, 2, 1, 3, 4] rfl)
        have k_0 : (0 : Int32).toInt = 0 := by decide
        exact hc_4 ((5 - (0 : Int32).toInt).toNat + 1) 0 y1_2 _ _ (by omega) (by omega) (by omega) hP hD hS ls (lv_sub hl [0, 1, 2, 3, 4] rfl)
  have k_0 : (0 : Int32).toInt = 0 := by decide
  exact hc_1 ((6 - (0 : Int32).toInt).toNat + 1) 0 0 _ _ (by omega) (by omega) (by omega) hP hD hS ls (lv_sub hl [0, 1, 2, 3] rfl)

set_option maxHeartbeats 4000000 in
set_option maxRecDepth 100000 in
theorem q_X8_put (l : Launch) (dC : Nat → ClassId) (dI : Nat → Nat → Nat) (cy : Nat → ClassId) (sz : Nat) (ad : Nat → Nat) (v : Nat → Nat → Int32) (hv : Ir v) (x0 x1 : Int32) : Met l yX8_put wsX8_put ({ frames := 2, cells := 0, slots := 0, locals := 128 }) (va_Pc [.ref (ad 0), .int x0, .int x1] (ex_Pre dC dI cy sz (wm ad cy v))) (va_Qi (fun (r : Int32) (u : Nat → Nat → Int32) => Ir u ∧ u = v) (fun u t => ex_Pst dC dI (va_A (wm ad cy v) sz) (wm ad cy u) t) (va_A (wm ad cy v) sz)) 0 0 (va_A (wm ad cy v) sz) := by
  refine Met.ofW (cc := cX8_put) (maxL := 3) (ret := (some .int)) (by decide) rfl ?_
  intro p e s m args below meth c s₁ B hml hv
  obtain ⟨rfl, hsz, hE, hP, hK, hD0⟩ := hv
  have hx := B.exec
  have hb := B.bytes
  have hr := B.returns
  have hts := atoms_spec (ws := wsX8_put) B.pre
  have hown : s.vm.findClass RX8 = some m.cls := findClass_of_methodNamed B.named
  have hlocks := B.notSynchronized
  subst hsz
  have hD := hD0.self (sz := s.heap.size)
  generalize hAe : va_A (wm ad cy v) s.heap.size = A at hD ⊢
  have hA : ∀ q : Nat, s.heap.size ≤ q → A q := fun q h => by rw [← hAe]; exact Or.inr h
  have hS : va_S A s.heap s.heap [] := va_S.rf
  have hP : va_P (dC, dI) vwCl (wm ad cy v) s.heap := hP
  have hl := lv_entry ([.ref (ad 0), .int x0, .int x1]) (n := 3) (Nat.le_of_ble_eq_true rfl)
  rw [lg_entry_eq]
  generalize (lg_sl ([.ref (ad 0), .int x0, .int x1]) ++ List.replicate (3 - (lg_sl ([.ref (ad 0), .int x0, .int x1])).length) Slot.unset).toArray = ls at hl ⊢
  have hl : lv_has ls 3 [(0, .ref (ad 0)), (1, .int x0), (2, .int x1)] := hl
  refine lv_aload_n hx hb dX8_put_0 rfl (lv_at hl 0 rfl) ?_
  refine lv_iload_n hx hb dX8_put_1 rfl (lv_at hl 1 rfl) ?_
  refine yw_i (w1 := fun (u : Nat → Nat → Int32) => wm ad cy u) hD hS hA (va_runV (As := [.int x0]) (rest := []) ⟨hx, hb, hml, hown, hts⟩ (q_X8_isCase l dC dI cy _ ad v hv x0) (cwV 1 hts gX8_put_X8_isCase rfl rfl rfl hd_V_X8_isCase_1 ⟨Nat.le_of_ble_eq_true rfl, Nat.le_of_ble_eq_true rfl⟩) (yw_preV hE hK hP hD (ci := 8) (q := (RX8, TX8, 11)) (q0 := 0) rfl (wm_at (by decide) rc_0)) rfl rfl hl.1 rfl (lv_room (Nat.le_of_ble_eq_true rfl)) dX8_put_2 ⟨Nat.le_of_ble_eq_true rfl, Nat.le_of_ble_eq_true rfl⟩) (fun r_1 v_1 H locs hw_1 hP hD hS => ?_)
  obtain ⟨-, hu_1, hw_1⟩ := hw_1
  replace hu_1 := hu_1.symm
  subst hu_1
  rcases hw_1 with ⟨rfl, ha_2⟩ | ⟨rfl, ha_2⟩
  · have hb_2 := hv 1 2 6 (by decide)
    have hj_2 : 0 ≤ x0.toInt ∧ x0.toInt ≤ 5 := ⟨by omega, by omega⟩
    refine lv_if_eq (tgt := 15) hx hb dX8_put_5 (by decide) (fun c9 => absurd c9 (by decide)) (fun _ => ?_)
    refine lv_iload_n hx hb dX8_put_8 rfl (lv_at hl 2 rfl) ?_
    refine yc_p hP hS (va_runS (As := [.int x1]) (rest := []) ⟨hx, hb, hml, hown, hts⟩ (c_X8_isSide l x1) (cwS 1 hts gX8_put_X8_isSide rfl rfl rfl hd_S_X8_isSide_1 ⟨Nat.le_of_ble_eq_true rfl, Nat.le_of_ble_eq_true rfl⟩) ex_preP rfl rfl hl.1 rfl (lv_room (Nat.le_of_ble_eq_true rfl)) dX8_put_9 ⟨Nat.le_of_ble_eq_true rfl, Nat.le_of_ble_eq_true rfl⟩) (fun r_3 H locs hw_3 hP hS => ?_)
    rcases wi_ca hw_3 with ⟨rfl, hc_4⟩ | ⟨rfl, hc_4⟩
    · have k_0 : (0 : Int32).toInt = 0 := by decide
      have k_1 : (1 : Int32).toInt = 1 := by decide
      have tc_4 := wi_tl hc_4
      refine lv_if_ne (tgt := 17) hx hb dX8_put_12 (by decide) (fun _ => ?_) (fun c9 => absurd c9 (by decide))
      refine lv_aload_n hx hb dX8_put_17 rfl (lv_at hl 0 rfl) ?_
      refine va_get (D := (dC, dI)) (ci := 8) (v := .ref (ad 1)) (C := RX8) (T := TX8) (N := 11) hx hb hts iwX8_put_X8 hown hK hP (0) (wm_at (by decide) rc_0) rfl 0 (by decide) (hts (.fieldLink RX8 7 "QuietStairsModel" "s" "[I") fwX8_put_1) (fun _ h9 => h9) rfl dX8_put_18 ?_
      refine lv_bipush (v := 74) hx hb dX8_put_21 (by decide) ?_
      refine lv_iconst (v := 2) hx hb dX8_put_23 (by decide) ?_
      refine lv_iload_n hx hb dX8_put_24 rfl (lv_at hl 1 rfl) ?_
      refine lv_imul hx hb dX8_put_25 ?_
      refine lv_topi (fun x_5 ex_5 => ?_)
      have k_2 : (2 : Int32).toInt = 2 := by decide
      have tx_5 : x_5.toInt = 2 * x0.toInt := by rw [ex_5, t_mul (by rw [k_2]; omega), k_2]
      refine lv_iadd hx hb dX8_put_26 ?_
      refine lv_topi (fun x_6 ex_6 => ?_)
      have k_74 : (74 : Int32).toInt = 74 := by decide
      have tx_6 : x_6.toInt = (74 : Int32).toInt + x_5.toInt := by rw [ex_6]; exact t_add ⟨by omega, by omega⟩
      refine lv_iload_n hx hb dX8_put_27 rfl (lv_at hl 2 rfl) ?_
      refine lv_iadd hx hb dX8_put_28 ?_
      refine lv_topi (fun x_7 ex_7 => ?_)
      have tx_7 : x_7.toInt = x_6.toInt + x1.toInt := by rw [ex_7]; exact t_add ⟨by omega, by omega⟩
      refine va_iald hx hb hK hP (1) 0 (wm_at (by decide) rc_1) rfl (vp_in_iff.mpr ⟨by omega, by omega⟩) dX8_put_29 ?_
      refine lv_topi (fun x_8 ex_8 => ?_)
      refine lv_if_lt (tgt := 37) hx hb dX8_put_30 (by decide) (fun c_9 => ?_) (fun c_9 => ?_)
      · have tc_9 : x_8.toInt < (0 : Int32).toInt := Int32.lt_iff_toInt_lt.mp c_9
        refine lv_iconst (v := 0) hx hb dX8_put_37 (by decide) ?_
        exact W.iret (v := 0) hx hb hr (fun t ht hW => ⟨⟨0, v, rfl, ⟨hv, rfl⟩, by rw [ht]; exact hP, hD⟩, hS.F ht⟩) hS.2.2 dX8_put_38
      · have tc_9 : x_8.toInt ≥ (0 : Int32).toInt := Int32.le_iff_toInt_le.mp (Int32.not_lt.mp c_9)
        refine lv_iconst (v := 1) hx hb dX8_put_33 (by decide) ?_
        refine lv_goto (tgt := 38) hx hb dX8_put_34 (by decide) ?_
        exact W.iret (v := 1) hx hb hr (fun t ht hW => ⟨⟨1, v, rfl, ⟨hv, rfl⟩, by rw [ht]; exact hP, hD⟩, hS.F ht⟩) hS.2.2 dX8_put_38
    · have k_0 : (0 : Int32).toInt = 0 := by decide
      have k_1 : (1 : Int32).toInt = 1 := by decide
      have tc_4 : ¬ ((0 : Int32).toInt ≤ x1.toInt ∧ x1.toInt ≤ (1 : Int32).toInt) := fun q => hc_4 ⟨Int32.le_iff_toInt_le.mpr q.1, Int32.le_iff_toInt_le.mpr q.2⟩
      refine lv_if_ne (tgt := 17) hx hb dX8_put_12 (by decide) (fun c9 => absurd c9 (by decide)) (fun _ => ?_)
      refine lv_iconst (v := (-1)) hx hb dX8_put_15 (by decide) ?_
      exact W.iret (v := (-1)) hx hb hr (fun t ht hW => ⟨⟨(-1), v, rfl, ⟨hv, rfl⟩, by rw [ht]; exact hP, hD⟩, hS.F ht⟩) hS.2.2 dX8_put_16
  · refine lv_if_eq (tgt := 15) hx hb dX8_put_5 (by decide) (fun _ => ?_) (fun c9 => absurd c9 (by decide))
    refine lv_iconst (v := (-1)) hx hb dX8_put_15 (by decide) ?_
    exact W.iret (v := (-1)) hx hb hr (fun t ht hW => ⟨⟨(-1), v, rfl, ⟨hv, rfl⟩, by rw [ht]; exact hP, hD⟩, hS.F ht⟩) hS.2.2 dX8_put_16

set_option maxHeartbeats 4000000 in
set_option maxRecDepth 100000 in
theorem q_X8_learns (l : Launch) (dC : Nat → ClassId) (dI : Nat → Nat → Nat) (cy : Nat → ClassId) (sz : Nat) (ad : Nat → Nat) (v : Nat → Nat → Int32) (hv : Ir v) (x0 x1 x2 x3 : Int32) : Met l yX8_learns wsX8_learns ({ frames := 2, cells := 0, slots := 0, locals := 128 }) (va_Pc [.ref (ad 0), .int x0, .int x1, .int x2, .int x3] (ex_Pre dC dI cy sz (wm ad cy v))) (va_Qi (fun (r : Int32) (u : Nat → Nat → Int32) => Ir u ∧ u = v) (fun u t => ex_Pst dC dI (va_A (wm ad cy v) sz) (wm ad cy u) t) (va_A (wm ad cy v) sz)) 0 0 (va_A (wm ad cy v) sz) := by
  refine Met.ofW (cc := cX8_learns) (maxL := 14) (ret := (some .int)) (by decide) rfl ?_
  intro p e s m args below meth c s₁ B hml hv
  obtain ⟨rfl, hsz, hE, hP, hK, hD0⟩ := hv
  have hx := B.exec
  have hb := B.bytes
  have hr := B.returns
  have hts := atoms_spec (ws := wsX8_learns) B.pre
  have hown : s.vm.findClass RX8 = some m.cls := findClass_of_methodNamed B.named
  have hlocks := B.notSynchronized
  subst hsz
  have hD := hD0.self (sz := s.heap.size)
  generalize hAe : va_A (wm ad cy v) s.heap.size = A at hD ⊢
  have hA : ∀ q : Nat, s.heap.size ≤ q → A q := fun q h => by rw [← hAe]; exact Or.inr h
  have hS : va_S A s.heap s.heap [] := va_S.rf
  have hP : va_P (dC, dI) vwCl (wm ad cy v) s.heap := hP
  have hl := lv_entry ([.ref (ad 0), .int x0, .int x1, .int x2, .int x3]) (n := 14) (Nat.le_of_ble_eq_true rfl)
  rw [lg_entry_eq]
  generalize (lg_sl ([.ref (ad 0), .int x0, .int x1, .int x2, .int x3]) ++ List.replicate (14 - (lg_sl ([.ref (ad 0), .int x0, .int x1, .int x2, .int x3])).length) Slot.unset).toArray = ls at hl ⊢
  have hl : lv_has ls 14 [(0, .ref (ad 0)), (1, .int x0), (2, .int x1), (3, .int x2), (4, .int x3)] := hl
  refine lv_aload_n hx hb dX8_learns_0 rfl (lv_at hl 0 rfl) ?_
  refine lv_iload_n hx hb dX8_learns_1 rfl (lv_at hl 1 rfl) ?_
  refine yw_i (w1 := fun (u : Nat → Nat → Int32) => wm ad cy u) hD hS hA (va_runV (As := [.int x0]) (rest := []) ⟨hx, hb, hml, hown, hts⟩ (q_X8_isCase l dC dI cy _ ad v hv x0) (cwV 1 hts gX8_learns_X8_isCase rfl rfl rfl hd_V_X8_isCase_1 ⟨Nat.le_of_ble_eq_true rfl, Nat.le_of_ble_eq_true rfl⟩) (yw_preV hE hK hP hD (ci := 8) (q := (RX8, TX8, 11)) (q0 := 0) rfl (wm_at (by decide) rc_0)) rfl rfl hl.1 rfl (lv_room (Nat.le_of_ble_eq_true rfl)) dX8_learns_2 ⟨Nat.le_of_ble_eq_true rfl, Nat.le_of_ble_eq_true rfl⟩) (fun r_1 v_1 H locs hw_1 hP hD hS => ?_)
  obtain ⟨-, hu_1, hw_1⟩ := hw_1
  replace hu_1 := hu_1.symm
  subst hu_1
  rcases hw_1 with ⟨rfl, ha_2⟩ | ⟨rfl, ha_2⟩
  · have hb_2 := hv 1 2 6 (by decide)
    have hj_2 : 0 ≤ x0.toInt ∧ x0.toInt ≤ 5 := ⟨by omega, by omega⟩
    refine lv_if_eq (tgt := 15) hx hb dX8_learns_5 (by decide) (fun c9 => absurd c9 (by decide)) (fun _ => ?_)
    refine lv_iload_n hx hb dX8_learns_8 rfl (lv_at hl 2 rfl) ?_
    refine yc_p hP hS (va_runS (As := [.int x1]) (rest := []) ⟨hx, hb, hml, hown, hts⟩ (c_X8_isSide l x1) (cwS 1 hts gX8_learns_X8_isSide rfl rfl rfl hd_S_X8_isSide_1 ⟨Nat.le_of_ble_eq_true rfl, Nat.le_of_ble_eq_true rfl⟩) ex_preP rfl rfl hl.1 rfl (lv_room (Nat.le_of_ble_eq_true rfl)) dX8_learns_9 ⟨Nat.le_of_ble_eq_true rfl, Nat.le_of_ble_eq_true rfl⟩) (fun r_3 H locs hw_3 hP hS => ?_)
    rcases wi_ca hw_3 with ⟨rfl, hc_4⟩ | ⟨rfl, hc_4⟩
    · have k_0 : (0 : Int32).toInt = 0 := by decide
      have k_1 : (1 : Int32).toInt = 1 := by decide
      have tc_4 := wi_tl hc_4
      refine lv_if_ne (tgt := 17) hx hb dX8_learns_12 (by decide) (fun _ => ?_) (fun c9 => absurd c9 (by decide))
      refine lv_iload_n hx hb dX8_learns_17 rfl (lv_at hl 3 rfl) ?_
      refine lv_iconst (v := 0) hx hb dX8_learns_18 (by decide) ?_
      refine lv_aload_n hx hb dX8_learns_19 rfl (lv_at hl 0 rfl) ?_
      refine va_get (D := (dC, dI)) (ci := 8) (v := .ref (ad 1)) (C := RX8) (T := TX8) (N := 11) hx hb hts iwX8_learns_X8 hown hK hP (0) (wm_at (by decide) rc_0) rfl 0 (by decide) (hts (.fieldLink RX8 7 "QuietStairsModel" "s" "[I") fwX8_learns_1) (fun _ h9 => h9) rfl dX8_learns_20 ?_
      refine lv_iload_n hx hb dX8_learns_23 rfl (lv_at hl 1 rfl) ?_
      refine lv_iconst (v := 4) hx hb dX8_learns_24 (by decide) ?_
      refine yc_p hP hS (va_runS (As := [.int x0, .int 4]) (rest := [.ref (ad 1), .int 0, .int x2]) ⟨hx, hb, hml, hown, hts⟩ (c_X8_at l x0 4) (cwS 2 hts gX8_learns_X8_at rfl rfl rfl hd_S_X8_at_2 ⟨Nat.le_of_ble_eq_true rfl, Nat.le_of_ble_eq_true rfl⟩) ex_preP rfl rfl hl.1 rfl (lv_room (Nat.le_of_ble_eq_true rfl)) dX8_learns_25 ⟨Nat.le_of_ble_eq_true rfl, Nat.le_of_ble_eq_true rfl⟩) (fun r_5 H locs hw_5 hP hS => ?_)
      have k_4 : (4 : Int32).toInt = 4 := by decide
      have tr_5 : r_5.toInt = 32 + 7 * x0.toInt + (4 : Int32).toInt := t_at hw_5 ⟨by omega, by omega⟩ ⟨by omega, by omega⟩
      refine va_iald hx hb hK hP (1) 0 (wm_at (by decide) rc_1) rfl (vp_in_iff.mpr ⟨by omega, by omega⟩) dX8_learns_28 ?_
      refine lv_topi (fun x_6 ex_6 => ?_)
      have bx_6 : 0 ≤ x_6.toInt ∧ x_6.toInt ≤ 5 := by rw [ex_6]; exact hv 1 _ 5 (bx_4 (i := x0.toInt) (s := 4) (by omega) ⟨by omega, by omega⟩ (by omega))
      refine lv_iconst (v := 1) hx hb dX8_learns_29 (by decide) ?_
      refine lv_isub hx hb dX8_learns_30 ?_
      refine lv_topi (fun x_7 ex_7 => ?_)
      have tx_7 : x_7.toInt = x_6.toInt - (1 : Int32).toInt := by rw [ex_7]; exact t_sub ⟨by omega, by omega⟩
      refine yc_p hP hS (va_runS (As := [.int x2, .int 0, .int x_7]) (rest := []) ⟨hx, hb, hml, hown, hts⟩ (c_X8_in l x2 0 x_7) (cwS 3 hts gX8_learns_X8_in rfl rfl rfl hd_S_X8_in_3 ⟨Nat.le_of_ble_eq_true rfl, Nat.le_of_ble_eq_true rfl⟩) ex_preP rfl rfl hl.1 rfl (lv_room (Nat.le_of_ble_eq_true rfl)) dX8_learns_31 ⟨Nat.le_of_ble_eq_true rfl, Nat.le_of_ble_eq_true rfl⟩) (fun r_8 H locs hw_8 hP hS => ?_)
      rcases wi_ca hw_8 with ⟨rfl, hc_9⟩ | ⟨rfl, hc_9⟩
      · have tc_9 := wi_tl hc_9
        refine lv_if_ne (tgt := 40) hx hb dX8_learns_34 (by decide) (fun _ => ?_) (fun c9 => absurd c9 (by decide))
        refine lv_aload_n hx hb dX8_learns_40 rfl (lv_at hl 0 rfl) ?_
        refine va_get (D := (dC, dI)) (ci := 8) (v := .ref (ad 1)) (C := RX8) (T := TX8) (N := 11) hx hb hts iwX8_learns_X8 hown hK hP (0) (wm_at (by decide) rc_0) rfl 0 (by decide) (hts (.fieldLink RX8 7 "QuietStairsModel" "s" "[I") fwX8_learns_1) (fun _ h9 => h9) rfl dX8_learns_41 ?_
        refine lv_bipush (v := 86) hx hb dX8_learns_44 (by decide) ?_
        refine lv_bipush (v := 10) hx hb dX8_learns_46 (by decide) ?_
        refine lv_iload_n hx hb dX8_learns_48 rfl (lv_at hl 1 rfl) ?_
        refine lv_imul hx hb dX8_learns_49 ?_
        refine lv_topi (fun x_10 ex_10 => ?_)
        have k_10 : (10 : Int32).toInt = 10 := by decide
        have tx_10 : x_10.toInt = 10 * x0.toInt := by rw [ex_10, t_mul (by rw [k_10]; omega), k_10]
        refine lv_iadd hx hb dX8_learns_50 ?_
        refine lv_topi (fun x_11 ex_11 => ?_)
        have k_86 : (86 : Int32).toInt = 86 := by decide
        have tx_11 : x_11.toInt = (86 : Int32).toInt + x_10.toInt := by rw [ex_11]; exact t_add ⟨by omega, by omega⟩
        refine lv_iconst (v := 2) hx hb dX8_learns_51 (by decide) ?_
        refine lv_iload_n hx hb dX8_learns_52 rfl (lv_at hl 3 rfl) ?_
        refine lv_imul hx hb dX8_learns_53 ?_
        refine lv_topi (fun x_12 ex_12 => ?_)
        have k_2 : (2 : Int32).toInt = 2 := by decide
        have tx_12 : x_12.toInt = 2 * x2.toInt := by rw [ex_12, t_mul (by rw [k_2]; omega), k_2]
        refine lv_iadd hx hb dX8_learns_54 ?_
        refine lv_topi (fun x_13 ex_13 => ?_)
        have tx_13 : x_13.toInt = x_11.toInt + x_12.toInt := by rw [ex_13]; exact t_add ⟨by omega, by omega⟩
        refine lv_iload_n hx hb dX8_learns_55 rfl (lv_at hl 2 rfl) ?_
        refine lv_iadd hx hb dX8_learns_56 ?_
        refine lv_topi (fun x_14 ex_14 => ?_)
        have tx_14 : x_14.toInt = x_13.toInt + x1.toInt := by rw [ex_14]; exact t_add ⟨by omega, by omega⟩
        refine va_iald hx hb hK hP (1) 0 (wm_at (by decide) rc_1) rfl (vp_in_iff.mpr ⟨by omega, by omega⟩) dX8_learns_57 ?_
        refine lv_topi (fun x_15 ex_15 => ?_)
        refine lv_istore (lv' := [(5, .int x_15), (0, .ref (ad 0)), (1, .int x0), (2, .int x1), (3, .int x2), (4, .int x3)]) hx hb dX8_learns_58 hl (by decide) rfl (fun ls hl => ?_)
        refine lv_aload_n hx hb dX8_learns_60 rfl (lv_at hl 1 rfl) ?_
        refine va_get (D := (dC, dI)) (ci := 8) (v := .ref (ad 1)) (C := RX8) (T := TX8) (N := 11) hx hb hts iwX8_learns_X8 hown hK hP (0) (wm_at (by decide) rc_0) rfl 0 (by decide) (hts (.fieldLink RX8 7 "QuietStairsModel" "s" "[I") fwX8_learns_1) (fun _ h9 => h9) rfl dX8_learns_61 ?_
        refine lv_bipush (v := 86) hx hb dX8_learns_64 (by decide) ?_
        refine lv_bipush (v := 10) hx hb dX8_learns_66 (by decide) ?_
        refine lv_iload_n hx hb dX8_learns_68 rfl (lv_at hl 2 rfl) ?_
        refine lv_imul hx hb dX8_learns_69 ?_
        refine lv_topi (fun x_16 ex_16 => ?_)
        obtain rfl : x_10 = x_16 := ex_10.trans ex_16.symm
        refine lv_iadd hx hb dX8_learns_70 ?_
        refine lv_topi (fun x_17 ex_17 => ?_)
        obtain rfl : x_11 = x_17 := ex_11.trans ex_17.symm
        refine lv_iconst (v := 2) hx hb dX8_learns_71 (by decide) ?_
        refine lv_iload_n hx hb dX8_learns_72 rfl (lv_at hl 4 rfl) ?_
        refine lv_imul hx hb dX8_learns_73 ?_
        refine lv_topi (fun x_18 ex_18 => ?_)
        obtain rfl : x_12 = x_18 := ex_12.trans ex_18.symm
        refine lv_iadd hx hb dX8_learns_74 ?_
        refine lv_topi (fun x_19 ex_19 => ?_)
        obtain rfl : x_13 = x_19 := ex_13.trans ex_19.symm
        refine lv_iconst (v := 1) hx hb dX8_learns_75 (by decide) ?_
        refine lv_iadd hx hb dX8_learns_76 ?_
        refine lv_topi (fun x_20 ex_20 => ?_)
        have tx_20 : x_20.toInt = x_13.toInt + (1 : Int32).toInt := by rw [ex_20]; exact t_add ⟨by omega, by omega⟩
        refine lv_iload_n hx hb dX8_learns_77 rfl (lv_at hl 3 rfl) ?_
        refine lv_isub hx hb dX8_learns_78 ?_
        refine lv_topi (fun x_21 ex_21 => ?_)
        have tx_21 : x_21.toInt = x_20.toInt - x1.toInt := by rw [ex_21]; exact t_sub ⟨by omega, by omega⟩
        refine va_iald hx hb hK hP (1) 0 (wm_at (by decide) rc_1) rfl (vp_in_iff.mpr ⟨by omega, by omega⟩) dX8_learns_79 ?_
        refine lv_topi (fun x_22 ex_22 => ?_)
        refine lv_istore (lv' := [(6, .int x_22), (5, .int x_15), (0, .ref (ad 0)), (1, .int x0), (2, .int x1), (3, .int x2), (4, .int x3)]) hx hb dX8_learns_80 hl (by decide) rfl (fun ls hl => ?_)
        refine lv_iload_n hx hb dX8_learns_82 rfl (lv_at hl 4 rfl) ?_
        refine lv_if_ne (tgt := 91) hx hb dX8_learns_83 (by decide) (fun c_23 => ?_) (fun c_23 => ?_)
        · have tc_23 : x1.toInt ≠ (0 : Int32).toInt := fun q => absurd (Int32.toInt_inj.mp q) c_23
          refine lv_iload hx hb dX8_learns_91 (lv_at hl 0 rfl) ?_
          refine lv_istore (lv' := [(7, .int x_22), (6, .int x_22), (5, .int x_15), (0, .ref (ad 0)), (1, .int x0), (2, .int x1), (3, .int x2), (4, .int x3)]) hx hb dX8_learns_93 hl (by decide) rfl (fun ls hl => ?_)
          refine lv_iload_n hx hb dX8_learns_95 rfl (lv_at hl 5 rfl) ?_
          refine lv_if_ne (tgt := 104) hx hb dX8_learns_96 (by decide) (fun c_24 => ?_) (fun c_24 => ?_)
          · have tc_24 : x1.toInt ≠ (0 : Int32).toInt := fun q => absurd (Int32.toInt_inj.mp q) c_24
            refine lv_iload hx hb dX8_learns_104 (lv_at hl 2 rfl) ?_
            refine lv_istore (lv' := [(8, .int x_15), (7, .int x_22), (6, .int x_22), (5, .int x_15), (0, .ref (ad 0)), (1, .int x0), (2, .int x1), (3, .int x2), (4, .int x3)]) hx hb dX8_learns_106 hl (by decide) rfl (fun ls hl => ?_)
            refine lv_bipush (v := (-5)) hx hb dX8_learns_108 (by decide) ?_
            refine lv_istore (lv' := [(9, .int (-5)), (8, .int x_15), (7, .int x_22), (6, .int x_22), (5, .int x_15), (0, .ref (ad 0)), (1, .int x0), (2, .int x1), (3, .int x2), (4, .int x3)]) hx hb dX8_learns_110 hl (by decide) rfl (fun ls hl => ?_)
            refine lv_iconst (v := 0) hx hb dX8_learns_112 (by decide) ?_
            refine lv_istore (lv' := [(10, .int 0), (9, .int (-5)), (8, .int x_15), (7, .int x_22), (6, .int x_22), (5, .int x_15), (0, .ref (ad 0)), (1, .int x0), (2, .int x1), (3, .int x2), (4, .int x3)]) hx hb dX8_learns_113 hl (by decide) rfl (fun ls hl => ?_)
            have hc_25 : ∀ (n : Nat) (y25_10 y25_9 : Int32) (H : Heap) (locs : List Loc), 0 ≤ y25_10.toInt → y25_10.toInt ≤ 101 → (101 - y25_10.toInt).toNat < n → va_P (dC, dI) vwCl (wm ad cy v) H → va_D A (wm ad cy v) → va_S A s.heap H locs → ∀ ls : Array Slot, lv_has ls 14 [(10, .int y25_10), (9, .int y25_9), (8, .int x_15), (7, .int x_22), (6, .int x_22), (5, .int x_15), (0, .ref (ad 0)), (1, .int x0), (2, .int x1), (3, .int x2), (4, .int x3)] → W p l e (headSpec wsX8_learns ({ frames := 2, cells := 0, slots := 0, locals := 128 })).room s m [Value.ref (ad 0), Value.int x0, Value.int x1, Value.int x2, Value.int x3].toArray below meth c H locs 0 0 (MQ below (va_Qi (fun (r : Int32) (u : Nat → Nat → Int32) => Ir u ∧ u = v) (fun u t => ex_Pst dC dI A (wm ad cy u) t) A) [Value.ref (ad 0), Value.int x0, Value.int x1, Value.int x2, Value.int x3].toArray s 0 0 A) (F0 m 115 ls []) := by
              intro n
              induction n with
              | zero =>
                intro y25_10 y25_9 H locs ay25_10 by25_10 hm_25 hP hD hS ls hl
                exact absurd hm_25 (by omega)
              | succ n ih_25 =>
                intro y25_10 y25_9 H locs ay25_10 by25_10 hm_25 hP hD hS ls hl
                refine lv_iload hx hb dX8_learns_115 (lv_at hl 0 rfl) ?_
                refine lv_bipush (v := 100) hx hb dX8_learns_117 (by decide) ?_
                have k_100 : (100 : Int32).toInt = 100 := by decide
                refine lv_icmp_gt (tgt := 231) hx hb dX8_learns_119 (by decide) (fun c_26 => ?_) (fun c_26 => ?_)
                · have tc_26 : y25_10.toInt > (100 : Int32).toInt := Int32.lt_iff_toInt_lt.mp c_26
                  refine lv_iload hx hb dX8_learns_231 (lv_at hl 1 rfl) ?_
                  exact W.iret (v := y25_9) hx hb hr (fun t ht hW => ⟨⟨y25_9, v, rfl, ⟨hv, rfl⟩, by rw [ht]; exact hP, hD⟩, hS.F ht⟩) hS.2.2 dX8_learns_233
                · have tc_26 : y25_10.toInt ≤ (100 : Int32).toInt := Int32.le_iff_toInt_le.mp (Int32.not_lt.mp c_26)
                  refine lv_iload_n hx hb dX8_learns_122 rfl (lv_at hl 8 rfl) ?_
                  refine lv_if_ne (tgt := 131) hx hb dX8_learns_123 (by decide) (fun c_27 => ?_) (fun c_27 => ?_)
                  · have tc_27 : x1.toInt ≠ (0 : Int32).toInt := fun q => absurd (Int32.toInt_inj.mp q) c_27
                    refine lv_iload hx hb dX8_learns_131 (lv_at hl 0 rfl) ?_
                    refine lv_istore (lv' := [(11, .int y25_10), (10, .int y25_10), (9, .int y25_9), (8, .int x_15), (7, .int x_22), (6, .int x_22), (5, .int x_15), (0, .ref (ad 0)), (1, .int x0), (2, .int x1), (3, .int x2), (4, .int x3)]) hx hb dX8_learns_133 hl (by decide) rfl (fun ls hl => ?_)
                    refine lv_iload_n hx hb dX8_learns_135 rfl (lv_at hl 9 rfl) ?_
                    refine lv_if_ne (tgt := 144) hx hb dX8_learns_136 (by decide) (fun c_28 => ?_) (fun c_28 => ?_)
                    · have tc_28 : x1.toInt ≠ (0 : Int32).toInt := fun q => absurd (Int32.toInt_inj.mp q) c_28
                      refine lv_iload hx hb dX8_learns_144 (lv_at hl 6 rfl) ?_
                      refine lv_istore (lv' := [(12, .int x_15), (11, .int y25_10), (10, .int y25_10), (9, .int y25_9), (8, .int x_15), (7, .int x_22), (6, .int x_22), (5, .int x_15), (0, .ref (ad 0)), (1, .int x0), (2, .int x1), (3, .int x2), (4, .int x3)]) hx hb dX8_learns_146 hl (by decide) rfl (fun ls hl => ?_)
                      refine lv_iload hx hb dX8_learns_148 (lv_at hl 4 rfl) ?_
                      refine lv_iload hx hb dX8_learns_150 (lv_at hl 5 rfl) ?_
                      refine lv_icmp_ge (tgt := 170) hx hb dX8_learns_152 (by decide) (fun c_29 => ?_) (fun c_29 => ?_)
                      · have tc_29 : x_15.toInt ≥ x_22.toInt := Int32.le_iff_toInt_le.mp c_29
                        refine lv_iload hx hb dX8_learns_170 (lv_at hl 0 rfl) ?_
                        refine lv_iload hx hb dX8_learns_172 (lv_at hl 1 rfl) ?_
                        refine lv_icmp_lt (tgt := 198) hx hb dX8_learns_174 (by decide) (fun c_30 => ?_) (fun c_30 => ?_)
                        · have tc_30 : x_15.toInt < y25_10.toInt := Int32.lt_iff_toInt_lt.mp c_30
                          refine lv_iconst (v := 0) hx hb dX8_learns_198 (by decide) ?_
                          refine lv_istore (lv' := [(13, .int 0), (12, .int x_15), (11, .int y25_10), (10, .int y25_10), (9, .int y25_9), (8, .int x_15), (7, .int x_22), (6, .int x_22), (5, .int x_15), (0, .ref (ad 0)), (1, .int x0), (2, .int x1), (3, .int x2), (4, .int x3)]) hx hb dX8_learns_199 hl (by decide) rfl (fun ls hl => ?_)
                          refine lv_iload hx hb dX8_learns_201 (lv_at hl 0 rfl) ?_
                          refine lv_if_eq (tgt := 221) hx hb dX8_learns_203 (by decide) (fun _ => ?_) (fun c9 => absurd c9 (by decide))
                          refine lv_iload hx hb dX8_learns_221 (lv_at hl 4 rfl) ?_
                          refine lv_istore (lv' := [(9, .int y25_9), (13, .int 0), (12, .int x_15), (11, .int y25_10), (10, .int y25_10), (8, .int x_15), (7, .int x_22), (6, .int x_22), (5, .int x_15), (0, .ref (ad 0)), (1, .int x0), (2, .int x1), (3, .int x2), (4, .int x3)]) hx hb dX8_learns_223 hl (by decide) rfl (fun ls hl => ?_)
                          obtain ⟨x_31, ex_31⟩ : ∃ y : Int32, y = y25_10 + 1 := ⟨_, rfl⟩
                          refine lv_iinc (v := x_31) (lv' := [(10, .int x_31), (9, .int y25_9), (13, .int 0), (12, .int x_15), (11, .int y25_10), (8, .int x_15), (7, .int x_22), (6, .int x_22), (5, .int x_15), (0, .ref (ad 0)), (1, .int x0), (2, .int x1), (3, .int x2), (4, .int x3)]) hx hb dX8_learns_225 hl (k := 4) rfl (by rw [ex_31]; rfl) (by decide) rfl (fun ls hl => ?_)
                          have tx_31 : x_31.toInt = y25_10.toInt + (1 : Int32).toInt := by rw [ex_31]; exact t_add ⟨by omega, by omega⟩
                          refine lv_goto (tgt := 115) hx hb dX8_learns_228 (by decide) ?_
                          exact ih_25 x_31 y25_9 _ _ (by omega) (by omega) (by omega) hP hD hS ls (lv_sub hl [0, 1, 5, 6, 7, 8, 9, 10, 11, 12, 13] rfl)
                        · have tc_30 : x_15.toInt ≥ y25_10.toInt := Int32.le_iff_toInt_le.mp (Int32.not_lt.mp c_30)
                          refine lv_iload hx hb dX8_learns_177 (lv_at hl 1 rfl) ?_
                          refine lv_iload hx hb dX8_learns_179 (lv_at hl 0 rfl) ?_
                          refine lv_iadd hx hb dX8_learns_181 ?_
                          refine lv_topi (fun x_31 ex_31 => ?_)
                          refine lv_iconst (v := 2) hx hb dX8_learns_182 (by decide) ?_
                          refine lv_idiv hx hb dX8_learns_183 (by decide) ?_
                          refine lv_topi (fun x_32 ex_32 => ?_)
                          refine lv_iload hx hb dX8_learns_184 (lv_at hl 5 rfl) ?_
                          refine lv_iload hx hb dX8_learns_186 (lv_at hl 4 rfl) ?_
                          refine lv_iadd hx hb dX8_learns_188 ?_
                          refine lv_topi (fun x_33 ex_33 => ?_)
                          refine lv_iconst (v := 2) hx hb dX8_learns_189 (by decide) ?_
                          refine lv_idiv hx hb dX8_learns_190 (by decide) ?_
                          refine lv_topi (fun x_34 ex_34 => ?_)
                          refine lv_icmp_ne (tgt := 198) hx hb dX8_learns_191 (by decide) (fun c_35 => ?_) (fun c_35 => ?_)
                          · have tc_35 : x_32.toInt ≠ x_34.toInt := fun q => absurd (Int32.toInt_inj.mp q) c_35
                            refine lv_iconst (v := 0) hx hb dX8_learns_198 (by decide) ?_
                            refine lv_istore (lv' := [(13, .int 0), (12, .int x_15), (11, .int y25_10), (10, .int y25_10), (9, .int y25_9), (8, .int x_15), (7, .int x_22), (6, .int x_22), (5, .int x_15), (0, .ref (ad 0)), (1, .int x0), (2, .int x1), (3, .int x2), (4, .int x3)]) hx hb dX8_learns_199 hl (by decide) rfl (fun ls hl => ?_)
                            refine lv_iload hx hb dX8_learns_201 (lv_at hl 0 rfl) ?_
                            refine lv_if_eq (tgt := 221) hx hb dX8_learns_203 (by decide) (fun _ => ?_) (fun c9 => absurd c9 (by decide))
                            refine lv_iload hx hb dX8_learns_221 (lv_at hl 4 rfl) ?_
                            refine lv_istore (lv' := [(9, .int y25_9), (13, .int 0), (12, .int x_15), (11, .int y25_10), (10, .int y25_10), (8, .int x_15), (7, .int x_22), (6, .int x_22), (5, .int x_15), (0, .ref (ad 0)), (1, .int x0), (2, .int x1), (3, .int x2), (4, .int x3)]) hx hb dX8_learns_223 hl (by decide) rfl (fun ls hl => ?_)
                            obtain ⟨x_36, ex_36⟩ : ∃ y : Int32, y = y25_10 + 1 := ⟨_, rfl⟩
                            refine lv_iinc (v := x_36) (lv' := [(10, .int x_36), (9, .int y25_9), (13, .int 0), (12, .int x_15), (11, .int y25_10), (8, .int x_15), (7, .int x_22), (6, .int x_22), (5, .int x_15), (0, .ref (ad 0)), (1, .int x0), (2, .int x1), (3, .int x2), (4, .int x3)]) hx hb dX8_learns_225 hl (k := 4) rfl (by rw [ex_36]; rfl) (by decide) rfl (fun ls hl => ?_)
                            have tx_36 : x_36.toInt = y25_10.toInt + (1 : Int32).toInt := by rw [ex_36]; exact t_add ⟨by omega, by omega⟩
                            refine lv_goto (tgt := 115) hx hb dX8_learns_228 (by decide) ?_
                            exact ih_25 x_36 y25_9 _ _ (by omega) (by omega) (by omega) hP hD hS ls (lv_sub hl [0, 1, 5, 6, 7, 8, 9, 10, 11, 12, 13] rfl)
                          · have tc_35 : x_32.toInt = x_34.toInt := by rw [c_35]
                            refine lv_iconst (v := 1) hx hb dX8_learns_194 (by decide) ?_
                            refine lv_goto (tgt := 199) hx hb dX8_learns_195 (by decide) ?_
                            refine lv_istore (lv' := [(13, .int 1), (12, .int x_15), (11, .int y25_10), (10, .int y25_10), (9, .int y25_9), (8, .int x_15), (7, .int x_22), (6, .int x_22), (5, .int x_15), (0, .ref (ad 0)), (1, .int x0), (2, .int x1), (3, .int x2), (4, .int x3)]) hx hb dX8_learns_199 hl (by decide) rfl (fun ls hl => ?_)
                            refine lv_iload hx hb dX8_learns_201 (lv_at hl 0 rfl) ?_
                            refine lv_if_eq (tgt := 221) hx hb dX8_learns_203 (by decide) (fun c9 => absurd c9 (by decide)) (fun _ => ?_)
                            refine lv_iload hx hb dX8_learns_206 (lv_at hl 4 rfl) ?_
                            refine lv_if_lt (tgt := 216) hx hb dX8_learns_208 (by decide) (fun c_36 => ?_) (fun c_36 => ?_)
                            · have tc_36 : y25_9.toInt < (0 : Int32).toInt := Int32.lt_iff_toInt_lt.mp c_36
                              refine lv_iload hx hb dX8_learns_216 (lv_at hl 3 rfl) ?_
                              refine lv_goto (tgt := 223) hx hb dX8_learns_218 (by decide) ?_
                              refine lv_istore (lv' := [(9, .int y25_10), (13, .int 1), (12, .int x_15), (11, .int y25_10), (10, .int y25_10), (8, .int x_15), (7, .int x_22), (6, .int x_22), (5, .int x_15), (0, .ref (ad 0)), (1, .int x0), (2, .int x1), (3, .int x2), (4, .int x3)]) hx hb dX8_learns_223 hl (by decide) rfl (fun ls hl => ?_)
                              obtain ⟨x_37, ex_37⟩ : ∃ y : Int32, y = y25_10 + 1 := ⟨_, rfl⟩
                              refine lv_iinc (v := x_37) (lv' := [(10, .int x_37), (9, .int y25_10), (13, .int 1), (12, .int x_15), (11, .int y25_10), (8, .int x_15), (7, .int x_22), (6, .int x_22), (5, .int x_15), (0, .ref (ad 0)), (1, .int x0), (2, .int x1), (3, .int x2), (4, .int x3)]) hx hb dX8_learns_225 hl (k := 4) rfl (by rw [ex_37]; rfl) (by decide) rfl (fun ls hl => ?_)
                              have tx_37 : x_37.toInt = y25_10.toInt + (1 : Int32).toInt := by rw [ex_37]; exact t_add ⟨by omega, by omega⟩
                              refine lv_goto (tgt := 115) hx hb dX8_learns_228 (by decide) ?_
                              exact ih_25 x_37 y25_10 _ _ (by omega) (by omega) (by omega) hP hD hS ls (lv_sub hl [0, 1, 5, 6, 7, 8, 9, 10, 11, 12, 13] rfl)
                            · have tc_36 : y25_9.toInt ≥ (0 : Int32).toInt := Int32.le_iff_toInt_le.mp (Int32.not_lt.mp c_36)
                              refine lv_iload hx hb dX8_learns_211 (lv_at hl 13 rfl) ?_
                              refine lv_if_eq (tgt := 221) hx hb dX8_learns_213 (by decide) (fun c_37 => ?_) (fun c_37 => ?_)
                              · have tc_37 : x3.toInt = (0 : Int32).toInt := by rw [c_37]
                                refine lv_iload hx hb dX8_learns_221 (lv_at hl 4 rfl) ?_
                                refine lv_istore (lv' := [(9, .int y25_9), (13, .int 1), (12, .int x_15), (11, .int y25_10), (10, .int y25_10), (8, .int x_15), (7, .int x_22), (6, .int x_22), (5, .int x_15), (0, .ref (ad 0)), (1, .int x0), (2, .int x1), (3, .int x2), (4, .int x3)]) hx hb dX8_learns_223 hl (by decide) rfl (fun ls hl => ?_)
                                obtain ⟨x_38, ex_38⟩ : ∃ y : Int32, y = y25_10 + 1 := ⟨_, rfl⟩
                                refine lv_iinc (v := x_38) (lv' := [(10, .int x_38), (9, .int y25_9), (13, .int 1), (12, .int x_15), (11, .int y25_10), (8, .int x_15), (7, .int x_22), (6, .int x_22), (5, .int x_15), (0, .ref (ad 0)), (1, .int x0), (2, .int x1), (3, .int x2), (4, .int x3)]) hx hb dX8_learns_225 hl (k := 4) rfl (by rw [ex_38]; rfl) (by decide) rfl (fun ls hl => ?_)
                                have tx_38 : x_38.toInt = y25_10.toInt + (1 : Int32).toInt := by rw [ex_38]; exact t_add ⟨by omega, by omega⟩
                                refine lv_goto (tgt := 115) hx hb dX8_learns_228 (by decide) ?_
                                exact ih_25 x_38 y25_9 _ _ (by omega) (by omega) (by omega) hP hD hS ls (lv_sub hl [0, 1, 5, 6, 7, 8, 9, 10, 11, 12, 13] rfl)
                              · have tc_37 : x3.toInt ≠ (0 : Int32).toInt := fun q => absurd (Int32.toInt_inj.mp q) c_37
                                refine lv_iload hx hb dX8_learns_216 (lv_at hl 3 rfl) ?_
                                refine lv_goto (tgt := 223) hx hb dX8_learns_218 (by decide) ?_
                                refine lv_istore (lv' := [(9, .int y25_10), (13, .int 1), (12, .int x_15), (11, .int y25_10), (10, .int y25_10), (8, .int x_15), (7, .int x_22), (6, .int x_22), (5, .int x_15), (0, .ref (ad 0)), (1, .int x0), (2, .int x1), (3, .int x2), (4, .int x3)]) hx hb dX8_learns_223 hl (by decide) rfl (fun ls hl => ?_)
                                obtain ⟨x_38, ex_38⟩ : ∃ y : Int32, y = y25_10 + 1 := ⟨_, rfl⟩
                                refine lv_iinc (v := x_38) (lv' := [(10, .int x_38), (9, .int y25_10), (13, .int 1), (12, .int x_15), (11, .int y25_10), (8, .int x_15), (7, .int x_22), (6, .int x_22), (5, .int x_15), (0, .ref (ad 0)), (1, .int x0), (2, .int x1), (3, .int x2), (4, .int x3)]) hx hb dX8_learns_225 hl (k := 4) rfl (by rw [ex_38]; rfl) (by decide) rfl (fun ls hl => ?_)
                                have tx_38 : x_38.toInt = y25_10.toInt + (1 : Int32).toInt := by rw [ex_38]; exact t_add ⟨by omega, by omega⟩
                                refine lv_goto (tgt := 115) hx hb dX8_learns_228 (by decide) ?_
                                exact ih_25 x_38 y25_10 _ _ (by omega) (by omega) (by omega) hP hD hS ls (lv_sub hl [0, 1, 5, 6, 7, 8, 9, 10, 11, 12, 13] rfl)
                      · have tc_29 : x_15.toInt < x_22.toInt := Int32.lt_iff_toInt_lt.mp (Int32.not_le.mp c_29)
                        refine lv_iload hx hb dX8_learns_155 (lv_at hl 0 rfl) ?_
                        refine lv_iload hx hb dX8_learns_157 (lv_at hl 1 rfl) ?_
                        refine lv_icmp_ge (tgt := 166) hx hb dX8_learns_159 (by decide) (fun c_30 => ?_) (fun c_30 => ?_)
                        · have tc_30 : x_15.toInt ≥ y25_10.toInt := Int32.le_iff_toInt_le.mp c_30
                          refine lv_iconst (v := 0) hx hb dX8_learns_166 (by decide) ?_
                          refine lv_goto (tgt := 199) hx hb dX8_learns_167 (by decide) ?_
                          refine lv_istore (lv' := [(13, .int 0), (12, .int x_15), (11, .int y25_10), (10, .int y25_10), (9, .int y25_9), (8, .int x_15), (7, .int x_22), (6, .int x_22), (5, .int x_15), (0, .ref (ad 0)), (1, .int x0), (2, .int x1), (3, .int x2), (4, .int x3)]) hx hb dX8_learns_199 hl (by decide) rfl (fun ls hl => ?_)
                          refine lv_iload hx hb dX8_learns_201 (lv_at hl 0 rfl) ?_
                          refine lv_if_eq (tgt := 221) hx hb dX8_learns_203 (by decide) (fun _ => ?_) (fun c9 => absurd c9 (by decide))
                          refine lv_iload hx hb dX8_learns_221 (lv_at hl 4 rfl) ?_
                          refine lv_istore (lv' := [(9, .int y25_9), (13, .int 0), (12, .int x_15), (11, .int y25_10), (10, .int y25_10), (8, .int x_15), (7, .int x_22), (6, .int x_22), (5, .int x_15), (0, .ref (ad 0)), (1, .int x0), (2, .int x1), (3, .int x2), (4, .int x3)]) hx hb dX8_learns_223 hl (by decide) rfl (fun ls hl => ?_)
                          obtain ⟨x_31, ex_31⟩ : ∃ y : Int32, y = y25_10 + 1 := ⟨_, rfl⟩
                          refine lv_iinc (v := x_31) (lv' := [(10, .int x_31), (9, .int y25_9), (13, .int 0), (12, .int x_15), (11, .int y25_10), (8, .int x_15), (7, .int x_22), (6, .int x_22), (5, .int x_15), (0, .ref (ad 0)), (1, .int x0), (2, .int x1), (3, .int x2), (4, .int x3)]) hx hb dX8_learns_225 hl (k := 4) rfl (by rw [ex_31]; rfl) (by decide) rfl (fun ls hl => ?_)
                          have tx_31 : x_31.toInt = y25_10.toInt + (1 : Int32).toInt := by rw [ex_31]; exact t_add ⟨by omega, by omega⟩
                          refine lv_goto (tgt := 115) hx hb dX8_learns_228 (by decide) ?_
                          exact ih_25 x_31 y25_9 _ _ (by omega) (by omega) (by omega) hP hD hS ls (lv_sub hl [0, 1, 5, 6, 7, 8, 9, 10, 11, 12, 13] rfl)
                        · have tc_30 : x_15.toInt < y25_10.toInt := Int32.lt_iff_toInt_lt.mp (Int32.not_le.mp c_30)
                          refine lv_iconst (v := 1) hx hb dX8_learns_162 (by decide) ?_
                          refine lv_goto (tgt := 199) hx hb dX8_learns_163 (by decide) ?_
                          refine lv_istore (lv' := [(13, .int 1), (12, .int x_15), (11, .int y25_10), (10, .int y25_10), (9, .int y25_9), (8, .int x_15), (7, .int x_22), (6, .int x_22), (5, .int x_15), (0, .ref (ad 0)), (1, .int x0), (2, .int x1), (3, .int x2), (4, .int x3)]) hx hb dX8_learns_199 hl (by decide) rfl (fun ls hl => ?_)
                          refine lv_iload hx hb dX8_learns_201 (lv_at hl 0 rfl) ?_
                          refine lv_if_eq (tgt := 221) hx hb dX8_learns_203 (by decide) (fun c9 => absurd c9 (by decide)) (fun _ => ?_)
                          refine lv_iload hx hb dX8_learns_206 (lv_at hl 4 rfl) ?_
                          refine lv_if_lt (tgt := 216) hx hb dX8_learns_208 (by decide) (fun c_31 => ?_) (fun c_31 => ?_)
                          · have tc_31 : y25_9.toInt < (0 : Int32).toInt := Int32.lt_iff_toInt_lt.mp c_31
                            refine lv_iload hx hb dX8_learns_216 (lv_at hl 3 rfl) ?_
                            refine lv_goto (tgt := 223) hx hb dX8_learns_218 (by decide) ?_
                            refine lv_istore (lv' := [(9, .int y25_10), (13, .int 1), (12, .int x_15), (11, .int y25_10), (10, .int y25_10), (8, .int x_15), (7, .int x_22), (6, .int x_22), (5, .int x_15), (0, .ref (ad 0)), (1, .int x0), (2, .int x1), (3, .int x2), (4, .int x3)]) hx hb dX8_learns_223 hl (by decide) rfl (fun ls hl => ?_)
                            obtain ⟨x_32, ex_32⟩ : ∃ y : Int32, y = y25_10 + 1 := ⟨_, rfl⟩
                            refine lv_iinc (v := x_32) (lv' := [(10, .int x_32), (9, .int y25_10), (13, .int 1), (12, .int x_15), (11, .int y25_10), (8, .int x_15), (7, .int x_22), (6, .int x_22), (5, .int x_15), (0, .ref (ad 0)), (1, .int x0), (2, .int x1), (3, .int x2), (4, .int x3)]) hx hb dX8_learns_225 hl (k := 4) rfl (by rw [ex_32]; rfl) (by decide) rfl (fun ls hl => ?_)
                            have tx_32 : x_32.toInt = y25_10.toInt + (1 : Int32).toInt := by rw [ex_32]; exact t_add ⟨by omega, by omega⟩
                            refine lv_goto (tgt := 115) hx hb dX8_learns_228 (by decide) ?_
                            exact ih_25 x_32 y25_10 _ _ (by omega) (by omega) (by omega) hP hD hS ls (lv_sub hl [0, 1, 5, 6, 7, 8, 9, 10, 11, 12, 13] rfl)
                          · have tc_31 : y25_9.toInt ≥ (0 : Int32).toInt := Int32.le_iff_toInt_le.mp (Int32.not_lt.mp c_31)
                            refine lv_iload hx hb dX8_learns_211 (lv_at hl 13 rfl) ?_
                            refine lv_if_eq (tgt := 221) hx hb dX8_learns_213 (by decide) (fun c_32 => ?_) (fun c_32 => ?_)
                            · have tc_32 : x3.toInt = (0 : Int32).toInt := by rw [c_32]
                              refine lv_iload hx hb dX8_learns_221 (lv_at hl 4 rfl) ?_
                              refine lv_istore (lv' := [(9, .int y25_9), (13, .int 1), (12, .int x_15), (11, .int y25_10), (10, .int y25_10), (8, .int x_15), (7, .int x_22), (6, .int x_22), (5, .int x_15), (0, .ref (ad 0)), (1, .int x0), (2, .int x1), (3, .int x2), (4, .int x3)]) hx hb dX8_learns_223 hl (by decide) rfl (fun ls hl => ?_)
                              obtain ⟨x_33, ex_33⟩ : ∃ y : Int32, y = y25_10 + 1 := ⟨_, rfl⟩
                              refine lv_iinc (v := x_33) (lv' := [(10, .int x_33), (9, .int y25_9), (13, .int 1), (12, .int x_15), (11, .int y25_10), (8, .int x_15), (7, .int x_22), (6, .int x_22), (5, .int x_15), (0, .ref (ad 0)), (1, .int x0), (2, .int x1), (3, .int x2), (4, .int x3)]) hx hb dX8_learns_225 hl (k := 4) rfl (by rw [ex_33]; rfl) (by decide) rfl (fun ls hl => ?_)
                              have tx_33 : x_33.toInt = y25_10.toInt + (1 : Int32).toInt := by rw [ex_33]; exact t_add ⟨by omega, by omega⟩
                              refine lv_goto (tgt := 115) hx hb dX8_learns_228 (by decide) ?_
                              exact ih_25 x_33 y25_9 _ _ (by omega) (by omega) (by omega) hP hD hS ls (lv_sub hl [0, 1, 5, 6, 7, 8, 9, 10, 11, 12, 13] rfl)
                            · have tc_32 : x3.toInt ≠ (0 : Int32).toInt := fun q => absurd (Int32.toInt_inj.mp q) c_32
                              refine lv_iload hx hb dX8_learns_216 (lv_at hl 3 rfl) ?_
                              refine lv_goto (tgt := 223) hx hb dX8_learns_218 (by decide) ?_
                              refine lv_istore (lv' := [(9, .int y25_10), (13, .int 1), (12, .int x_15), (11, .int y25_10), (10, .int y25_10), (8, .int x_15), (7, .int x_22), (6, .int x_22), (5, .int x_15), (0, .ref (ad 0)), (1, .int x0), (2, .int x1), (3, .int x2), (4, .int x3)]) hx hb dX8_learns_223 hl (by decide) rfl (fun ls hl => ?_)
                              obtain ⟨x_33, ex_33⟩ : ∃ y : Int32, y = y25_10 + 1 := ⟨_, rfl⟩
                              refine lv_iinc (v := x_33) (lv' := [(10, .int x_33), (9, .int y25_10), (13, .int 1), (12, .int x_15), (11, .int y25_10), (8, .int x_15), (7, .int x_22), (6, .int x_22), (5, .int x_15), (0, .ref (ad 0)), (1, .int x0), (2, .int x1), (3, .int x2), (4, .int x3)]) hx hb dX8_learns_225 hl (k := 4) rfl (by rw [ex_33]; rfl) (by decide) rfl (fun ls hl => ?_)
                              have tx_33 : x_33.toInt = y25_10.toInt + (1 : Int32).toInt := by rw [ex_33]; exact t_add ⟨by omega, by omega⟩
                              refine lv_goto (tgt := 115) hx hb dX8_learns_228 (by decide) ?_
                              exact ih_25 x_33 y25_10 _ _ (by omega) (by omega) (by omega) hP hD hS ls (lv_sub hl [0, 1, 5, 6, 7, 8, 9, 10, 11, 12, 13] rfl)
                    · have tc_28 : x1.toInt = (0 : Int32).toInt := by rw [c_28]
                      exfalso
                      omega
                  · have tc_27 : x1.toInt = (0 : Int32).toInt := by rw [c_27]
                    exfalso
                    omega
            have k_m5 : ((-5) : Int32).toInt = -5 := by decide
            exact hc_25 ((101 - (0 : Int32).toInt).toNat + 1) 0 (-5) _ _ (by omega) (by omega) (by omega) hP hD hS ls (lv_sub hl [0, 1, 2, 3, 4, 5, 6, 7, 8, 9, 10] rfl)
          · have tc_24 : x1.toInt = (0 : Int32).toInt := by rw [c_24]
            exfalso
            omega
        · have tc_23 : x1.toInt = (0 : Int32).toInt := by rw [c_23]
          refine lv_iload hx hb dX8_learns_86 (lv_at hl 1 rfl) ?_
          refine lv_goto (tgt := 93) hx hb dX8_learns_88 (by decide) ?_
          refine lv_istore (lv' := [(7, .int x_15), (6, .int x_22), (5, .int x_15), (0, .ref (ad 0)), (1, .int x0), (2, .int x1), (3, .int x2), (4, .int x3)]) hx hb dX8_learns_93 hl (by decide) rfl (fun ls hl => ?_)
          refine lv_iload_n hx hb dX8_learns_95 rfl (lv_at hl 5 rfl) ?_
          refine lv_if_ne (tgt := 104) hx hb dX8_learns_96 (by decide) (fun c_24 => ?_) (fun c_24 => ?_)
          · have tc_24 : x1.toInt ≠ (0 : Int32).toInt := fun q => absurd (Int32.toInt_inj.mp q) c_24
            exfalso
            omega
          · have tc_24 : x1.toInt = (0 : Int32).toInt := by rw [c_24]
            refine lv_iload hx hb dX8_learns_99 (lv_at hl 1 rfl) ?_
            refine lv_goto (tgt := 106) hx hb dX8_learns_101 (by decide) ?_
            refine lv_istore (lv' := [(8, .int x_22), (7, .int x_15), (6, .int x_22), (5, .int x_15), (0, .ref (ad 0)), (1, .int x0), (2, .int x1), (3, .int x2), (4, .int x3)]) hx hb dX8_learns_106 hl (by decide) rfl (fun ls hl => ?_)
            refine lv_bipush (v := (-5)) hx hb dX8_learns_108 (by decide) ?_
            refine lv_istore (lv' := [(9, .int (-5)), (8, .int x_22), (7, .int x_15), (6, .int x_22), (5, .int x_15), (0, .ref (ad 0)), (1, .int x0), (2, .int x1), (3, .int x2), (4, .int x3)]) hx hb dX8_learns_110 hl (by decide) rfl (fun ls hl => ?_)
            refine lv_iconst (v := 0) hx hb dX8_learns_112 (by decide) ?_
            refine lv_istore (lv' := [(10, .int 0), (9, .int (-5)), (8, .int x_22), (7, .int x_15), (6, .int x_22), (5, .int x_15), (0, .ref (ad 0)), (1, .int x0), (2, .int x1), (3, .int x2), (4, .int x3)]) hx hb dX8_learns_113 hl (by decide) rfl (fun ls hl => ?_)
            have hc_25 : ∀ (n : Nat) (y25_10 y25_9 : Int32) (H : Heap) (locs : List Loc), 0 ≤ y25_10.toInt → y25_10.toInt ≤ 101 → (101 - y25_10.toInt).toNat < n → va_P (dC, dI) vwCl (wm ad cy v) H → va_D A (wm ad cy v) → va_S A s.heap H locs → ∀ ls : Array Slot, lv_has ls 14 [(10, .int y25_10), (9, .int y25_9), (8, .int x_22), (7, .int x_15), (6, .int x_22), (5, .int x_15), (0, .ref (ad 0)), (1, .int x0), (2, .int x1), (3, .int x2), (4, .int x3)] → W p l e (headSpec wsX8_learns ({ frames := 2, cells := 0, slots := 0, locals := 128 })).room s m [Value.ref (ad 0), Value.int x0, Value.int x1, Value.int x2, Value.int x3].toArray below meth c H locs 0 0 (MQ below (va_Qi (fun (r : Int32) (u : Nat → Nat → Int32) => Ir u ∧ u = v) (fun u t => ex_Pst dC dI A (wm ad cy u) t) A) [Value.ref (ad 0), Value.int x0, Value.int x1, Value.int x2, Value.int x3].toArray s 0 0 A) (F0 m 115 ls []) := by
              intro n
              induction n with
              | zero =>
                intro y25_10 y25_9 H locs ay25_10 by25_10 hm_25 hP hD hS ls hl
                exact absurd hm_25 (by omega)
              | succ n ih_25 =>
                intro y25_10 y25_9 H locs ay25_10 by25_10 hm_25 hP hD hS ls hl
                refine lv_iload hx hb dX8_learns_115 (lv_at hl 0 rfl) ?_
                refine lv_bipush (v := 100) hx hb dX8_learns_117 (by decide) ?_
                have k_100 : (100 : Int32).toInt = 100 := by decide
                refine lv_icmp_gt (tgt := 231) hx hb dX8_learns_119 (by decide) (fun c_26 => ?_) (fun c_26 => ?_)
                · have tc_26 : y25_10.toInt > (100 : Int32).toInt := Int32.lt_iff_toInt_lt.mp c_26
                  refine lv_iload hx hb dX8_learns_231 (lv_at hl 1 rfl) ?_
                  exact W.iret (v := y25_9) hx hb hr (fun t ht hW => ⟨⟨y25_9, v, rfl, ⟨hv, rfl⟩, by rw [ht]; exact hP, hD⟩, hS.F ht⟩) hS.2.2 dX8_learns_233
                · have tc_26 : y25_10.toInt ≤ (100 : Int32).toInt := Int32.le_iff_toInt_le.mp (Int32.not_lt.mp c_26)
                  refine lv_iload_n hx hb dX8_learns_122 rfl (lv_at hl 8 rfl) ?_
                  refine lv_if_ne (tgt := 131) hx hb dX8_learns_123 (by decide) (fun c_27 => ?_) (fun c_27 => ?_)
                  · have tc_27 : x1.toInt ≠ (0 : Int32).toInt := fun q => absurd (Int32.toInt_inj.mp q) c_27
                    exfalso
                    omega
                  · have tc_27 : x1.toInt = (0 : Int32).toInt := by rw [c_27]
                    refine lv_iload hx hb dX8_learns_126 (lv_at hl 5 rfl) ?_
                    refine lv_goto (tgt := 133) hx hb dX8_learns_128 (by decide) ?_
                    refine lv_istore (lv' := [(11, .int x_15), (10, .int y25_10), (9, .int y25_9), (8, .int x_22), (7, .int x_15), (6, .int x_22), (5, .int x_15), (0, .ref (ad 0)), (1, .int x0), (2, .int x1), (3, .int x2), (4, .int x3)]) hx hb dX8_learns_133 hl (by decide) rfl (fun ls hl => ?_)
                    refine lv_iload_n hx hb dX8_learns_135 rfl (lv_at hl 9 rfl) ?_
                    refine lv_if_ne (tgt := 144) hx hb dX8_learns_136 (by decide) (fun c_28 => ?_) (fun c_28 => ?_)
                    · have tc_28 : x1.toInt ≠ (0 : Int32).toInt := fun q => absurd (Int32.toInt_inj.mp q) c_28
                      exfalso
                      omega
                    · have tc_28 : x1.toInt = (0 : Int32).toInt := by rw [c_28]
                      refine lv_iload hx hb dX8_learns_139 (lv_at hl 1 rfl) ?_
                      refine lv_goto (tgt := 146) hx hb dX8_learns_141 (by decide) ?_
                      refine lv_istore (lv' := [(12, .int y25_10), (11, .int x_15), (10, .int y25_10), (9, .int y25_9), (8, .int x_22), (7, .int x_15), (6, .int x_22), (5, .int x_15), (0, .ref (ad 0)), (1, .int x0), (2, .int x1), (3, .int x2), (4, .int x3)]) hx hb dX8_learns_146 hl (by decide) rfl (fun ls hl => ?_)
                      refine lv_iload hx hb dX8_learns_148 (lv_at hl 4 rfl) ?_
                      refine lv_iload hx hb dX8_learns_150 (lv_at hl 5 rfl) ?_
                      refine lv_icmp_ge (tgt := 170) hx hb dX8_learns_152 (by decide) (fun c_29 => ?_) (fun c_29 => ?_)
                      · have tc_29 : x_22.toInt ≥ x_15.toInt := Int32.le_iff_toInt_le.mp c_29
                        refine lv_iload hx hb dX8_learns_170 (lv_at hl 0 rfl) ?_
                        refine lv_iload hx hb dX8_learns_172 (lv_at hl 1 rfl) ?_
                        refine lv_icmp_lt (tgt := 198) hx hb dX8_learns_174 (by decide) (fun c_30 => ?_) (fun c_30 => ?_)
                        · have tc_30 : y25_10.toInt < x_15.toInt := Int32.lt_iff_toInt_lt.mp c_30
                          refine lv_iconst (v := 0) hx hb dX8_learns_198 (by decide) ?_
                          refine lv_istore (lv' := [(13, .int 0), (12, .int y25_10), (11, .int x_15), (10, .int y25_10), (9, .int y25_9), (8, .int x_22), (7, .int x_15), (6, .int x_22), (5, .int x_15), (0, .ref (ad 0)), (1, .int x0), (2, .int x1), (3, .int x2), (4, .int x3)]) hx hb dX8_learns_199 hl (by decide) rfl (fun ls hl => ?_)
                          refine lv_iload hx hb dX8_learns_201 (lv_at hl 0 rfl) ?_
                          refine lv_if_eq (tgt := 221) hx hb dX8_learns_203 (by decide) (fun _ => ?_) (fun c9 => absurd c9 (by decide))
                          refine lv_iload hx hb dX8_learns_221 (lv_at hl 4 rfl) ?_
                          refine lv_istore (lv' := [(9, .int y25_9), (13, .int 0), (12, .int y25_10), (11, .int x_15), (10, .int y25_10), (8, .int x_22), (7, .int x_15), (6, .int x_22), (5, .int x_15), (0, .ref (ad 0)), (1, .int x0), (2, .int x1), (3, .int x2), (4, .int x3)]) hx hb dX8_learns_223 hl (by decide) rfl (fun ls hl => ?_)
                          obtain ⟨x_31, ex_31⟩ : ∃ y : Int32, y = y25_10 + 1 := ⟨_, rfl⟩
                          refine lv_iinc (v := x_31) (lv' := [(10, .int x_31), (9, .int y25_9), (13, .int 0), (12, .int y25_10), (11, .int x_15), (8, .int x_22), (7, .int x_15), (6, .int x_22), (5, .int x_15), (0, .ref (ad 0)), (1, .int x0), (2, .int x1), (3, .int x2), (4, .int x3)]) hx hb dX8_learns_225 hl (k := 4) rfl (by rw [ex_31]; rfl) (by decide) rfl (fun ls hl => ?_)
                          have tx_31 : x_31.toInt = y25_10.toInt + (1 : Int32).toInt := by rw [ex_31]; exact t_add ⟨by omega, by omega⟩
                          refine lv_goto (tgt := 115) hx hb dX8_learns_228 (by decide) ?_
                          exact ih_25 x_31 y25_9 _ _ (by omega) (by omega) (by omega) hP hD hS ls (lv_sub hl [0, 1, 5, 6, 7, 8, 9, 10, 11, 12, 13] rfl)
                        · have tc_30 : y25_10.toInt ≥ x_15.toInt := Int32.le_iff_toInt_le.mp (Int32.not_lt.mp c_30)
                          refine lv_iload hx hb dX8_learns_177 (lv_at hl 1 rfl) ?_
                          refine lv_iload hx hb dX8_learns_179 (lv_at hl 0 rfl) ?_
                          refine lv_iadd hx hb dX8_learns_181 ?_
                          refine lv_topi (fun x_31 ex_31 => ?_)
                          refine lv_iconst (v := 2) hx hb dX8_learns_182 (by decide) ?_
                          refine lv_idiv hx hb dX8_learns_183 (by decide) ?_
                          refine lv_topi (fun x_32 ex_32 => ?_)
                          refine lv_iload hx hb dX8_learns_184 (lv_at hl 5 rfl) ?_
                          refine lv_iload hx hb dX8_learns_186 (lv_at hl 4 rfl) ?_
                          refine lv_iadd hx hb dX8_learns_188 ?_
                          refine lv_topi (fun x_33 ex_33 => ?_)
                          refine lv_iconst (v := 2) hx hb dX8_learns_189 (by decide) ?_
                          refine lv_idiv hx hb dX8_learns_190 (by decide) ?_
                          refine lv_topi (fun x_34 ex_34 => ?_)
                          refine lv_icmp_ne (tgt := 198) hx hb dX8_learns_191 (by decide) (fun c_35 => ?_) (fun c_35 => ?_)
                          · have tc_35 : x_32.toInt ≠ x_34.toInt := fun q => absurd (Int32.toInt_inj.mp q) c_35
                            refine lv_iconst (v := 0) hx hb dX8_learns_198 (by decide) ?_
                            refine lv_istore (lv' := [(13, .int 0), (12, .int y25_10), (11, .int x_15), (10, .int y25_10), (9, .int y25_9), (8, .int x_22), (7, .int x_15), (6, .int x_22), (5, .int x_15), (0, .ref (ad 0)), (1, .int x0), (2, .int x1), (3, .int x2), (4, .int x3)]) hx hb dX8_learns_199 hl (by decide) rfl (fun ls hl => ?_)
                            refine lv_iload hx hb dX8_learns_201 (lv_at hl 0 rfl) ?_
                            refine lv_if_eq (tgt := 221) hx hb dX8_learns_203 (by decide) (fun _ => ?_) (fun c9 => absurd c9 (by decide))
                            refine lv_iload hx hb dX8_learns_221 (lv_at hl 4 rfl) ?_
                            refine lv_istore (lv' := [(9, .int y25_9), (13, .int 0), (12, .int y25_10), (11, .int x_15), (10, .int y25_10), (8, .int x_22), (7, .int x_15), (6, .int x_22), (5, .int x_15), (0, .ref (ad 0)), (1, .int x0), (2, .int x1), (3, .int x2), (4, .int x3)]) hx hb dX8_learns_223 hl (by decide) rfl (fun ls hl => ?_)
                            obtain ⟨x_36, ex_36⟩ : ∃ y : Int32, y = y25_10 + 1 := ⟨_, rfl⟩
                            refine lv_iinc (v := x_36) (lv' := [(10, .int x_36), (9, .int y25_9), (13, .int 0), (12, .int y25_10), (11, .int x_15), (8, .int x_22), (7, .int x_15), (6, .int x_22), (5, .int x_15), (0, .ref (ad 0)), (1, .int x0), (2, .int x1), (3, .int x2), (4, .int x3)]) hx hb dX8_learns_225 hl (k := 4) rfl (by rw [ex_36]; rfl) (by decide) rfl (fun ls hl => ?_)
                            have tx_36 : x_36.toInt = y25_10.toInt + (1 : Int32).toInt := by rw [ex_36]; exact t_add ⟨by omega, by omega⟩
                            refine lv_goto (tgt := 115) hx hb dX8_learns_228 (by decide) ?_
                            exact ih_25 x_36 y25_9 _ _ (by omega) (by omega) (by omega) hP hD hS ls (lv_sub hl [0, 1, 5, 6, 7, 8, 9, 10, 11, 12, 13] rfl)
                          · have tc_35 : x_32.toInt = x_34.toInt := by rw [c_35]
                            refine lv_iconst (v := 1) hx hb dX8_learns_194 (by decide) ?_
                            refine lv_goto (tgt := 199) hx hb dX8_learns_195 (by decide) ?_
                            refine lv_istore (lv' := [(13, .int 1), (12, .int y25_10), (11, .int x_15), (10, .int y25_10), (9, .int y25_9), (8, .int x_22), (7, .int x_15), (6, .int x_22), (5, .int x_15), (0, .ref (ad 0)), (1, .int x0), (2, .int x1), (3, .int x2), (4, .int x3)]) hx hb dX8_learns_199 hl (by decide) rfl (fun ls hl => ?_)
                            refine lv_iload hx hb dX8_learns_201 (lv_at hl 0 rfl) ?_
                            refine lv_if_eq (tgt := 221) hx hb dX8_learns_203 (by decide) (fun c9 => absurd c9 (by decide)) (fun _ => ?_)
                            refine lv_iload hx hb dX8_learns_206 (lv_at hl 4 rfl) ?_
                            refine lv_if_lt (tgt := 216) hx hb dX8_learns_208 (by decide) (fun c_36 => ?_) (fun c_36 => ?_)
                            · have tc_36 : y25_9.toInt < (0 : Int32).toInt := Int32.lt_iff_toInt_lt.mp c_36
                              refine lv_iload hx hb dX8_learns_216 (lv_at hl 3 rfl) ?_
                              refine lv_goto (tgt := 223) hx hb dX8_learns_218 (by decide) ?_
                              refine lv_istore (lv' := [(9, .int y25_10), (13, .int 1), (12, .int y25_10), (11, .int x_15), (10, .int y25_10), (8, .int x_22), (7, .int x_15), (6, .int x_22), (5, .int x_15), (0, .ref (ad 0)), (1, .int x0), (2, .int x1), (3, .int x2), (4, .int x3)]) hx hb dX8_learns_223 hl (by decide) rfl (fun ls hl => ?_)
                              obtain ⟨x_37, ex_37⟩ : ∃ y : Int32, y = y25_10 + 1 := ⟨_, rfl⟩
                              refine lv_iinc (v := x_37) (lv' := [(10, .int x_37), (9, .int y25_10), (13, .int 1), (12, .int y25_10), (11, .int x_15), (8, .int x_22), (7, .int x_15), (6, .int x_22), (5, .int x_15), (0, .ref (ad 0)), (1, .int x0), (2, .int x1), (3, .int x2), (4, .int x3)]) hx hb dX8_learns_225 hl (k := 4) rfl (by rw [ex_37]; rfl) (by decide) rfl (fun ls hl => ?_)
                              have tx_37 : x_37.toInt = y25_10.toInt + (1 : Int32).toInt := by rw [ex_37]; exact t_add ⟨by omega, by omega⟩
                              refine lv_goto (tgt := 115) hx hb dX8_learns_228 (by decide) ?_
                              exact ih_25 x_37 y25_10 _ _ (by omega) (by omega) (by omega) hP hD hS ls (lv_sub hl [0, 1, 5, 6, 7, 8, 9, 10, 11, 12, 13] rfl)
                            · have tc_36 : y25_9.toInt ≥ (0 : Int32).toInt := Int32.le_iff_toInt_le.mp (Int32.not_lt.mp c_36)
                              refine lv_iload hx hb dX8_learns_211 (lv_at hl 13 rfl) ?_
                              refine lv_if_eq (tgt := 221) hx hb dX8_learns_213 (by decide) (fun c_37 => ?_) (fun c_37 => ?_)
                              · have tc_37 : x3.toInt = (0 : Int32).toInt := by rw [c_37]
                                refine lv_iload hx hb dX8_learns_221 (lv_at hl 4 rfl) ?_
                                refine lv_istore (lv' := [(9, .int y25_9), (13, .int 1), (12, .int y25_10), (11, .int x_15), (10, .int y25_10), (8, .int x_22), (7, .int x_15), (6, .int x_22), (5, .int x_15), (0, .ref (ad 0)), (1, .int x0), (2, .int x1), (3, .int x2), (4, .int x3)]) hx hb dX8_learns_223 hl (by decide) rfl (fun ls hl => ?_)
                                obtain ⟨x_38, ex_38⟩ : ∃ y : Int32, y = y25_10 + 1 := ⟨_, rfl⟩
                                refine lv_iinc (v := x_38) (lv' := [(10, .int x_38), (9, .int y25_9), (13, .int 1), (12, .int y25_10), (11, .int x_15), (8, .int x_22), (7, .int x_15), (6, .int x_22), (5, .int x_15), (0, .ref (ad 0)), (1, .int x0), (2, .int x1), (3, .int x2), (4, .int x3)]) hx hb dX8_learns_225 hl (k := 4) rfl (by rw [ex_38]; rfl) (by decide) rfl (fun ls hl => ?_)
                                have tx_38 : x_38.toInt = y25_10.toInt + (1 : Int32).toInt := by rw [ex_38]; exact t_add ⟨by omega, by omega⟩
                                refine lv_goto (tgt := 115) hx hb dX8_learns_228 (by decide) ?_
                                exact ih_25 x_38 y25_9 _ _ (by omega) (by omega) (by omega) hP hD hS ls (lv_sub hl [0, 1, 5, 6, 7, 8, 9, 10, 11, 12, 13] rfl)
                              · have tc_37 : x3.toInt ≠ (0 : Int32).toInt := fun q => absurd (Int32.toInt_inj.mp q) c_37
                                refine lv_iload hx hb dX8_learns_216 (lv_at hl 3 rfl) ?_
                                refine lv_goto (tgt := 223) hx hb dX8_learns_218 (by decide) ?_
                                refine lv_istore (lv' := [(9, .int y25_10), (13, .int 1), (12, .int y25_10), (11, .int x_15), (10, .int y25_10), (8, .int x_22), (7, .int x_15), (6, .int x_22), (5, .int x_15), (0, .ref (ad 0)), (1, .int x0), (2, .int x1), (3, .int x2), (4, .int x3)]) hx hb dX8_learns_223 hl (by decide) rfl (fun ls hl => ?_)
                                obtain ⟨x_38, ex_38⟩ : ∃ y : Int32, y = y25_10 + 1 := ⟨_, rfl⟩
                                refine lv_iinc (v := x_38) (lv' := [(10, .int x_38), (9, .int y25_10), (13, .int 1), (12, .int y25_10), (11, .int x_15), (8, .int x_22), (7, .int x_15), (6, .int x_22), (5, .int x_15), (0, .ref (ad 0)), (1, .int x0), (2, .int x1), (3, .int x2), (4, .int x3)]) hx hb dX8_learns_225 hl (k := 4) rfl (by rw [ex_38]; rfl) (by decide) rfl (fun ls hl => ?_)
                                have tx_38 : x_38.toInt = y25_10.toInt + (1 : Int32).toInt := by rw [ex_38]; exact t_add ⟨by omega, by omega⟩
                                refine lv_goto (tgt := 115) hx hb dX8_learns_228 (by decide) ?_
                                exact ih_25 x_38 y25_10 _ _ (by omega) (by omega) (by omega) hP hD hS ls (lv_sub hl [0, 1, 5, 6, 7, 8, 9, 10, 11, 12, 13] rfl)
                      · have tc_29 : x_22.toInt < x_15.toInt := Int32.lt_iff_toInt_lt.mp (Int32.not_le.mp c_29)
                        refine lv_iload hx hb dX8_learns_155 (lv_at hl 0 rfl) ?_
                        refine lv_iload hx hb dX8_learns_157 (lv_at hl 1 rfl) ?_
                        refine lv_icmp_ge (tgt := 166) hx hb dX8_learns_159 (by decide) (fun c_30 => ?_) (fun c_30 => ?_)
                        · have tc_30 : y25_10.toInt ≥ x_15.toInt := Int32.le_iff_toInt_le.mp c_30
                          refine lv_iconst (v := 0) hx hb dX8_learns_166 (by decide) ?_
                          refine lv_goto (tgt := 199) hx hb dX8_learns_167 (by decide) ?_
                          refine lv_istore (lv' := [(13, .int 0), (12, .int y25_10), (11, .int x_15), (10, .int y25_10), (9, .int y25_9), (8, .int x_22), (7, .int x_15), (6, .int x_22), (5, .int x_15), (0, .ref (ad 0)), (1, .int x0), (2, .int x1), (3, .int x2), (4, .int x3)]) hx hb dX8_learns_199 hl (by decide) rfl (fun ls hl => ?_)
                          refine lv_iload hx hb dX8_learns_201 (lv_at hl 0 rfl) ?_
                          refine lv_if_eq (tgt := 221) hx hb dX8_learns_203 (by decide) (fun _ => ?_) (fun c9 => absurd c9 (by decide))
                          refine lv_iload hx hb dX8_learns_221 (lv_at hl 4 rfl) ?_
                          refine lv_istore (lv' := [(9, .int y25_9), (13, .int 0), (12, .int y25_10), (11, .int x_15), (10, .int y25_10), (8, .int x_22), (7, .int x_15), (6, .int x_22), (5, .int x_15), (0, .ref (ad 0)), (1, .int x0), (2, .int x1), (3, .int x2), (4, .int x3)]) hx hb dX8_learns_223 hl (by decide) rfl (fun ls hl => ?_)
                          obtain ⟨x_31, ex_31⟩ : ∃ y : Int32, y = y25_10 + 1 := ⟨_, rfl⟩
                          refine lv_iinc (v := x_31) (lv' := [(10, .int x_31), (9, .int y25_9), (13, .int 0), (12, .int y25_10), (11, .int x_15), (8, .int x_22), (7, .int x_15), (6, .int x_22), (5, .int x_15), (0, .ref (ad 0)), (1, .int x0), (2, .int x1), (3, .int x2), (4, .int x3)]) hx hb dX8_learns_225 hl (k := 4) rfl (by rw [ex_31]; rfl) (by decide) rfl (fun ls hl => ?_)
                          have tx_31 : x_31.toInt = y25_10.toInt + (1 : Int32).toInt := by rw [ex_31]; exact t_add ⟨by omega, by omega⟩
                          refine lv_goto (tgt := 115) hx hb dX8_learns_228 (by decide) ?_
                          exact ih_25 x_31 y25_9 _ _ (by omega) (by omega) (by omega) hP hD hS ls (lv_sub hl [0, 1, 5, 6, 7, 8, 9, 10, 11, 12, 13] rfl)
                        · have tc_30 : y25_10.toInt < x_15.toInt := Int32.lt_iff_toInt_lt.mp (Int32.not_le.mp c_30)
                          refine lv_iconst (v := 1) hx hb dX8_learns_162 (by decide) ?_
                          refine lv_goto (tgt := 199) hx hb dX8_learns_163 (by decide) ?_
                          refine lv_istore (lv' := [(13, .int 1), (12, .int y25_10), (11, .int x_15), (10, .int y25_10), (9, .int y25_9), (8, .int x_22), (7, .int x_15), (6, .int x_22), (5, .int x_15), (0, .ref (ad 0)), (1, .int x0), (2, .int x1), (3, .int x2), (4, .int x3)]) hx hb dX8_learns_199 hl (by decide) rfl (fun ls hl => ?_)
                          refine lv_iload hx hb dX8_learns_201 (lv_at hl 0 rfl) ?_
                          refine lv_if_eq (tgt := 221) hx hb dX8_learns_203 (by decide) (fun c9 => absurd c9 (by decide)) (fun _ => ?_)
                          refine lv_iload hx hb dX8_learns_206 (lv_at hl 4 rfl) ?_
                          refine lv_if_lt (tgt := 216) hx hb dX8_learns_208 (by decide) (fun c_31 => ?_) (fun c_31 => ?_)
                          · have tc_31 : y25_9.toInt < (0 : Int32).toInt := Int32.lt_iff_toInt_lt.mp c_31
                            refine lv_iload hx hb dX8_learns_216 (lv_at hl 3 rfl) ?_
                            refine lv_goto (tgt := 223) hx hb dX8_learns_218 (by decide) ?_
                            refine lv_istore (lv' := [(9, .int y25_10), (13, .int 1), (12, .int y25_10), (11, .int x_15), (10, .int y25_10), (8, .int x_22), (7, .int x_15), (6, .int x_22), (5, .int x_15), (0, .ref (ad 0)), (1, .int x0), (2, .int x1), (3, .int x2), (4, .int x3)]) hx hb dX8_learns_223 hl (by decide) rfl (fun ls hl => ?_)
                            obtain ⟨x_32, ex_32⟩ : ∃ y : Int32, y = y25_10 + 1 := ⟨_, rfl⟩
                            refine lv_iinc (v := x_32) (lv' := [(10, .int x_32), (9, .int y25_10), (13, .int 1), (12, .int y25_10), (11, .int x_15), (8, .int x_22), (7, .int x_15), (6, .int x_22), (5, .int x_15), (0, .ref (ad 0)), (1, .int x0), (2, .int x1), (3, .int x2), (4, .int x3)]) hx hb dX8_learns_225 hl (k := 4) rfl (by rw [ex_32]; rfl) (by decide) rfl (fun ls hl => ?_)
                            have tx_32 : x_32.toInt = y25_10.toInt + (1 : Int32).toInt := by rw [ex_32]; exact t_add ⟨by omega, by omega⟩
                            refine lv_goto (tgt := 115) hx hb dX8_learns_228 (by decide) ?_
                            exact ih_25 x_32 y25_10 _ _ (by omega) (by omega) (by omega) hP hD hS ls (lv_sub hl [0, 1, 5, 6, 7, 8, 9, 10, 11, 12, 13] rfl)
                          · have tc_31 : y25_9.toInt ≥ (0 : Int32).toInt := Int32.le_iff_toInt_le.mp (Int32.not_lt.mp c_31)
                            refine lv_iload hx hb dX8_learns_211 (lv_at hl 13 rfl) ?_
                            refine lv_if_eq (tgt := 221) hx hb dX8_learns_213 (by decide) (fun c_32 => ?_) (fun c_32 => ?_)
                            · have tc_32 : x3.toInt = (0 : Int32).toInt := by rw [c_32]
                              refine lv_iload hx hb dX8_learns_221 (lv_at hl 4 rfl) ?_
                              refine lv_istore (lv' := [(9, .int y25_9), (13, .int 1), (12, .int y25_10), (11, .int x_15), (10, .int y25_10), (8, .int x_22), (7, .int x_15), (6, .int x_22), (5, .int x_15), (0, .ref (ad 0)), (1, .int x0), (2, .int x1), (3, .int x2), (4, .int x3)]) hx hb dX8_learns_223 hl (by decide) rfl (fun ls hl => ?_)
                              obtain ⟨x_33, ex_33⟩ : ∃ y : Int32, y = y25_10 + 1 := ⟨_, rfl⟩
                              refine lv_iinc (v := x_33) (lv' := [(10, .int x_33), (9, .int y25_9), (13, .int 1), (12, .int y25_10), (11, .int x_15), (8, .int x_22), (7, .int x_15), (6, .int x_22), (5, .int x_15), (0, .ref (ad 0)), (1, .int x0), (2, .int x1), (3, .int x2), (4, .int x3)]) hx hb dX8_learns_225 hl (k := 4) rfl (by rw [ex_33]; rfl) (by decide) rfl (fun ls hl => ?_)
                              have tx_33 : x_33.toInt = y25_10.toInt + (1 : Int32).toInt := by rw [ex_33]; exact t_add ⟨by omega, by omega⟩
                              refine lv_goto (tgt := 115) hx hb dX8_learns_228 (by decide) ?_
                              exact ih_25 x_33 y25_9 _ _ (by omega) (by omega) (by omega) hP hD hS ls (lv_sub hl [0, 1, 5, 6, 7, 8, 9, 10, 11, 12, 13] rfl)
                            · have tc_32 : x3.toInt ≠ (0 : Int32).toInt := fun q => absurd (Int32.toInt_inj.mp q) c_32
                              refine lv_iload hx hb dX8_learns_216 (lv_at hl 3 rfl) ?_
                              refine lv_goto (tgt := 223) hx hb dX8_learns_218 (by decide) ?_
                              refine lv_istore (lv' := [(9, .int y25_10), (13, .int 1), (12, .int y25_10), (11, .int x_15), (10, .int y25_10), (8, .int x_22), (7, .int x_15), (6, .int x_22), (5, .int x_15), (0, .ref (ad 0)), (1, .int x0), (2, .int x1), (3, .int x2), (4, .int x3)]) hx hb dX8_learns_223 hl (by decide) rfl (fun ls hl => ?_)
                              obtain ⟨x_33, ex_33⟩ : ∃ y : Int32, y = y25_10 + 1 := ⟨_, rfl⟩
                              refine lv_iinc (v := x_33) (lv' := [(10, .int x_33), (9, .int y25_10), (13, .int 1), (12, .int y25_10), (11, .int x_15), (8, .int x_22), (7, .int x_15), (6, .int x_22), (5, .int x_15), (0, .ref (ad 0)), (1, .int x0), (2, .int x1), (3, .int x2), (4, .int x3)]) hx hb dX8_learns_225 hl (k := 4) rfl (by rw [ex_33]; rfl) (by decide) rfl (fun ls hl => ?_)
                              have tx_33 : x_33.toInt = y25_10.toInt + (1 : Int32).toInt := by rw [ex_33]; exact t_add ⟨by omega, by omega⟩
                              refine lv_goto (tgt := 115) hx hb dX8_learns_228 (by decide) ?_
                              exact ih_25 x_33 y25_10 _ _ (by omega) (by omega) (by omega) hP hD hS ls (lv_sub hl [0, 1, 5, 6, 7, 8, 9, 10, 11, 12, 13] rfl)
            have k_m5 : ((-5) : Int32).toInt = -5 := by decide
            exact hc_25 ((101 - (0 : Int32).toInt).toNat + 1) 0 (-5) _ _ (by omega) (by omega) (by omega) hP hD hS ls (lv_sub hl [0, 1, 2, 3, 4, 5, 6, 7, 8, 9, 10] rfl)
      · have tc_9 : ¬ ((0 : Int32).toInt ≤ x2.toInt ∧ x2.toInt ≤ x_7.toInt) := fun q => hc_9 ⟨Int32.le_iff_toInt_le.mpr q.1, Int32.le_iff_toInt_le.mpr q.2⟩
        refine lv_if_ne (tgt := 40) hx hb dX8_learns_34 (by decide) (fun c9 => absurd c9 (by decide)) (fun _ => ?_)
        refine lv_bipush (v := (-5)) hx hb dX8_learns_37 (by decide) ?_
        exact W.iret (v := (-5)) hx hb hr (fun t ht hW => ⟨⟨(-5), v, rfl, ⟨hv, rfl⟩, by rw [ht]; exact hP, hD⟩, hS.F ht⟩) hS.2.2 dX8_learns_39
    · have k_0 : (0 : Int32).toInt = 0 := by decide
      have k_1 : (1 : Int32).toInt = 1 := by decide
      have tc_4 : ¬ ((0 : Int32).toInt ≤ x1.toInt ∧ x1.toInt ≤ (1 : Int32).toInt) := fun q => hc_4 ⟨Int32.le_iff_toInt_le.mpr q.1, Int32.le_iff_toInt_le.mpr q.2⟩
      refine lv_if_ne (tgt := 17) hx hb dX8_learns_12 (by decide) (fun c9 => absurd c9 (by decide)) (fun _ => ?_)
      refine lv_iconst (v := (-1)) hx hb dX8_learns_15 (by decide) ?_
      exact W.iret (v := (-1)) hx hb hr (fun t ht hW => ⟨⟨(-1), v, rfl, ⟨hv, rfl⟩, by rw [ht]; exact hP, hD⟩, hS.F ht⟩) hS.2.2 dX8_learns_16
  · refine lv_if_eq (tgt := 15) hx hb dX8_learns_5 (by decide) (fun _ => ?_) (fun c9 => absurd c9 (by decide))
    refine lv_iconst (v := (-1)) hx hb dX8_learns_15 (by decide) ?_
    exact W.iret (v := (-1)) hx hb hr (fun t ht hW => ⟨⟨(-1), v, rfl, ⟨hv, rfl⟩, by rw [ht]; exact hP, hD⟩, hS.F ht⟩) hS.2.2 dX8_learns_16
set_option maxRecDepth 20000 in
theorem db_X8_rooms_0 : (decode cX8_rooms 0 = .ok (.iload_n 1, 1)) ∧ (decode cX8_rooms 1 = .ok (.iconst 1, 1)) ∧ (decode cX8_rooms 2 = .ok (.iconst 2, 1)) ∧ (decode cX8_rooms 3 = .ok (.invokestatic 35, 3)) ∧ (decode cX8_rooms 6 = .ok (.ifCond .ne 5, 3)) ∧ (decode cX8_rooms 11 = .ok (.aload_n 0, 1)) ∧ (decode cX8_rooms 12 = .ok (.getfield 16, 3)) ∧ (decode cX8_rooms 15 = .ok (.istore_n 2, 1)) := by decide +kernel
theorem dX8_rooms_0 : decode cX8_rooms 0 = .ok (.iload_n 1, 1) := db_X8_rooms_0.1
theorem dX8_rooms_1 : decode cX8_rooms 1 = .ok (.iconst 1, 1) := db_X8_rooms_0.2.1
theorem dX8_rooms_2 : decode cX8_rooms 2 = .ok (.iconst 2, 1) := db_X8_rooms_0.2.2.1
set_option maxRecDepth 20000 in
theorem ggX8_rooms_X8_in : GoodIn wsX8_rooms wsX8_in := goodIn_r _ [5] rfl (by decide +kernel)
set_option maxRecDepth 20000 in
theorem gX8_rooms_X8_in : GoodIn wsX8_rooms (va_wsS RX8 35 yX8_in wsX8_in) := goodIn_app (goodIn_r _ [2, 3, 4] rfl (by decide +kernel)) ggX8_rooms_X8_in
theorem dX8_rooms_3 : decode cX8_rooms 3 = .ok (.invokestatic 35, 3) := db_X8_rooms_0.2.2.2.1
theorem dX8_rooms_6 : decode cX8_rooms 6 = .ok (.ifCond .ne 5, 3) := db_X8_rooms_0.2.2.2.2.1
theorem dX8_rooms_11 : decode cX8_rooms 11 = .ok (.aload_n 0, 1) := db_X8_rooms_0.2.2.2.2.2.1
theorem dX8_rooms_12 : decode cX8_rooms 12 = .ok (.getfield 16, 3) := db_X8_rooms_0.2.2.2.2.2.2.1
theorem dX8_rooms_15 : decode cX8_rooms 15 = .ok (.istore_n 2, 1) := db_X8_rooms_0.2.2.2.2.2.2.2
set_option maxRecDepth 20000 in
theorem db_X8_rooms_16 : (decode cX8_rooms 16 = .ok (.aload_n 0, 1)) ∧ (decode cX8_rooms 17 = .ok (.iload_n 1, 1)) ∧ (decode cX8_rooms 18 = .ok (.putfield 16, 3)) ∧ (decode cX8_rooms 21 = .ok (.iload_n 2, 1)) ∧ (decode cX8_rooms 22 = .ok (.ireturn, 1)) ∧ (decode cX8_rooms 9 = .ok (.iconst (-1), 1)) ∧ (decode cX8_rooms 10 = .ok (.ireturn, 1)) := by decide +kernel
theorem dX8_rooms_16 : decode cX8_rooms 16 = .ok (.aload_n 0, 1) := db_X8_rooms_16.1
theorem dX8_rooms_17 : decode cX8_rooms 17 = .ok (.iload_n 1, 1) := db_X8_rooms_16.2.1
theorem dX8_rooms_18 : decode cX8_rooms 18 = .ok (.putfield 16, 3) := db_X8_rooms_16.2.2.1
theorem dX8_rooms_21 : decode cX8_rooms 21 = .ok (.iload_n 2, 1) := db_X8_rooms_16.2.2.2.1
theorem dX8_rooms_22 : decode cX8_rooms 22 = .ok (.ireturn, 1) := db_X8_rooms_16.2.2.2.2.1
theorem dX8_rooms_9 : decode cX8_rooms 9 = .ok (.iconst (-1), 1) := db_X8_rooms_16.2.2.2.2.2.1
theorem dX8_rooms_10 : decode cX8_rooms 10 = .ok (.ireturn, 1) := db_X8_rooms_16.2.2.2.2.2.2
set_option maxRecDepth 20000 in
theorem db_X8_keep_0 : (decode cX8_keep 0 = .ok (.iconst 0, 1)) ∧ (decode cX8_keep 1 = .ok (.istore_n 1, 1)) ∧ (decode cX8_keep 2 = .ok (.iload_n 1, 1)) ∧ (decode cX8_keep 3 = .ok (.sipush 596, 3)) ∧ (decode cX8_keep 6 = .ok (.if_icmp .ge 21, 3)) ∧ (decode cX8_keep 27 = .ok (.aload_n 0, 1)) ∧ (decode cX8_keep 28 = .ok (.iconst 1, 1)) ∧ (decode cX8_keep 29 = .ok (.putfield 134, 3)) := by decide +kernel
theorem dX8_keep_0 : decode cX8_keep 0 = .ok (.iconst 0, 1) := db_X8_keep_0.1
theorem dX8_keep_1 : decode cX8_keep 1 = .ok (.istore_n 1, 1) := db_X8_keep_0.2.1
theorem dX8_keep_2 : decode cX8_keep 2 = .ok (.iload_n 1, 1) := db_X8_keep_0.2.2.1
theorem dX8_keep_3 : decode cX8_keep 3 = .ok (.sipush 596, 3) := db_X8_keep_0.2.2.2.1
theorem dX8_keep_6 : decode cX8_keep 6 = .ok (.if_icmp .ge 21, 3) := db_X8_keep_0.2.2.2.2.1
theorem dX8_keep_27 : decode cX8_keep 27 = .ok (.aload_n 0, 1) := db_X8_keep_0.2.2.2.2.2.1
theorem dX8_keep_28 : decode cX8_keep 28 = .ok (.iconst 1, 1) := db_X8_keep_0.2.2.2.2.2.2.1
theorem dX8_keep_29 : decode cX8_keep 29 = .ok (.putfield 134, 3) := db_X8_keep_0.2.2.2.2.2.2.2
set_option maxRecDepth 20000 in
theorem db_X8_keep_32 : (decode cX8_keep 32 = .ok (.iconst 1, 1)) ∧ (decode cX8_keep 33 = .ok (.ireturn, 1)) ∧ (decode cX8_keep 9 = .ok (.aload_n 0, 1)) ∧ (decode cX8_keep 10 = .ok (.getfield 13, 3)) ∧ (decode cX8_keep 13 = .ok (.iload_n 1, 1)) ∧ (decode cX8_keep 14 = .ok (.aload_n 0, 1)) ∧ (decode cX8_keep 15 = .ok (.getfield 7, 3)) ∧ (decode cX8_keep 18 = .ok (.iload_n 1, 1)) := by decide +kernel
theorem dX8_keep_32 : decode cX8_keep 32 = .ok (.iconst 1, 1) := db_X8_keep_32.1
theorem dX8_keep_33 : decode cX8_keep 33 = .ok (.ireturn, 1) := db_X8_keep_32.2.1
theorem dX8_keep_9 : decode cX8_keep 9 = .ok (.aload_n 0, 1) := db_X8_keep_32.2.2.1
theorem dX8_keep_10 : decode cX8_keep 10 = .ok (.getfield 13, 3) := db_X8_keep_32.2.2.2.1
theorem dX8_keep_13 : decode cX8_keep 13 = .ok (.iload_n 1, 1) := db_X8_keep_32.2.2.2.2.1
theorem dX8_keep_14 : decode cX8_keep 14 = .ok (.aload_n 0, 1) := db_X8_keep_32.2.2.2.2.2.1
theorem dX8_keep_15 : decode cX8_keep 15 = .ok (.getfield 7, 3) := db_X8_keep_32.2.2.2.2.2.2.1
theorem dX8_keep_18 : decode cX8_keep 18 = .ok (.iload_n 1, 1) := db_X8_keep_32.2.2.2.2.2.2.2
set_option maxRecDepth 20000 in
theorem db_X8_keep_19 : (decode cX8_keep 19 = .ok (.iaload, 1)) ∧ (decode cX8_keep 20 = .ok (.iastore, 1)) ∧ (decode cX8_keep 21 = .ok (.iinc 1 1, 3)) ∧ (decode cX8_keep 24 = .ok (.goto (-22), 3)) := by decide +kernel
theorem dX8_keep_19 : decode cX8_keep 19 = .ok (.iaload, 1) := db_X8_keep_19.1
theorem dX8_keep_20 : decode cX8_keep 20 = .ok (.iastore, 1) := db_X8_keep_19.2.1
theorem dX8_keep_21 : decode cX8_keep 21 = .ok (.iinc 1 1, 3) := db_X8_keep_19.2.2.1
theorem dX8_keep_24 : decode cX8_keep 24 = .ok (.goto (-22), 3) := db_X8_keep_19.2.2.2
set_option maxRecDepth 20000 in
theorem db_X8_back_0 : (decode cX8_back 0 = .ok (.aload_n 0, 1)) ∧ (decode cX8_back 1 = .ok (.getfield 134, 3)) ∧ (decode cX8_back 4 = .ok (.ifCond .ne 6, 3)) ∧ (decode cX8_back 10 = .ok (.iconst 0, 1)) ∧ (decode cX8_back 11 = .ok (.istore_n 1, 1)) ∧ (decode cX8_back 12 = .ok (.iload_n 1, 1)) ∧ (decode cX8_back 13 = .ok (.sipush 596, 3)) ∧ (decode cX8_back 16 = .ok (.if_icmp .ge 21, 3)) := by decide +kernel
theorem dX8_back_0 : decode cX8_back 0 = .ok (.aload_n 0, 1) := db_X8_back_0.1
theorem dX8_back_1 : decode cX8_back 1 = .ok (.getfield 134, 3) := db_X8_back_0.2.1
theorem dX8_back_4 : decode cX8_back 4 = .ok (.ifCond .ne 6, 3) := db_X8_back_0.2.2.1
theorem dX8_back_10 : decode cX8_back 10 = .ok (.iconst 0, 1) := db_X8_back_0.2.2.2.1
theorem dX8_back_11 : decode cX8_back 11 = .ok (.istore_n 1, 1) := db_X8_back_0.2.2.2.2.1
theorem dX8_back_12 : decode cX8_back 12 = .ok (.iload_n 1, 1) := db_X8_back_0.2.2.2.2.2.1
theorem dX8_back_13 : decode cX8_back 13 = .ok (.sipush 596, 3) := db_X8_back_0.2.2.2.2.2.2.1
theorem dX8_back_16 : decode cX8_back 16 = .ok (.if_icmp .ge 21, 3) := db_X8_back_0.2.2.2.2.2.2.2
set_option maxRecDepth 20000 in
theorem db_X8_back_37 : (decode cX8_back 37 = .ok (.iconst 1, 1)) ∧ (decode cX8_back 38 = .ok (.ireturn, 1)) ∧ (decode cX8_back 19 = .ok (.aload_n 0, 1)) ∧ (decode cX8_back 20 = .ok (.getfield 7, 3)) ∧ (decode cX8_back 23 = .ok (.iload_n 1, 1)) ∧ (decode cX8_back 24 = .ok (.aload_n 0, 1)) ∧ (decode cX8_back 25 = .ok (.getfield 13, 3)) ∧ (decode cX8_back 28 = .ok (.iload_n 1, 1)) := by decide +kernel
theorem dX8_back_37 : decode cX8_back 37 = .ok (.iconst 1, 1) := db_X8_back_37.1
theorem dX8_back_38 : decode cX8_back 38 = .ok (.ireturn, 1) := db_X8_back_37.2.1
theorem dX8_back_19 : decode cX8_back 19 = .ok (.aload_n 0, 1) := db_X8_back_37.2.2.1
theorem dX8_back_20 : decode cX8_back 20 = .ok (.getfield 7, 3) := db_X8_back_37.2.2.2.1
theorem dX8_back_23 : decode cX8_back 23 = .ok (.iload_n 1, 1) := db_X8_back_37.2.2.2.2.1
theorem dX8_back_24 : decode cX8_back 24 = .ok (.aload_n 0, 1) := db_X8_back_37.2.2.2.2.2.1
theorem dX8_back_25 : decode cX8_back 25 = .ok (.getfield 13, 3) := db_X8_back_37.2.2.2.2.2.2.1
theorem dX8_back_28 : decode cX8_back 28 = .ok (.iload_n 1, 1) := db_X8_back_37.2.2.2.2.2.2.2
set_option maxRecDepth 20000 in
theorem db_X8_back_29 : (decode cX8_back 29 = .ok (.iaload, 1)) ∧ (decode cX8_back 30 = .ok (.iastore, 1)) ∧ (decode cX8_back 31 = .ok (.iinc 1 1, 3)) ∧ (decode cX8_back 34 = .ok (.goto (-22), 3)) ∧ (decode cX8_back 7 = .ok (.bipush (-5), 2)) ∧ (decode cX8_back 9 = .ok (.ireturn, 1)) := by decide +kernel
theorem dX8_back_29 : decode cX8_back 29 = .ok (.iaload, 1) := db_X8_back_29.1
theorem dX8_back_30 : decode cX8_back 30 = .ok (.iastore, 1) := db_X8_back_29.2.1
theorem dX8_back_31 : decode cX8_back 31 = .ok (.iinc 1 1, 3) := db_X8_back_29.2.2.1
theorem dX8_back_34 : decode cX8_back 34 = .ok (.goto (-22), 3) := db_X8_back_29.2.2.2.1
theorem dX8_back_7 : decode cX8_back 7 = .ok (.bipush (-5), 2) := db_X8_back_29.2.2.2.2.1
theorem dX8_back_9 : decode cX8_back 9 = .ok (.ireturn, 1) := db_X8_back_29.2.2.2.2.2
set_option maxHeartbeats 4000000 in
set_option maxRecDepth 100000 in
theorem q_X8_rooms (l : Launch) (dC : Nat → ClassId) (dI : Nat → Nat → Nat) (cy : Nat → ClassId) (sz : Nat) (ad : Nat → Nat) (v : Nat → Nat → Int32) (hv : Ir v) (x0 : Int32) : Met l yX8_rooms wsX8_rooms ({ frames := 1, cells := 0, slots := 0, locals := 64 }) (va_Pc [.ref (ad 0), .int x0] (ex_Pre dC dI cy sz (wm ad cy v))) (va_Qi (fun (r : Int32) (u : Nat → Nat → Int32) => Ir u ∧ ((¬ (1 ≤ x0.toInt ∧ x0.toInt ≤ 2) ∧ r = -1 ∧ u = v) ∨ ((1 ≤ x0.toInt ∧ x0.toInt ≤ 2) ∧ r = v 0 3 ∧ u 0 3 = x0 ∧ u 1 = v 1 ∧ u 2 = v 2 ∧ u 0 2 = v 0 2))) (fun u t => ex_Pst dC dI (va_A (wm ad cy v) sz) (wm ad cy u) t) (va_A (wm ad cy v) sz)) 0 0 (va_A (wm ad cy v) sz) := by
  refine Met.ofW (cc := cX8_rooms) (maxL := 3) (ret := (some .int)) (by decide) rfl ?_
  intro p e s m args below meth c s₁ B hml hv
  obtain ⟨rfl, hsz, hE, hP, hK, hD0⟩ := hv
  have hx := B.exec
  have hb := B.bytes
  have hr := B.returns
  have hts := atoms_spec (ws := wsX8_rooms) B.pre
  have hown : s.vm.findClass RX8 = some m.cls := findClass_of_methodNamed B.named
  have hlocks := B.notSynchronized
  subst hsz
  have hD := hD0.self (sz := s.heap.size)
  generalize hAe : va_A (wm ad cy v) s.heap.size = A at hD ⊢
  have hA : ∀ q : Nat, s.heap.size ≤ q → A q := fun q h => by rw [← hAe]; exact Or.inr h
  have hS : va_S A s.heap s.heap [] := va_S.rf
  have hP : va_P (dC, dI) vwCl (wm ad cy v) s.heap := hP
  have hl := lv_entry ([.ref (ad 0), .int x0]) (n := 3) (Nat.le_of_ble_eq_true rfl)
  rw [lg_entry_eq]
  generalize (lg_sl ([.ref (ad 0), .int x0]) ++ List.replicate (3 - (lg_sl ([.ref (ad 0), .int x0])).length) Slot.unset).toArray = ls at hl ⊢
  have hl : lv_has ls 3 [(0, .ref (ad 0)), (1, .int x0)] := hl
  refine lv_iload_n hx hb dX8_rooms_0 rfl (lv_at hl 1 rfl) ?_
  refine lv_iconst (v := 1) hx hb dX8_rooms_1 (by decide) ?_
  refine lv_iconst (v := 2) hx hb dX8_rooms_2 (by decide) ?_
  refine yc_p hP hS (va_runS (As := [.int x0, .int 1, .int 2]) (rest := []) ⟨hx, hb, hml, hown, hts⟩ (c_X8_in l x0 1 2) (cwS 3 hts gX8_rooms_X8_in rfl rfl rfl hd_S_X8_in_3 ⟨Nat.le_of_ble_eq_true rfl, Nat.le_of_ble_eq_true rfl⟩) ex_preP rfl rfl hl.1 rfl (lv_room (Nat.le_of_ble_eq_true rfl)) dX8_rooms_3 ⟨Nat.le_of_ble_eq_true rfl, Nat.le_of_ble_eq_true rfl⟩) (fun r_1 H locs hw_1 hP hS => ?_)
  rcases wi_ca hw_1 with ⟨rfl, hc_2⟩ | ⟨rfl, hc_2⟩
  · have k_1 : (1 : Int32).toInt = 1 := by decide
    have k_2 : (2 : Int32).toInt = 2 := by decide
    have tc_2 := wi_tl hc_2
    refine lv_if_ne (tgt := 11) hx hb dX8_rooms_6 (by decide) (fun _ => ?_) (fun c9 => absurd c9 (by decide))
    refine lv_aload_n hx hb dX8_rooms_11 rfl (lv_at hl 0 rfl) ?_
    refine va_get (D := (dC, dI)) (ci := 8) (v := .int (v 0 3)) (C := RX8) (T := TX8) (N := 11) hx hb hts iwX8_rooms_X8 hown hK hP (0) (wm_at (by decide) rc_0) rfl 3 (by decide) (hts (.fieldLink RX8 16 "QuietStairsModel" "rooms" "I") fwX8_rooms_1) (fun _ h9 => h9) rfl dX8_rooms_12 ?_
    refine lv_topi (fun x_3 ex_3 => ?_)
    refine lv_istore_n (lv' := [(2, .int x_3), (0, .ref (ad 0)), (1, .int x0)]) hx hb dX8_rooms_15 rfl hl (by decide) rfl (fun ls hl => ?_)
    refine lv_aload_n hx hb dX8_rooms_16 rfl (lv_at hl 1 rfl) ?_
    refine lv_iload_n hx hb dX8_rooms_17 rfl (lv_at hl 2 rfl) ?_
    refine va_put (D := (dC, dI)) (ci := 8) (v := .int x0) (ty := .int) (C := RX8) (T := TX8) (N := 11) hx hb hts iwX8_rooms_X8 tyX8 tyX8_ok nmX8 hown hK hP hD hS (0) (wm_at (by decide) rc_0) rfl 3 (by decide) (hts (.fieldLink RX8 16 "QuietStairsModel" "rooms" "I") fwX8_rooms_1) (fun _ h9 => h9) rfl (by decide +kernel) rfl rfl (Nat.le_of_ble_eq_true rfl) dX8_rooms_18 (fun H locs hP hD hS => ?_)
    obtain ⟨v_4, ev_4⟩ : ∃ u : Nat → Nat → Int32, u = upr v 0 (upd (v 0) 3 x0) := ⟨_, rfl⟩
    have hP : va_P (dC, dI) vwCl (wm ad cy v_4) H := by rw [ev_4, ← wm_put (e := _) rc_0]; exact hP
    have hD : va_D A (wm ad cy v_4) := by rw [ev_4, ← wm_put (e := _) rc_0]; exact hD
    have hv : Ir v_4 := by rw [ev_4]; exact hv.put (k := 0) (fun h q => by rw [show br 0 3 = none from by decide] at q; cases q)
    refine lv_iload_n hx hb dX8_rooms_21 rfl (lv_at hl 0 rfl) ?_
    exact W.iret (v := x_3) hx hb hr (fun t ht hW => ⟨⟨x_3, v_4, rfl, ⟨hv, Or.inr ⟨⟨by omega, by omega⟩, ex_3, by rw [ev_4, upr_s, pk_us], by rw [ev_4, upr_n (by decide)], by rw [ev_4, upr_n (by decide)], by rw [ev_4, upr_s, pk_un (by decide)]⟩⟩, by rw [ht]; exact hP, hD⟩, hS.F ht⟩) hS.2.2 dX8_rooms_22
  · have k_1 : (1 : Int32).toInt = 1 := by decide
    have k_2 : (2 : Int32).toInt = 2 := by decide
    have tc_2 : ¬ ((1 : Int32).toInt ≤ x0.toInt ∧ x0.toInt ≤ (2 : Int32).toInt) := fun q => hc_2 ⟨Int32.le_iff_toInt_le.mpr q.1, Int32.le_iff_toInt_le.mpr q.2⟩
    refine lv_if_ne (tgt := 11) hx hb dX8_rooms_6 (by decide) (fun c9 => absurd c9 (by decide)) (fun _ => ?_)
    refine lv_iconst (v := (-1)) hx hb dX8_rooms_9 (by decide) ?_
    exact W.iret (v := (-1)) hx hb hr (fun t ht hW => ⟨⟨(-1), v, rfl, ⟨hv, Or.inl ⟨by omega, rfl, rfl⟩⟩, by rw [ht]; exact hP, hD⟩, hS.F ht⟩) hS.2.2 dX8_rooms_10

/-- one more place is copied -/
theorem cp_s {v u w : Nat → Nat → Int32} {a b : Nat} {i i' x : Int32} (e : w = upr u b (upd (u b) i.toNatClampNeg x)) (ex : x = u a i.toNatClampNeg) (h : ∀ j : Nat, (j : Int) < i.toInt → u b j = v a j) (hi : i'.toInt = i.toInt + 1) (hb : 0 ≤ i.toInt) (hs : u a = v a) : ∀ j : Nat, (j : Int) < i'.toInt → w b j = v a j := by
  intro j hj
  have q := t_nn hb
  rw [e, upr_s]
  by_cases hji : j = i.toNatClampNeg
  · subst hji
    rw [pk_us, ex, hs]
  · rw [pk_un hji]
    exact h j (by omega)

set_option maxHeartbeats 4000000 in
set_option maxRecDepth 100000 in
theorem q_X8_keep (l : Launch) (dC : Nat → ClassId) (dI : Nat → Nat → Nat) (cy : Nat → ClassId) (sz : Nat) (ad : Nat → Nat) (v : Nat → Nat → Int32) (hv : Ir v)  : Met l yX8_keep wsX8_keep ({ frames := 0, cells := 0, slots := 0, locals := 0 }) (va_Pc [.ref (ad 0)] (ex_Pre dC dI cy sz (wm ad cy v))) (va_Qi (fun (r : Int32) (u : Nat → Nat → Int32) => Ir u ∧ (∀ j : Nat, j < 596 → u 2 j = v 1 j) ∧ u 1 = v 1 ∧ u 0 2 = 1 ∧ u 0 3 = v 0 3 ∧ r = 1) (fun u t => ex_Pst dC dI (va_A (wm ad cy v) sz) (wm ad cy u) t) (va_A (wm ad cy v) sz)) 0 0 (va_A (wm ad cy v) sz) := by
  refine Met.ofW (cc := cX8_keep) (maxL := 2) (ret := (some .int)) (by decide) rfl ?_
  intro p e s m args below meth c s₁ B hml hv
  obtain ⟨rfl, hsz, hE, hP, hK, hD0⟩ := hv
  have hx := B.exec
  have hb := B.bytes
  have hr := B.returns
  have hts := atoms_spec (ws := wsX8_keep) B.pre
  have hown : s.vm.findClass RX8 = some m.cls := findClass_of_methodNamed B.named
  have hlocks := B.notSynchronized
  subst hsz
  have hD := hD0.self (sz := s.heap.size)
  generalize hAe : va_A (wm ad cy v) s.heap.size = A at hD ⊢
  have hA : ∀ q : Nat, s.heap.size ≤ q → A q := fun q h => by rw [← hAe]; exact Or.inr h
  have hS : va_S A s.heap s.heap [] := va_S.rf
  have hP : va_P (dC, dI) vwCl (wm ad cy v) s.heap := hP
  have hl := lv_entry ([.ref (ad 0)]) (n := 2) (Nat.le_of_ble_eq_true rfl)
  rw [lg_entry_eq]
  generalize (lg_sl ([.ref (ad 0)]) ++ List.replicate (2 - (lg_sl ([.ref (ad 0)])).length) Slot.unset).toArray = ls at hl ⊢
  have hl : lv_has ls 2 [(0, .ref (ad 0))] := hl
  refine lv_iconst (v := 0) hx hb dX8_keep_0 (by decide) ?_
  refine lv_istore_n (lv' := [(1, .int 0), (0, .ref (ad 0))]) hx hb dX8_keep_1 rfl hl (by decide) rfl (fun ls hl => ?_)
  have hc_1 : ∀ (n : Nat) (y1_1 : Int32) (u1 : Nat → Nat → Int32) (H : Heap) (locs : List Loc), 0 ≤ y1_1.toInt → y1_1.toInt ≤ 596 → (∀ j : Nat, (j : Int) < y1_1.toInt → u1 2 j = v 1 j) → (u1 1 = v 1) → (u1 0 = v 0) → (596 - y1_1.toInt).toNat < n → Ir u1 → va_P (dC, dI) vwCl (wm ad cy u1) H → va_D A (wm ad cy u1) → va_S A s.heap H locs → ∀ ls : Array Slot, lv_has ls 2 [(1, .int y1_1), (0, .ref (ad 0))] → W p l e (headSpec wsX8_keep ({ frames := 0, cells := 0, slots := 0, locals := 0 })).room s m [Value.ref (ad 0)].toArray below meth c H locs 0 0 (MQ below (va_Qi (fun (r : Int32) (u : Nat → Nat → Int32) => Ir u ∧ (∀ j : Nat, j < 596 → u 2 j = v 1 j) ∧ u 1 = v 1 ∧ u 0 2 = 1 ∧ u 0 3 = v 0 3 ∧ r = 1) (fun u t => ex_Pst dC dI A (wm ad cy u) t) A) [Value.ref (ad 0)].toArray s 0 0 A) (F0 m 2 ls []) := by
    intro n
    induction n with
    | zero =>
      intro y1_1 u1 H locs ay1_1 by1_1 hi1_0 hi1_1 hi1_2 hm_1 hv hP hD hS ls hl
      exact absurd hm_1 (by omega)
    | succ n ih_1 =>
      intro y1_1 u1 H locs ay1_1 by1_1 hi1_0 hi1_1 hi1_2 hm_1 hv hP hD hS ls hl
      refine lv_iload_n hx hb dX8_keep_2 rfl (lv_at hl 0 rfl) ?_
      refine lv_sipush (v := 596) hx hb dX8_keep_3 (by decide) ?_
      have k_596 : (596 : Int32).toInt = 596 := by decide
      refine lv_icmp_ge (tgt := 27) hx hb dX8_keep_6 (by decide) (fun c_2 => ?_) (fun c_2 => ?_)
      · have tc_2 : y1_1.toInt ≥ (596 : Int32).toInt := Int32.le_iff_toInt_le.mp c_2
        refine lv_aload_n hx hb dX8_keep_27 rfl (lv_at hl 1 rfl) ?_
        refine lv_iconst (v := 1) hx hb dX8_keep_28 (by decide) ?_
        refine va_put (D := (dC, dI)) (ci := 8) (v := .int 1) (ty := .boolean) (C := RX8) (T := TX8) (N := 11) hx hb hts iwX8_keep_X8 tyX8 tyX8_ok nmX8 hown hK hP hD hS (0) (wm_at (by decide) rc_0) rfl 2 (by decide) (hts (.fieldLink RX8 134 "QuietStairsModel" "isKept" "Z") fwX8_keep_3) (fun _ h9 => h9) rfl (by decide +kernel) rfl rfl (Nat.le_of_ble_eq_true rfl) dX8_keep_29 (fun H locs hP hD hS => ?_)
        have k_1 : (1 : Int32).toInt = 1 := by decide
        obtain ⟨v_3, ev_3⟩ : ∃ u : Nat → Nat → Int32, u = upr u1 0 (upd (u1 0) 2 1) := ⟨_, rfl⟩
        have hP : va_P (dC, dI) vwCl (wm ad cy v_3) H := by rw [ev_3, ← wm_put (e := _) rc_0]; exact hP
        have hD : va_D A (wm ad cy v_3) := by rw [ev_3, ← wm_put (e := _) rc_0]; exact hD
        have hv : Ir v_3 := by rw [ev_3]; exact hv.put (k := 0) (fun h q => by rw [show br 0 2 = some 1 from by decide] at q; cases q; exact ⟨by omega, by omega⟩)
        refine lv_iconst (v := 1) hx hb dX8_keep_32 (by decide) ?_
        exact W.iret (v := 1) hx hb hr (fun t ht hW => ⟨⟨1, v_3, rfl, ⟨hv, fun j hj => by rw [ev_3, upr_n (by decide)]; exact hi1_0 j (by omega), by rw [ev_3, upr_n (by decide)]; exact hi1_1, by rw [ev_3, upr_s, pk_us], by rw [ev_3, upr_s, pk_un (by decide)]; exact congrFun hi1_2 3, rfl⟩, by rw [ht]; exact hP, hD⟩, hS.F ht⟩) hS.2.2 dX8_keep_33
      · have tc_2 : y1_1.toInt < (596 : Int32).toInt := Int32.lt_iff_toInt_lt.mp (Int32.not_le.mp c_2)
        refine lv_aload_n hx hb dX8_keep_9 rfl (lv_at hl 1 rfl) ?_
        refine va_get (D := (dC, dI)) (ci := 8) (v := .ref (ad 2)) (C := RX8) (T := TX8) (N := 11) hx hb hts iwX8_keep_X8 hown hK hP (0) (wm_at (by decide) rc_0) rfl 1 (by decide) (hts (.fieldLink RX8 13 "QuietStairsModel" "kept" "[I") fwX8_keep_1) (fun _ h9 => h9) rfl dX8_keep_10 ?_
        refine lv_iload_n hx hb dX8_keep_13 rfl (lv_at hl 0 rfl) ?_
        refine lv_aload_n hx hb dX8_keep_14 rfl (lv_at hl 1 rfl) ?_
        refine va_get (D := (dC, dI)) (ci := 8) (v := .ref (ad 1)) (C := RX8) (T := TX8) (N := 11) hx hb hts iwX8_keep_X8 hown hK hP (0) (wm_at (by decide) rc_0) rfl 0 (by decide) (hts (.fieldLink RX8 7 "QuietStairsModel" "s" "[I") fwX8_keep_2) (fun _ h9 => h9) rfl dX8_keep_15 ?_
        refine lv_iload_n hx hb dX8_keep_18 rfl (lv_at hl 0 rfl) ?_
        refine va_iald hx hb hK hP (1) 0 (wm_at (by decide) rc_1) rfl (vp_in_iff.mpr ⟨by omega, by omega⟩) dX8_keep_19 ?_
        refine lv_topi (fun x_3 ex_3 => ?_)
        refine va_iast hx hb hK hP hD hS (2) 0 (wm_at (by decide) rc_2) rfl (vp_in_iff.mpr ⟨by omega, by omega⟩) dX8_keep_20 (fun H locs hP hD hS => ?_)
        obtain ⟨v_4, ev_4⟩ : ∃ u : Nat → Nat → Int32, u = upr u1 2 (upd (u1 2) (y1_1.toNatClampNeg) x_3) := ⟨_, rfl⟩
        have hP : va_P (dC, dI) vwCl (wm ad cy v_4) H := by rw [ev_4, ← wm_put (e := _) rc_2]; exact hP
        have hD : va_D A (wm ad cy v_4) := by rw [ev_4, ← wm_put (e := _) rc_2]; exact hD
        have hv : Ir v_4 := by rw [ev_4]; exact hv.put (k := 2) (fun h q => by rw [ex_3]; exact hv 1 _ h q)
        obtain ⟨x_5, ex_5⟩ : ∃ y : Int32, y = y1_1 + 1 := ⟨_, rfl⟩
        refine lv_iinc (v := x_5) (lv' := [(1, .int x_5), (0, .ref (ad 0))]) hx hb dX8_keep_21 hl (k := 0) rfl (by rw [ex_5]; rfl) (by decide) rfl (fun ls hl => ?_)
        have k_1 : (1 : Int32).toInt = 1 := by decide
        have tx_5 : x_5.toInt = y1_1.toInt + (1 : Int32).toInt := by rw [ex_5]; exact t_add ⟨by omega, by omega⟩
        refine lv_goto (tgt := 2) hx hb dX8_keep_24 (by decide) ?_
        exact ih_1 x_5 v_4 _ _ (by omega) (by omega) (cp_s ev_4 ex_3 hi1_0 (by rw [tx_5, k_1]) (by omega) hi1_1) (by rw [ev_4, upr_n (by decide)]; exact hi1_1) (by rw [ev_4, upr_n (by decide)]; exact hi1_2) (by omega) hv hP hD hS ls (lv_sub hl [0, 1] rfl)
  have k_0 : (0 : Int32).toInt = 0 := by decide
  exact hc_1 ((596 - (0 : Int32).toInt).toNat + 1) 0 v _ _ (by omega) (by omega) (fun j hj => absurd hj (by omega)) (rfl) (rfl) (by omega) hv hP hD hS ls (lv_sub hl [0, 1] rfl)

set_option maxHeartbeats 4000000 in
set_option maxRecDepth 100000 in
theorem q_X8_back (l : Launch) (dC : Nat → ClassId) (dI : Nat → Nat → Nat) (cy : Nat → ClassId) (sz : Nat) (ad : Nat → Nat) (v : Nat → Nat → Int32) (hv : Ir v)  : Met l yX8_back wsX8_back ({ frames := 0, cells := 0, slots := 0, locals := 0 }) (va_Pc [.ref (ad 0)] (ex_Pre dC dI cy sz (wm ad cy v))) (va_Qi (fun (r : Int32) (u : Nat → Nat → Int32) => Ir u ∧ (((v 0 2).toInt = 0 ∧ u = v ∧ r = -5) ∨ ((v 0 2).toInt = 1 ∧ (∀ j : Nat, j < 596 → u 1 j = v 2 j) ∧ u 2 = v 2 ∧ u 0 = v 0 ∧ r = 1))) (fun u t => ex_Pst dC dI (va_A (wm ad cy v) sz) (wm ad cy u) t) (va_A (wm ad cy v) sz)) 0 0 (va_A (wm ad cy v) sz) := by
  refine Met.ofW (cc := cX8_back) (maxL := 2) (ret := (some .int)) (by decide) rfl ?_
  intro p e s m args below meth c s₁ B hml hv
  obtain ⟨rfl, hsz, hE, hP, hK, hD0⟩ := hv
  have hx := B.exec
  have hb := B.bytes
  have hr := B.returns
  have hts := atoms_spec (ws := wsX8_back) B.pre
  have hown : s.vm.findClass RX8 = some m.cls := findClass_of_methodNamed B.named
  have hlocks := B.notSynchronized
  subst hsz
  have hD := hD0.self (sz := s.heap.size)
  generalize hAe : va_A (wm ad cy v) s.heap.size = A at hD ⊢
  have hA : ∀ q : Nat, s.heap.size ≤ q → A q := fun q h => by rw [← hAe]; exact Or.inr h
  have hS : va_S A s.heap s.heap [] := va_S.rf
  have hP : va_P (dC, dI) vwCl (wm ad cy v) s.heap := hP
  have hl := lv_entry ([.ref (ad 0)]) (n := 2) (Nat.le_of_ble_eq_true rfl)
  rw [lg_entry_eq]
  generalize (lg_sl ([.ref (ad 0)]) ++ List.replicate (2 - (lg_sl ([.ref (ad 0)])).length) Slot.unset).toArray = ls at hl ⊢
  have hl : lv_has ls 2 [(0, .ref (ad 0))] := hl
  refine lv_aload_n hx hb dX8_back_0 rfl (lv_at hl 0 rfl) ?_
  refine va_get (D := (dC, dI)) (ci := 8) (v := .int (v 0 2)) (C := RX8) (T := TX8) (N := 11) hx hb hts iwX8_back_X8 hown hK hP (0) (wm_at (by decide) rc_0) rfl 2 (by decide) (hts (.fieldLink RX8 134 "QuietStairsModel" "isKept" "Z") fwX8_back_1) (fun _ h9 => h9) rfl dX8_back_1 ?_
  refine lv_topi (fun x_1 ex_1 => ?_)
  have bzx_1 : 0 ≤ x_1.toInt ∧ x_1.toInt ≤ 1 := by rw [ex_1]; exact hv 0 2 1 (by decide)
  have k_0 : (0 : Int32).toInt = 0 := by decide
  refine lv_if_ne (tgt := 10) hx hb dX8_back_4 (by decide) (fun c_2 => ?_) (fun c_2 => ?_)
  · have tc_2 : x_1.toInt ≠ (0 : Int32).toInt := fun q => absurd (Int32.toInt_inj.mp q) c_2
    refine lv_iconst (v := 0) hx hb dX8_back_10 (by decide) ?_
    refine lv_istore_n (lv' := [(1, .int 0), (0, .ref (ad 0))]) hx hb dX8_back_11 rfl hl (by decide) rfl (fun ls hl => ?_)
    have hc_3 : ∀ (n : Nat) (y3_1 : Int32) (u3 : Nat → Nat → Int32) (H : Heap) (locs : List Loc), 0 ≤ y3_1.toInt → y3_1.toInt ≤ 596 → (∀ j : Nat, (j : Int) < y3_1.toInt → u3 1 j = v 2 j) → (u3 2 = v 2) → (u3 0 = v 0) → (596 - y3_1.toInt).toNat < n → Ir u3 → va_P (dC, dI) vwCl (wm ad cy u3) H → va_D A (wm ad cy u3) → va_S A s.heap H locs → ∀ ls : Array Slot, lv_has ls 2 [(1, .int y3_1), (0, .ref (ad 0))] → W p l e (headSpec wsX8_back ({ frames := 0, cells := 0, slots := 0, locals := 0 })).room s m [Value.ref (ad 0)].toArray below meth c H locs 0 0 (MQ below (va_Qi (fun (r : Int32) (u : Nat → Nat → Int32) => Ir u ∧ (((v 0 2).toInt = 0 ∧ u = v ∧ r = -5) ∨ ((v 0 2).toInt = 1 ∧ (∀ j : Nat, j < 596 → u 1 j = v 2 j) ∧ u 2 = v 2 ∧ u 0 = v 0 ∧ r = 1))) (fun u t => ex_Pst dC dI A (wm ad cy u) t) A) [Value.ref (ad 0)].toArray s 0 0 A) (F0 m 12 ls []) := by
      intro n
      induction n with
      | zero =>
        intro y3_1 u3 H locs ay3_1 by3_1 hi3_0 hi3_1 hi3_2 hm_3 hv hP hD hS ls hl
        exact absurd hm_3 (by omega)
      | succ n ih_3 =>
        intro y3_1 u3 H locs ay3_1 by3_1 hi3_0 hi3_1 hi3_2 hm_3 hv hP hD hS ls hl
        refine lv_iload_n hx hb dX8_back_12 rfl (lv_at hl 0 rfl) ?_
        refine lv_sipush (v := 596) hx hb dX8_back_13 (by decide) ?_
        have k_596 : (596 : Int32).toInt = 596 := by decide
        refine lv_icmp_ge (tgt := 37) hx hb dX8_back_16 (by decide) (fun c_4 => ?_) (fun c_4 => ?_)
        · have tc_4 : y3_1.toInt ≥ (596 : Int32).toInt := Int32.le_iff_toInt_le.mp c_4
          refine lv_iconst (v := 1) hx hb dX8_back_37 (by decide) ?_
          exact W.iret (v := 1) hx hb hr (fun t ht hW => ⟨⟨1, u3, rfl, ⟨hv, Or.inr ⟨by rw [← ex_1]; omega, fun j hj => hi3_0 j (by omega), hi3_1, hi3_2, rfl⟩⟩, by rw [ht]; exact hP, hD⟩, hS.F ht⟩) hS.2.2 dX8_back_38
        · have tc_4 : y3_1.toInt < (596 : Int32).toInt := Int32.lt_iff_toInt_lt.mp (Int32.not_le.mp c_4)
          refine lv_aload_n hx hb dX8_back_19 rfl (lv_at hl 1 rfl) ?_
          refine va_get (D := (dC, dI)) (ci := 8) (v := .ref (ad 1)) (C := RX8) (T := TX8) (N := 11) hx hb hts iwX8_back_X8 hown hK hP (0) (wm_at (by decide) rc_0) rfl 0 (by decide) (hts (.fieldLink RX8 7 "QuietStairsModel" "s" "[I") fwX8_back_2) (fun _ h9 => h9) rfl dX8_back_20 ?_
          refine lv_iload_n hx hb dX8_back_23 rfl (lv_at hl 0 rfl) ?_
          refine lv_aload_n hx hb dX8_back_24 rfl (lv_at hl 1 rfl) ?_
          refine va_get (D := (dC, dI)) (ci := 8) (v := .ref (ad 2)) (C := RX8) (T := TX8) (N := 11) hx hb hts iwX8_back_X8 hown hK hP (0) (wm_at (by decide) rc_0) rfl 1 (by decide) (hts (.fieldLink RX8 13 "QuietStairsModel" "kept" "[I") fwX8_back_3) (fun _ h9 => h9) rfl dX8_back_25 ?_
          refine lv_iload_n hx hb dX8_back_28 rfl (lv_at hl 0 rfl) ?_
          refine va_iald hx hb hK hP (2) 0 (wm_at (by decide) rc_2) rfl (vp_in_iff.mpr ⟨by omega, by omega⟩) dX8_back_29 ?_
          refine lv_topi (fun x_5 ex_5 => ?_)
          refine va_iast hx hb hK hP hD hS (1) 0 (wm_at (by decide) rc_1) rfl (vp_in_iff.mpr ⟨by omega, by omega⟩) dX8_back_30 (fun H locs hP hD hS => ?_)
          obtain ⟨v_6, ev_6⟩ : ∃ u : Nat → Nat → Int32, u = upr u3 1 (upd (u3 1) (y3_1.toNatClampNeg) x_5) := ⟨_, rfl⟩
          have hP : va_P (dC, dI) vwCl (wm ad cy v_6) H := by rw [ev_6, ← wm_put (e := _) rc_1]; exact hP
          have hD : va_D A (wm ad cy v_6) := by rw [ev_6, ← wm_put (e := _) rc_1]; exact hD
          have hv : Ir v_6 := by rw [ev_6]; exact hv.put (k := 1) (fun h q => by rw [ex_5]; exact hv 2 _ h q)
          obtain ⟨x_7, ex_7⟩ : ∃ y : Int32, y = y3_1 + 1 := ⟨_, rfl⟩
          refine lv_iinc (v := x_7) (lv' := [(1, .int x_7), (0, .ref (ad 0))]) hx hb dX8_back_31 hl (k := 0) rfl (by rw [ex_7]; rfl) (by decide) rfl (fun ls hl => ?_)
          have k_1 : (1 : Int32).toInt = 1 := by decide
          have tx_7 : x_7.toInt = y3_1.toInt + (1 : Int32).toInt := by rw [ex_7]; exact t_add ⟨by omega, by omega⟩
          refine lv_goto (tgt := 12) hx hb dX8_back_34 (by decide) ?_
          exact ih_3 x_7 v_6 _ _ (by omega) (by omega) (cp_s ev_6 ex_5 hi3_0 (by rw [tx_7, k_1]) (by omega) hi3_1) (by rw [ev_6, upr_n (by decide)]; exact hi3_1) (by rw [ev_6, upr_n (by decide)]; exact hi3_2) (by omega) hv hP hD hS ls (lv_sub hl [0, 1] rfl)
    exact hc_3 ((596 - (0 : Int32).toInt).toNat + 1) 0 v _ _ (by omega) (by omega) (fun j hj => absurd hj (by omega)) (rfl) (rfl) (by omega) hv hP hD hS ls (lv_sub hl [0, 1] rfl)
  · have tc_2 : x_1.toInt = (0 : Int32).toInt := by rw [c_2]
    refine lv_bipush (v := (-5)) hx hb dX8_back_7 (by decide) ?_
    exact W.iret (v := (-5)) hx hb hr (fun t ht hW => ⟨⟨(-5), v, rfl, ⟨hv, Or.inl ⟨by rw [← ex_1]; omega, rfl, rfl⟩⟩, by rw [ht]; exact hP, hD⟩, hS.F ht⟩) hS.2.2 dX8_back_9

/-- a sum of heads -/
def hs (r : Nat → Int32) : Int := (r 0).toInt + (r 1).toInt + (r 2).toInt + (r 3).toInt + (r 4).toInt + (r 5).toInt
theorem hs_nn {v : Nat → Nat → Int32} (hv : Ir v) : 0 ≤ hs (v 3) := by
  have h0 := hv 3 0 5 rfl
  have h1 := hv 3 1 5 rfl
  have h2 := hv 3 2 5 rfl
  have h3 := hv 3 3 5 rfl
  have h4 := hv 3 4 5 rfl
  have h5 := hv 3 5 5 rfl
  unfold hs
  omega
theorem hs_1 {r : Nat → Int32} {a : Nat} {x : Int32} (ha : a < 6) : hs (upd r a x) = hs r - (r a).toInt + x.toInt := by
  unfold hs
  rcases (show a = 0 ∨ a = 1 ∨ a = 2 ∨ a = 3 ∨ a = 4 ∨ a = 5 by omega) with rfl | rfl | rfl | rfl | rfl | rfl
  · rw [show upd r 0 x 0 = x from pk_us, show upd r 0 x 1 = r 1 from pk_un (by decide), show upd r 0 x 2 = r 2 from pk_un (by decide), show upd r 0 x 3 = r 3 from pk_un (by decide), show upd r 0 x 4 = r 4 from pk_un (by decide), show upd r 0 x 5 = r 5 from pk_un (by decide)]
    omega
  · rw [show upd r 1 x 0 = r 0 from pk_un (by decide), show upd r 1 x 1 = x from pk_us, show upd r 1 x 2 = r 2 from pk_un (by decide), show upd r 1 x 3 = r 3 from pk_un (by decide), show upd r 1 x 4 = r 4 from pk_un (by decide), show upd r 1 x 5 = r 5 from pk_un (by decide)]
    omega
  · rw [show upd r 2 x 0 = r 0 from pk_un (by decide), show upd r 2 x 1 = r 1 from pk_un (by decide), show upd r 2 x 2 = x from pk_us, show upd r 2 x 3 = r 3 from pk_un (by decide), show upd r 2 x 4 = r 4 from pk_un (by decide), show upd r 2 x 5 = r 5 from pk_un (by decide)]
    omega
  · rw [show upd r 3 x 0 = r 0 from pk_un (by decide), show upd r 3 x 1 = r 1 from pk_un (by decide), show upd r 3 x 2 = r 2 from pk_un (by decide), show upd r 3 x 3 = x from pk_us, show upd r 3 x 4 = r 4 from pk_un (by decide), show upd r 3 x 5 = r 5 from pk_un (by decide)]
    omega
  · rw [show upd r 4 x 0 = r 0 from pk_un (by decide), show upd r 4 x 1 = r 1 from pk_un (by decide), show upd r 4 x 2 = r 2 from pk_un (by decide), show upd r 4 x 3 = r 3 from pk_un (by decide), show upd r 4 x 4 = x from pk_us, show upd r 4 x 5 = r 5 from pk_un (by decide)]
    omega
  · rw [show upd r 5 x 0 = r 0 from pk_un (by decide), show upd r 5 x 1 = r 1 from pk_un (by decide), show upd r 5 x 2 = r 2 from pk_un (by decide), show upd r 5 x 3 = r 3 from pk_un (by decide), show upd r 5 x 4 = r 4 from pk_un (by decide), show upd r 5 x 5 = x from pk_us]
    omega
theorem hs_2 {v : Nat → Nat → Int32} {a b x p q : Int32} (ha : 0 ≤ a.toInt ∧ a.toInt ≤ 5) (hb : 0 ≤ b.toInt ∧ b.toInt ≤ 5) (hp : p = v 3 a.toNatClampNeg) (hq : q = v 3 b.toNatClampNeg) (hn : p.toInt ≠ q.toInt) (h1 : x.toInt ≤ p.toInt) (h2 : x.toInt ≤ q.toInt) : hs (upd (upd (v 3) a.toNatClampNeg x) b.toNatClampNeg x) < hs (v 3) := by
  have na := t_nn ha.1
  have nb := t_nn hb.1
  have hab : b.toNatClampNeg ≠ a.toNatClampNeg := fun e => hn (by rw [hp, hq, e])
  rw [hs_1 (by omega), hs_1 (by omega), pk_un hab, ← hp, ← hq]
  omega
/-- the odometer of the plan -/
def pq (k a b c d e : Int) : Prop := (0 ≤ k → 0 ≤ a ∧ a ≤ 19) ∧ (1 ≤ k → 0 ≤ b ∧ b ≤ 19 ∧ a ≤ 18) ∧ (2 ≤ k → 0 ≤ c ∧ c ≤ 19 ∧ b ≤ 18) ∧ (3 ≤ k → 0 ≤ d ∧ d ≤ 19 ∧ c ≤ 18) ∧ (4 ≤ k → 0 ≤ e ∧ e ≤ 19 ∧ d ≤ 18)
def mq (k a b c d e : Int) : Int := if k < 0 then 0 else if k = 0 then (20 - a) * 194481 else if k = 1 then (19 - a) * 194481 + (20 - b) * 9261 else if k = 2 then (19 - a) * 194481 + (19 - b) * 9261 + (20 - c) * 441 else if k = 3 then (19 - a) * 194481 + (19 - b) * 9261 + (19 - c) * 441 + (20 - d) * 21 else (19 - a) * 194481 + (19 - b) * 9261 + (19 - c) * 441 + (19 - d) * 21 + (20 - e)
def pl (k : Int) (r : Nat → Int32) : Prop := pq k (r 0).toInt (r 1).toInt (r 2).toInt (r 3).toInt (r 4).toInt
def mp (k : Int) (r : Nat → Int32) : Int := mq k (r 0).toInt (r 1).toInt (r 2).toInt (r 3).toInt (r 4).toInt
theorem mq_m (a b c d e : Int) : mq (-1) a b c d e = 0 := rfl
theorem mq_0 (a b c d e : Int) : mq 0 a b c d e = (20 - a) * 194481 := rfl
theorem mq_1 (a b c d e : Int) : mq 1 a b c d e = (19 - a) * 194481 + (20 - b) * 9261 := rfl
theorem mq_2 (a b c d e : Int) : mq 2 a b c d e = (19 - a) * 194481 + (19 - b) * 9261 + (20 - c) * 441 := rfl
theorem mq_3 (a b c d e : Int) : mq 3 a b c d e = (19 - a) * 194481 + (19 - b) * 9261 + (19 - c) * 441 + (20 - d) * 21 := rfl
theorem mq_4 (a b c d e : Int) : mq 4 a b c d e = (19 - a) * 194481 + (19 - b) * 9261 + (19 - c) * 441 + (19 - d) * 21 + (20 - e) := rfl
theorem pl_up {r : Nat → Int32} {k k' x : Int32} (h : pl k.toInt r) (hk : 0 ≤ k.toInt ∧ k.toInt ≤ 3) (ht : (r k.toNatClampNeg).toInt ≤ 18) (e : k'.toInt = k.toInt + 1) (hx : x.toInt = 0) : pl k'.toInt (upd r k'.toNatClampNeg x) ∧ 0 < mp k.toInt r ∧ mp k'.toInt (upd r k'.toNatClampNeg x) < mp k.toInt r := by
  rcases (show k.toInt = 0 ∨ k.toInt = 1 ∨ k.toInt = 2 ∨ k.toInt = 3 by omega) with q | q | q | q
  · have n0 : k.toNatClampNeg = 0 := nt (by omega)
    have n1 : k'.toNatClampNeg = 1 := nt (by omega)
    have q1 : k'.toInt = 1 := by omega
    rw [n0] at ht
    unfold pl at h ⊢
    unfold mp
    rw [n1, show upd r 1 x 0 = r 0 from pk_un (by decide), show upd r 1 x 1 = x from pk_us, show upd r 1 x 2 = r 2 from pk_un (by decide), show upd r 1 x 3 = r 3 from pk_un (by decide), show upd r 1 x 4 = r 4 from pk_un (by decide)]
    rw [q] at h
    rw [q, q1]
    simp only [mq_1, mq_0]
    unfold pq at h ⊢
    simp only [Int.reduceLE, Int.reduceNeg, true_implies, false_implies, and_true, true_and] at h ⊢
    omega
  · have n0 : k.toNatClampNeg = 1 := nt (by omega)
    have n1 : k'.toNatClampNeg = 2 := nt (by omega)
    have q1 : k'.toInt = 2 := by omega
    rw [n0] at ht
    unfold pl at h ⊢
    unfold mp
    rw [n1, show upd r 2 x 0 = r 0 from pk_un (by decide), show upd r 2 x 1 = r 1 from pk_un (by decide), show upd r 2 x 2 = x from pk_us, show upd r 2 x 3 = r 3 from pk_un (by decide), show upd r 2 x 4 = r 4 from pk_un (by decide)]
    rw [q] at h
    rw [q, q1]
    simp only [mq_2, mq_1]
    unfold pq at h ⊢
    simp only [Int.reduceLE, Int.reduceNeg, true_implies, false_implies, and_true, true_and] at h ⊢
    omega
  · have n0 : k.toNatClampNeg = 2 := nt (by omega)
    have n1 : k'.toNatClampNeg = 3 := nt (by omega)
    have q1 : k'.toInt = 3 := by omega
    rw [n0] at ht
    unfold pl at h ⊢
    unfold mp
    rw [n1, show upd r 3 x 0 = r 0 from pk_un (by decide), show upd r 3 x 1 = r 1 from pk_un (by decide), show upd r 3 x 2 = r 2 from pk_un (by decide), show upd r 3 x 3 = x from pk_us, show upd r 3 x 4 = r 4 from pk_un (by decide)]
    rw [q] at h
    rw [q, q1]
    simp only [mq_3, mq_2]
    unfold pq at h ⊢
    simp only [Int.reduceLE, Int.reduceNeg, true_implies, false_implies, and_true, true_and] at h ⊢
    omega
  · have n0 : k.toNatClampNeg = 3 := nt (by omega)
    have n1 : k'.toNatClampNeg = 4 := nt (by omega)
    have q1 : k'.toInt = 4 := by omega
    rw [n0] at ht
    unfold pl at h ⊢
    unfold mp
    rw [n1, show upd r 4 x 0 = r 0 from pk_un (by decide), show upd r 4 x 1 = r 1 from pk_un (by decide), show upd r 4 x 2 = r 2 from pk_un (by decide), show upd r 4 x 3 = r 3 from pk_un (by decide), show upd r 4 x 4 = x from pk_us]
    rw [q] at h
    rw [q, q1]
    simp only [mq_4, mq_3]
    unfold pq at h ⊢
    simp only [Int.reduceLE, Int.reduceNeg, true_implies, false_implies, and_true, true_and] at h ⊢
    omega
theorem pl_dn {r : Nat → Int32} {k k' x y : Int32} (h : pl k.toInt r) (hk : 1 ≤ k.toInt ∧ k.toInt ≤ 4) (e : k'.toInt = k.toInt - 1) (ex : y = r k'.toNatClampNeg) (hx : x.toInt = y.toInt + 1) : pl k'.toInt (upd r k'.toNatClampNeg x) ∧ 0 < mp k.toInt r ∧ mp k'.toInt (upd r k'.toNatClampNeg x) < mp k.toInt r := by
  rcases (show k.toInt = 1 ∨ k.toInt = 2 ∨ k.toInt = 3 ∨ k.toInt = 4 by omega) with q | q | q | q
  · have n1 : k'.toNatClampNeg = 0 := nt (by omega)
    have q1 : k'.toInt = 0 := by omega
    rw [n1] at ex
    unfold pl at h ⊢
    unfold mp
    rw [n1, show upd r 0 x 0 = x from pk_us, show upd r 0 x 1 = r 1 from pk_un (by decide), show upd r 0 x 2 = r 2 from pk_un (by decide), show upd r 0 x 3 = r 3 from pk_un (by decide), show upd r 0 x 4 = r 4 from pk_un (by decide)]
    rw [q] at h
    rw [q, q1]
    rw [ex] at hx
    simp only [mq_0, mq_1]
    unfold pq at h ⊢
    simp only [Int.reduceLE, Int.reduceNeg, true_implies, false_implies, and_true, true_and] at h ⊢
    omega
  · have n1 : k'.toNatClampNeg = 1 := nt (by omega)
    have q1 : k'.toInt = 1 := by omega
    rw [n1] at ex
    unfold pl at h ⊢
    unfold mp
    rw [n1, show upd r 1 x 0 = r 0 from pk_un (by decide), show upd r 1 x 1 = x from pk_us, show upd r 1 x 2 = r 2 from pk_un (by decide), show upd r 1 x 3 = r 3 from pk_un (by decide), show upd r 1 x 4 = r 4 from pk_un (by decide)]
    rw [q] at h
    rw [q, q1]
    rw [ex] at hx
    simp only [mq_1, mq_2]
    unfold pq at h ⊢
    simp only [Int.reduceLE, Int.reduceNeg, true_implies, false_implies, and_true, true_and] at h ⊢
    omega
  · have n1 : k'.toNatClampNeg = 2 := nt (by omega)
    have q1 : k'.toInt = 2 := by omega
    rw [n1] at ex
    unfold pl at h ⊢
    unfold mp
    rw [n1, show upd r 2 x 0 = r 0 from pk_un (by decide), show upd r 2 x 1 = r 1 from pk_un (by decide), show upd r 2 x 2 = x from pk_us, show upd r 2 x 3 = r 3 from pk_un (by decide), show upd r 2 x 4 = r 4 from pk_un (by decide)]
    rw [q] at h
    rw [q, q1]
    rw [ex] at hx
    simp only [mq_2, mq_3]
    unfold pq at h ⊢
    simp only [Int.reduceLE, Int.reduceNeg, true_implies, false_implies, and_true, true_and] at h ⊢
    omega
  · have n1 : k'.toNatClampNeg = 3 := nt (by omega)
    have q1 : k'.toInt = 3 := by omega
    rw [n1] at ex
    unfold pl at h ⊢
    unfold mp
    rw [n1, show upd r 3 x 0 = r 0 from pk_un (by decide), show upd r 3 x 1 = r 1 from pk_un (by decide), show upd r 3 x 2 = r 2 from pk_un (by decide), show upd r 3 x 3 = x from pk_us, show upd r 3 x 4 = r 4 from pk_un (by decide)]
    rw [q] at h
    rw [q, q1]
    rw [ex] at hx
    simp only [mq_3, mq_4]
    unfold pq at h ⊢
    simp only [Int.reduceLE, Int.reduceNeg, true_implies, false_implies, and_true, true_and] at h ⊢
    omega
theorem pl_in {r : Nat → Int32} {k k' x y : Int32} (h : pl k.toInt r) (hk : 0 ≤ k.toInt ∧ k.toInt ≤ 4) (e : k'.toInt = k.toInt) (ex : y = r k'.toNatClampNeg) (ht : y.toInt ≤ 18) (hx : x.toInt = y.toInt + 1) : pl k'.toInt (upd r k'.toNatClampNeg x) ∧ 0 < mp k.toInt r ∧ mp k'.toInt (upd r k'.toNatClampNeg x) < mp k.toInt r := by
  rcases (show k.toInt = 0 ∨ k.toInt = 1 ∨ k.toInt = 2 ∨ k.toInt = 3 ∨ k.toInt = 4 by omega) with q | q | q | q | q
  · have n1 : k'.toNatClampNeg = 0 := nt (by omega)
    have q1 : k'.toInt = 0 := by omega
    rw [n1] at ex
    unfold pl at h ⊢
    unfold mp
    rw [n1, show upd r 0 x 0 = x from pk_us, show upd r 0 x 1 = r 1 from pk_un (by decide), show upd r 0 x 2 = r 2 from pk_un (by decide), show upd r 0 x 3 = r 3 from pk_un (by decide), show upd r 0 x 4 = r 4 from pk_un (by decide)]
    rw [q] at h
    rw [q, q1]
    rw [ex] at hx ht
    simp only [mq_0]
    unfold pq at h ⊢
    simp only [Int.reduceLE, Int.reduceNeg, true_implies, false_implies, and_true, true_and] at h ⊢
    omega
  · have n1 : k'.toNatClampNeg = 1 := nt (by omega)
    have q1 : k'.toInt = 1 := by omega
    rw [n1] at ex
    unfold pl at h ⊢
    unfold mp
    rw [n1, show upd r 1 x 0 = r 0 from pk_un (by decide), show upd r 1 x 1 = x from pk_us, show upd r 1 x 2 = r 2 from pk_un (by decide), show upd r 1 x 3 = r 3 from pk_un (by decide), show upd r 1 x 4 = r 4 from pk_un (by decide)]
    rw [q] at h
    rw [q, q1]
    rw [ex] at hx ht
    simp only [mq_1]
    unfold pq at h ⊢
    simp only [Int.reduceLE, Int.reduceNeg, true_implies, false_implies, and_true, true_and] at h ⊢
    omega
  · have n1 : k'.toNatClampNeg = 2 := nt (by omega)
    have q1 : k'.toInt = 2 := by omega
    rw [n1] at ex
    unfold pl at h ⊢
    unfold mp
    rw [n1, show upd r 2 x 0 = r 0 from pk_un (by decide), show upd r 2 x 1 = r 1 from pk_un (by decide), show upd r 2 x 2 = x from pk_us, show upd r 2 x 3 = r 3 from pk_un (by decide), show upd r 2 x 4 = r 4 from pk_un (by decide)]
    rw [q] at h
    rw [q, q1]
    rw [ex] at hx ht
    simp only [mq_2]
    unfold pq at h ⊢
    simp only [Int.reduceLE, Int.reduceNeg, true_implies, false_implies, and_true, true_and] at h ⊢
    omega
  · have n1 : k'.toNatClampNeg = 3 := nt (by omega)
    have q1 : k'.toInt = 3 := by omega
    rw [n1] at ex
    unfold pl at h ⊢
    unfold mp
    rw [n1, show upd r 3 x 0 = r 0 from pk_un (by decide), show upd r 3 x 1 = r 1 from pk_un (by decide), show upd r 3 x 2 = r 2 from pk_un (by decide), show upd r 3 x 3 = x from pk_us, show upd r 3 x 4 = r 4 from pk_un (by decide)]
    rw [q] at h
    rw [q, q1]
    rw [ex] at hx ht
    simp only [mq_3]
    unfold pq at h ⊢
    simp only [Int.reduceLE, Int.reduceNeg, true_implies, false_implies, and_true, true_and] at h ⊢
    omega
  · have n1 : k'.toNatClampNeg = 4 := nt (by omega)
    have q1 : k'.toInt = 4 := by omega
    rw [n1] at ex
    unfold pl at h ⊢
    unfold mp
    rw [n1, show upd r 4 x 0 = r 0 from pk_un (by decide), show upd r 4 x 1 = r 1 from pk_un (by decide), show upd r 4 x 2 = r 2 from pk_un (by decide), show upd r 4 x 3 = r 3 from pk_un (by decide), show upd r 4 x 4 = x from pk_us]
    rw [q] at h
    rw [q, q1]
    rw [ex] at hx ht
    simp only [mq_4]
    unfold pq at h ⊢
    simp only [Int.reduceLE, Int.reduceNeg, true_implies, false_implies, and_true, true_and] at h ⊢
    omega
theorem pl_ex {r : Nat → Int32} {k k' : Int32} (r' : Nat → Int32) (h : pl k.toInt r) (hk : k.toInt = 0) (e : k'.toInt = -1) : pl k'.toInt r' ∧ 0 < mp k.toInt r ∧ mp k'.toInt r' < mp k.toInt r := by
  unfold pl at h ⊢
  unfold mp
  rw [hk] at h
  rw [hk, e, mq_0, mq_m]
  unfold pq at h ⊢
  omega
theorem pl_z {r : Nat → Int32} {k : Int32} (hk : k.toInt = 0) : pl k.toInt (upd r 0 0) := by
  have k0 : (0 : Int32).toInt = 0 := by decide
  unfold pl pq
  rw [hk, pk_us, k0]
  omega
/-- a digit of the odometer below the last one, and the last one -/
theorem pl_b {r : Nat → Int32} {k k' : Int32} (h : pl k.toInt r) (hk : k.toInt ≤ 4) (hk' : 0 ≤ k'.toInt ∧ k'.toInt < k.toInt) : 0 ≤ (r k'.toNatClampNeg).toInt ∧ (r k'.toNatClampNeg).toInt ≤ 18 := by
  unfold pl pq at h
  rcases (show k'.toInt = 0 ∨ k'.toInt = 1 ∨ k'.toInt = 2 ∨ k'.toInt = 3 by omega) with q | q | q | q
  · rw [nt (n := 0) q]
    omega
  · rw [nt (n := 1) q]
    omega
  · rw [nt (n := 2) q]
    omega
  · rw [nt (n := 3) q]
    omega
theorem pl_c {r : Nat → Int32} {k : Int32} (h : pl k.toInt r) (hk : 0 ≤ k.toInt ∧ k.toInt ≤ 4) : 0 ≤ (r k.toNatClampNeg).toInt ∧ (r k.toNatClampNeg).toInt ≤ 19 := by
  unfold pl pq at h
  rcases (show k.toInt = 0 ∨ k.toInt = 1 ∨ k.toInt = 2 ∨ k.toInt = 3 ∨ k.toInt = 4 by omega) with q | q | q | q | q
  · rw [nt (n := 0) q]
    omega
  · rw [nt (n := 1) q]
    omega
  · rw [nt (n := 2) q]
    omega
  · rw [nt (n := 3) q]
    omega
  · rw [nt (n := 4) q]
    omega
/-- a must of a side -/
abbrev ow (s : Nat → Int32) (B : Nat) (sd : Int32) (t : Nat) : Prop := s (B + 5 * t) = sd ∧ s (B + 5 * t + 1) = 1
theorem ow_ix {x0 x2 i : Int32} (h0 : 0 ≤ x0.toInt ∧ x0.toInt ≤ 5) (h2 : 0 ≤ x2.toInt ∧ x2.toInt ≤ 4) (hi : i.toInt = 158 + 25 * x0.toInt + 5 * x2.toInt) : i.toNatClampNeg = 158 + 25 * x0.toNatClampNeg + 5 * x2.toNatClampNeg := by
  have a := t_nn h0.1
  have b := t_nn h2.1
  have c := t_nn (x := i) (by omega)
  omega
theorem ow_jx {x0 x2 i j : Int32} (h0 : 0 ≤ x0.toInt ∧ x0.toInt ≤ 5) (h2 : 0 ≤ x2.toInt ∧ x2.toInt ≤ 4) (hi : i.toInt = 158 + 25 * x0.toInt + 5 * x2.toInt) (hj : j.toInt = i.toInt + 1) : j.toNatClampNeg = 158 + 25 * x0.toNatClampNeg + 5 * x2.toNatClampNeg + 1 := by
  have a := t_nn h0.1
  have b := t_nn h2.1
  have c := t_nn (x := j) (by omega)
  omega
theorem ow_y {s : Nat → Int32} {x0 x1 x2 i j a b : Int32} (h0 : 0 ≤ x0.toInt ∧ x0.toInt ≤ 5) (h2 : 0 ≤ x2.toInt ∧ x2.toInt ≤ 4) (hi : i.toInt = 158 + 25 * x0.toInt + 5 * x2.toInt) (hj : j.toInt = i.toInt + 1) (ea : a = s i.toNatClampNeg) (eb : b = s j.toNatClampNeg) (ca : a.toInt = x1.toInt) (cb : b.toInt = 1) : ow s (158 + 25 * x0.toNatClampNeg) x1 x2.toNatClampNeg := by
  rw [ow_ix h0 h2 hi] at ea
  rw [ow_jx h0 h2 hi hj] at eb
  exact ⟨ea.symm.trans (Int32.toInt_inj.mp ca), eb.symm.trans (Int32.toInt_inj.mp (cb.trans (by decide)))⟩
theorem ow_n {s : Nat → Int32} {x0 x1 x2 i a : Int32} (h0 : 0 ≤ x0.toInt ∧ x0.toInt ≤ 5) (h2 : 0 ≤ x2.toInt ∧ x2.toInt ≤ 4) (hi : i.toInt = 158 + 25 * x0.toInt + 5 * x2.toInt) (ea : a = s i.toNatClampNeg) (ca : a.toInt ≠ x1.toInt) : ¬ ow s (158 + 25 * x0.toNatClampNeg) x1 x2.toNatClampNeg := by
  rw [ow_ix h0 h2 hi] at ea
  intro q
  exact ca (by rw [ea, q.1])
theorem ow_m {s : Nat → Int32} {x0 x1 x2 i j b : Int32} (h0 : 0 ≤ x0.toInt ∧ x0.toInt ≤ 5) (h2 : 0 ≤ x2.toInt ∧ x2.toInt ≤ 4) (hi : i.toInt = 158 + 25 * x0.toInt + 5 * x2.toInt) (hj : j.toInt = i.toInt + 1) (eb : b = s j.toNatClampNeg) (cb : b.toInt ≠ 1) : ¬ ow s (158 + 25 * x0.toNatClampNeg) x1 x2.toNatClampNeg := by
  rw [ow_jx h0 h2 hi hj] at eb
  intro q
  exact cb (by rw [eb, q.2]; decide)
/-- the odometer of the table -/
def dg (s : Nat → Int32) (B : Nat) (sd : Int32) (h : Nat → Int32) (i : Nat) : Int := if ow s B sd i then 24 - (h i).toInt else 0
def ct (t : Int) : Int := if t = 0 then 11881376 else if t = 1 then 456976 else if t = 2 then 17576 else if t = 3 then 676 else if t = 4 then 26 else 1
def mt (d : Nat → Int) (t f : Int) : Int := (if 0 < t then d 0 * 11881376 else 0) + (if 1 < t then d 1 * 456976 else 0) + (if 2 < t then d 2 * 17576 else 0) + (if 3 < t then d 3 * 676 else 0) + (if 4 < t then d 4 * 26 else 0) + (25 - f) * ct t
theorem mt_m (d : Nat → Int) (f : Int) : mt d (-1) f = 0 + 0 + 0 + 0 + 0 + (25 - f) * 1 := rfl
theorem mt_0 (d : Nat → Int) (f : Int) : mt d 0 f = 0 + 0 + 0 + 0 + 0 + (25 - f) * 11881376 := rfl
theorem mt_1 (d : Nat → Int) (f : Int) : mt d 1 f = d 0 * 11881376 + 0 + 0 + 0 + 0 + (25 - f) * 456976 := rfl
theorem mt_2 (d : Nat → Int) (f : Int) : mt d 2 f = d 0 * 11881376 + d 1 * 456976 + 0 + 0 + 0 + (25 - f) * 17576 := rfl
theorem mt_3 (d : Nat → Int) (f : Int) : mt d 3 f = d 0 * 11881376 + d 1 * 456976 + d 2 * 17576 + 0 + 0 + (25 - f) * 676 := rfl
theorem mt_4 (d : Nat → Int) (f : Int) : mt d 4 f = d 0 * 11881376 + d 1 * 456976 + d 2 * 17576 + d 3 * 676 + 0 + (25 - f) * 26 := rfl
theorem mt_5 (d : Nat → Int) (f : Int) : mt d 5 f = d 0 * 11881376 + d 1 * 456976 + d 2 * 17576 + d 3 * 676 + d 4 * 26 + (25 - f) * 1 := rfl
theorem mt_f {s : Nat → Int32} {B : Nat} {sd : Int32} {h h' : Nat → Int32} {t t' f f' r : Int32} (ht : 0 ≤ t.toInt ∧ t.toInt ≤ 4) (ht' : t.toInt < t'.toInt ∧ t'.toInt ≤ 5) (hf : 0 ≤ f.toInt ∧ f.toInt ≤ 24) (hf' : 0 ≤ f'.toInt) (hr : f.toInt ≤ r.toInt ∧ r.toInt ≤ 23) (e1 : ∀ i : Nat, i ≠ t.toNatClampNeg → h' i = h i) (e2 : (h' t.toNatClampNeg).toInt = r.toInt) (hn : ∀ i : Nat, t.toInt < i → (i : Int) < t'.toInt → ¬ ow s B sd i) (hi : ∀ i : Nat, (i : Int) < t.toInt → ow s B sd i → 0 ≤ (h i).toInt ∧ (h i).toInt ≤ 23) : (∀ i : Nat, (i : Int) < t'.toInt → ow s B sd i → 0 ≤ (h' i).toInt ∧ (h' i).toInt ≤ 23) ∧ 0 < mt (dg s B sd h) t.toInt f.toInt ∧ mt (dg s B sd h') t'.toInt f'.toInt < mt (dg s B sd h) t.toInt f.toInt := by
  have n0 := t_nn ht.1
  refine ⟨?_, ?_⟩
  · intro i h1 ho
    by_cases hi0 : i = t.toNatClampNeg
    · rw [hi0, e2]
      omega
    · rw [e1 i hi0]
      by_cases h2 : (i : Int) < t.toInt
      · exact hi i h2 ho
      · exact absurd ho (hn i (by omega) h1)
  · have D0 : ∀ i : Nat, (i : Int) < t.toInt → 0 ≤ dg s B sd h i ∧ dg s B sd h' i = dg s B sd h i := by
      intro i q
      unfold dg
      rw [e1 i (by omega)]
      refine ⟨?_, rfl⟩
      split
      · next ho =>
        have z := hi i q ho
        omega
      · exact Int.le_refl 0
    have D1 : dg s B sd h' t.toNatClampNeg ≤ 24 - r.toInt := by
      unfold dg
      rw [e2]
      split
      · exact Int.le_refl _
      · omega
    have D2 : ∀ i : Nat, t.toInt < i → (i : Int) < t'.toInt → dg s B sd h' i = 0 := fun i a b => if_neg (hn i a b)
    clear hi hn e1 e2
    generalize dg s B sd h = d at D0 ⊢
    generalize dg s B sd h' = d' at D0 D1 D2 ⊢
    have a0 := D0 0
    have a1 := D0 1
    have a2 := D0 2
    have a3 := D0 3
    have b1 := D2 1
    have b2 := D2 2
    have b3 := D2 3
    have b4 := D2 4
    clear D0 D2
    rcases (show t.toInt = 0 ∨ t.toInt = 1 ∨ t.toInt = 2 ∨ t.toInt = 3 ∨ t.toInt = 4 by omega) with q | q | q | q | q
    · rw [nt (n := 0) q] at D1
      rcases (show t'.toInt = 1 ∨ t'.toInt = 2 ∨ t'.toInt = 3 ∨ t'.toInt = 4 ∨ t'.toInt = 5 by omega) with q' | q' | q' | q' | q'
      · rw [q, q', mt_0, mt_1]
        omega
      · rw [q, q', mt_0, mt_2]
        omega
      · rw [q, q', mt_0, mt_3]
        omega
      · rw [q, q', mt_0, mt_4]
        omega
      · rw [q, q', mt_0, mt_5]
        omega
    · rw [nt (n := 1) q] at D1
      rcases (show t'.toInt = 2 ∨ t'.toInt = 3 ∨ t'.toInt = 4 ∨ t'.toInt = 5 by omega) with q' | q' | q' | q'
      · rw [q, q', mt_1, mt_2]
        omega
      · rw [q, q', mt_1, mt_3]
        omega
      · rw [q, q', mt_1, mt_4]
        omega
      · rw [q, q', mt_1, mt_5]
        omega
    · rw [nt (n := 2) q] at D1
      rcases (show t'.toInt = 3 ∨ t'.toInt = 4 ∨ t'.toInt = 5 by omega) with q' | q' | q'
      · rw [q, q', mt_2, mt_3]
        omega
      · rw [q, q', mt_2, mt_4]
        omega
      · rw [q, q', mt_2, mt_5]
        omega
    · rw [nt (n := 3) q] at D1
      rcases (show t'.toInt = 4 ∨ t'.toInt = 5 by omega) with q' | q'
      · rw [q, q', mt_3, mt_4]
        omega
      · rw [q, q', mt_3, mt_5]
        omega
    · rw [nt (n := 4) q] at D1
      have q' : t'.toInt = 5 := by omega
      rw [q, q', mt_4, mt_5]
      omega
theorem mt_b {s : Nat → Int32} {B : Nat} {sd : Int32} {h h' : Nat → Int32} {t t' f f' : Int32} (ht : 0 ≤ t.toInt ∧ t.toInt ≤ 4) (ht' : -1 ≤ t'.toInt ∧ t'.toInt < t.toInt) (hf : 0 ≤ f.toInt ∧ f.toInt ≤ 24) (e1 : ∀ i : Nat, i ≠ t.toNatClampNeg → h' i = h i) (ho : 0 ≤ t'.toInt → ow s B sd t'.toNatClampNeg) (hf' : (t'.toInt < 0 ∧ f'.toInt = 0) ∨ (0 ≤ t'.toInt ∧ f'.toInt = (h' t'.toNatClampNeg).toInt + 1)) (hi : ∀ i : Nat, (i : Int) < t.toInt → ow s B sd i → 0 ≤ (h i).toInt ∧ (h i).toInt ≤ 23) : (∀ i : Nat, (i : Int) < t'.toInt → ow s B sd i → 0 ≤ (h' i).toInt ∧ (h' i).toInt ≤ 23) ∧ 0 < mt (dg s B sd h) t.toInt f.toInt ∧ mt (dg s B sd h') t'.toInt f'.toInt < mt (dg s B sd h) t.toInt f.toInt := by
  have n0 := t_nn ht.1
  refine ⟨?_, ?_⟩
  · intro i h1 ho
    rw [e1 i (by omega)]
    exact hi i (by omega) ho
  · have D0 : ∀ i : Nat, (i : Int) < t.toInt → 0 ≤ dg s B sd h i ∧ dg s B sd h' i = dg s B sd h i := by
      intro i q
      unfold dg
      rw [e1 i (by omega)]
      refine ⟨?_, rfl⟩
      split
      · next ho =>
        have z := hi i q ho
        omega
      · exact Int.le_refl 0
    have D3 : 0 ≤ t'.toInt → dg s B sd h' t'.toNatClampNeg = 24 - (h' t'.toNatClampNeg).toInt := fun q => if_pos (ho q)
    clear hi ho e1
    generalize dg s B sd h = d at D0 ⊢
    generalize dg s B sd h' = d' at D0 D3 ⊢
    have a0 := D0 0
    have a1 := D0 1
    have a2 := D0 2
    have a3 := D0 3
    clear D0
    rcases (show t.toInt = 0 ∨ t.toInt = 1 ∨ t.toInt = 2 ∨ t.toInt = 3 ∨ t.toInt = 4 by omega) with q | q | q | q | q
    · have q' : t'.toInt = -1 := by omega
      rw [q, q', mt_0, mt_m]
      omega
    · rcases (show t'.toInt = -1 ∨ t'.toInt = 0 by omega) with q' | q'
      · rw [q, q', mt_1, mt_m]
        omega
      · rw [nt (n := 0) q'] at D3 hf'; rw [q, q', mt_1, mt_0]
        omega
    · rcases (show t'.toInt = -1 ∨ t'.toInt = 0 ∨ t'.toInt = 1 by omega) with q' | q' | q'
      · rw [q, q', mt_2, mt_m]
        omega
      · rw [nt (n := 0) q'] at D3 hf'; rw [q, q', mt_2, mt_0]
        omega
      · rw [nt (n := 1) q'] at D3 hf'; rw [q, q', mt_2, mt_1]
        omega
    · rcases (show t'.toInt = -1 ∨ t'.toInt = 0 ∨ t'.toInt = 1 ∨ t'.toInt = 2 by omega) with q' | q' | q' | q'
      · rw [q, q', mt_3, mt_m]
        omega
      · rw [nt (n := 0) q'] at D3 hf'; rw [q, q', mt_3, mt_0]
        omega
      · rw [nt (n := 1) q'] at D3 hf'; rw [q, q', mt_3, mt_1]
        omega
      · rw [nt (n := 2) q'] at D3 hf'; rw [q, q', mt_3, mt_2]
        omega
    · rcases (show t'.toInt = -1 ∨ t'.toInt = 0 ∨ t'.toInt = 1 ∨ t'.toInt = 2 ∨ t'.toInt = 3 by omega) with q' | q' | q' | q' | q'
      · rw [q, q', mt_4, mt_m]
        omega
      · rw [nt (n := 0) q'] at D3 hf'; rw [q, q', mt_4, mt_0]
        omega
      · rw [nt (n := 1) q'] at D3 hf'; rw [q, q', mt_4, mt_1]
        omega
      · rw [nt (n := 2) q'] at D3 hf'; rw [q, q', mt_4, mt_2]
        omega
      · rw [nt (n := 3) q'] at D3 hf'; rw [q, q', mt_4, mt_3]
        omega
