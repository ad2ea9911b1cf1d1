set_option maxRecDepth 20000 in
theorem db_X0_hasMet_0 : (decode cX0_hasMet 0 = .ok (.aload_n 0, 1)) ∧ (decode cX0_hasMet 1 = .ok (.getfield 33, 3)) ∧ (decode cX0_hasMet 4 = .ok (.iconst 1, 1)) ∧ (decode cX0_hasMet 5 = .ok (.if_icmp .ne 17, 3)) ∧ (decode cX0_hasMet 22 = .ok (.iconst 0, 1)) ∧ (decode cX0_hasMet 23 = .ok (.ireturn, 1)) ∧ (decode cX0_hasMet 8 = .ok (.iload_n 1, 1)) ∧ (decode cX0_hasMet 9 = .ok (.aload_n 0, 1)) := by decide +kernel
theorem dX0_hasMet_0 : decode cX0_hasMet 0 = .ok (.aload_n 0, 1) := db_X0_hasMet_0.1
theorem dX0_hasMet_1 : decode cX0_hasMet 1 = .ok (.getfield 33, 3) := db_X0_hasMet_0.2.1
theorem dX0_hasMet_4 : decode cX0_hasMet 4 = .ok (.iconst 1, 1) := db_X0_hasMet_0.2.2.1
theorem dX0_hasMet_5 : decode cX0_hasMet 5 = .ok (.if_icmp .ne 17, 3) := db_X0_hasMet_0.2.2.2.1
theorem dX0_hasMet_22 : decode cX0_hasMet 22 = .ok (.iconst 0, 1) := db_X0_hasMet_0.2.2.2.2.1
theorem dX0_hasMet_23 : decode cX0_hasMet 23 = .ok (.ireturn, 1) := db_X0_hasMet_0.2.2.2.2.2.1
theorem dX0_hasMet_8 : decode cX0_hasMet 8 = .ok (.iload_n 1, 1) := db_X0_hasMet_0.2.2.2.2.2.2.1
theorem dX0_hasMet_9 : decode cX0_hasMet 9 = .ok (.aload_n 0, 1) := db_X0_hasMet_0.2.2.2.2.2.2.2
set_option maxRecDepth 20000 in
theorem db_X0_hasMet_10 : (decode cX0_hasMet 10 = .ok (.getfield 40, 3)) ∧ (decode cX0_hasMet 13 = .ok (.iconst 1, 1)) ∧ (decode cX0_hasMet 14 = .ok (.isub, 1)) ∧ (decode cX0_hasMet 15 = .ok (.if_icmp .ne 7, 3)) ∧ (decode cX0_hasMet 18 = .ok (.iconst 1, 1)) ∧ (decode cX0_hasMet 19 = .ok (.goto 4, 3)) := by decide +kernel
theorem dX0_hasMet_10 : decode cX0_hasMet 10 = .ok (.getfield 40, 3) := db_X0_hasMet_10.1
theorem dX0_hasMet_13 : decode cX0_hasMet 13 = .ok (.iconst 1, 1) := db_X0_hasMet_10.2.1
theorem dX0_hasMet_14 : decode cX0_hasMet 14 = .ok (.isub, 1) := db_X0_hasMet_10.2.2.1
theorem dX0_hasMet_15 : decode cX0_hasMet 15 = .ok (.if_icmp .ne 7, 3) := db_X0_hasMet_10.2.2.2.1
theorem dX0_hasMet_18 : decode cX0_hasMet 18 = .ok (.iconst 1, 1) := db_X0_hasMet_10.2.2.2.2.1
theorem dX0_hasMet_19 : decode cX0_hasMet 19 = .ok (.goto 4, 3) := db_X0_hasMet_10.2.2.2.2.2
set_option maxRecDepth 20000 in
theorem db_X0_leastOfOther_0 : (decode cX0_leastOfOther 0 = .ok (.aload_n 0, 1)) ∧ (decode cX0_leastOfOther 1 = .ok (.getfield 20, 3)) ∧ (decode cX0_leastOfOther 4 = .ok (.iload_n 1, 1)) ∧ (decode cX0_leastOfOther 5 = .ok (.aaload, 1)) ∧ (decode cX0_leastOfOther 6 = .ok (.iload_n 2, 1)) ∧ (decode cX0_leastOfOther 7 = .ok (.iaload, 1)) ∧ (decode cX0_leastOfOther 8 = .ok (.istore_n 3, 1)) ∧ (decode cX0_leastOfOther 9 = .ok (.aload_n 0, 1)) := by decide +kernel
theorem dX0_leastOfOther_0 : decode cX0_leastOfOther 0 = .ok (.aload_n 0, 1) := db_X0_leastOfOther_0.1
theorem dX0_leastOfOther_1 : decode cX0_leastOfOther 1 = .ok (.getfield 20, 3) := db_X0_leastOfOther_0.2.1
theorem dX0_leastOfOther_4 : decode cX0_leastOfOther 4 = .ok (.iload_n 1, 1) := db_X0_leastOfOther_0.2.2.1
theorem dX0_leastOfOther_5 : decode cX0_leastOfOther 5 = .ok (.aaload, 1) := db_X0_leastOfOther_0.2.2.2.1
theorem dX0_leastOfOther_6 : decode cX0_leastOfOther 6 = .ok (.iload_n 2, 1) := db_X0_leastOfOther_0.2.2.2.2.1
theorem dX0_leastOfOther_7 : decode cX0_leastOfOther 7 = .ok (.iaload, 1) := db_X0_leastOfOther_0.2.2.2.2.2.1
theorem dX0_leastOfOther_8 : decode cX0_leastOfOther 8 = .ok (.istore_n 3, 1) := db_X0_leastOfOther_0.2.2.2.2.2.2.1
theorem dX0_leastOfOther_9 : decode cX0_leastOfOther 9 = .ok (.aload_n 0, 1) := db_X0_leastOfOther_0.2.2.2.2.2.2.2
set_option maxRecDepth 20000 in
theorem db_X0_leastOfOther_10 : (decode cX0_leastOfOther 10 = .ok (.iload_n 2, 1)) ∧ (decode cX0_leastOfOther 11 = .ok (.invokevirtual 52, 3)) ∧ (decode cX0_leastOfOther 14 = .ok (.ifCond .ne 15, 3)) ∧ (decode cX0_leastOfOther 17 = .ok (.iload_n 1, 1)) ∧ (decode cX0_leastOfOther 18 = .ok (.ifCond .ne 7, 3)) ∧ (decode cX0_leastOfOther 25 = .ok (.iload_n 3, 1)) ∧ (decode cX0_leastOfOther 26 = .ok (.iconst 1, 1)) ∧ (decode cX0_leastOfOther 27 = .ok (.iadd, 1)) := by decide +kernel
theorem dX0_leastOfOther_10 : decode cX0_leastOfOther 10 = .ok (.iload_n 2, 1) := db_X0_leastOfOther_10.1
set_option maxRecDepth 20000 in
theorem ggX0_leastOfOther_X0_hasMet : GoodIn wsX0_leastOfOther wsX0_hasMet := goodIn_r _ [11, 12, 13, 14, 15, 16, 17, 18, 19, 20, 21, 22, 23, 24] rfl (by decide +kernel)
set_option maxRecDepth 20000 in
theorem gX0_leastOfOther_X0_hasMet : GoodIn wsX0_leastOfOther (wsV RX0 52 RX0 yX0_hasMet wsX0_hasMet) := goodIn_app (goodIn_r _ [7, 8, 9, 10] rfl (by decide +kernel)) ggX0_leastOfOther_X0_hasMet
theorem dX0_leastOfOther_11 : decode cX0_leastOfOther 11 = .ok (.invokevirtual 52, 3) := db_X0_leastOfOther_10.2.1
theorem dX0_leastOfOther_14 : decode cX0_leastOfOther 14 = .ok (.ifCond .ne 15, 3) := db_X0_leastOfOther_10.2.2.1
theorem dX0_leastOfOther_17 : decode cX0_leastOfOther 17 = .ok (.iload_n 1, 1) := db_X0_leastOfOther_10.2.2.2.1
theorem dX0_leastOfOther_18 : decode cX0_leastOfOther 18 = .ok (.ifCond .ne 7, 3) := db_X0_leastOfOther_10.2.2.2.2.1
theorem dX0_leastOfOther_25 : decode cX0_leastOfOther 25 = .ok (.iload_n 3, 1) := db_X0_leastOfOther_10.2.2.2.2.2.1
theorem dX0_leastOfOther_26 : decode cX0_leastOfOther 26 = .ok (.iconst 1, 1) := db_X0_leastOfOther_10.2.2.2.2.2.2.1
theorem dX0_leastOfOther_27 : decode cX0_leastOfOther 27 = .ok (.iadd, 1) := db_X0_leastOfOther_10.2.2.2.2.2.2.2
set_option maxRecDepth 20000 in
theorem db_X0_leastOfOther_28 : (decode cX0_leastOfOther 28 = .ok (.ireturn, 1)) ∧ (decode cX0_leastOfOther 21 = .ok (.iconst 0, 1)) ∧ (decode cX0_leastOfOther 22 = .ok (.goto 6, 3)) ∧ (decode cX0_leastOfOther 29 = .ok (.iload_n 1, 1)) ∧ (decode cX0_leastOfOther 30 = .ok (.ifCond .ne 7, 3)) ∧ (decode cX0_leastOfOther 37 = .ok (.iconst 0, 1)) ∧ (decode cX0_leastOfOther 38 = .ok (.istore 4, 2)) ∧ (decode cX0_leastOfOther 40 = .ok (.iload 4, 2)) := by decide +kernel
theorem dX0_leastOfOther_28 : decode cX0_leastOfOther 28 = .ok (.ireturn, 1) := db_X0_leastOfOther_28.1
theorem dX0_leastOfOther_21 : decode cX0_leastOfOther 21 = .ok (.iconst 0, 1) := db_X0_leastOfOther_28.2.1
theorem dX0_leastOfOther_22 : decode cX0_leastOfOther 22 = .ok (.goto 6, 3) := db_X0_leastOfOther_28.2.2.1
theorem dX0_leastOfOther_29 : decode cX0_leastOfOther 29 = .ok (.iload_n 1, 1) := db_X0_leastOfOther_28.2.2.2.1
theorem dX0_leastOfOther_30 : decode cX0_leastOfOther 30 = .ok (.ifCond .ne 7, 3) := db_X0_leastOfOther_28.2.2.2.2.1
theorem dX0_leastOfOther_37 : decode cX0_leastOfOther 37 = .ok (.iconst 0, 1) := db_X0_leastOfOther_28.2.2.2.2.2.1
theorem dX0_leastOfOther_38 : decode cX0_leastOfOther 38 = .ok (.istore 4, 2) := db_X0_leastOfOther_28.2.2.2.2.2.2.1
theorem dX0_leastOfOther_40 : decode cX0_leastOfOther 40 = .ok (.iload 4, 2) := db_X0_leastOfOther_28.2.2.2.2.2.2.2
set_option maxRecDepth 20000 in
theorem db_X0_leastOfOther_42 : (decode cX0_leastOfOther 42 = .ok (.iconst 2, 1)) ∧ (decode cX0_leastOfOther 43 = .ok (.aload_n 0, 1)) ∧ (decode cX0_leastOfOther 44 = .ok (.getfield 37, 3)) ∧ (decode cX0_leastOfOther 47 = .ok (.imul, 1)) ∧ (decode cX0_leastOfOther 48 = .ok (.iload_n 3, 1)) ∧ (decode cX0_leastOfOther 49 = .ok (.isub, 1)) ∧ (decode cX0_leastOfOther 50 = .ok (.invokestatic 56, 3)) ∧ (decode cX0_leastOfOther 53 = .ok (.ireturn, 1)) := by decide +kernel
theorem dX0_leastOfOther_42 : decode cX0_leastOfOther 42 = .ok (.iconst 2, 1) := db_X0_leastOfOther_42.1
theorem dX0_leastOfOther_43 : decode cX0_leastOfOther 43 = .ok (.aload_n 0, 1) := db_X0_leastOfOther_42.2.1
theorem dX0_leastOfOther_44 : decode cX0_leastOfOther 44 = .ok (.getfield 37, 3) := db_X0_leastOfOther_42.2.2.1
theorem dX0_leastOfOther_47 : decode cX0_leastOfOther 47 = .ok (.imul, 1) := db_X0_leastOfOther_42.2.2.2.1
theorem dX0_leastOfOther_48 : decode cX0_leastOfOther 48 = .ok (.iload_n 3, 1) := db_X0_leastOfOther_42.2.2.2.2.1
theorem dX0_leastOfOther_49 : decode cX0_leastOfOther 49 = .ok (.isub, 1) := db_X0_leastOfOther_42.2.2.2.2.2.1
theorem dX0_leastOfOther_50 : decode cX0_leastOfOther 50 = .ok (.invokestatic 56, 3) := db_X0_leastOfOther_42.2.2.2.2.2.2.1
theorem dX0_leastOfOther_53 : decode cX0_leastOfOther 53 = .ok (.ireturn, 1) := db_X0_leastOfOther_42.2.2.2.2.2.2.2
set_option maxRecDepth 20000 in
theorem db_X0_leastOfOther_33 : (decode cX0_leastOfOther 33 = .ok (.iload_n 3, 1)) ∧ (decode cX0_leastOfOther 34 = .ok (.goto 4, 3)) := by decide +kernel
theorem dX0_leastOfOther_33 : decode cX0_leastOfOther 33 = .ok (.iload_n 3, 1) := db_X0_leastOfOther_33.1
theorem dX0_leastOfOther_34 : decode cX0_leastOfOther 34 = .ok (.goto 4, 3) := db_X0_leastOfOther_33.2
set_option maxRecDepth 20000 in
theorem db_X0_greatestOfOther_0 : (decode cX0_greatestOfOther 0 = .ok (.aload_n 0, 1)) ∧ (decode cX0_greatestOfOther 1 = .ok (.getfield 20, 3)) ∧ (decode cX0_greatestOfOther 4 = .ok (.iload_n 1, 1)) ∧ (decode cX0_greatestOfOther 5 = .ok (.aaload, 1)) ∧ (decode cX0_greatestOfOther 6 = .ok (.iload_n 2, 1)) ∧ (decode cX0_greatestOfOther 7 = .ok (.iaload, 1)) ∧ (decode cX0_greatestOfOther 8 = .ok (.istore_n 3, 1)) ∧ (decode cX0_greatestOfOther 9 = .ok (.aload_n 0, 1)) := by decide +kernel
theorem dX0_greatestOfOther_0 : decode cX0_greatestOfOther 0 = .ok (.aload_n 0, 1) := db_X0_greatestOfOther_0.1
theorem dX0_greatestOfOther_1 : decode cX0_greatestOfOther 1 = .ok (.getfield 20, 3) := db_X0_greatestOfOther_0.2.1
theorem dX0_greatestOfOther_4 : decode cX0_greatestOfOther 4 = .ok (.iload_n 1, 1) := db_X0_greatestOfOther_0.2.2.1
theorem dX0_greatestOfOther_5 : decode cX0_greatestOfOther 5 = .ok (.aaload, 1) := db_X0_greatestOfOther_0.2.2.2.1
theorem dX0_greatestOfOther_6 : decode cX0_greatestOfOther 6 = .ok (.iload_n 2, 1) := db_X0_greatestOfOther_0.2.2.2.2.1
theorem dX0_greatestOfOther_7 : decode cX0_greatestOfOther 7 = .ok (.iaload, 1) := db_X0_greatestOfOther_0.2.2.2.2.2.1
theorem dX0_greatestOfOther_8 : decode cX0_greatestOfOther 8 = .ok (.istore_n 3, 1) := db_X0_greatestOfOther_0.2.2.2.2.2.2.1
theorem dX0_greatestOfOther_9 : decode cX0_greatestOfOther 9 = .ok (.aload_n 0, 1) := db_X0_greatestOfOther_0.2.2.2.2.2.2.2
set_option maxRecDepth 20000 in
theorem db_X0_greatestOfOther_10 : (decode cX0_greatestOfOther 10 = .ok (.iload_n 2, 1)) ∧ (decode cX0_greatestOfOther 11 = .ok (.invokevirtual 52, 3)) ∧ (decode cX0_greatestOfOther 14 = .ok (.ifCond .ne 16, 3)) ∧ (decode cX0_greatestOfOther 17 = .ok (.iload_n 1, 1)) ∧ (decode cX0_greatestOfOther 18 = .ok (.ifCond .ne 9, 3)) ∧ (decode cX0_greatestOfOther 27 = .ok (.bipush 100, 2)) ∧ (decode cX0_greatestOfOther 29 = .ok (.ireturn, 1)) ∧ (decode cX0_greatestOfOther 21 = .ok (.iload_n 3, 1)) := by decide +kernel
theorem dX0_greatestOfOther_10 : decode cX0_greatestOfOther 10 = .ok (.iload_n 2, 1) := db_X0_greatestOfOther_10.1
set_option maxRecDepth 20000 in
theorem ggX0_greatestOfOther_X0_hasMet : GoodIn wsX0_greatestOfOther wsX0_hasMet := goodIn_r _ [11, 12, 13, 14, 15, 16, 17, 18, 19, 20, 21, 22, 23, 24] rfl (by decide +kernel)
set_option maxRecDepth 20000 in
theorem gX0_greatestOfOther_X0_hasMet : GoodIn wsX0_greatestOfOther (wsV RX0 52 RX0 yX0_hasMet wsX0_hasMet) := goodIn_app (goodIn_r _ [7, 8, 9, 10] rfl (by decide +kernel)) ggX0_greatestOfOther_X0_hasMet
theorem dX0_greatestOfOther_11 : decode cX0_greatestOfOther 11 = .ok (.invokevirtual 52, 3) := db_X0_greatestOfOther_10.2.1
theorem dX0_greatestOfOther_14 : decode cX0_greatestOfOther 14 = .ok (.ifCond .ne 16, 3) := db_X0_greatestOfOther_10.2.2.1
theorem dX0_greatestOfOther_17 : decode cX0_greatestOfOther 17 = .ok (.iload_n 1, 1) := db_X0_greatestOfOther_10.2.2.2.1
theorem dX0_greatestOfOther_18 : decode cX0_greatestOfOther 18 = .ok (.ifCond .ne 9, 3) := db_X0_greatestOfOther_10.2.2.2.2.1
theorem dX0_greatestOfOther_27 : decode cX0_greatestOfOther 27 = .ok (.bipush 100, 2) := db_X0_greatestOfOther_10.2.2.2.2.2.1
theorem dX0_greatestOfOther_29 : decode cX0_greatestOfOther 29 = .ok (.ireturn, 1) := db_X0_greatestOfOther_10.2.2.2.2.2.2.1
theorem dX0_greatestOfOther_21 : decode cX0_greatestOfOther 21 = .ok (.iload_n 3, 1) := db_X0_greatestOfOther_10.2.2.2.2.2.2.2
set_option maxRecDepth 20000 in
theorem db_X0_greatestOfOther_22 : (decode cX0_greatestOfOther 22 = .ok (.iconst 1, 1)) ∧ (decode cX0_greatestOfOther 23 = .ok (.isub, 1)) ∧ (decode cX0_greatestOfOther 24 = .ok (.goto 5, 3)) ∧ (decode cX0_greatestOfOther 30 = .ok (.iload_n 1, 1)) ∧ (decode cX0_greatestOfOther 31 = .ok (.ifCond .ne 8, 3)) ∧ (decode cX0_greatestOfOther 39 = .ok (.iload_n 3, 1)) ∧ (decode cX0_greatestOfOther 40 = .ok (.istore 4, 2)) ∧ (decode cX0_greatestOfOther 42 = .ok (.iload 4, 2)) := by decide +kernel
theorem dX0_greatestOfOther_22 : decode cX0_greatestOfOther 22 = .ok (.iconst 1, 1) := db_X0_greatestOfOther_22.1
theorem dX0_greatestOfOther_23 : decode cX0_greatestOfOther 23 = .ok (.isub, 1) := db_X0_greatestOfOther_22.2.1
theorem dX0_greatestOfOther_24 : decode cX0_greatestOfOther 24 = .ok (.goto 5, 3) := db_X0_greatestOfOther_22.2.2.1
theorem dX0_greatestOfOther_30 : decode cX0_greatestOfOther 30 = .ok (.iload_n 1, 1) := db_X0_greatestOfOther_22.2.2.2.1
theorem dX0_greatestOfOther_31 : decode cX0_greatestOfOther 31 = .ok (.ifCond .ne 8, 3) := db_X0_greatestOfOther_22.2.2.2.2.1
theorem dX0_greatestOfOther_39 : decode cX0_greatestOfOther 39 = .ok (.iload_n 3, 1) := db_X0_greatestOfOther_22.2.2.2.2.2.1
theorem dX0_greatestOfOther_40 : decode cX0_greatestOfOther 40 = .ok (.istore 4, 2) := db_X0_greatestOfOther_22.2.2.2.2.2.2.1
theorem dX0_greatestOfOther_42 : decode cX0_greatestOfOther 42 = .ok (.iload 4, 2) := db_X0_greatestOfOther_22.2.2.2.2.2.2.2
set_option maxRecDepth 20000 in
theorem db_X0_greatestOfOther_44 : (decode cX0_greatestOfOther 44 = .ok (.iconst 2, 1)) ∧ (decode cX0_greatestOfOther 45 = .ok (.aload_n 0, 1)) ∧ (decode cX0_greatestOfOther 46 = .ok (.getfield 37, 3)) ∧ (decode cX0_greatestOfOther 49 = .ok (.imul, 1)) ∧ (decode cX0_greatestOfOther 50 = .ok (.iconst 1, 1)) ∧ (decode cX0_greatestOfOther 51 = .ok (.iadd, 1)) ∧ (decode cX0_greatestOfOther 52 = .ok (.iload_n 3, 1)) ∧ (decode cX0_greatestOfOther 53 = .ok (.isub, 1)) := by decide +kernel
theorem dX0_greatestOfOther_44 : decode cX0_greatestOfOther 44 = .ok (.iconst 2, 1) := db_X0_greatestOfOther_44.1
theorem dX0_greatestOfOther_45 : decode cX0_greatestOfOther 45 = .ok (.aload_n 0, 1) := db_X0_greatestOfOther_44.2.1
theorem dX0_greatestOfOther_46 : decode cX0_greatestOfOther 46 = .ok (.getfield 37, 3) := db_X0_greatestOfOther_44.2.2.1
theorem dX0_greatestOfOther_49 : decode cX0_greatestOfOther 49 = .ok (.imul, 1) := db_X0_greatestOfOther_44.2.2.2.1
theorem dX0_greatestOfOther_50 : decode cX0_greatestOfOther 50 = .ok (.iconst 1, 1) := db_X0_greatestOfOther_44.2.2.2.2.1
theorem dX0_greatestOfOther_51 : decode cX0_greatestOfOther 51 = .ok (.iadd, 1) := db_X0_greatestOfOther_44.2.2.2.2.2.1
theorem dX0_greatestOfOther_52 : decode cX0_greatestOfOther 52 = .ok (.iload_n 3, 1) := db_X0_greatestOfOther_44.2.2.2.2.2.2.1
theorem dX0_greatestOfOther_53 : decode cX0_greatestOfOther 53 = .ok (.isub, 1) := db_X0_greatestOfOther_44.2.2.2.2.2.2.2
set_option maxRecDepth 20000 in
theorem db_X0_greatestOfOther_54 : (decode cX0_greatestOfOther 54 = .ok (.invokestatic 62, 3)) ∧ (decode cX0_greatestOfOther 57 = .ok (.ireturn, 1)) ∧ (decode cX0_greatestOfOther 34 = .ok (.bipush 100, 2)) ∧ (decode cX0_greatestOfOther 36 = .ok (.goto 4, 3)) := by decide +kernel
theorem dX0_greatestOfOther_54 : decode cX0_greatestOfOther 54 = .ok (.invokestatic 62, 3) := db_X0_greatestOfOther_54.1
theorem dX0_greatestOfOther_57 : decode cX0_greatestOfOther 57 = .ok (.ireturn, 1) := db_X0_greatestOfOther_54.2.1
theorem dX0_greatestOfOther_34 : decode cX0_greatestOfOther 34 = .ok (.bipush 100, 2) := db_X0_greatestOfOther_54.2.2.1
theorem dX0_greatestOfOther_36 : decode cX0_greatestOfOther 36 = .ok (.goto 4, 3) := db_X0_greatestOfOther_54.2.2.2
set_option maxHeartbeats 4000000 in
set_option maxRecDepth 100000 in
theorem g_X0_hasMet (l : Launch) (dC : Nat → ClassId) (dI : Nat → Nat → Nat) (cy : Nat → ClassId) (sz : Nat) (ad : Nat → Nat) (kv : Value) (N : Nat) (hN : 119 ≤ N) (v : Nat → Nat → Int32) (hv : Iv v) (i : Nat) (hi : i < 6) (x0 : Int32) : Met l yX0_hasMet wsX0_hasMet ({ frames := 0, cells := 0, slots := 0, locals := 0 }) (va_Pc [.ref (ad (29 + 15 * i)), .int x0] (ex_Pre dC dI cy sz (wl ad kv cy N v))) (va_Qi (fun (r : Int32) (u : Nat → Nat → Int32) => Iv u ∧ Fz v u ∧ (r = 0 ∨ r = 1)) (fun u t => ex_Pst dC dI (va_A (wl ad kv cy N v) sz) (wl ad kv cy N u) t) (va_A (wl ad kv cy N v) sz)) 0 0 (va_A (wl ad kv cy N v) sz) := by
  refine Met.ofW (cc := cX0_hasMet) (maxL := 2) (ret := (some .boolean)) (by decide) rfl ?_
  intro p e s m args below meth c s₁ B hml hv
  obtain ⟨rfl, hsz, hE, hP, hK, hD0⟩ := hv
  have hx := B.exec
  have hb := B.bytes
  have hr := B.returns
  have hts := atoms_spec (ws := wsX0_hasMet) B.pre
  have hown : s.vm.findClass RX0 = some m.cls := findClass_of_methodNamed B.named
  have hlocks := B.notSynchronized
  subst hsz
  have hD := hD0.self (sz := s.heap.size)
  generalize hAe : va_A (wl ad kv cy N v) s.heap.size = A at hD ⊢
  have hA : ∀ q : Nat, s.heap.size ≤ q → A q := fun q h => by rw [← hAe]; exact Or.inr h
  have hS : va_S A s.heap s.heap [] := va_S.rf
  have hP : va_P (dC, dI) vwCl (wl ad kv cy N v) s.heap := hP
  have hl := lv_entry ([.ref (ad (29 + 15 * i)), .int x0]) (n := 2) (Nat.le_of_ble_eq_true rfl)
  rw [lg_entry_eq]
  generalize (lg_sl ([.ref (ad (29 + 15 * i)), .int x0]) ++ List.replicate (2 - (lg_sl ([.ref (ad (29 + 15 * i)), .int x0])).length) Slot.unset).toArray = ls at hl ⊢
  have hl : lv_has ls 2 [(0, .ref (ad (29 + 15 * i))), (1, .int x0)] := hl
  have hfr : Fz v v := Fz.rf
  refine lv_aload_n hx hb dX0_hasMet_0 rfl (lv_at hl 0 rfl) ?_
  refine va_get (D := (dC, dI)) (ci := 0) (v := .int (v (29 + 15 * i) 0)) (C := RX0) (T := TX0) (N := 11) hx hb hts iwX0_hasMet_X0 hown hK hP (29 + 15 * i) (wl_at (by omega) (ce_9 (kd_c i hi).1.1)) rfl 0 (by decide) (hts (.fieldLink RX0 33 "QuietStairs$Case" "state" "I") fwX0_hasMet_1) (fun _ h9 => h9) rfl dX0_hasMet_1 ?_
  refine lv_topi (fun x_1 ex_1 => ?_)
  refine lv_iconst (v := 1) hx hb dX0_hasMet_4 (by decide) ?_
  have k_1 : (1 : Int32).toInt = 1 := by decide
  refine lv_icmp_ne (tgt := 22) hx hb dX0_hasMet_5 (by decide) (fun c_2 => ?_) (fun c_2 => ?_)
  · have tc_2 : x_1.toInt ≠ (1 : Int32).toInt := fun q => absurd (Int32.toInt_inj.mp q) c_2
    refine lv_iconst (v := 0) hx hb dX0_hasMet_22 (by decide) ?_
    exact W.zret (ty := .boolean) (v := 0) hx hb hr rfl (fun t ht hW => ⟨⟨0, v, rfl, ⟨hv, hfr, by decide⟩, by rw [ht]; exact hP, hD⟩, hS.F ht⟩) hS.2.2 dX0_hasMet_23
  · have tc_2 : x_1.toInt = (1 : Int32).toInt := by rw [c_2]
    refine lv_iload_n hx hb dX0_hasMet_8 rfl (lv_at hl 1 rfl) ?_
    refine lv_aload_n hx hb dX0_hasMet_9 rfl (lv_at hl 0 rfl) ?_
    refine va_get (D := (dC, dI)) (ci := 0) (v := .int (v (29 + 15 * i) 2)) (C := RX0) (T := TX0) (N := 11) hx hb hts iwX0_hasMet_X0 hown hK hP (29 + 15 * i) (wl_at (by omega) (ce_9 (kd_c i hi).1.1)) rfl 2 (by decide) (hts (.fieldLink RX0 40 "QuietStairs$Case" "roundsOver" "I") fwX0_hasMet_2) (fun _ h9 => h9) rfl dX0_hasMet_10 ?_
    refine lv_topi (fun x_3 ex_3 => ?_)
    have bx_3 : 0 ≤ x_3.toInt ∧ x_3.toInt ≤ 5 := by rw [ex_3]; exact hv.at (K := 9) (kd_c i hi).1.1 rfl
    refine lv_iconst (v := 1) hx hb dX0_hasMet_13 (by decide) ?_
    refine lv_isub hx hb dX0_hasMet_14 ?_
    refine lv_topi (fun x_4 ex_4 => ?_)
    have tx_4 : x_4.toInt = x_3.toInt - (1 : Int32).toInt := by rw [ex_4]; exact t_sub ⟨by omega, by omega⟩
    refine lv_icmp_ne (tgt := 22) hx hb dX0_hasMet_15 (by decide) (fun c_5 => ?_) (fun c_5 => ?_)
    · have tc_5 : x0.toInt ≠ x_4.toInt := fun q => absurd (Int32.toInt_inj.mp q) c_5
      refine lv_iconst (v := 0) hx hb dX0_hasMet_22 (by decide) ?_
      exact W.zret (ty := .boolean) (v := 0) hx hb hr rfl (fun t ht hW => ⟨⟨0, v, rfl, ⟨hv, hfr, by decide⟩, by rw [ht]; exact hP, hD⟩, hS.F ht⟩) hS.2.2 dX0_hasMet_23
    · have tc_5 : x0.toInt = x_4.toInt := by rw [c_5]
      refine lv_iconst (v := 1) hx hb dX0_hasMet_18 (by decide) ?_
      refine lv_goto (tgt := 23) hx hb dX0_hasMet_19 (by decide) ?_
      exact W.zret (ty := .boolean) (v := 1) hx hb hr rfl (fun t ht hW => ⟨⟨1, v, rfl, ⟨hv, hfr, by decide⟩, by rw [ht]; exact hP, hD⟩, hS.F ht⟩) hS.2.2 dX0_hasMet_23

set_option maxHeartbeats 4000000 in
set_option maxRecDepth 100000 in
theorem g_X0_leastOfOther (l : Launch) (dC : Nat → ClassId) (dI : Nat → Nat → Nat) (cy : Nat → ClassId) (sz : Nat) (ad : Nat → Nat) (kv : Value) (N : Nat) (hN : 119 ≤ N) (v : Nat → Nat → Int32) (hv : Iv v) (i : Nat) (hi : i < 6) (x0 x1 : Int32) (hs : 0 ≤ x0.toInt ∧ x0.toInt ≤ 1) (ht : 0 ≤ x1.toInt ∧ x1.toInt ≤ 4) : Met l yX0_leastOfOther wsX0_leastOfOther ({ frames := 1, cells := 0, slots := 0, locals := 64 }) (va_Pc [.ref (ad (29 + 15 * i)), .int x0, .int x1] (ex_Pre dC dI cy sz (wl ad kv cy N v))) (va_Qi (fun (r : Int32) (u : Nat → Nat → Int32) => Iv u ∧ Fz v u) (fun u t => ex_Pst dC dI (va_A (wl ad kv cy N v) sz) (wl ad kv cy N u) t) (va_A (wl ad kv cy N v) sz)) 0 0 (va_A (wl ad kv cy N v) sz) := by
  refine Met.ofW (cc := cX0_leastOfOther) (maxL := 5) (ret := (some .int)) (by decide) rfl ?_
  intro p e s m args below meth c s₁ B hml hv
  obtain ⟨rfl, hsz, hE, hP, hK, hD0⟩ := hv
  have hx := B.exec
  have hb := B.bytes
  have hr := B.returns
  have hts := atoms_spec (ws := wsX0_leastOfOther) B.pre
  have hown : s.vm.findClass RX0 = some m.cls := findClass_of_methodNamed B.named
  have hlocks := B.notSynchronized
  subst hsz
  have hD := hD0.self (sz := s.heap.size)
  generalize hAe : va_A (wl ad kv cy N v) s.heap.size = A at hD ⊢
  have hA : ∀ q : Nat, s.heap.size ≤ q → A q := fun q h => by rw [← hAe]; exact Or.inr h
  have hS : va_S A s.heap s.heap [] := va_S.rf
  have hP : va_P (dC, dI) vwCl (wl ad kv cy N v) s.heap := hP
  have hl := lv_entry ([.ref (ad (29 + 15 * i)), .int x0, .int x1]) (n := 5) (Nat.le_of_ble_eq_true rfl)
  rw [lg_entry_eq]
  generalize (lg_sl ([.ref (ad (29 + 15 * i)), .int x0, .int x1]) ++ List.replicate (5 - (lg_sl ([.ref (ad (29 + 15 * i)), .int x0, .int x1])).length) Slot.unset).toArray = ls at hl ⊢
  have hl : lv_has ls 5 [(0, .ref (ad (29 + 15 * i))), (1, .int x0), (2, .int x1)] := hl
  have hfr : Fz v v := Fz.rf
  refine lv_aload_n hx hb dX0_leastOfOther_0 rfl (lv_at hl 0 rfl) ?_
  refine va_get (D := (dC, dI)) (ci := 0) (v := .ref (ad (29 + 15 * i + 3))) (C := RX0) (T := TX0) (N := 11) hx hb hts iwX0_leastOfOther_X0 hown hK hP (29 + 15 * i) (wl_at (by omega) (ce_9 (kd_c i hi).1.1)) rfl 8 (by decide) (hts (.fieldLink RX0 20 "QuietStairs$Case" "offers" "[[I") fwX0_leastOfOther_1) (fun _ h9 => h9) rfl dX0_leastOfOther_1 ?_
  refine W.eq (g2 := F0 m 4 ls [.ref (ad (32 + 15 * i))]) (by rw [show 29 + 15 * i + 3 = 32 + 15 * i from by omega]) ?_
  refine lv_iload_n hx hb dX0_leastOfOther_4 rfl (lv_at hl 1 rfl) ?_
  obtain ⟨pi1, i1, hi1, ni1, mi1⟩ := t_in (x := x0) (n := 2) ⟨by omega, by omega⟩
  refine ya_ald hx hb hK hP (32 + 15 * i) (wl_at (by omega) (ce_11 (kd_c i hi).1.2.2.2.1)) pi1 dX0_leastOfOther_5 ?_
  refine W.eq (g2 := F0 m 6 ls [.ref (ad (33 + 15 * i + i1))]) (by rw [ni1, if_pos hi1, show 32 + 15 * i + 1 + i1 = 33 + 15 * i + i1 from by omega]; rfl) ?_
  refine lv_iload_n hx hb dX0_leastOfOther_6 rfl (lv_at hl 2 rfl) ?_
  obtain ⟨pi2, i2, hi2, ni2, mi2⟩ := t_in (x := x1) (n := 5) ⟨by omega, by omega⟩
  refine va_iald hx hb hK hP (33 + 15 * i + i1) 0 (wl_at (by omega) (ce_12 (kd_o i hi i1 hi1).1.1)) rfl pi2 dX0_leastOfOther_7 ?_
  refine lv_topi (fun x_3 ex_3 => ?_)
  refine lv_istore_n (lv' := [(3, .int x_3), (0, .ref (ad (29 + 15 * i))), (1, .int x0), (2, .int x1)]) hx hb dX0_leastOfOther_8 rfl hl (by decide) rfl (fun ls hl => ?_)
  refine lv_aload_n hx hb dX0_leastOfOther_9 rfl (lv_at hl 1 rfl) ?_
  refine lv_iload_n hx hb dX0_leastOfOther_10 rfl (lv_at hl 3 rfl) ?_
  refine yw_i (w1 := fun (u : Nat → Nat → Int32) => wl ad kv cy N u) hD hS hA (va_runV (As := [.int x1]) (rest := []) ⟨hx, hb, hml, hown, hts⟩ (g_X0_hasMet l dC dI cy _ ad kv N hN v hv i hi x1) (cwV 1 hts gX0_leastOfOther_X0_hasMet rfl rfl rfl hd_V_X0_hasMet_1 ⟨Nat.le_of_ble_eq_true rfl, Nat.le_of_ble_eq_true rfl⟩) (yw_preV hE hK hP hD (ci := 0) (q0 := (29 + 15 * i)) rfl (wl_at (by omega) (ce_9 (kd_c i hi).1.1))) rfl rfl hl.1 rfl (lv_room (Nat.le_of_ble_eq_true rfl)) dX0_leastOfOther_11 ⟨Nat.le_of_ble_eq_true rfl, Nat.le_of_ble_eq_true rfl⟩) (fun r_4 v_4 H locs hw_4 hP hD hS => ?_)
  obtain ⟨hv, hw_4⟩ := hw_4
  have hfr : Fz v v_4 := hfr.trans hw_4.1
  rcases hw_4.2 with rfl | rfl
  · refine lv_if_ne (tgt := 29) hx hb dX0_leastOfOther_14 (by decide) (fun c9 => absurd c9 (by decide)) (fun _ => ?_)
    refine lv_iload_n hx hb dX0_leastOfOther_17 rfl (lv_at hl 2 rfl) ?_
    have k_0 : (0 : Int32).toInt = 0 := by decide
    refine lv_if_ne (tgt := 25) hx hb dX0_leastOfOther_18 (by decide) (fun c_5 => ?_) (fun c_5 => ?_)
    · have tc_5 : x0.toInt ≠ (0 : Int32).toInt := fun q => absurd (Int32.toInt_inj.mp q) c_5
      refine lv_iload_n hx hb dX0_leastOfOther_25 rfl (lv_at hl 0 rfl) ?_
      refine lv_iconst (v := 1) hx hb dX0_leastOfOther_26 (by decide) ?_
      have k_1 : (1 : Int32).toInt = 1 := by decide
      refine lv_iadd hx hb dX0_leastOfOther_27 ?_
      refine lv_topi (fun x_6 ex_6 => ?_)
      exact W.iret (v := x_6) hx hb hr (fun t ht hW => ⟨⟨x_6, v_4, rfl, ⟨hv, hfr⟩, by rw [ht]; exact hP, hD⟩, hS.F ht⟩) hS.2.2 dX0_leastOfOther_28
    · have tc_5 : x0.toInt = (0 : Int32).toInt := by rw [c_5]
      refine lv_iconst (v := 0) hx hb dX0_leastOfOther_21 (by decide) ?_
      refine lv_goto (tgt := 28) hx hb dX0_leastOfOther_22 (by decide) ?_
      exact W.iret (v := 0) hx hb hr (fun t ht hW => ⟨⟨0, v_4, rfl, ⟨hv, hfr⟩, by rw [ht]; exact hP, hD⟩, hS.F ht⟩) hS.2.2 dX0_leastOfOther_28
  · refine lv_if_ne (tgt := 29) hx hb dX0_leastOfOther_14 (by decide) (fun _ => ?_) (fun c9 => absurd c9 (by decide))
    refine lv_iload_n hx hb dX0_leastOfOther_29 rfl (lv_at hl 2 rfl) ?_
    have k_0 : (0 : Int32).toInt = 0 := by decide
    refine lv_if_ne (tgt := 37) hx hb dX0_leastOfOther_30 (by decide) (fun c_7 => ?_) (fun c_7 => ?_)
    · have tc_7 : x0.toInt ≠ (0 : Int32).toInt := fun q => absurd (Int32.toInt_inj.mp q) c_7
      refine lv_iconst (v := 0) hx hb dX0_leastOfOther_37 (by decide) ?_
      refine lv_istore (lv' := [(4, .int 0), (3, .int x_3), (0, .ref (ad (29 + 15 * i))), (1, .int x0), (2, .int x1)]) hx hb dX0_leastOfOther_38 hl (by decide) rfl (fun ls hl => ?_)
      refine lv_iload hx hb dX0_leastOfOther_40 (lv_at hl 0 rfl) ?_
      refine lv_iconst (v := 2) hx hb dX0_leastOfOther_42 (by decide) ?_
      refine lv_aload_n hx hb dX0_leastOfOther_43 rfl (lv_at hl 2 rfl) ?_
      refine va_get (D := (dC, dI)) (ci := 0) (v := .int (v_4 (29 + 15 * i) 1)) (C := RX0) (T := TX0) (N := 11) hx hb hts iwX0_leastOfOther_X0 hown hK hP (29 + 15 * i) (wl_at (by omega) (ce_9 (kd_c i hi).1.1)) rfl 1 (by decide) (hts (.fieldLink RX0 37 "QuietStairs$Case" "sum" "I") fwX0_leastOfOther_2) (fun _ h9 => h9) rfl dX0_leastOfOther_44 ?_
      refine lv_topi (fun x_8 ex_8 => ?_)
      refine lv_imul hx hb dX0_leastOfOther_47 ?_
      refine lv_topi (fun x_9 ex_9 => ?_)
      refine lv_iload_n hx hb dX0_leastOfOther_48 rfl (lv_at hl 1 rfl) ?_
      refine lv_isub hx hb dX0_leastOfOther_49 ?_
      refine lv_topi (fun x_10 ex_10 => ?_)
      refine va_mmax hx hb (hml.trans hl.1.symm) hown (hts (.methodLink RX0 56 Lib.Math.max.name) fwX0_leastOfOther_3) (hts (.static Lib.Math.max.name) fwX0_leastOfOther_4) (hts (.initialized "java/lang/Math") fwX0_leastOfOther_5) (hts (.code Lib.Math.max.name Lib.Math.max.code 2 (some .int)) fwX0_leastOfOther_6) (Nat.le_of_ble_eq_true rfl) (Nat.le_of_ble_eq_true rfl) (Nat.le_of_ble_eq_true rfl) (Nat.le_of_ble_eq_true rfl) dX0_leastOfOther_50 ?_
      refine lv_topi (fun x_11 ex_11 => ?_)
      exact W.iret (v := x_11) hx hb hr (fun t ht hW => ⟨⟨x_11, v_4, rfl, ⟨hv, hfr⟩, by rw [ht]; exact hP, hD⟩, hS.F ht⟩) hS.2.2 dX0_leastOfOther_53
    · have tc_7 : x0.toInt = (0 : Int32).toInt := by rw [c_7]
      refine lv_iload_n hx hb dX0_leastOfOther_33 rfl (lv_at hl 0 rfl) ?_
      refine lv_goto (tgt := 38) hx hb dX0_leastOfOther_34 (by decide) ?_
      refine lv_istore (lv' := [(4, .int x_3), (3, .int x_3), (0, .ref (ad (29 + 15 * i))), (1, .int x0), (2, .int x1)]) hx hb dX0_leastOfOther_38 hl (by decide) rfl (fun ls hl => ?_)
      refine lv_iload hx hb dX0_leastOfOther_40 (lv_at hl 0 rfl) ?_
      refine lv_iconst (v := 2) hx hb dX0_leastOfOther_42 (by decide) ?_
      refine lv_aload_n hx hb dX0_leastOfOther_43 rfl (lv_at hl 2 rfl) ?_
      refine va_get (D := (dC, dI)) (ci := 0) (v := .int (v_4 (29 + 15 * i) 1)) (C := RX0) (T := TX0) (N := 11) hx hb hts iwX0_leastOfOther_X0 hown hK hP (29 + 15 * i) (wl_at (by omega) (ce_9 (kd_c i hi).1.1)) rfl 1 (by decide) (hts (.fieldLink RX0 37 "QuietStairs$Case" "sum" "I") fwX0_leastOfOther_2) (fun _ h9 => h9) rfl dX0_leastOfOther_44 ?_
      refine lv_topi (fun x_8 ex_8 => ?_)
      refine lv_imul hx hb dX0_leastOfOther_47 ?_
      refine lv_topi (fun x_9 ex_9 => ?_)
      refine lv_iload_n hx hb dX0_leastOfOther_48 rfl (lv_at hl 1 rfl) ?_
      refine lv_isub hx hb dX0_leastOfOther_49 ?_
      refine lv_topi (fun x_10 ex_10 => ?_)
      refine va_mmax hx hb (hml.trans hl.1.symm) hown (hts (.methodLink RX0 56 Lib.Math.max.name) fwX0_leastOfOther_3) (hts (.static Lib.Math.max.name) fwX0_leastOfOther_4) (hts (.initialized "java/lang/Math") fwX0_leastOfOther_5) (hts (.code Lib.Math.max.name Lib.Math.max.code 2 (some .int)) fwX0_leastOfOther_6) (Nat.le_of_ble_eq_true rfl) (Nat.le_of_ble_eq_true rfl) (Nat.le_of_ble_eq_true rfl) (Nat.le_of_ble_eq_true rfl) dX0_leastOfOther_50 ?_
      refine lv_topi (fun x_11 ex_11 => ?_)
      exact W.iret (v := x_11) hx hb hr (fun t ht hW => ⟨⟨x_11, v_4, rfl, ⟨hv, hfr⟩, by rw [ht]; exact hP, hD⟩, hS.F ht⟩) hS.2.2 dX0_leastOfOther_53

set_option maxHeartbeats 4000000 in
set_option maxRecDepth 100000 in
theorem g_X0_greatestOfOther (l : Launch) (dC : Nat → ClassId) (dI : Nat → Nat → Nat) (cy : Nat → ClassId) (sz : Nat) (ad : Nat → Nat) (kv : Value) (N : Nat) (hN : 119 ≤ N) (v : Nat → Nat → Int32) (hv : Iv v) (i : Nat) (hi : i < 6) (x0 x1 : Int32) (hs : 0 ≤ x0.toInt ∧ x0.toInt ≤ 1) (ht : 0 ≤ x1.toInt ∧ x1.toInt ≤ 4) : Met l yX0_greatestOfOther wsX0_greatestOfOther ({ frames := 1, cells := 0, slots := 0, locals := 64 }) (va_Pc [.ref (ad (29 + 15 * i)), .int x0, .int x1] (ex_Pre dC dI cy sz (wl ad kv cy N v))) (va_Qi (fun (r : Int32) (u : Nat → Nat → Int32) => Iv u ∧ Fz v u) (fun u t => ex_Pst dC dI (va_A (wl ad kv cy N v) sz) (wl ad kv cy N u) t) (va_A (wl ad kv cy N v) sz)) 0 0 (va_A (wl ad kv cy N v) sz) := by
  refine Met.ofW (cc := cX0_greatestOfOther) (maxL := 5) (ret := (some .int)) (by decide) rfl ?_
  intro p e s m args below meth c s₁ B hml hv
  obtain ⟨rfl, hsz, hE, hP, hK, hD0⟩ := hv
  have hx := B.exec
  have hb := B.bytes
  have hr := B.returns
  have hts := atoms_spec (ws := wsX0_greatestOfOther) B.pre
  have hown : s.vm.findClass RX0 = some m.cls := findClass_of_methodNamed B.named
  have hlocks := B.notSynchronized
  subst hsz
  have hD := hD0.self (sz := s.heap.size)
  generalize hAe : va_A (wl ad kv cy N v) s.heap.size = A at hD ⊢
  have hA : ∀ q : Nat, s.heap.size ≤ q → A q := fun q h => by rw [← hAe]; exact Or.inr h
  have hS : va_S A s.heap s.heap [] := va_S.rf
  have hP : va_P (dC, dI) vwCl (wl ad kv cy N v) s.heap := hP
  have hl := lv_entry ([.ref (ad (29 + 15 * i)), .int x0, .int x1]) (n := 5) (Nat.le_of_ble_eq_true rfl)
  rw [lg_entry_eq]
  generalize (lg_sl ([.ref (ad (29 + 15 * i)), .int x0, .int x1]) ++ List.replicate (5 - (lg_sl ([.ref (ad (29 + 15 * i)), .int x0, .int x1])).length) Slot.unset).toArray = ls at hl ⊢
  have hl : lv_has ls 5 [(0, .ref (ad (29 + 15 * i))), (1, .int x0), (2, .int x1)] := hl
  have hfr : Fz v v := Fz.rf
  refine lv_aload_n hx hb dX0_greatestOfOther_0 rfl (lv_at hl 0 rfl) ?_
  refine va_get (D := (dC, dI)) (ci := 0) (v := .ref (ad (29 + 15 * i + 3))) (C := RX0) (T := TX0) (N := 11) hx hb hts iwX0_greatestOfOther_X0 hown hK hP (29 + 15 * i) (wl_at (by omega) (ce_9 (kd_c i hi).1.1)) rfl 8 (by decide) (hts (.fieldLink RX0 20 "QuietStairs$Case" "offers" "[[I") fwX0_greatestOfOther_1) (fun _ h9 => h9) rfl dX0_greatestOfOther_1 ?_
  refine W.eq (g2 := F0 m 4 ls [.ref (ad (32 + 15 * i))]) (by rw [show 29 + 15 * i + 3 = 32 + 15 * i from by omega]) ?_
  refine lv_iload_n hx hb dX0_greatestOfOther_4 rfl (lv_at hl 1 rfl) ?_
  obtain ⟨pi1, i1, hi1, ni1, mi1⟩ := t_in (x := x0) (n := 2) ⟨by omega, by omega⟩
  refine ya_ald hx hb hK hP (32 + 15 * i) (wl_at (by omega) (ce_11 (kd_c i hi).1.2.2.2.1)) pi1 dX0_greatestOfOther_5 ?_
  refine W.eq (g2 := F0 m 6 ls [.ref (ad (33 + 15 * i + i1))]) (by rw [ni1, if_pos hi1, show 32 + 15 * i + 1 + i1 = 33 + 15 * i + i1 from by omega]; rfl) ?_
  refine lv_iload_n hx hb dX0_greatestOfOther_6 rfl (lv_at hl 2 rfl) ?_
  obtain ⟨pi2, i2, hi2, ni2, mi2⟩ := t_in (x := x1) (n := 5) ⟨by omega, by omega⟩
  refine va_iald hx hb hK hP (33 + 15 * i + i1) 0 (wl_at (by omega) (ce_12 (kd_o i hi i1 hi1).1.1)) rfl pi2 dX0_greatestOfOther_7 ?_
  refine lv_topi (fun x_3 ex_3 => ?_)
  refine lv_istore_n (lv' := [(3, .int x_3), (0, .ref (ad (29 + 15 * i))), (1, .int x0), (2, .int x1)]) hx hb dX0_greatestOfOther_8 rfl hl (by decide) rfl (fun ls hl => ?_)
  refine lv_aload_n hx hb dX0_greatestOfOther_9 rfl (lv_at hl 1 rfl) ?_
  refine lv_iload_n hx hb dX0_greatestOfOther_10 rfl (lv_at hl 3 rfl) ?_
  refine yw_i (w1 := fun (u : Nat → Nat → Int32) => wl ad kv cy N u) hD hS hA (va_runV (As := [.int x1]) (rest := []) ⟨hx, hb, hml, hown, hts⟩ (g_X0_hasMet l dC dI cy _ ad kv N hN v hv i hi x1) (cwV 1 hts gX0_greatestOfOther_X0_hasMet rfl rfl rfl hd_V_X0_hasMet_1 ⟨Nat.le_of_ble_eq_true rfl, Nat.le_of_ble_eq_true rfl⟩) (yw_preV hE hK hP hD (ci := 0) (q0 := (29 + 15 * i)) rfl (wl_at (by omega) (ce_9 (kd_c i hi).1.1))) rfl rfl hl.1 rfl (lv_room (Nat.le_of_ble_eq_true rfl)) dX0_greatestOfOther_11 ⟨Nat.le_of_ble_eq_true rfl, Nat.le_of_ble_eq_true rfl⟩) (fun r_4 v_4 H locs hw_4 hP hD hS => ?_)
  obtain ⟨hv, hw_4⟩ := hw_4
  have hfr : Fz v v_4 := hfr.trans hw_4.1
  rcases hw_4.2 with rfl | rfl
  · refine lv_if_ne (tgt := 30) hx hb dX0_greatestOfOther_14 (by decide) (fun c9 => absurd c9 (by decide)) (fun _ => ?_)
    refine lv_iload_n hx hb dX0_greatestOfOther_17 rfl (lv_at hl 2 rfl) ?_
    have k_0 : (0 : Int32).toInt = 0 := by decide
    refine lv_if_ne (tgt := 27) hx hb dX0_greatestOfOther_18 (by decide) (fun c_5 => ?_) (fun c_5 => ?_)
    · have tc_5 : x0.toInt ≠ (0 : Int32).toInt := fun q => absurd (Int32.toInt_inj.mp q) c_5
      refine lv_bipush (v := 100) hx hb dX0_greatestOfOther_27 (by decide) ?_
      exact W.iret (v := 100) hx hb hr (fun t ht hW => ⟨⟨100, v_4, rfl, ⟨hv, hfr⟩, by rw [ht]; exact hP, hD⟩, hS.F ht⟩) hS.2.2 dX0_greatestOfOther_29
    · have tc_5 : x0.toInt = (0 : Int32).toInt := by rw [c_5]
      refine lv_iload_n hx hb dX0_greatestOfOther_21 rfl (lv_at hl 0 rfl) ?_
      refine lv_iconst (v := 1) hx hb dX0_greatestOfOther_22 (by decide) ?_
      have k_1 : (1 : Int32).toInt = 1 := by decide
      refine lv_isub hx hb dX0_greatestOfOther_23 ?_
      refine lv_topi (fun x_6 ex_6 => ?_)
      refine lv_goto (tgt := 29) hx hb dX0_greatestOfOther_24 (by decide) ?_
      exact W.iret (v := x_6) hx hb hr (fun t ht hW => ⟨⟨x_6, v_4, rfl, ⟨hv, hfr⟩, by rw [ht]; exact hP, hD⟩, hS.F ht⟩) hS.2.2 dX0_greatestOfOther_29
  · refine lv_if_ne (tgt := 30) hx hb dX0_greatestOfOther_14 (by decide) (fun _ => ?_) (fun c9 => absurd c9 (by decide))
    refine lv_iload_n hx hb dX0_greatestOfOther_30 rfl (lv_at hl 2 rfl) ?_
    have k_0 : (0 : Int32).toInt = 0 := by decide
    refine lv_if_ne (tgt := 39) hx hb dX0_greatestOfOther_31 (by decide) (fun c_7 => ?_) (fun c_7 => ?_)
    · have tc_7 : x0.toInt ≠ (0 : Int32).toInt := fun q => absurd (Int32.toInt_inj.mp q) c_7
      refine lv_iload_n hx hb dX0_greatestOfOther_39 rfl (lv_at hl 0 rfl) ?_
      refine lv_istore (lv' := [(4, .int x_3), (3, .int x_3), (0, .ref (ad (29 + 15 * i))), (1, .int x0), (2, .int x1)]) hx hb dX0_greatestOfOther_40 hl (by decide) rfl (fun ls hl => ?_)
      refine lv_iload hx hb dX0_greatestOfOther_42 (lv_at hl 0 rfl) ?_
      refine lv_iconst (v := 2) hx hb dX0_greatestOfOther_44 (by decide) ?_
      refine lv_aload_n hx hb dX0_greatestOfOther_45 rfl (lv_at hl 2 rfl) ?_
      refine va_get (D := (dC, dI)) (ci := 0) (v := .int (v_4 (29 + 15 * i) 1)) (C := RX0) (T := TX0) (N := 11) hx hb hts iwX0_greatestOfOther_X0 hown hK hP (29 + 15 * i) (wl_at (by omega) (ce_9 (kd_c i hi).1.1)) rfl 1 (by decide) (hts (.fieldLink RX0 37 "QuietStairs$Case" "sum" "I") fwX0_greatestOfOther_2) (fun _ h9 => h9) rfl dX0_greatestOfOther_46 ?_
      refine lv_topi (fun x_8 ex_8 => ?_)
      refine lv_imul hx hb dX0_greatestOfOther_49 ?_
      refine lv_topi (fun x_9 ex_9 => ?_)
      refine lv_iconst (v := 1) hx hb dX0_greatestOfOther_50 (by decide) ?_
      have k_1 : (1 : Int32).toInt = 1 := by decide
      refine lv_iadd hx hb dX0_greatestOfOther_51 ?_
      refine lv_topi (fun x_10 ex_10 => ?_)
      refine lv_iload_n hx hb dX0_greatestOfOther_52 rfl (lv_at hl 1 rfl) ?_
      refine lv_isub hx hb dX0_greatestOfOther_53 ?_
      refine lv_topi (fun x_11 ex_11 => ?_)
      refine va_mmin hx hb (hml.trans hl.1.symm) hown (hts (.methodLink RX0 62 Lib.Math.min.name) fwX0_greatestOfOther_3) (hts (.static Lib.Math.min.name) fwX0_greatestOfOther_4) (hts (.initialized "java/lang/Math") fwX0_greatestOfOther_5) (hts (.code Lib.Math.min.name Lib.Math.min.code 2 (some .int)) fwX0_greatestOfOther_6) (Nat.le_of_ble_eq_true rfl) (Nat.le_of_ble_eq_true rfl) (Nat.le_of_ble_eq_true rfl) (Nat.le_of_ble_eq_true rfl) dX0_greatestOfOther_54 ?_
      refine lv_topi (fun x_12 ex_12 => ?_)
      exact W.iret (v := x_12) hx hb hr (fun t ht hW => ⟨⟨x_12, v_4, rfl, ⟨hv, hfr⟩, by rw [ht]; exact hP, hD⟩, hS.F ht⟩) hS.2.2 dX0_greatestOfOther_57
    · have tc_7 : x0.toInt = (0 : Int32).toInt := by rw [c_7]
      refine lv_bipush (v := 100) hx hb dX0_greatestOfOther_34 (by decide) ?_
      refine lv_goto (tgt := 40) hx hb dX0_greatestOfOther_36 (by decide) ?_
      refine lv_istore (lv' := [(4, .int 100), (3, .int x_3), (0, .ref (ad (29 + 15 * i))), (1, .int x0), (2, .int x1)]) hx hb dX0_greatestOfOther_40 hl (by decide) rfl (fun ls hl => ?_)
      refine lv_iload hx hb dX0_greatestOfOther_42 (lv_at hl 0 rfl) ?_
      refine lv_iconst (v := 2) hx hb dX0_greatestOfOther_44 (by decide) ?_
      refine lv_aload_n hx hb dX0_greatestOfOther_45 rfl (lv_at hl 2 rfl) ?_
      refine va_get (D := (dC, dI)) (ci := 0) (v := .int (v_4 (29 + 15 * i) 1)) (C := RX0) (T := TX0) (N := 11) hx hb hts iwX0_greatestOfOther_X0 hown hK hP (29 + 15 * i) (wl_at (by omega) (ce_9 (kd_c i hi).1.1)) rfl 1 (by decide) (hts (.fieldLink RX0 37 "QuietStairs$Case" "sum" "I") fwX0_greatestOfOther_2) (fun _ h9 => h9) rfl dX0_greatestOfOther_46 ?_
      refine lv_topi (fun x_8 ex_8 => ?_)
      refine lv_imul hx hb dX0_greatestOfOther_49 ?_
      refine lv_topi (fun x_9 ex_9 => ?_)
      refine lv_iconst (v := 1) hx hb dX0_greatestOfOther_50 (by decide) ?_
      have k_1 : (1 : Int32).toInt = 1 := by decide
      refine lv_iadd hx hb dX0_greatestOfOther_51 ?_
      refine lv_topi (fun x_10 ex_10 => ?_)
      refine lv_iload_n hx hb dX0_greatestOfOther_52 rfl (lv_at hl 1 rfl) ?_
      refine lv_isub hx hb dX0_greatestOfOther_53 ?_
      refine lv_topi (fun x_11 ex_11 => ?_)
      refine va_mmin hx hb (hml.trans hl.1.symm) hown (hts (.methodLink RX0 62 Lib.Math.min.name) fwX0_greatestOfOther_3) (hts (.static Lib.Math.min.name) fwX0_greatestOfOther_4) (hts (.initialized "java/lang/Math") fwX0_greatestOfOther_5) (hts (.code Lib.Math.min.name Lib.Math.min.code 2 (some .int)) fwX0_greatestOfOther_6) (Nat.le_of_ble_eq_true rfl) (Nat.le_of_ble_eq_true rfl) (Nat.le_of_ble_eq_true rfl) (Nat.le_of_ble_eq_true rfl) dX0_greatestOfOther_54 ?_
      refine lv_topi (fun x_12 ex_12 => ?_)
      exact W.iret (v := x_12) hx hb hr (fun t ht hW => ⟨⟨x_12, v_4, rfl, ⟨hv, hfr⟩, by rw [ht]; exact hP, hD⟩, hS.F ht⟩) hS.2.2 dX0_greatestOfOther_57
