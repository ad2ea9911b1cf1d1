set_option maxRecDepth 20000 in
theorem db_X7_learns_0 : (decode cX7_learns 0 = .ok (.aload_n 0, 1)) ∧ (decode cX7_learns 1 = .ok (.iload_n 1, 1)) ∧ (decode cX7_learns 2 = .ok (.invokevirtual 96, 3)) ∧ (decode cX7_learns 5 = .ok (.ifCond .eq 10, 3)) ∧ (decode cX7_learns 8 = .ok (.iload_n 2, 1)) ∧ (decode cX7_learns 9 = .ok (.invokestatic 132, 3)) ∧ (decode cX7_learns 12 = .ok (.ifCond .ne 5, 3)) ∧ (decode cX7_learns 17 = .ok (.aload_n 0, 1)) := by decide +kernel
theorem dX7_learns_0 : decode cX7_learns 0 = .ok (.aload_n 0, 1) := db_X7_learns_0.1
theorem dX7_learns_1 : decode cX7_learns 1 = .ok (.iload_n 1, 1) := db_X7_learns_0.2.1
set_option maxRecDepth 20000 in
theorem ggX7_learns_X7_isCase : GoodIn wsX7_learns wsX7_isCase := goodIn_r _ [8, 1, 9, 10, 11, 7, 12, 40, 41, 42, 43, 44, 45, 46, 47, 48, 49, 50, 51] rfl (by decide +kernel)
set_option maxRecDepth 20000 in
theorem gX7_learns_X7_isCase : GoodIn wsX7_learns (wsV RX7 96 RX7 yX7_isCase wsX7_isCase) := goodIn_app (goodIn_r _ [4, 5, 6, 7] rfl (by decide +kernel)) ggX7_learns_X7_isCase
theorem dX7_learns_2 : decode cX7_learns 2 = .ok (.invokevirtual 96, 3) := db_X7_learns_0.2.2.1
theorem dX7_learns_5 : decode cX7_learns 5 = .ok (.ifCond .eq 10, 3) := db_X7_learns_0.2.2.2.1
theorem dX7_learns_8 : decode cX7_learns 8 = .ok (.iload_n 2, 1) := db_X7_learns_0.2.2.2.2.1
set_option maxRecDepth 20000 in
theorem ggX7_learns_X7_isSide : GoodIn wsX7_learns wsX7_isSide := goodIn_r _ [15, 10, 11, 7, 12] rfl (by decide +kernel)
set_option maxRecDepth 20000 in
theorem gX7_learns_X7_isSide : GoodIn wsX7_learns (va_wsS RX7 132 yX7_isSide wsX7_isSide) := goodIn_app (goodIn_r _ [13, 14, 7] rfl (by decide +kernel)) ggX7_learns_X7_isSide
theorem dX7_learns_9 : decode cX7_learns 9 = .ok (.invokestatic 132, 3) := db_X7_learns_0.2.2.2.2.2.1
theorem dX7_learns_12 : decode cX7_learns 12 = .ok (.ifCond .ne 5, 3) := db_X7_learns_0.2.2.2.2.2.2.1
theorem dX7_learns_17 : decode cX7_learns 17 = .ok (.aload_n 0, 1) := db_X7_learns_0.2.2.2.2.2.2.2
set_option maxRecDepth 20000 in
theorem db_X7_learns_18 : (decode cX7_learns 18 = .ok (.getfield 12, 3)) ∧ (decode cX7_learns 21 = .ok (.getfield 86, 3)) ∧ (decode cX7_learns 24 = .ok (.iload_n 1, 1)) ∧ (decode cX7_learns 25 = .ok (.aaload, 1)) ∧ (decode cX7_learns 26 = .ok (.astore 5, 2)) ∧ (decode cX7_learns 28 = .ok (.iload_n 3, 1)) ∧ (decode cX7_learns 29 = .ok (.iconst 0, 1)) ∧ (decode cX7_learns 30 = .ok (.aload 5, 2)) := by decide +kernel
theorem dX7_learns_18 : decode cX7_learns 18 = .ok (.getfield 12, 3) := db_X7_learns_18.1
theorem dX7_learns_21 : decode cX7_learns 21 = .ok (.getfield 86, 3) := db_X7_learns_18.2.1
theorem dX7_learns_24 : decode cX7_learns 24 = .ok (.iload_n 1, 1) := db_X7_learns_18.2.2.1
theorem dX7_learns_25 : decode cX7_learns 25 = .ok (.aaload, 1) := db_X7_learns_18.2.2.2.1
theorem dX7_learns_26 : decode cX7_learns 26 = .ok (.astore 5, 2) := db_X7_learns_18.2.2.2.2.1
theorem dX7_learns_28 : decode cX7_learns 28 = .ok (.iload_n 3, 1) := db_X7_learns_18.2.2.2.2.2.1
theorem dX7_learns_29 : decode cX7_learns 29 = .ok (.iconst 0, 1) := db_X7_learns_18.2.2.2.2.2.2.1
theorem dX7_learns_30 : decode cX7_learns 30 = .ok (.aload 5, 2) := db_X7_learns_18.2.2.2.2.2.2.2
set_option maxRecDepth 20000 in
theorem db_X7_learns_32 : (decode cX7_learns 32 = .ok (.getfield 117, 3)) ∧ (decode cX7_learns 35 = .ok (.iconst 1, 1)) ∧ (decode cX7_learns 36 = .ok (.isub, 1)) ∧ (decode cX7_learns 37 = .ok (.invokestatic 37, 3)) ∧ (decode cX7_learns 40 = .ok (.ifCond .ne 6, 3)) ∧ (decode cX7_learns 46 = .ok (.iload 4, 2)) ∧ (decode cX7_learns 48 = .ok (.ifCond .eq 13, 3)) ∧ (decode cX7_learns 61 = .ok (.aload 5, 2)) := by decide +kernel
theorem dX7_learns_32 : decode cX7_learns 32 = .ok (.getfield 117, 3) := db_X7_learns_32.1
theorem dX7_learns_35 : decode cX7_learns 35 = .ok (.iconst 1, 1) := db_X7_learns_32.2.1
theorem dX7_learns_36 : decode cX7_learns 36 = .ok (.isub, 1) := db_X7_learns_32.2.2.1
set_option maxRecDepth 20000 in
theorem ggX7_learns_X7_isWithin : GoodIn wsX7_learns wsX7_isWithin := goodIn_r _ [12] rfl (by decide +kernel)
set_option maxRecDepth 20000 in
theorem gX7_learns_X7_isWithin : GoodIn wsX7_learns (va_wsS RX7 37 yX7_isWithin wsX7_isWithin) := goodIn_app (goodIn_r _ [10, 11, 7] rfl (by decide +kernel)) ggX7_learns_X7_isWithin
theorem dX7_learns_37 : decode cX7_learns 37 = .ok (.invokestatic 37, 3) := db_X7_learns_32.2.2.2.1
theorem dX7_learns_40 : decode cX7_learns 40 = .ok (.ifCond .ne 6, 3) := db_X7_learns_32.2.2.2.2.1
theorem dX7_learns_46 : decode cX7_learns 46 = .ok (.iload 4, 2) := db_X7_learns_32.2.2.2.2.2.1
theorem dX7_learns_48 : decode cX7_learns 48 = .ok (.ifCond .eq 13, 3) := db_X7_learns_32.2.2.2.2.2.2.1
theorem dX7_learns_61 : decode cX7_learns 61 = .ok (.aload 5, 2) := db_X7_learns_32.2.2.2.2.2.2.2
set_option maxRecDepth 20000 in
theorem db_X7_learns_63 : (decode cX7_learns 63 = .ok (.iload_n 2, 1)) ∧ (decode cX7_learns 64 = .ok (.iload_n 3, 1)) ∧ (decode cX7_learns 65 = .ok (.invokevirtual 146, 3)) ∧ (decode cX7_learns 68 = .ok (.ireturn, 1)) ∧ (decode cX7_learns 51 = .ok (.aload 5, 2)) ∧ (decode cX7_learns 53 = .ok (.iload_n 2, 1)) ∧ (decode cX7_learns 54 = .ok (.iload_n 3, 1)) ∧ (decode cX7_learns 55 = .ok (.invokevirtual 142, 3)) := by decide +kernel
theorem dX7_learns_63 : decode cX7_learns 63 = .ok (.iload_n 2, 1) := db_X7_learns_63.1
theorem dX7_learns_64 : decode cX7_learns 64 = .ok (.iload_n 3, 1) := db_X7_learns_63.2.1
set_option maxRecDepth 20000 in
theorem ggX7_learns_X0_leastOfOther : GoodIn wsX7_learns wsX0_leastOfOther := goodIn_r _ [36, 21, 22, 37, 38, 25, 39, 27, 28, 29, 19, 30, 31, 32, 52, 53, 54, 55, 56, 57, 58, 59, 60, 61, 62] rfl (by decide +kernel)
set_option maxRecDepth 20000 in
theorem gX7_learns_X0_leastOfOther : GoodIn wsX7_learns (wsV RX7 146 RX0 yX0_leastOfOther wsX0_leastOfOther) := goodIn_app (goodIn_r _ [33, 34, 35, 19] rfl (by decide +kernel)) ggX7_learns_X0_leastOfOther
theorem dX7_learns_65 : decode cX7_learns 65 = .ok (.invokevirtual 146, 3) := db_X7_learns_63.2.2.1
theorem dX7_learns_68 : decode cX7_learns 68 = .ok (.ireturn, 1) := db_X7_learns_63.2.2.2.1
theorem dX7_learns_51 : decode cX7_learns 51 = .ok (.aload 5, 2) := db_X7_learns_63.2.2.2.2.1
theorem dX7_learns_53 : decode cX7_learns 53 = .ok (.iload_n 2, 1) := db_X7_learns_63.2.2.2.2.2.1
theorem dX7_learns_54 : decode cX7_learns 54 = .ok (.iload_n 3, 1) := db_X7_learns_63.2.2.2.2.2.2.1
set_option maxRecDepth 20000 in
theorem ggX7_learns_X0_greatestOfOther : GoodIn wsX7_learns wsX0_greatestOfOther := goodIn_r _ [20, 21, 22, 23, 24, 25, 26, 27, 28, 29, 19, 30, 31, 32, 52, 53, 54, 55, 56, 57, 58, 59, 60, 61, 62] rfl (by decide +kernel)
set_option maxRecDepth 20000 in
theorem gX7_learns_X0_greatestOfOther : GoodIn wsX7_learns (wsV RX7 142 RX0 yX0_greatestOfOther wsX0_greatestOfOther) := goodIn_app (goodIn_r _ [16, 17, 18, 19] rfl (by decide +kernel)) ggX7_learns_X0_greatestOfOther
theorem dX7_learns_55 : decode cX7_learns 55 = .ok (.invokevirtual 142, 3) := db_X7_learns_63.2.2.2.2.2.2.2
set_option maxRecDepth 20000 in
theorem db_X7_learns_58 : (decode cX7_learns 58 = .ok (.goto 10, 3)) ∧ (decode cX7_learns 43 = .ok (.bipush (-5), 2)) ∧ (decode cX7_learns 45 = .ok (.ireturn, 1)) ∧ (decode cX7_learns 15 = .ok (.iconst (-1), 1)) ∧ (decode cX7_learns 16 = .ok (.ireturn, 1)) := by decide +kernel
theorem dX7_learns_58 : decode cX7_learns 58 = .ok (.goto 10, 3) := db_X7_learns_58.1
theorem dX7_learns_43 : decode cX7_learns 43 = .ok (.bipush (-5), 2) := db_X7_learns_58.2.1
theorem dX7_learns_45 : decode cX7_learns 45 = .ok (.ireturn, 1) := db_X7_learns_58.2.2.1
theorem dX7_learns_15 : decode cX7_learns 15 = .ok (.iconst (-1), 1) := db_X7_learns_58.2.2.2.1
theorem dX7_learns_16 : decode cX7_learns 16 = .ok (.ireturn, 1) := db_X7_learns_58.2.2.2.2
set_option maxRecDepth 20000 in
theorem db_X7_termOf_0 : (decode cX7_termOf 0 = .ok (.aload_n 0, 1)) ∧ (decode cX7_termOf 1 = .ok (.iload_n 1, 1)) ∧ (decode cX7_termOf 2 = .ok (.iload_n 2, 1)) ∧ (decode cX7_termOf 3 = .ok (.invokevirtual 194, 3)) ∧ (decode cX7_termOf 6 = .ok (.ifCond .ne 5, 3)) ∧ (decode cX7_termOf 11 = .ok (.aload_n 0, 1)) ∧ (decode cX7_termOf 12 = .ok (.getfield 12, 3)) ∧ (decode cX7_termOf 15 = .ok (.getfield 86, 3)) := by decide +kernel
theorem dX7_termOf_0 : decode cX7_termOf 0 = .ok (.aload_n 0, 1) := db_X7_termOf_0.1
theorem dX7_termOf_1 : decode cX7_termOf 1 = .ok (.iload_n 1, 1) := db_X7_termOf_0.2.1
theorem dX7_termOf_2 : decode cX7_termOf 2 = .ok (.iload_n 2, 1) := db_X7_termOf_0.2.2.1
set_option maxRecDepth 20000 in
theorem ggX7_termOf_X7_isTerm : GoodIn wsX7_termOf wsX7_isTerm := goodIn_r _ [13, 1, 2, 14, 15, 16, 17, 12, 18, 19, 20, 21, 22, 23, 24, 25, 26, 27, 28, 29, 30, 31, 32, 33, 34, 35, 36, 37, 38, 39, 40, 41, 42, 43, 44, 45] rfl (by decide +kernel)
set_option maxRecDepth 20000 in
theorem gX7_termOf_X7_isTerm : GoodIn wsX7_termOf (wsV RX7 194 RX7 yX7_isTerm wsX7_isTerm) := goodIn_app (goodIn_r _ [9, 10, 11, 12] rfl (by decide +kernel)) ggX7_termOf_X7_isTerm
theorem dX7_termOf_3 : decode cX7_termOf 3 = .ok (.invokevirtual 194, 3) := db_X7_termOf_0.2.2.2.1
theorem dX7_termOf_6 : decode cX7_termOf 6 = .ok (.ifCond .ne 5, 3) := db_X7_termOf_0.2.2.2.2.1
theorem dX7_termOf_11 : decode cX7_termOf 11 = .ok (.aload_n 0, 1) := db_X7_termOf_0.2.2.2.2.2.1
theorem dX7_termOf_12 : decode cX7_termOf 12 = .ok (.getfield 12, 3) := db_X7_termOf_0.2.2.2.2.2.2.1
theorem dX7_termOf_15 : decode cX7_termOf 15 = .ok (.getfield 86, 3) := db_X7_termOf_0.2.2.2.2.2.2.2
set_option maxRecDepth 20000 in
theorem db_X7_termOf_18 : (decode cX7_termOf 18 = .ok (.iload_n 1, 1)) ∧ (decode cX7_termOf 19 = .ok (.aaload, 1)) ∧ (decode cX7_termOf 20 = .ok (.getfield 172, 3)) ∧ (decode cX7_termOf 23 = .ok (.iload_n 2, 1)) ∧ (decode cX7_termOf 24 = .ok (.aaload, 1)) ∧ (decode cX7_termOf 25 = .ok (.astore 4, 2)) ∧ (decode cX7_termOf 27 = .ok (.iload_n 3, 1)) ∧ (decode cX7_termOf 28 = .ok (.tableswitch 74 0 4 #[36, 42, 56, 62, 68], 36)) := by decide +kernel
theorem dX7_termOf_18 : decode cX7_termOf 18 = .ok (.iload_n 1, 1) := db_X7_termOf_18.1
theorem dX7_termOf_19 : decode cX7_termOf 19 = .ok (.aaload, 1) := db_X7_termOf_18.2.1
theorem dX7_termOf_20 : decode cX7_termOf 20 = .ok (.getfield 172, 3) := db_X7_termOf_18.2.2.1
theorem dX7_termOf_23 : decode cX7_termOf 23 = .ok (.iload_n 2, 1) := db_X7_termOf_18.2.2.2.1
theorem dX7_termOf_24 : decode cX7_termOf 24 = .ok (.aaload, 1) := db_X7_termOf_18.2.2.2.2.1
theorem dX7_termOf_25 : decode cX7_termOf 25 = .ok (.astore 4, 2) := db_X7_termOf_18.2.2.2.2.2.1
theorem dX7_termOf_27 : decode cX7_termOf 27 = .ok (.iload_n 3, 1) := db_X7_termOf_18.2.2.2.2.2.2.1
theorem dX7_termOf_28 : decode cX7_termOf 28 = .ok (.tableswitch 74 0 4 #[36, 42, 56, 62, 68], 36) := db_X7_termOf_18.2.2.2.2.2.2.2
set_option maxRecDepth 20000 in
theorem db_X7_termOf_102 : (decode cX7_termOf 102 = .ok (.iconst (-1), 1)) ∧ (decode cX7_termOf 103 = .ok (.ireturn, 1)) ∧ (decode cX7_termOf 64 = .ok (.aload 4, 2)) ∧ (decode cX7_termOf 66 = .ok (.getfield 176, 3)) ∧ (decode cX7_termOf 69 = .ok (.ireturn, 1)) ∧ (decode cX7_termOf 70 = .ok (.aload 4, 2)) ∧ (decode cX7_termOf 72 = .ok (.getfield 181, 3)) ∧ (decode cX7_termOf 75 = .ok (.ifCond .eq 7, 3)) := by decide +kernel
theorem dX7_termOf_102 : decode cX7_termOf 102 = .ok (.iconst (-1), 1) := db_X7_termOf_102.1
theorem dX7_termOf_103 : decode cX7_termOf 103 = .ok (.ireturn, 1) := db_X7_termOf_102.2.1
theorem dX7_termOf_64 : decode cX7_termOf 64 = .ok (.aload 4, 2) := db_X7_termOf_102.2.2.1
theorem dX7_termOf_66 : decode cX7_termOf 66 = .ok (.getfield 176, 3) := db_X7_termOf_102.2.2.2.1
theorem dX7_termOf_69 : decode cX7_termOf 69 = .ok (.ireturn, 1) := db_X7_termOf_102.2.2.2.2.1
theorem dX7_termOf_70 : decode cX7_termOf 70 = .ok (.aload 4, 2) := db_X7_termOf_102.2.2.2.2.2.1
theorem dX7_termOf_72 : decode cX7_termOf 72 = .ok (.getfield 181, 3) := db_X7_termOf_102.2.2.2.2.2.2.1
theorem dX7_termOf_75 : decode cX7_termOf 75 = .ok (.ifCond .eq 7, 3) := db_X7_termOf_102.2.2.2.2.2.2.2
set_option maxRecDepth 20000 in
theorem db_X7_termOf_82 : (decode cX7_termOf 82 = .ok (.iconst 0, 1)) ∧ (decode cX7_termOf 83 = .ok (.ireturn, 1)) ∧ (decode cX7_termOf 78 = .ok (.iconst 1, 1)) ∧ (decode cX7_termOf 79 = .ok (.goto 4, 3)) ∧ (decode cX7_termOf 84 = .ok (.aload 4, 2)) ∧ (decode cX7_termOf 86 = .ok (.getfield 185, 3)) ∧ (decode cX7_termOf 89 = .ok (.ireturn, 1)) ∧ (decode cX7_termOf 90 = .ok (.aload 4, 2)) := by decide +kernel
theorem dX7_termOf_82 : decode cX7_termOf 82 = .ok (.iconst 0, 1) := db_X7_termOf_82.1
theorem dX7_termOf_83 : decode cX7_termOf 83 = .ok (.ireturn, 1) := db_X7_termOf_82.2.1
theorem dX7_termOf_78 : decode cX7_termOf 78 = .ok (.iconst 1, 1) := db_X7_termOf_82.2.2.1
theorem dX7_termOf_79 : decode cX7_termOf 79 = .ok (.goto 4, 3) := db_X7_termOf_82.2.2.2.1
theorem dX7_termOf_84 : decode cX7_termOf 84 = .ok (.aload 4, 2) := db_X7_termOf_82.2.2.2.2.1
theorem dX7_termOf_86 : decode cX7_termOf 86 = .ok (.getfield 185, 3) := db_X7_termOf_82.2.2.2.2.2.1
theorem dX7_termOf_89 : decode cX7_termOf 89 = .ok (.ireturn, 1) := db_X7_termOf_82.2.2.2.2.2.2.1
theorem dX7_termOf_90 : decode cX7_termOf 90 = .ok (.aload 4, 2) := db_X7_termOf_82.2.2.2.2.2.2.2
set_option maxRecDepth 20000 in
theorem db_X7_termOf_92 : (decode cX7_termOf 92 = .ok (.getfield 188, 3)) ∧ (decode cX7_termOf 95 = .ok (.ireturn, 1)) ∧ (decode cX7_termOf 96 = .ok (.aload 4, 2)) ∧ (decode cX7_termOf 98 = .ok (.getfield 191, 3)) ∧ (decode cX7_termOf 101 = .ok (.ireturn, 1)) ∧ (decode cX7_termOf 9 = .ok (.iconst (-1), 1)) ∧ (decode cX7_termOf 10 = .ok (.ireturn, 1)) := by decide +kernel
theorem dX7_termOf_92 : decode cX7_termOf 92 = .ok (.getfield 188, 3) := db_X7_termOf_92.1
theorem dX7_termOf_95 : decode cX7_termOf 95 = .ok (.ireturn, 1) := db_X7_termOf_92.2.1
theorem dX7_termOf_96 : decode cX7_termOf 96 = .ok (.aload 4, 2) := db_X7_termOf_92.2.2.1
theorem dX7_termOf_98 : decode cX7_termOf 98 = .ok (.getfield 191, 3) := db_X7_termOf_92.2.2.2.1
theorem dX7_termOf_101 : decode cX7_termOf 101 = .ok (.ireturn, 1) := db_X7_termOf_92.2.2.2.2.1
theorem dX7_termOf_9 : decode cX7_termOf 9 = .ok (.iconst (-1), 1) := db_X7_termOf_92.2.2.2.2.2.1
theorem dX7_termOf_10 : decode cX7_termOf 10 = .ok (.ireturn, 1) := db_X7_termOf_92.2.2.2.2.2.2
set_option maxRecDepth 20000 in
theorem db_X7_judged_0 : (decode cX7_judged 0 = .ok (.aload_n 0, 1)) ∧ (decode cX7_judged 1 = .ok (.iload_n 1, 1)) ∧ (decode cX7_judged 2 = .ok (.iload_n 2, 1)) ∧ (decode cX7_judged 3 = .ok (.invokevirtual 194, 3)) ∧ (decode cX7_judged 6 = .ok (.ifCond .ne 5, 3)) ∧ (decode cX7_judged 11 = .ok (.aload_n 0, 1)) ∧ (decode cX7_judged 12 = .ok (.getfield 12, 3)) ∧ (decode cX7_judged 15 = .ok (.getfield 86, 3)) := by decide +kernel
theorem dX7_judged_0 : decode cX7_judged 0 = .ok (.aload_n 0, 1) := db_X7_judged_0.1
theorem dX7_judged_1 : decode cX7_judged 1 = .ok (.iload_n 1, 1) := db_X7_judged_0.2.1
theorem dX7_judged_2 : decode cX7_judged 2 = .ok (.iload_n 2, 1) := db_X7_judged_0.2.2.1
set_option maxRecDepth 20000 in
theorem ggX7_judged_X7_isTerm : GoodIn wsX7_judged wsX7_isTerm := goodIn_r _ [7, 1, 2, 8, 9, 10, 11, 6, 12, 13, 14, 15, 16, 29, 30, 31, 32, 33, 34, 35, 36, 37, 38, 39, 40, 41, 42, 43, 44, 45, 46, 47, 48, 49, 50, 51] rfl (by decide +kernel)
set_option maxRecDepth 20000 in
theorem gX7_judged_X7_isTerm : GoodIn wsX7_judged (wsV RX7 194 RX7 yX7_isTerm wsX7_isTerm) := goodIn_app (goodIn_r _ [3, 4, 5, 6] rfl (by decide +kernel)) ggX7_judged_X7_isTerm
theorem dX7_judged_3 : decode cX7_judged 3 = .ok (.invokevirtual 194, 3) := db_X7_judged_0.2.2.2.1
theorem dX7_judged_6 : decode cX7_judged 6 = .ok (.ifCond .ne 5, 3) := db_X7_judged_0.2.2.2.2.1
theorem dX7_judged_11 : decode cX7_judged 11 = .ok (.aload_n 0, 1) := db_X7_judged_0.2.2.2.2.2.1
theorem dX7_judged_12 : decode cX7_judged 12 = .ok (.getfield 12, 3) := db_X7_judged_0.2.2.2.2.2.2.1
theorem dX7_judged_15 : decode cX7_judged 15 = .ok (.getfield 86, 3) := db_X7_judged_0.2.2.2.2.2.2.2
set_option maxRecDepth 20000 in
theorem db_X7_judged_18 : (decode cX7_judged 18 = .ok (.iload_n 1, 1)) ∧ (decode cX7_judged 19 = .ok (.aaload, 1)) ∧ (decode cX7_judged 20 = .ok (.iload_n 2, 1)) ∧ (decode cX7_judged 21 = .ok (.invokevirtual 211, 3)) ∧ (decode cX7_judged 24 = .ok (.ireturn, 1)) ∧ (decode cX7_judged 9 = .ok (.iconst (-1), 1)) ∧ (decode cX7_judged 10 = .ok (.ireturn, 1)) := by decide +kernel
theorem dX7_judged_18 : decode cX7_judged 18 = .ok (.iload_n 1, 1) := db_X7_judged_18.1
theorem dX7_judged_19 : decode cX7_judged 19 = .ok (.aaload, 1) := db_X7_judged_18.2.1
theorem dX7_judged_20 : decode cX7_judged 20 = .ok (.iload_n 2, 1) := db_X7_judged_18.2.2.1
set_option maxRecDepth 20000 in
theorem ggX7_judged_X0_judge : GoodIn wsX7_judged wsX0_judge := goodIn_r _ [21, 22, 23, 24, 25, 26, 27, 28, 41, 42, 43, 44, 45, 46, 47, 48, 49, 50, 51, 52, 53, 54, 55, 56] rfl (by decide +kernel)
set_option maxRecDepth 20000 in
theorem gX7_judged_X0_judge : GoodIn wsX7_judged (wsV RX7 211 RX0 yX0_judge wsX0_judge) := goodIn_app (goodIn_r _ [17, 18, 19, 20] rfl (by decide +kernel)) ggX7_judged_X0_judge
theorem dX7_judged_21 : decode cX7_judged 21 = .ok (.invokevirtual 211, 3) := db_X7_judged_18.2.2.2.1
theorem dX7_judged_24 : decode cX7_judged 24 = .ok (.ireturn, 1) := db_X7_judged_18.2.2.2.2.1
theorem dX7_judged_9 : decode cX7_judged 9 = .ok (.iconst (-1), 1) := db_X7_judged_18.2.2.2.2.2.1
theorem dX7_judged_10 : decode cX7_judged 10 = .ok (.ireturn, 1) := db_X7_judged_18.2.2.2.2.2.2
set_option maxRecDepth 20000 in
theorem db_X7_of_0 : (decode cX7_of 0 = .ok (.aload_n 0, 1)) ∧ (decode cX7_of 1 = .ok (.iload_n 1, 1)) ∧ (decode cX7_of 2 = .ok (.invokevirtual 96, 3)) ∧ (decode cX7_of 5 = .ok (.ifCond .ne 5, 3)) ∧ (decode cX7_of 10 = .ok (.aload_n 0, 1)) ∧ (decode cX7_of 11 = .ok (.getfield 12, 3)) ∧ (decode cX7_of 14 = .ok (.getfield 86, 3)) ∧ (decode cX7_of 17 = .ok (.iload_n 1, 1)) := by decide +kernel
theorem dX7_of_0 : decode cX7_of 0 = .ok (.aload_n 0, 1) := db_X7_of_0.1
theorem dX7_of_1 : decode cX7_of 1 = .ok (.iload_n 1, 1) := db_X7_of_0.2.1
set_option maxRecDepth 20000 in
theorem ggX7_of_X7_isCase : GoodIn wsX7_of wsX7_isCase := goodIn_r _ [12, 1, 13, 14, 15, 11, 16, 39, 40, 41, 42, 43, 44, 45, 46, 47, 48, 49, 50] rfl (by decide +kernel)
set_option maxRecDepth 20000 in
theorem gX7_of_X7_isCase : GoodIn wsX7_of (wsV RX7 96 RX7 yX7_isCase wsX7_isCase) := goodIn_app (goodIn_r _ [8, 9, 10, 11] rfl (by decide +kernel)) ggX7_of_X7_isCase
theorem dX7_of_2 : decode cX7_of 2 = .ok (.invokevirtual 96, 3) := db_X7_of_0.2.2.1
theorem dX7_of_5 : decode cX7_of 5 = .ok (.ifCond .ne 5, 3) := db_X7_of_0.2.2.2.1
theorem dX7_of_10 : decode cX7_of 10 = .ok (.aload_n 0, 1) := db_X7_of_0.2.2.2.2.1
theorem dX7_of_11 : decode cX7_of 11 = .ok (.getfield 12, 3) := db_X7_of_0.2.2.2.2.2.1
theorem dX7_of_14 : decode cX7_of 14 = .ok (.getfield 86, 3) := db_X7_of_0.2.2.2.2.2.2.1
theorem dX7_of_17 : decode cX7_of 17 = .ok (.iload_n 1, 1) := db_X7_of_0.2.2.2.2.2.2.2
set_option maxRecDepth 20000 in
theorem db_X7_of_18 : (decode cX7_of 18 = .ok (.aaload, 1)) ∧ (decode cX7_of 19 = .ok (.astore_n 3, 1)) ∧ (decode cX7_of 20 = .ok (.iload_n 2, 1)) ∧ (decode cX7_of 21 = .ok (.tableswitch 115 0 7 #[47, 54, 61, 66, 84, 89, 98, 110], 47)) ∧ (decode cX7_of 136 = .ok (.iconst (-1), 1)) ∧ (decode cX7_of 137 = .ok (.ireturn, 1)) ∧ (decode cX7_of 68 = .ok (.aload_n 3, 1)) ∧ (decode cX7_of 69 = .ok (.getfield 111, 3)) := by decide +kernel
theorem dX7_of_18 : decode cX7_of 18 = .ok (.aaload, 1) := db_X7_of_18.1
theorem dX7_of_19 : decode cX7_of 19 = .ok (.astore_n 3, 1) := db_X7_of_18.2.1
theorem dX7_of_20 : decode cX7_of 20 = .ok (.iload_n 2, 1) := db_X7_of_18.2.2.1
theorem dX7_of_21 : decode cX7_of 21 = .ok (.tableswitch 115 0 7 #[47, 54, 61, 66, 84, 89, 98, 110], 47) := db_X7_of_18.2.2.2.1
theorem dX7_of_136 : decode cX7_of 136 = .ok (.iconst (-1), 1) := db_X7_of_18.2.2.2.2.1
theorem dX7_of_137 : decode cX7_of 137 = .ok (.ireturn, 1) := db_X7_of_18.2.2.2.2.2.1
theorem dX7_of_68 : decode cX7_of 68 = .ok (.aload_n 3, 1) := db_X7_of_18.2.2.2.2.2.2.1
theorem dX7_of_69 : decode cX7_of 69 = .ok (.getfield 111, 3) := db_X7_of_18.2.2.2.2.2.2.2
set_option maxRecDepth 20000 in
theorem db_X7_of_72 : (decode cX7_of 72 = .ok (.iconst 0, 1)) ∧ (decode cX7_of 73 = .ok (.iaload, 1)) ∧ (decode cX7_of 74 = .ok (.ireturn, 1)) ∧ (decode cX7_of 75 = .ok (.aload_n 3, 1)) ∧ (decode cX7_of 76 = .ok (.getfield 111, 3)) ∧ (decode cX7_of 79 = .ok (.iconst 1, 1)) ∧ (decode cX7_of 80 = .ok (.iaload, 1)) ∧ (decode cX7_of 81 = .ok (.ireturn, 1)) := by decide +kernel
theorem dX7_of_72 : decode cX7_of 72 = .ok (.iconst 0, 1) := db_X7_of_72.1
theorem dX7_of_73 : decode cX7_of 73 = .ok (.iaload, 1) := db_X7_of_72.2.1
theorem dX7_of_74 : decode cX7_of 74 = .ok (.ireturn, 1) := db_X7_of_72.2.2.1
theorem dX7_of_75 : decode cX7_of 75 = .ok (.aload_n 3, 1) := db_X7_of_72.2.2.2.1
theorem dX7_of_76 : decode cX7_of 76 = .ok (.getfield 111, 3) := db_X7_of_72.2.2.2.2.1
theorem dX7_of_79 : decode cX7_of 79 = .ok (.iconst 1, 1) := db_X7_of_72.2.2.2.2.2.1
theorem dX7_of_80 : decode cX7_of 80 = .ok (.iaload, 1) := db_X7_of_72.2.2.2.2.2.2.1
theorem dX7_of_81 : decode cX7_of 81 = .ok (.ireturn, 1) := db_X7_of_72.2.2.2.2.2.2.2
set_option maxRecDepth 20000 in
theorem db_X7_of_82 : (decode cX7_of 82 = .ok (.aload_n 3, 1)) ∧ (decode cX7_of 83 = .ok (.getfield 99, 3)) ∧ (decode cX7_of 86 = .ok (.ireturn, 1)) ∧ (decode cX7_of 87 = .ok (.aload_n 3, 1)) ∧ (decode cX7_of 88 = .ok (.getfield 99, 3)) ∧ (decode cX7_of 91 = .ok (.iconst 1, 1)) ∧ (decode cX7_of 92 = .ok (.if_icmp .ne 10, 3)) ∧ (decode cX7_of 102 = .ok (.bipush (-5), 2)) := by decide +kernel
theorem dX7_of_82 : decode cX7_of 82 = .ok (.aload_n 3, 1) := db_X7_of_82.1
theorem dX7_of_83 : decode cX7_of 83 = .ok (.getfield 99, 3) := db_X7_of_82.2.1
theorem dX7_of_86 : decode cX7_of 86 = .ok (.ireturn, 1) := db_X7_of_82.2.2.1
theorem dX7_of_87 : decode cX7_of 87 = .ok (.aload_n 3, 1) := db_X7_of_82.2.2.2.1
theorem dX7_of_88 : decode cX7_of 88 = .ok (.getfield 99, 3) := db_X7_of_82.2.2.2.2.1
theorem dX7_of_91 : decode cX7_of 91 = .ok (.iconst 1, 1) := db_X7_of_82.2.2.2.2.2.1
theorem dX7_of_92 : decode cX7_of 92 = .ok (.if_icmp .ne 10, 3) := db_X7_of_82.2.2.2.2.2.2.1
theorem dX7_of_102 : decode cX7_of 102 = .ok (.bipush (-5), 2) := db_X7_of_82.2.2.2.2.2.2.2
set_option maxRecDepth 20000 in
theorem db_X7_of_104 : (decode cX7_of 104 = .ok (.ireturn, 1)) ∧ (decode cX7_of 95 = .ok (.aload_n 3, 1)) ∧ (decode cX7_of 96 = .ok (.getfield 114, 3)) ∧ (decode cX7_of 99 = .ok (.goto 5, 3)) ∧ (decode cX7_of 105 = .ok (.aload_n 3, 1)) ∧ (decode cX7_of 106 = .ok (.getfield 117, 3)) ∧ (decode cX7_of 109 = .ok (.ireturn, 1)) ∧ (decode cX7_of 110 = .ok (.aload_n 0, 1)) := by decide +kernel
theorem dX7_of_104 : decode cX7_of 104 = .ok (.ireturn, 1) := db_X7_of_104.1
theorem dX7_of_95 : decode cX7_of 95 = .ok (.aload_n 3, 1) := db_X7_of_104.2.1
theorem dX7_of_96 : decode cX7_of 96 = .ok (.getfield 114, 3) := db_X7_of_104.2.2.1
theorem dX7_of_99 : decode cX7_of 99 = .ok (.goto 5, 3) := db_X7_of_104.2.2.2.1
theorem dX7_of_105 : decode cX7_of 105 = .ok (.aload_n 3, 1) := db_X7_of_104.2.2.2.2.1
theorem dX7_of_106 : decode cX7_of 106 = .ok (.getfield 117, 3) := db_X7_of_104.2.2.2.2.2.1
theorem dX7_of_109 : decode cX7_of 109 = .ok (.ireturn, 1) := db_X7_of_104.2.2.2.2.2.2.1
theorem dX7_of_110 : decode cX7_of 110 = .ok (.aload_n 0, 1) := db_X7_of_104.2.2.2.2.2.2.2
set_option maxRecDepth 20000 in
theorem db_X7_of_111 : (decode cX7_of 111 = .ok (.getfield 12, 3)) ∧ (decode cX7_of 114 = .ok (.iload_n 1, 1)) ∧ (decode cX7_of 115 = .ok (.invokevirtual 120, 3)) ∧ (decode cX7_of 118 = .ok (.ireturn, 1)) ∧ (decode cX7_of 119 = .ok (.aload_n 0, 1)) ∧ (decode cX7_of 120 = .ok (.getfield 12, 3)) ∧ (decode cX7_of 123 = .ok (.iload_n 1, 1)) ∧ (decode cX7_of 124 = .ok (.invokevirtual 124, 3)) := by decide +kernel
theorem dX7_of_111 : decode cX7_of 111 = .ok (.getfield 12, 3) := db_X7_of_111.1
theorem dX7_of_114 : decode cX7_of 114 = .ok (.iload_n 1, 1) := db_X7_of_111.2.1
set_option maxRecDepth 20000 in
theorem ggX7_of_X1_headOfQuarrel : GoodIn wsX7_of wsX1_headOfQuarrel := goodIn_r _ [21, 22, 23, 24, 20, 25, 26, 27, 28, 29, 11, 30, 44, 45, 46, 47, 48, 49, 50, 51, 52, 53, 54, 55, 56, 57, 58, 59, 60, 61] rfl (by decide +kernel)
set_option maxRecDepth 20000 in
theorem gX7_of_X1_headOfQuarrel : GoodIn wsX7_of (wsV RX7 120 RX1 yX1_headOfQuarrel wsX1_headOfQuarrel) := goodIn_app (goodIn_r _ [17, 18, 19, 20] rfl (by decide +kernel)) ggX7_of_X1_headOfQuarrel
theorem dX7_of_115 : decode cX7_of 115 = .ok (.invokevirtual 120, 3) := db_X7_of_111.2.2.1
theorem dX7_of_118 : decode cX7_of 118 = .ok (.ireturn, 1) := db_X7_of_111.2.2.2.1
theorem dX7_of_119 : decode cX7_of 119 = .ok (.aload_n 0, 1) := db_X7_of_111.2.2.2.2.1
theorem dX7_of_120 : decode cX7_of 120 = .ok (.getfield 12, 3) := db_X7_of_111.2.2.2.2.2.1
theorem dX7_of_123 : decode cX7_of 123 = .ok (.iload_n 1, 1) := db_X7_of_111.2.2.2.2.2.2.1
set_option maxRecDepth 20000 in
theorem ggX7_of_X1_quarrelBits : GoodIn wsX7_of wsX1_quarrelBits := goodIn_r _ [25, 26, 27, 28, 29, 11, 30, 44, 45, 46, 47, 48, 49, 50, 51, 52, 53, 54, 55, 56, 57, 58, 59, 60, 61] rfl (by decide +kernel)
set_option maxRecDepth 20000 in
theorem gX7_of_X1_quarrelBits : GoodIn wsX7_of (wsV RX7 124 RX1 yX1_quarrelBits wsX1_quarrelBits) := goodIn_app (goodIn_r _ [31, 23, 24, 20] rfl (by decide +kernel)) ggX7_of_X1_quarrelBits
theorem dX7_of_124 : decode cX7_of 124 = .ok (.invokevirtual 124, 3) := db_X7_of_111.2.2.2.2.2.2.2
set_option maxRecDepth 20000 in
theorem ggX7_of_J6_bitCount_0f7a4 : GoodIn wsX7_of wsJ6_bitCount_0f7a4 := goodIn_r _ [35, 36, 37, 38] rfl (by decide +kernel)
set_option maxRecDepth 20000 in
theorem gX7_of_J6_bitCount_0f7a4 : GoodIn wsX7_of (va_wsS RX7 127 yJ6_bitCount_0f7a4 wsJ6_bitCount_0f7a4) := goodIn_app (goodIn_r _ [32, 33, 34] rfl (by decide +kernel)) ggX7_of_J6_bitCount_0f7a4
set_option maxRecDepth 20000 in
theorem db_X7_of_127 : (decode cX7_of 127 = .ok (.invokestatic 127, 3)) ∧ (decode cX7_of 130 = .ok (.ireturn, 1)) ∧ (decode cX7_of 131 = .ok (.aload_n 3, 1)) ∧ (decode cX7_of 132 = .ok (.getfield 102, 3)) ∧ (decode cX7_of 135 = .ok (.ireturn, 1)) ∧ (decode cX7_of 8 = .ok (.iconst (-1), 1)) ∧ (decode cX7_of 9 = .ok (.ireturn, 1)) := by decide +kernel
theorem dX7_of_127 : decode cX7_of 127 = .ok (.invokestatic 127, 3) := db_X7_of_127.1
theorem dX7_of_130 : decode cX7_of 130 = .ok (.ireturn, 1) := db_X7_of_127.2.1
theorem dX7_of_131 : decode cX7_of 131 = .ok (.aload_n 3, 1) := db_X7_of_127.2.2.1
theorem dX7_of_132 : decode cX7_of 132 = .ok (.getfield 102, 3) := db_X7_of_127.2.2.2.1
theorem dX7_of_135 : decode cX7_of 135 = .ok (.ireturn, 1) := db_X7_of_127.2.2.2.2.1
theorem dX7_of_8 : decode cX7_of 8 = .ok (.iconst (-1), 1) := db_X7_of_127.2.2.2.2.2.1
theorem dX7_of_9 : decode cX7_of 9 = .ok (.ireturn, 1) := db_X7_of_127.2.2.2.2.2.2
set_option maxRecDepth 20000 in
theorem db_X7_many_0 : (decode cX7_many 0 = .ok (.iload_n 1, 1)) ∧ (decode cX7_many 1 = .ok (.tableswitch 152 0 10 #[59, 67, 75, 83, 92, 101, 109, 117, 125, 134, 143], 59)) ∧ (decode cX7_many 153 = .ok (.iconst (-1), 1)) ∧ (decode cX7_many 154 = .ok (.ireturn, 1)) ∧ (decode cX7_many 60 = .ok (.aload_n 0, 1)) ∧ (decode cX7_many 61 = .ok (.getfield 12, 3)) ∧ (decode cX7_many 64 = .ok (.getfield 41, 3)) ∧ (decode cX7_many 67 = .ok (.ireturn, 1)) := by decide +kernel
theorem dX7_many_0 : decode cX7_many 0 = .ok (.iload_n 1, 1) := db_X7_many_0.1
theorem dX7_many_1 : decode cX7_many 1 = .ok (.tableswitch 152 0 10 #[59, 67, 75, 83, 92, 101, 109, 117, 125, 134, 143], 59) := db_X7_many_0.2.1
theorem dX7_many_153 : decode cX7_many 153 = .ok (.iconst (-1), 1) := db_X7_many_0.2.2.1
theorem dX7_many_154 : decode cX7_many 154 = .ok (.ireturn, 1) := db_X7_many_0.2.2.2.1
theorem dX7_many_60 : decode cX7_many 60 = .ok (.aload_n 0, 1) := db_X7_many_0.2.2.2.2.1
theorem dX7_many_61 : decode cX7_many 61 = .ok (.getfield 12, 3) := db_X7_many_0.2.2.2.2.2.1
theorem dX7_many_64 : decode cX7_many 64 = .ok (.getfield 41, 3) := db_X7_many_0.2.2.2.2.2.2.1
theorem dX7_many_67 : decode cX7_many 67 = .ok (.ireturn, 1) := db_X7_many_0.2.2.2.2.2.2.2
set_option maxRecDepth 20000 in
theorem db_X7_many_68 : (decode cX7_many 68 = .ok (.aload_n 0, 1)) ∧ (decode cX7_many 69 = .ok (.getfield 12, 3)) ∧ (decode cX7_many 72 = .ok (.getfield 56, 3)) ∧ (decode cX7_many 75 = .ok (.ireturn, 1)) ∧ (decode cX7_many 76 = .ok (.aload_n 0, 1)) ∧ (decode cX7_many 77 = .ok (.getfield 12, 3)) ∧ (decode cX7_many 80 = .ok (.getfield 83, 3)) ∧ (decode cX7_many 83 = .ok (.ireturn, 1)) := by decide +kernel
theorem dX7_many_68 : decode cX7_many 68 = .ok (.aload_n 0, 1) := db_X7_many_68.1
theorem dX7_many_69 : decode cX7_many 69 = .ok (.getfield 12, 3) := db_X7_many_68.2.1
theorem dX7_many_72 : decode cX7_many 72 = .ok (.getfield 56, 3) := db_X7_many_68.2.2.1
theorem dX7_many_75 : decode cX7_many 75 = .ok (.ireturn, 1) := db_X7_many_68.2.2.2.1
theorem dX7_many_76 : decode cX7_many 76 = .ok (.aload_n 0, 1) := db_X7_many_68.2.2.2.2.1
theorem dX7_many_77 : decode cX7_many 77 = .ok (.getfield 12, 3) := db_X7_many_68.2.2.2.2.2.1
theorem dX7_many_80 : decode cX7_many 80 = .ok (.getfield 83, 3) := db_X7_many_68.2.2.2.2.2.2.1
theorem dX7_many_83 : decode cX7_many 83 = .ok (.ireturn, 1) := db_X7_many_68.2.2.2.2.2.2.2
set_option maxRecDepth 20000 in
theorem db_X7_many_84 : (decode cX7_many 84 = .ok (.aload_n 0, 1)) ∧ (decode cX7_many 85 = .ok (.getfield 12, 3)) ∧ (decode cX7_many 88 = .ok (.iconst 0, 1)) ∧ (decode cX7_many 89 = .ok (.invokevirtual 214, 3)) ∧ (decode cX7_many 92 = .ok (.ireturn, 1)) ∧ (decode cX7_many 93 = .ok (.aload_n 0, 1)) ∧ (decode cX7_many 94 = .ok (.getfield 12, 3)) ∧ (decode cX7_many 97 = .ok (.iconst 1, 1)) := by decide +kernel
theorem dX7_many_84 : decode cX7_many 84 = .ok (.aload_n 0, 1) := db_X7_many_84.1
theorem dX7_many_85 : decode cX7_many 85 = .ok (.getfield 12, 3) := db_X7_many_84.2.1
theorem dX7_many_88 : decode cX7_many 88 = .ok (.iconst 0, 1) := db_X7_many_84.2.2.1
set_option maxRecDepth 20000 in
theorem ggX7_many_X1_countState : GoodIn wsX7_many wsX1_countState := goodIn_r _ [10, 11, 12, 13, 56, 57, 58, 59, 60, 61, 62, 63, 64, 65, 66, 67, 68, 69, 70, 71, 72, 73] rfl (by decide +kernel)
set_option maxRecDepth 20000 in
theorem gX7_many_X1_countState : GoodIn wsX7_many (wsV RX7 214 RX1 yX1_countState wsX1_countState) := goodIn_app (goodIn_r _ [6, 7, 8, 9] rfl (by decide +kernel)) ggX7_many_X1_countState
theorem dX7_many_89 : decode cX7_many 89 = .ok (.invokevirtual 214, 3) := db_X7_many_84.2.2.2.1
theorem dX7_many_92 : decode cX7_many 92 = .ok (.ireturn, 1) := db_X7_many_84.2.2.2.2.1
theorem dX7_many_93 : decode cX7_many 93 = .ok (.aload_n 0, 1) := db_X7_many_84.2.2.2.2.2.1
theorem dX7_many_94 : decode cX7_many 94 = .ok (.getfield 12, 3) := db_X7_many_84.2.2.2.2.2.2.1
theorem dX7_many_97 : decode cX7_many 97 = .ok (.iconst 1, 1) := db_X7_many_84.2.2.2.2.2.2.2
set_option maxRecDepth 20000 in
theorem db_X7_many_98 : (decode cX7_many 98 = .ok (.invokevirtual 214, 3)) ∧ (decode cX7_many 101 = .ok (.ireturn, 1)) ∧ (decode cX7_many 102 = .ok (.aload_n 0, 1)) ∧ (decode cX7_many 103 = .ok (.getfield 12, 3)) ∧ (decode cX7_many 106 = .ok (.getfield 108, 3)) ∧ (decode cX7_many 109 = .ok (.ireturn, 1)) ∧ (decode cX7_many 110 = .ok (.aload_n 0, 1)) ∧ (decode cX7_many 111 = .ok (.getfield 12, 3)) := by decide +kernel
theorem dX7_many_98 : decode cX7_many 98 = .ok (.invokevirtual 214, 3) := db_X7_many_98.1
theorem dX7_many_101 : decode cX7_many 101 = .ok (.ireturn, 1) := db_X7_many_98.2.1
theorem dX7_many_102 : decode cX7_many 102 = .ok (.aload_n 0, 1) := db_X7_many_98.2.2.1
theorem dX7_many_103 : decode cX7_many 103 = .ok (.getfield 12, 3) := db_X7_many_98.2.2.2.1
theorem dX7_many_106 : decode cX7_many 106 = .ok (.getfield 108, 3) := db_X7_many_98.2.2.2.2.1
theorem dX7_many_109 : decode cX7_many 109 = .ok (.ireturn, 1) := db_X7_many_98.2.2.2.2.2.1
theorem dX7_many_110 : decode cX7_many 110 = .ok (.aload_n 0, 1) := db_X7_many_98.2.2.2.2.2.2.1
theorem dX7_many_111 : decode cX7_many 111 = .ok (.getfield 12, 3) := db_X7_many_98.2.2.2.2.2.2.2
set_option maxRecDepth 20000 in
theorem ggX7_many_X1_countQuarrels : GoodIn wsX7_many wsX1_countQuarrels := goodIn_r _ [17, 11, 18, 19, 20, 9, 21, 22, 23, 24, 25, 12, 26, 27, 28, 29, 56, 57, 58, 59, 60, 61, 62, 63, 64, 65, 66, 67, 68, 69, 70, 71, 72, 73] rfl (by decide +kernel)
set_option maxRecDepth 20000 in
theorem gX7_many_X1_countQuarrels : GoodIn wsX7_many (wsV RX7 217 RX1 yX1_countQuarrels wsX1_countQuarrels) := goodIn_app (goodIn_r _ [14, 15, 16, 9] rfl (by decide +kernel)) ggX7_many_X1_countQuarrels
set_option maxRecDepth 20000 in
theorem db_X7_many_114 : (decode cX7_many 114 = .ok (.invokevirtual 217, 3)) ∧ (decode cX7_many 117 = .ok (.ireturn, 1)) ∧ (decode cX7_many 118 = .ok (.aload_n 0, 1)) ∧ (decode cX7_many 119 = .ok (.getfield 12, 3)) ∧ (decode cX7_many 122 = .ok (.invokevirtual 221, 3)) ∧ (decode cX7_many 125 = .ok (.ireturn, 1)) ∧ (decode cX7_many 126 = .ok (.aload_n 0, 1)) ∧ (decode cX7_many 127 = .ok (.getfield 12, 3)) := by decide +kernel
theorem dX7_many_114 : decode cX7_many 114 = .ok (.invokevirtual 217, 3) := db_X7_many_114.1
theorem dX7_many_117 : decode cX7_many 117 = .ok (.ireturn, 1) := db_X7_many_114.2.1
theorem dX7_many_118 : decode cX7_many 118 = .ok (.aload_n 0, 1) := db_X7_many_114.2.2.1
theorem dX7_many_119 : decode cX7_many 119 = .ok (.getfield 12, 3) := db_X7_many_114.2.2.2.1
set_option maxRecDepth 20000 in
theorem ggX7_many_X1_countTerms : GoodIn wsX7_many wsX1_countTerms := goodIn_r _ [33, 11, 12, 34, 56, 57, 58, 59, 60, 61, 62, 63, 64, 65, 66, 67, 68, 69, 70, 71, 72, 73] rfl (by decide +kernel)
set_option maxRecDepth 20000 in
theorem gX7_many_X1_countTerms : GoodIn wsX7_many (wsV RX7 221 RX1 yX1_countTerms wsX1_countTerms) := goodIn_app (goodIn_r _ [30, 31, 32, 9] rfl (by decide +kernel)) ggX7_many_X1_countTerms
theorem dX7_many_122 : decode cX7_many 122 = .ok (.invokevirtual 221, 3) := db_X7_many_114.2.2.2.2.1
theorem dX7_many_125 : decode cX7_many 125 = .ok (.ireturn, 1) := db_X7_many_114.2.2.2.2.2.1
theorem dX7_many_126 : decode cX7_many 126 = .ok (.aload_n 0, 1) := db_X7_many_114.2.2.2.2.2.2.1
theorem dX7_many_127 : decode cX7_many 127 = .ok (.getfield 12, 3) := db_X7_many_114.2.2.2.2.2.2.2
set_option maxRecDepth 20000 in
theorem db_X7_many_130 : (decode cX7_many 130 = .ok (.iconst 1, 1)) ∧ (decode cX7_many 131 = .ok (.invokevirtual 224, 3)) ∧ (decode cX7_many 134 = .ok (.ireturn, 1)) ∧ (decode cX7_many 135 = .ok (.aload_n 0, 1)) ∧ (decode cX7_many 136 = .ok (.getfield 12, 3)) ∧ (decode cX7_many 139 = .ok (.iconst 0, 1)) ∧ (decode cX7_many 140 = .ok (.invokevirtual 224, 3)) ∧ (decode cX7_many 143 = .ok (.ireturn, 1)) := by decide +kernel
theorem dX7_many_130 : decode cX7_many 130 = .ok (.iconst 1, 1) := db_X7_many_130.1
set_option maxRecDepth 20000 in
theorem ggX7_many_X1_countJudged : GoodIn wsX7_many wsX1_countJudged := goodIn_r _ [38, 11, 12, 34, 39, 40, 41, 42, 43, 44, 45, 46, 47, 48, 49, 50, 56, 57, 58, 59, 60, 61, 62, 63, 64, 65, 66, 67, 68, 69, 70, 71, 72, 73, 74, 75, 76, 77, 78] rfl (by decide +kernel)
set_option maxRecDepth 20000 in
theorem gX7_many_X1_countJudged : GoodIn wsX7_many (wsV RX7 224 RX1 yX1_countJudged wsX1_countJudged) := goodIn_app (goodIn_r _ [35, 36, 37, 9] rfl (by decide +kernel)) ggX7_many_X1_countJudged
theorem dX7_many_131 : decode cX7_many 131 = .ok (.invokevirtual 224, 3) := db_X7_many_130.2.1
theorem dX7_many_134 : decode cX7_many 134 = .ok (.ireturn, 1) := db_X7_many_130.2.2.1
theorem dX7_many_135 : decode cX7_many 135 = .ok (.aload_n 0, 1) := db_X7_many_130.2.2.2.1
theorem dX7_many_136 : decode cX7_many 136 = .ok (.getfield 12, 3) := db_X7_many_130.2.2.2.2.1
theorem dX7_many_139 : decode cX7_many 139 = .ok (.iconst 0, 1) := db_X7_many_130.2.2.2.2.2.1
theorem dX7_many_140 : decode cX7_many 140 = .ok (.invokevirtual 224, 3) := db_X7_many_130.2.2.2.2.2.2.1
theorem dX7_many_143 : decode cX7_many 143 = .ok (.ireturn, 1) := db_X7_many_130.2.2.2.2.2.2.2
set_option maxRecDepth 20000 in
theorem db_X7_many_144 : (decode cX7_many 144 = .ok (.aload_n 0, 1)) ∧ (decode cX7_many 145 = .ok (.getfield 12, 3)) ∧ (decode cX7_many 148 = .ok (.iconst 2, 1)) ∧ (decode cX7_many 149 = .ok (.invokevirtual 224, 3)) ∧ (decode cX7_many 152 = .ok (.ireturn, 1)) := by decide +kernel
theorem dX7_many_144 : decode cX7_many 144 = .ok (.aload_n 0, 1) := db_X7_many_144.1
theorem dX7_many_145 : decode cX7_many 145 = .ok (.getfield 12, 3) := db_X7_many_144.2.1
theorem dX7_many_148 : decode cX7_many 148 = .ok (.iconst 2, 1) := db_X7_many_144.2.2.1
theorem dX7_many_149 : decode cX7_many 149 = .ok (.invokevirtual 224, 3) := db_X7_many_144.2.2.2.1
theorem dX7_many_152 : decode cX7_many 152 = .ok (.ireturn, 1) := db_X7_many_144.2.2.2.2
set_option maxHeartbeats 4000000 in
set_option maxRecDepth 100000 in
theorem g_X7_learns (l : Launch) (dC : Nat → ClassId) (dI : Nat → Nat → Nat) (cy : Nat → ClassId) (sz : Nat) (ad : Nat → Nat) (kv : Value) (N : Nat) (hN : 119 ≤ N) (v : Nat → Nat → Int32) (hv : Iv v)  (x0 x1 x2 x3 : Int32) : Met l yX7_learns wsX7_learns ({ frames := 3, cells := 0, slots := 0, locals := 192 }) (va_Pc [.ref (ad 0), .int x0, .int x1, .int x2, .int x3] (ex_Pre dC dI cy sz (wl ad kv cy N v))) (va_Qi (fun (r : Int32) (u : Nat → Nat → Int32) => Iv u ∧ Fz v u) (fun u t => ex_Pst dC dI (va_A (wl ad kv cy N v) sz) (wl ad kv cy N u) t) (va_A (wl ad kv cy N v) sz)) 0 0 (va_A (wl ad kv cy N v) sz) := by
  refine Met.ofW (cc := cX7_learns) (maxL := 6) (ret := (some .int)) (by decide) rfl ?_
  intro p e s m args below meth c s₁ B hml hv
  obtain ⟨rfl, hsz, hE, hP, hK, hD0⟩ := hv
  have hx := B.exec
  have hb := B.bytes
  have hr := B.returns
  have hts := atoms_spec (ws := wsX7_learns) B.pre
  have hown : s.vm.findClass RX7 = some m.cls := findClass_of_methodNamed B.named
  have hlocks := B.notSynchronized
  subst hsz
  have hD := hD0.self (sz := s.heap.size)
  generalize hAe : va_A (wl ad kv cy N v) s.heap.size = A at hD ⊢
  have hA : ∀ q : Nat, s.heap.size ≤ q → A q := fun q h => by rw [← hAe]; exact Or.inr h
  have hS : va_S A s.heap s.heap [] := va_S.rf
  have hP : va_P (dC, dI) vwCl (wl ad kv cy N v) s.heap := hP
  have hl := lv_entry ([.ref (ad 0), .int x0, .int x1, .int x2, .int x3]) (n := 6) (Nat.le_of_ble_eq_true rfl)
  rw [lg_entry_eq]
  generalize (lg_sl ([.ref (ad 0), .int x0, .int x1, .int x2, .int x3]) ++ List.replicate (6 - (lg_sl ([.ref (ad 0), .int x0, .int x1, .int x2, .int x3])).length) Slot.unset).toArray = ls at hl ⊢
  have hl : lv_has ls 6 [(0, .ref (ad 0)), (1, .int x0), (2, .int x1), (3, .int x2), (4, .int x3)] := hl
  have hfr : Fz v v := Fz.rf
  refine lv_aload_n hx hb dX7_learns_0 rfl (lv_at hl 0 rfl) ?_
  refine lv_iload_n hx hb dX7_learns_1 rfl (lv_at hl 1 rfl) ?_
  refine yw_i (w1 := fun (u : Nat → Nat → Int32) => wl ad kv cy N u) hD hS hA (va_runV (As := [.int x0]) (rest := []) ⟨hx, hb, hml, hown, hts⟩ (g_X7_isCase l dC dI cy _ ad kv N hN v hv x0) (cwV 1 hts gX7_learns_X7_isCase rfl rfl rfl hd_V_X7_isCase_1 ⟨Nat.le_of_ble_eq_true rfl, Nat.le_of_ble_eq_true rfl⟩) (yw_preV hE hK hP hD (ci := 7) (q0 := 0) rfl (wl_at (by omega) (ce_0 (by decide)))) rfl rfl hl.1 rfl (lv_room (Nat.le_of_ble_eq_true rfl)) dX7_learns_2 ⟨Nat.le_of_ble_eq_true rfl, Nat.le_of_ble_eq_true rfl⟩) (fun r_1 v_1 H locs hw_1 hP hD hS => ?_)
  obtain ⟨hv, hw_1⟩ := hw_1
  obtain ⟨hu_1, hw_1⟩ := hw_1
  have hfr : Fz v v_1 := by rw [hu_1]; exact hfr
  rcases hw_1 with ⟨rfl, ha_2⟩ | ⟨rfl, -⟩
  · have hb_2 := hv.at (k := 13) (j := 2) (K := 3) (by decide) rfl
    have hb_2 : 0 ≤ x0.toInt ∧ x0.toInt < 6 := by omega
    refine lv_if_eq (tgt := 15) hx hb dX7_learns_5 (by decide) (fun c9 => absurd c9 (by decide)) (fun _ => ?_)
    refine lv_iload_n hx hb dX7_learns_8 rfl (lv_at hl 2 rfl) ?_
    refine yc_p hP hS (va_runS (As := [.int x1]) (rest := []) ⟨hx, hb, hml, hown, hts⟩ (c_X7_isSide l x1) (cwS 1 hts gX7_learns_X7_isSide rfl rfl rfl hd_S_X7_isSide_1 ⟨Nat.le_of_ble_eq_true rfl, Nat.le_of_ble_eq_true rfl⟩) ex_preP rfl rfl hl.1 rfl (lv_room (Nat.le_of_ble_eq_true rfl)) dX7_learns_9 ⟨Nat.le_of_ble_eq_true rfl, Nat.le_of_ble_eq_true rfl⟩) (fun r_3 H locs hw_3 hP hS => ?_)
    rcases wi_ca hw_3 with ⟨rfl, hc_4⟩ | ⟨rfl, hc_4⟩
    · have k_0 : (0 : Int32).toInt = 0 := by decide
      have k_1 : (1 : Int32).toInt = 1 := by decide
      have tc_4 := wi_tl hc_4
      refine lv_if_ne (tgt := 17) hx hb dX7_learns_12 (by decide) (fun _ => ?_) (fun c9 => absurd c9 (by decide))
      refine lv_aload_n hx hb dX7_learns_17 rfl (lv_at hl 0 rfl) ?_
      refine va_get (D := (dC, dI)) (ci := 7) (v := .ref (ad 13)) (C := RX7) (T := TX7) (N := 5) hx hb hts iwX7_learns_X7 hown hK hP (0) (wl_at (by omega) (ce_0 (by decide))) rfl 0 (by decide) (hts (.fieldLink RX7 12 "QuietStairs" "now" "LQuietStairs$House;") fwX7_learns_1) (fun _ h9 => h9) rfl dX7_learns_18 ?_
      refine va_get (D := (dC, dI)) (ci := 1) (v := .ref (ad 16)) (C := RX1) (T := TX1) (N := 7) hx hb hts iwX7_learns_X1 hown hK hP (13) (wl_at (by omega) (ce_3 (by decide))) rfl 6 (by decide) (hts (.fieldLink RX7 86 "QuietStairs$House" "cases" "[LQuietStairs$Case;") fwX7_learns_2) (fun _ h9 => h9) rfl dX7_learns_21 ?_
      refine lv_iload_n hx hb dX7_learns_24 rfl (lv_at hl 1 rfl) ?_
      obtain ⟨pi5, i5, hi5, ni5, mi5⟩ := t_in (x := x0) (n := 6) ⟨by omega, by omega⟩
      refine va_aldq hx hb hK hP (16) 3 (wl_at (by omega) (ce_6 (by decide))) rfl pi5 dX7_learns_25 ?_
      refine W.eq (g2 := F0 m 26 ls [.ref (ad (29 + 15 * i5))]) (by rw [ni5, if_pos hi5, show 16 + 13 + 15 * i5 = 29 + 15 * i5 from by omega]; rfl) ?_
      refine lv_astore (lv' := [(5, .ref (ad (29 + 15 * i5))), (0, .ref (ad 0)), (1, .int x0), (2, .int x1), (3, .int x2), (4, .int x3)]) hx hb dX7_learns_26 hl (by decide) rfl (fun ls hl => ?_)
      refine lv_iload_n hx hb dX7_learns_28 rfl (lv_at hl 4 rfl) ?_
      refine lv_iconst (v := 0) hx hb dX7_learns_29 (by decide) ?_
      refine lv_aload hx hb dX7_learns_30 (lv_at hl 0 rfl) ?_
      refine va_get (D := (dC, dI)) (ci := 0) (v := .int (v_1 (29 + 15 * i5) 2)) (C := RX0) (T := TX0) (N := 11) hx hb hts iwX7_learns_X0 hown hK hP (29 + 15 * i5) (wl_at (by omega) (ce_9 (kd_c i5 hi5).1.1)) rfl 2 (by decide) (hts (.fieldLink RX7 117 "QuietStairs$Case" "roundsOver" "I") fwX7_learns_3) (fun _ h9 => h9) rfl dX7_learns_32 ?_
      refine lv_topi (fun x_6 ex_6 => ?_)
      have bx_6 : 0 ≤ x_6.toInt ∧ x_6.toInt ≤ 5 := by rw [ex_6]; exact hv.at (K := 9) (kd_c i5 hi5).1.1 rfl
      refine lv_iconst (v := 1) hx hb dX7_learns_35 (by decide) ?_
      refine lv_isub hx hb dX7_learns_36 ?_
      refine lv_topi (fun x_7 ex_7 => ?_)
      have tx_7 : x_7.toInt = x_6.toInt - (1 : Int32).toInt := by rw [ex_7]; exact t_sub ⟨by omega, by omega⟩
      refine yc_p hP hS (va_runS (As := [.int x2, .int 0, .int x_7]) (rest := []) ⟨hx, hb, hml, hown, hts⟩ (c_X7_isWithin l x2 0 x_7) (cwS 3 hts gX7_learns_X7_isWithin rfl rfl rfl hd_S_X7_isWithin_3 ⟨Nat.le_of_ble_eq_true rfl, Nat.le_of_ble_eq_true rfl⟩) ex_preP rfl rfl hl.1 rfl (lv_room (Nat.le_of_ble_eq_true rfl)) dX7_learns_37 ⟨Nat.le_of_ble_eq_true rfl, Nat.le_of_ble_eq_true rfl⟩) (fun r_8 H locs hw_8 hP hS => ?_)
      rcases wi_ca hw_8 with ⟨rfl, hc_9⟩ | ⟨rfl, hc_9⟩
      · have tc_9 := wi_tl hc_9
        refine lv_if_ne (tgt := 46) hx hb dX7_learns_40 (by decide) (fun _ => ?_) (fun c9 => absurd c9 (by decide))
        refine lv_iload hx hb dX7_learns_46 (lv_at hl 5 rfl) ?_
        refine lv_if_eq (tgt := 61) hx hb dX7_learns_48 (by decide) (fun c_10 => ?_) (fun c_10 => ?_)
        · have tc_10 : x3.toInt = (0 : Int32).toInt := by rw [c_10]
          refine lv_aload hx hb dX7_learns_61 (lv_at hl 0 rfl) ?_
          refine lv_iload_n hx hb dX7_learns_63 rfl (lv_at hl 3 rfl) ?_
          refine lv_iload_n hx hb dX7_learns_64 rfl (lv_at hl 4 rfl) ?_
          refine yw_i (w1 := fun (u : Nat → Nat → Int32) => wl ad kv cy N u) hD hS hA (va_runV (As := [.int x1, .int x2]) (rest := []) ⟨hx, hb, hml, hown, hts⟩ (g_X0_leastOfOther l dC dI cy _ ad kv N hN v_1 hv i5 hi5 x1 x2 ⟨by omega, by omega⟩ ⟨by omega, by omega⟩) (cwV 2 hts gX7_learns_X0_leastOfOther rfl rfl rfl hd_V_X0_leastOfOther_2 ⟨Nat.le_of_ble_eq_true rfl, Nat.le_of_ble_eq_true rfl⟩) (yw_preV hE hK hP hD (ci := 0) (q0 := (29 + 15 * i5)) rfl (wl_at (by omega) (ce_9 (kd_c i5 hi5).1.1))) rfl rfl hl.1 rfl (lv_room (Nat.le_of_ble_eq_true rfl)) dX7_learns_65 ⟨Nat.le_of_ble_eq_true rfl, Nat.le_of_ble_eq_true rfl⟩) (fun r_11 v_11 H locs hw_11 hP hD hS => ?_)
          obtain ⟨hv, hw_11⟩ := hw_11
          have hfr : Fz v v_11 := hfr.trans hw_11
          exact W.iret (v := r_11) hx hb hr (fun t ht hW => ⟨⟨r_11, v_11, rfl, ⟨hv, hfr⟩, by rw [ht]; exact hP, hD⟩, hS.F ht⟩) hS.2.2 dX7_learns_68
        · have tc_10 : x3.toInt ≠ (0 : Int32).toInt := fun q => absurd (Int32.toInt_inj.mp q) c_10
          refine lv_aload hx hb dX7_learns_51 (lv_at hl 0 rfl) ?_
          refine lv_iload_n hx hb dX7_learns_53 rfl (lv_at hl 3 rfl) ?_
          refine lv_iload_n hx hb dX7_learns_54 rfl (lv_at hl 4 rfl) ?_
          refine yw_i (w1 := fun (u : Nat → Nat → Int32) => wl ad kv cy N u) hD hS hA (va_runV (As := [.int x1, .int x2]) (rest := []) ⟨hx, hb, hml, hown, hts⟩ (g_X0_greatestOfOther l dC dI cy _ ad kv N hN v_1 hv i5 hi5 x1 x2 ⟨by omega, by omega⟩ ⟨by omega, by omega⟩) (cwV 2 hts gX7_learns_X0_greatestOfOther rfl rfl rfl hd_V_X0_greatestOfOther_2 ⟨Nat.le_of_ble_eq_true rfl, Nat.le_of_ble_eq_true rfl⟩) (yw_preV hE hK hP hD (ci := 0) (q0 := (29 + 15 * i5)) rfl (wl_at (by omega) (ce_9 (kd_c i5 hi5).1.1))) rfl rfl hl.1 rfl (lv_room (Nat.le_of_ble_eq_true rfl)) dX7_learns_55 ⟨Nat.le_of_ble_eq_true rfl, Nat.le_of_ble_eq_true rfl⟩) (fun r_11 v_11 H locs hw_11 hP hD hS => ?_)
          obtain ⟨hv, hw_11⟩ := hw_11
          have hfr : Fz v v_11 := hfr.trans hw_11
          refine lv_goto (tgt := 68) hx hb dX7_learns_58 (by decide) ?_
          exact W.iret (v := r_11) hx hb hr (fun t ht hW => ⟨⟨r_11, v_11, rfl, ⟨hv, hfr⟩, by rw [ht]; exact hP, hD⟩, hS.F ht⟩) hS.2.2 dX7_learns_68
      · refine lv_if_ne (tgt := 46) hx hb dX7_learns_40 (by decide) (fun c9 => absurd c9 (by decide)) (fun _ => ?_)
        refine lv_bipush (v := (-5)) hx hb dX7_learns_43 (by decide) ?_
        exact W.iret (v := (-5)) hx hb hr (fun t ht hW => ⟨⟨(-5), v_1, rfl, ⟨hv, hfr⟩, by rw [ht]; exact hP, hD⟩, hS.F ht⟩) hS.2.2 dX7_learns_45
    · refine lv_if_ne (tgt := 17) hx hb dX7_learns_12 (by decide) (fun c9 => absurd c9 (by decide)) (fun _ => ?_)
      refine lv_iconst (v := (-1)) hx hb dX7_learns_15 (by decide) ?_
      exact W.iret (v := (-1)) hx hb hr (fun t ht hW => ⟨⟨(-1), v_1, rfl, ⟨hv, hfr⟩, by rw [ht]; exact hP, hD⟩, hS.F ht⟩) hS.2.2 dX7_learns_16
  · refine lv_if_eq (tgt := 15) hx hb dX7_learns_5 (by decide) (fun _ => ?_) (fun c9 => absurd c9 (by decide))
    refine lv_iconst (v := (-1)) hx hb dX7_learns_15 (by decide) ?_
    exact W.iret (v := (-1)) hx hb hr (fun t ht hW => ⟨⟨(-1), v_1, rfl, ⟨hv, hfr⟩, by rw [ht]; exact hP, hD⟩, hS.F ht⟩) hS.2.2 dX7_learns_16

set_option maxHeartbeats 4000000 in
set_option maxRecDepth 100000 in
theorem g_X7_termOf (l : Launch) (dC : Nat → ClassId) (dI : Nat → Nat → Nat) (cy : Nat → ClassId) (sz : Nat) (ad : Nat → Nat) (kv : Value) (N : Nat) (hN : 119 ≤ N) (v : Nat → Nat → Int32) (hv : Iv v)  (x0 x1 x2 : Int32) : Met l yX7_termOf wsX7_termOf ({ frames := 3, cells := 0, slots := 0, locals := 192 }) (va_Pc [.ref (ad 0), .int x0, .int x1, .int x2] (ex_Pre dC dI cy sz (wl ad kv cy N v))) (va_Qi (fun (r : Int32) (u : Nat → Nat → Int32) => Iv u ∧ Fz v u) (fun u t => ex_Pst dC dI (va_A (wl ad kv cy N v) sz) (wl ad kv cy N u) t) (va_A (wl ad kv cy N v) sz)) 0 0 (va_A (wl ad kv cy N v) sz) := by
  refine Met.ofW (cc := cX7_termOf) (maxL := 5) (ret := (some .int)) (by decide) rfl ?_
  intro p e s m args below meth c s₁ B hml hv
  obtain ⟨rfl, hsz, hE, hP, hK, hD0⟩ := hv
  have hx := B.exec
  have hb := B.bytes
  have hr := B.returns
  have hts := atoms_spec (ws := wsX7_termOf) B.pre
  have hown : s.vm.findClass RX7 = some m.cls := findClass_of_methodNamed B.named
  have hlocks := B.notSynchronized
  subst hsz
  have hD := hD0.self (sz := s.heap.size)
  generalize hAe : va_A (wl ad kv cy N v) s.heap.size = A at hD ⊢
  have hA : ∀ q : Nat, s.heap.size ≤ q → A q := fun q h => by rw [← hAe]; exact Or.inr h
  have hS : va_S A s.heap s.heap [] := va_S.rf
  have hP : va_P (dC, dI) vwCl (wl ad kv cy N v) s.heap := hP
  have hl := lv_entry ([.ref (ad 0), .int x0, .int x1, .int x2]) (n := 5) (Nat.le_of_ble_eq_true rfl)
  rw [lg_entry_eq]
  generalize (lg_sl ([.ref (ad 0), .int x0, .int x1, .int x2]) ++ List.replicate (5 - (lg_sl ([.ref (ad 0), .int x0, .int x1, .int x2])).length) Slot.unset).toArray = ls at hl ⊢
  have hl : lv_has ls 5 [(0, .ref (ad 0)), (1, .int x0), (2, .int x1), (3, .int x2)] := hl
  have hfr : Fz v v := Fz.rf
  refine lv_aload_n hx hb dX7_termOf_0 rfl (lv_at hl 0 rfl) ?_
  refine lv_iload_n hx hb dX7_termOf_1 rfl (lv_at hl 1 rfl) ?_
  refine lv_iload_n hx hb dX7_termOf_2 rfl (lv_at hl 2 rfl) ?_
  refine yw_i (w1 := fun (u : Nat → Nat → Int32) => wl ad kv cy N u) hD hS hA (va_runV (As := [.int x0, .int x1]) (rest := []) ⟨hx, hb, hml, hown, hts⟩ (g_X7_isTerm l dC dI cy _ ad kv N hN v hv x0 x1) (cwV 2 hts gX7_termOf_X7_isTerm rfl rfl rfl hd_V_X7_isTerm_2 ⟨Nat.le_of_ble_eq_true rfl, Nat.le_of_ble_eq_true rfl⟩) (yw_preV hE hK hP hD (ci := 7) (q0 := 0) rfl (wl_at (by omega) (ce_0 (by decide)))) rfl rfl hl.1 rfl (lv_room (Nat.le_of_ble_eq_true rfl)) dX7_termOf_3 ⟨Nat.le_of_ble_eq_true rfl, Nat.le_of_ble_eq_true rfl⟩) (fun r_1 v_1 H locs hw_1 hP hD hS => ?_)
  obtain ⟨hv, hw_1⟩ := hw_1
  have hfr : Fz v v_1 := hfr.trans hw_1.1
  rcases hw_1.2 with ⟨rfl, ha_2, hb_2⟩ | rfl
  · refine lv_if_ne (tgt := 11) hx hb dX7_termOf_6 (by decide) (fun _ => ?_) (fun c9 => absurd c9 (by decide))
    refine lv_aload_n hx hb dX7_termOf_11 rfl (lv_at hl 0 rfl) ?_
    refine va_get (D := (dC, dI)) (ci := 7) (v := .ref (ad 13)) (C := RX7) (T := TX7) (N := 5) hx hb hts iwX7_termOf_X7 hown hK hP (0) (wl_at (by omega) (ce_0 (by decide))) rfl 0 (by decide) (hts (.fieldLink RX7 12 "QuietStairs" "now" "LQuietStairs$House;") fwX7_termOf_1) (fun _ h9 => h9) rfl dX7_termOf_12 ?_
    refine va_get (D := (dC, dI)) (ci := 1) (v := .ref (ad 16)) (C := RX1) (T := TX1) (N := 7) hx hb hts iwX7_termOf_X1 hown hK hP (13) (wl_at (by omega) (ce_3 (by decide))) rfl 6 (by decide) (hts (.fieldLink RX7 86 "QuietStairs$House" "cases" "[LQuietStairs$Case;") fwX7_termOf_2) (fun _ h9 => h9) rfl dX7_termOf_15 ?_
    refine lv_iload_n hx hb dX7_termOf_18 rfl (lv_at hl 1 rfl) ?_
    obtain ⟨pi3, i3, hi3, ni3, mi3⟩ := t_in (x := x0) (n := 6) ⟨by omega, by omega⟩
    refine va_aldq hx hb hK hP (16) 3 (wl_at (by omega) (ce_6 (by decide))) rfl pi3 dX7_termOf_19 ?_
    refine W.eq (g2 := F0 m 20 ls [.ref (ad (29 + 15 * i3))]) (by rw [ni3, if_pos hi3, show 16 + 13 + 15 * i3 = 29 + 15 * i3 from by omega]; rfl) ?_
    refine va_get (D := (dC, dI)) (ci := 0) (v := .ref (ad (29 + 15 * i3 + 9))) (C := RX0) (T := TX0) (N := 11) hx hb hts iwX7_termOf_X0 hown hK hP (29 + 15 * i3) (wl_at (by omega) (ce_9 (kd_c i3 hi3).1.1)) rfl 10 (by decide) (hts (.fieldLink RX7 172 "QuietStairs$Case" "terms" "[LQuietStairs$Term;") fwX7_termOf_3) (fun _ h9 => h9) rfl dX7_termOf_20 ?_
    refine W.eq (g2 := F0 m 23 ls [.ref (ad (38 + 15 * i3))]) (by rw [show 29 + 15 * i3 + 9 = 38 + 15 * i3 from by omega]) ?_
    refine lv_iload_n hx hb dX7_termOf_23 rfl (lv_at hl 2 rfl) ?_
    obtain ⟨pi4, i4, hi4, ni4, mi4⟩ := t_in (x := x1) (n := 5) ⟨by omega, by omega⟩
    refine va_aldq hx hb hK hP (38 + 15 * i3) 4 (wl_at (by omega) (ce_15 (kd_c i3 hi3).1.2.2.2.2.2)) rfl pi4 dX7_termOf_24 ?_
    refine W.eq (g2 := F0 m 25 ls [.ref (ad (39 + 15 * i3 + i4))]) (by rw [ni4, if_pos hi4, show 38 + 15 * i3 + 1 + i4 = 39 + 15 * i3 + i4 from by omega]; rfl) ?_
    refine lv_astore (lv' := [(4, .ref (ad (39 + 15 * i3 + i4))), (0, .ref (ad 0)), (1, .int x0), (2, .int x1), (3, .int x2)]) hx hb dX7_termOf_25 hl (by decide) rfl (fun ls hl => ?_)
    refine lv_iload_n hx hb dX7_termOf_27 rfl (lv_at hl 4 rfl) ?_
    rcases sw_5 x2 with hsw | hsw | hsw | hsw | hsw | hsw
    · refine lv_tableOut (tgt := 102) hx hb dX7_termOf_28 hsw (by decide) ?_
      refine lv_iconst (v := (-1)) hx hb dX7_termOf_102 (by decide) ?_
      exact W.iret (v := (-1)) hx hb hr (fun t ht hW => ⟨⟨(-1), v_1, rfl, ⟨hv, hfr⟩, by rw [ht]; exact hP, hD⟩, hS.F ht⟩) hS.2.2 dX7_termOf_103
    · refine lv_tableIn (off := 36) (tgt := 64) hx hb dX7_termOf_28 (by rw [hsw]; decide) (by rw [hsw]; decide) (by rw [hsw]; decide) (by decide) ?_
      refine lv_aload hx hb dX7_termOf_64 (lv_at hl 0 rfl) ?_
      refine va_get (D := (dC, dI)) (ci := 6) (v := .int (v_1 (39 + 15 * i3 + i4) 0)) (C := RX6) (T := TX6) (N := 5) hx hb hts iwX7_termOf_X6 hown hK hP (39 + 15 * i3 + i4) (wl_at (by omega) (ce_16 (kd_t i3 hi3 i4 hi4).1)) rfl 0 (by decide) (hts (.fieldLink RX7 176 "QuietStairs$Term" "side" "I") fwX7_termOf_4) (fun _ h9 => h9) rfl dX7_termOf_66 ?_
      refine lv_topi (fun x_5 ex_5 => ?_)
      have bx_5 : 0 ≤ x_5.toInt ∧ x_5.toInt ≤ 1 := by rw [ex_5]; exact hv.at (K := 16) (kd_t i3 hi3 i4 hi4).1 rfl
      exact W.iret (v := x_5) hx hb hr (fun t ht hW => ⟨⟨x_5, v_1, rfl, ⟨hv, hfr⟩, by rw [ht]; exact hP, hD⟩, hS.F ht⟩) hS.2.2 dX7_termOf_69
    · refine lv_tableIn (off := 42) (tgt := 70) hx hb dX7_termOf_28 (by rw [hsw]; decide) (by rw [hsw]; decide) (by rw [hsw]; decide) (by decide) ?_
      refine lv_aload hx hb dX7_termOf_70 (lv_at hl 0 rfl) ?_
      refine va_get (D := (dC, dI)) (ci := 6) (v := .int (v_1 (39 + 15 * i3 + i4) 1)) (C := RX6) (T := TX6) (N := 5) hx hb hts iwX7_termOf_X6 hown hK hP (39 + 15 * i3 + i4) (wl_at (by omega) (ce_16 (kd_t i3 hi3 i4 hi4).1)) rfl 1 (by decide) (hts (.fieldLink RX7 181 "QuietStairs$Term" "must" "Z") fwX7_termOf_5) (fun _ h9 => h9) rfl dX7_termOf_72 ?_
      refine lv_topi (fun x_5 ex_5 => ?_)
      have bx_5 : 0 ≤ x_5.toInt ∧ x_5.toInt ≤ 1 := by rw [ex_5]; exact hv.at (K := 16) (kd_t i3 hi3 i4 hi4).1 rfl
      have k_0 : (0 : Int32).toInt = 0 := by decide
      refine lv_if_eq (tgt := 82) hx hb dX7_termOf_75 (by decide) (fun c_6 => ?_) (fun c_6 => ?_)
      · have tc_6 : x_5.toInt = (0 : Int32).toInt := by rw [c_6]
        refine lv_iconst (v := 0) hx hb dX7_termOf_82 (by decide) ?_
        exact W.iret (v := 0) hx hb hr (fun t ht hW => ⟨⟨0, v_1, rfl, ⟨hv, hfr⟩, by rw [ht]; exact hP, hD⟩, hS.F ht⟩) hS.2.2 dX7_termOf_83
      · have tc_6 : x_5.toInt ≠ (0 : Int32).toInt := fun q => absurd (Int32.toInt_inj.mp q) c_6
        refine lv_iconst (v := 1) hx hb dX7_termOf_78 (by decide) ?_
        refine lv_goto (tgt := 83) hx hb dX7_termOf_79 (by decide) ?_
        exact W.iret (v := 1) hx hb hr (fun t ht hW => ⟨⟨1, v_1, rfl, ⟨hv, hfr⟩, by rw [ht]; exact hP, hD⟩, hS.F ht⟩) hS.2.2 dX7_termOf_83
    · refine lv_tableIn (off := 56) (tgt := 84) hx hb dX7_termOf_28 (by rw [hsw]; decide) (by rw [hsw]; decide) (by rw [hsw]; decide) (by decide) ?_
      refine lv_aload hx hb dX7_termOf_84 (lv_at hl 0 rfl) ?_
      refine va_get (D := (dC, dI)) (ci := 6) (v := .int (v_1 (39 + 15 * i3 + i4) 2)) (C := RX6) (T := TX6) (N := 5) hx hb hts iwX7_termOf_X6 hown hK hP (39 + 15 * i3 + i4) (wl_at (by omega) (ce_16 (kd_t i3 hi3 i4 hi4).1)) rfl 2 (by decide) (hts (.fieldLink RX7 185 "QuietStairs$Term" "act" "I") fwX7_termOf_6) (fun _ h9 => h9) rfl dX7_termOf_86 ?_
      refine lv_topi (fun x_5 ex_5 => ?_)
      exact W.iret (v := x_5) hx hb hr (fun t ht hW => ⟨⟨x_5, v_1, rfl, ⟨hv, hfr⟩, by rw [ht]; exact hP, hD⟩, hS.F ht⟩) hS.2.2 dX7_termOf_89
    · refine lv_tableIn (off := 62) (tgt := 90) hx hb dX7_termOf_28 (by rw [hsw]; decide) (by rw [hsw]; decide) (by rw [hsw]; decide) (by decide) ?_
      refine lv_aload hx hb dX7_termOf_90 (lv_at hl 0 rfl) ?_
      refine va_get (D := (dC, dI)) (ci := 6) (v := .int (v_1 (39 + 15 * i3 + i4) 3)) (C := RX6) (T := TX6) (N := 5) hx hb hts iwX7_termOf_X6 hown hK hP (39 + 15 * i3 + i4) (wl_at (by omega) (ce_16 (kd_t i3 hi3 i4 hi4).1)) rfl 3 (by decide) (hts (.fieldLink RX7 188 "QuietStairs$Term" "first" "I") fwX7_termOf_7) (fun _ h9 => h9) rfl dX7_termOf_92 ?_
      refine lv_topi (fun x_5 ex_5 => ?_)
      have bx_5 : 0 ≤ x_5.toInt ∧ x_5.toInt ≤ 23 := by rw [ex_5]; exact hv.at (K := 16) (kd_t i3 hi3 i4 hi4).1 rfl
      exact W.iret (v := x_5) hx hb hr (fun t ht hW => ⟨⟨x_5, v_1, rfl, ⟨hv, hfr⟩, by rw [ht]; exact hP, hD⟩, hS.F ht⟩) hS.2.2 dX7_termOf_95
    · refine lv_tableIn (off := 68) (tgt := 96) hx hb dX7_termOf_28 (by rw [hsw]; decide) (by rw [hsw]; decide) (by rw [hsw]; decide) (by decide) ?_
      refine lv_aload hx hb dX7_termOf_96 (lv_at hl 0 rfl) ?_
      refine va_get (D := (dC, dI)) (ci := 6) (v := .int (v_1 (39 + 15 * i3 + i4) 4)) (C := RX6) (T := TX6) (N := 5) hx hb hts iwX7_termOf_X6 hown hK hP (39 + 15 * i3 + i4) (wl_at (by omega) (ce_16 (kd_t i3 hi3 i4 hi4).1)) rfl 4 (by decide) (hts (.fieldLink RX7 191 "QuietStairs$Term" "last" "I") fwX7_termOf_8) (fun _ h9 => h9) rfl dX7_termOf_98 ?_
      refine lv_topi (fun x_5 ex_5 => ?_)
      have bx_5 : 0 ≤ x_5.toInt ∧ x_5.toInt ≤ 23 := by rw [ex_5]; exact hv.at (K := 16) (kd_t i3 hi3 i4 hi4).1 rfl
      exact W.iret (v := x_5) hx hb hr (fun t ht hW => ⟨⟨x_5, v_1, rfl, ⟨hv, hfr⟩, by rw [ht]; exact hP, hD⟩, hS.F ht⟩) hS.2.2 dX7_termOf_101
  · refine lv_if_ne (tgt := 11) hx hb dX7_termOf_6 (by decide) (fun c9 => absurd c9 (by decide)) (fun _ => ?_)
    refine lv_iconst (v := (-1)) hx hb dX7_termOf_9 (by decide) ?_
    exact W.iret (v := (-1)) hx hb hr (fun t ht hW => ⟨⟨(-1), v_1, rfl, ⟨hv, hfr⟩, by rw [ht]; exact hP, hD⟩, hS.F ht⟩) hS.2.2 dX7_termOf_10

set_option maxHeartbeats 4000000 in
set_option maxRecDepth 100000 in
theorem g_X7_judged (l : Launch) (dC : Nat → ClassId) (dI : Nat → Nat → Nat) (cy : Nat → ClassId) (sz : Nat) (ad : Nat → Nat) (kv : Value) (N : Nat) (hN : 119 ≤ N) (v : Nat → Nat → Int32) (hv : Iv v)  (x0 x1 : Int32) : Met l yX7_judged wsX7_judged ({ frames := 3, cells := 0, slots := 0, locals := 192 }) (va_Pc [.ref (ad 0), .int x0, .int x1] (ex_Pre dC dI cy sz (wl ad kv cy N v))) (va_Qi (fun (r : Int32) (u : Nat → Nat → Int32) => Iv u ∧ Fz v u) (fun u t => ex_Pst dC dI (va_A (wl ad kv cy N v) sz) (wl ad kv cy N u) t) (va_A (wl ad kv cy N v) sz)) 0 0 (va_A (wl ad kv cy N v) sz) := by
  refine Met.ofW (cc := cX7_judged) (maxL := 3) (ret := (some .int)) (by decide) rfl ?_
  intro p e s m args below meth c s₁ B hml hv
  obtain ⟨rfl, hsz, hE, hP, hK, hD0⟩ := hv
  have hx := B.exec
  have hb := B.bytes
  have hr := B.returns
  have hts := atoms_spec (ws := wsX7_judged) B.pre
  have hown : s.vm.findClass RX7 = some m.cls := findClass_of_methodNamed B.named
  have hlocks := B.notSynchronized
  subst hsz
  have hD := hD0.self (sz := s.heap.size)
  generalize hAe : va_A (wl ad kv cy N v) s.heap.size = A at hD ⊢
  have hA : ∀ q : Nat, s.heap.size ≤ q → A q := fun q h => by rw [← hAe]; exact Or.inr h
  have hS : va_S A s.heap s.heap [] := va_S.rf
  have hP : va_P (dC, dI) vwCl (wl ad kv cy N v) s.heap := hP
  have hl := lv_entry ([.ref (ad 0), .int x0, .int x1]) (n := 3) (Nat.le_of_ble_eq_true rfl)
  rw [lg_entry_eq]
  generalize (lg_sl ([.ref (ad 0), .int x0, .int x1]) ++ List.replicate (3 - (lg_sl ([.ref (ad 0), .int x0, .int x1])).length) Slot.unset).toArray = ls at hl ⊢
  have hl : lv_has ls 3 [(0, .ref (ad 0)), (1, .int x0), (2, .int x1)] := hl
  have hfr : Fz v v := Fz.rf
  refine lv_aload_n hx hb dX7_judged_0 rfl (lv_at hl 0 rfl) ?_
  refine lv_iload_n hx hb dX7_judged_1 rfl (lv_at hl 1 rfl) ?_
  refine lv_iload_n hx hb dX7_judged_2 rfl (lv_at hl 2 rfl) ?_
  refine yw_i (w1 := fun (u : Nat → Nat → Int32) => wl ad kv cy N u) hD hS hA (va_runV (As := [.int x0, .int x1]) (rest := []) ⟨hx, hb, hml, hown, hts⟩ (g_X7_isTerm l dC dI cy _ ad kv N hN v hv x0 x1) (cwV 2 hts gX7_judged_X7_isTerm rfl rfl rfl hd_V_X7_isTerm_2 ⟨Nat.le_of_ble_eq_true rfl, Nat.le_of_ble_eq_true rfl⟩) (yw_preV hE hK hP hD (ci := 7) (q0 := 0) rfl (wl_at (by omega) (ce_0 (by decide)))) rfl rfl hl.1 rfl (lv_room (Nat.le_of_ble_eq_true rfl)) dX7_judged_3 ⟨Nat.le_of_ble_eq_true rfl, Nat.le_of_ble_eq_true rfl⟩) (fun r_1 v_1 H locs hw_1 hP hD hS => ?_)
  obtain ⟨hv, hw_1⟩ := hw_1
  have hfr : Fz v v_1 := hfr.trans hw_1.1
  rcases hw_1.2 with ⟨rfl, ha_2, hb_2⟩ | rfl
  · refine lv_if_ne (tgt := 11) hx hb dX7_judged_6 (by decide) (fun _ => ?_) (fun c9 => absurd c9 (by decide))
    refine lv_aload_n hx hb dX7_judged_11 rfl (lv_at hl 0 rfl) ?_
    refine va_get (D := (dC, dI)) (ci := 7) (v := .ref (ad 13)) (C := RX7) (T := TX7) (N := 5) hx hb hts iwX7_judged_X7 hown hK hP (0) (wl_at (by omega) (ce_0 (by decide))) rfl 0 (by decide) (hts (.fieldLink RX7 12 "QuietStairs" "now" "LQuietStairs$House;") fwX7_judged_1) (fun _ h9 => h9) rfl dX7_judged_12 ?_
    refine va_get (D := (dC, dI)) (ci := 1) (v := .ref (ad 16)) (C := RX1) (T := TX1) (N := 7) hx hb hts iwX7_judged_X1 hown hK hP (13) (wl_at (by omega) (ce_3 (by decide))) rfl 6 (by decide) (hts (.fieldLink RX7 86 "QuietStairs$House" "cases" "[LQuietStairs$Case;") fwX7_judged_2) (fun _ h9 => h9) rfl dX7_judged_15 ?_
    refine lv_iload_n hx hb dX7_judged_18 rfl (lv_at hl 1 rfl) ?_
    obtain ⟨pi3, i3, hi3, ni3, mi3⟩ := t_in (x := x0) (n := 6) ⟨by omega, by omega⟩
    refine va_aldq hx hb hK hP (16) 3 (wl_at (by omega) (ce_6 (by decide))) rfl pi3 dX7_judged_19 ?_
    refine W.eq (g2 := F0 m 20 ls [.ref (ad (29 + 15 * i3))]) (by rw [ni3, if_pos hi3, show 16 + 13 + 15 * i3 = 29 + 15 * i3 from by omega]; rfl) ?_
    refine lv_iload_n hx hb dX7_judged_20 rfl (lv_at hl 2 rfl) ?_
    refine yw_i (w1 := fun (u : Nat → Nat → Int32) => wl ad kv cy N u) hD hS hA (va_runV (As := [.int x1]) (rest := []) ⟨hx, hb, hml, hown, hts⟩ (g_X0_judge l dC dI cy _ ad kv N hN v_1 hv i3 hi3 x1 ⟨by omega, by omega⟩) (cwV 1 hts gX7_judged_X0_judge rfl rfl rfl hd_V_X0_judge_1 ⟨Nat.le_of_ble_eq_true rfl, Nat.le_of_ble_eq_true rfl⟩) (yw_preV hE hK hP hD (ci := 0) (q0 := (29 + 15 * i3)) rfl (wl_at (by omega) (ce_9 (kd_c i3 hi3).1.1))) rfl rfl hl.1 rfl (lv_room (Nat.le_of_ble_eq_true rfl)) dX7_judged_21 ⟨Nat.le_of_ble_eq_true rfl, Nat.le_of_ble_eq_true rfl⟩) (fun r_4 v_4 H locs hw_4 hP hD hS => ?_)
    obtain ⟨hv, hw_4⟩ := hw_4
    have hfr : Fz v v_4 := hfr.trans hw_4
    exact W.iret (v := r_4) hx hb hr (fun t ht hW => ⟨⟨r_4, v_4, rfl, ⟨hv, hfr⟩, by rw [ht]; exact hP, hD⟩, hS.F ht⟩) hS.2.2 dX7_judged_24
  · refine lv_if_ne (tgt := 11) hx hb dX7_judged_6 (by decide) (fun c9 => absurd c9 (by decide)) (fun _ => ?_)
    refine lv_iconst (v := (-1)) hx hb dX7_judged_9 (by decide) ?_
    exact W.iret (v := (-1)) hx hb hr (fun t ht hW => ⟨⟨(-1), v_1, rfl, ⟨hv, hfr⟩, by rw [ht]; exact hP, hD⟩, hS.F ht⟩) hS.2.2 dX7_judged_10

set_option maxHeartbeats 4000000 in
set_option maxRecDepth 100000 in
theorem g_X7_of (l : Launch) (dC : Nat → ClassId) (dI : Nat → Nat → Nat) (cy : Nat → ClassId) (sz : Nat) (ad : Nat → Nat) (kv : Value) (N : Nat) (hN : 119 ≤ N) (v : Nat → Nat → Int32) (hv : Iv v)  (x0 x1 : Int32) : Met l yX7_of wsX7_of ({ frames := 4, cells := 0, slots := 0, locals := 256 }) (va_Pc [.ref (ad 0), .int x0, .int x1] (ex_Pre dC dI cy sz (wl ad kv cy N v))) (va_Qi (fun (r : Int32) (u : Nat → Nat → Int32) => Iv u ∧ Fz v u) (fun u t => ex_Pst dC dI (va_A (wl ad kv cy N v) sz) (wl ad kv cy N u) t) (va_A (wl ad kv cy N v) sz)) 0 0 (va_A (wl ad kv cy N v) sz) := by
  refine Met.ofW (cc := cX7_of) (maxL := 4) (ret := (some .int)) (by decide) rfl ?_
  intro p e s m args below meth c s₁ B hml hv
  obtain ⟨rfl, hsz, hE, hP, hK, hD0⟩ := hv
  have hx := B.exec
  have hb := B.bytes
  have hr := B.returns
  have hts := atoms_spec (ws := wsX7_of) B.pre
  have hown : s.vm.findClass RX7 = some m.cls := findClass_of_methodNamed B.named
  have hlocks := B.notSynchronized
  subst hsz
  have hD := hD0.self (sz := s.heap.size)
  generalize hAe : va_A (wl ad kv cy N v) s.heap.size = A at hD ⊢
  have hA : ∀ q : Nat, s.heap.size ≤ q → A q := fun q h => by rw [← hAe]; exact Or.inr h
  have hS : va_S A s.heap s.heap [] := va_S.rf
  have hP : va_P (dC, dI) vwCl (wl ad kv cy N v) s.heap := hP
  have hl := lv_entry ([.ref (ad 0), .int x0, .int x1]) (n := 4) (Nat.le_of_ble_eq_true rfl)
  rw [lg_entry_eq]
  generalize (lg_sl ([.ref (ad 0), .int x0, .int x1]) ++ List.replicate (4 - (lg_sl ([.ref (ad 0), .int x0, .int x1])).length) Slot.unset).toArray = ls at hl ⊢
  have hl : lv_has ls 4 [(0, .ref (ad 0)), (1, .int x0), (2, .int x1)] := hl
  have hfr : Fz v v := Fz.rf
  refine lv_aload_n hx hb dX7_of_0 rfl (lv_at hl 0 rfl) ?_
  refine lv_iload_n hx hb dX7_of_1 rfl (lv_at hl 1 rfl) ?_
  refine yw_i (w1 := fun (u : Nat → Nat → Int32) => wl ad kv cy N u) hD hS hA (va_runV (As := [.int x0]) (rest := []) ⟨hx, hb, hml, hown, hts⟩ (g_X7_isCase l dC dI cy _ ad kv N hN v hv x0) (cwV 1 hts gX7_of_X7_isCase rfl rfl rfl hd_V_X7_isCase_1 ⟨Nat.le_of_ble_eq_true rfl, Nat.le_of_ble_eq_true rfl⟩) (yw_preV hE hK hP hD (ci := 7) (q0 := 0) rfl (wl_at (by omega) (ce_0 (by decide)))) rfl rfl hl.1 rfl (lv_room (Nat.le_of_ble_eq_true rfl)) dX7_of_2 ⟨Nat.le_of_ble_eq_true rfl, Nat.le_of_ble_eq_true rfl⟩) (fun r_1 v_1 H locs hw_1 hP hD hS => ?_)
  obtain ⟨hv, hw_1⟩ := hw_1
  obtain ⟨hu_1, hw_1⟩ := hw_1
  have hfr : Fz v v_1 := by rw [hu_1]; exact hfr
  rcases hw_1 with ⟨rfl, ha_2⟩ | ⟨rfl, -⟩
  · have hb_2 := hv.at (k := 13) (j := 2) (K := 3) (by decide) rfl
    have hb_2 : 0 ≤ x0.toInt ∧ x0.toInt < 6 := by omega
    refine lv_if_ne (tgt := 10) hx hb dX7_of_5 (by decide) (fun _ => ?_) (fun c9 => absurd c9 (by decide))
    refine lv_aload_n hx hb dX7_of_10 rfl (lv_at hl 0 rfl) ?_
    refine va_get (D := (dC, dI)) (ci := 7) (v := .ref (ad 13)) (C := RX7) (T := TX7) (N := 5) hx hb hts iwX7_of_X7 hown hK hP (0) (wl_at (by omega) (ce_0 (by decide))) rfl 0 (by decide) (hts (.fieldLink RX7 12 "QuietStairs" "now" "LQuietStairs$House;") fwX7_of_1) (fun _ h9 => h9) rfl dX7_of_11 ?_
    refine va_get (D := (dC, dI)) (ci := 1) (v := .ref (ad 16)) (C := RX1) (T := TX1) (N := 7) hx hb hts iwX7_of_X1 hown hK hP (13) (wl_at (by omega) (ce_3 (by decide))) rfl 6 (by decide) (hts (.fieldLink RX7 86 "QuietStairs$House" "cases" "[LQuietStairs$Case;") fwX7_of_2) (fun _ h9 => h9) rfl dX7_of_14 ?_
    refine lv_iload_n hx hb dX7_of_17 rfl (lv_at hl 1 rfl) ?_
    obtain ⟨pi3, i3, hi3, ni3, mi3⟩ := t_in (x := x0) (n := 6) ⟨by omega, by omega⟩
    refine va_aldq hx hb hK hP (16) 3 (wl_at (by omega) (ce_6 (by decide))) rfl pi3 dX7_of_18 ?_
    refine W.eq (g2 := F0 m 19 ls [.ref (ad (29 + 15 * i3))]) (by rw [ni3, if_pos hi3, show 16 + 13 + 15 * i3 = 29 + 15 * i3 from by omega]; rfl) ?_
    refine lv_astore_n (lv' := [(3, .ref (ad (29 + 15 * i3))), (0, .ref (ad 0)), (1, .int x0), (2, .int x1)]) hx hb dX7_of_19 rfl hl (by decide) rfl (fun ls hl => ?_)
    refine lv_iload_n hx hb dX7_of_20 rfl (lv_at hl 3 rfl) ?_
    rcases sw_8 x1 with hsw | hsw | hsw | hsw | hsw | hsw | hsw | hsw | hsw
    · refine lv_tableOut (tgt := 136) hx hb dX7_of_21 hsw (by decide) ?_
      refine lv_iconst (v := (-1)) hx hb dX7_of_136 (by decide) ?_
      exact W.iret (v := (-1)) hx hb hr (fun t ht hW => ⟨⟨(-1), v_1, rfl, ⟨hv, hfr⟩, by rw [ht]; exact hP, hD⟩, hS.F ht⟩) hS.2.2 dX7_of_137
    · refine lv_tableIn (off := 47) (tgt := 68) hx hb dX7_of_21 (by rw [hsw]; decide) (by rw [hsw]; decide) (by rw [hsw]; decide) (by decide) ?_
      refine lv_aload_n hx hb dX7_of_68 rfl (lv_at hl 0 rfl) ?_
      refine va_get (D := (dC, dI)) (ci := 0) (v := .ref (ad (29 + 15 * i3 + 1))) (C := RX0) (T := TX0) (N := 11) hx hb hts iwX7_of_X0 hown hK hP (29 + 15 * i3) (wl_at (by omega) (ce_9 (kd_c i3 hi3).1.1)) rfl 6 (by decide) (hts (.fieldLink RX7 111 "QuietStairs$Case" "parties" "[I") fwX7_of_3) (fun _ h9 => h9) rfl dX7_of_69 ?_
      refine W.eq (g2 := F0 m 72 ls [.ref (ad (30 + 15 * i3))]) (by rw [show 29 + 15 * i3 + 1 = 30 + 15 * i3 from by omega]) ?_
      refine lv_iconst (v := 0) hx hb dX7_of_72 (by decide) ?_
      refine va_iald hx hb hK hP (30 + 15 * i3) 0 (wl_at (by omega) (ce_10 (kd_c i3 hi3).1.2.1)) rfl (by unfold vp_in; decide) dX7_of_73 ?_
      refine lv_topi (fun x_4 ex_4 => ?_)
      have bx_4 : 0 ≤ x_4.toInt ∧ x_4.toInt ≤ 7 := by rw [ex_4]; exact hv.at (K := 10) (kd_c i3 hi3).1.2.1 rfl
      exact W.iret (v := x_4) hx hb hr (fun t ht hW => ⟨⟨x_4, v_1, rfl, ⟨hv, hfr⟩, by rw [ht]; exact hP, hD⟩, hS.F ht⟩) hS.2.2 dX7_of_74
    · refine lv_tableIn (off := 54) (tgt := 75) hx hb dX7_of_21 (by rw [hsw]; decide) (by rw [hsw]; decide) (by rw [hsw]; decide) (by decide) ?_
      refine lv_aload_n hx hb dX7_of_75 rfl (lv_at hl 0 rfl) ?_
      refine va_get (D := (dC, dI)) (ci := 0) (v := .ref (ad (29 + 15 * i3 + 1))) (C := RX0) (T := TX0) (N := 11) hx hb hts iwX7_of_X0 hown hK hP (29 + 15 * i3) (wl_at (by omega) (ce_9 (kd_c i3 hi3).1.1)) rfl 6 (by decide) (hts (.fieldLink RX7 111 "QuietStairs$Case" "parties" "[I") fwX7_of_3) (fun _ h9 => h9) rfl dX7_of_76 ?_
      refine W.eq (g2 := F0 m 79 ls [.ref (ad (30 + 15 * i3))]) (by rw [show 29 + 15 * i3 + 1 = 30 + 15 * i3 from by omega]) ?_
      refine lv_iconst (v := 1) hx hb dX7_of_79 (by decide) ?_
      refine va_iald hx hb hK hP (30 + 15 * i3) 0 (wl_at (by omega) (ce_10 (kd_c i3 hi3).1.2.1)) rfl (by unfold vp_in; decide) dX7_of_80 ?_
      refine lv_topi (fun x_4 ex_4 => ?_)
      have bx_4 : 0 ≤ x_4.toInt ∧ x_4.toInt ≤ 7 := by rw [ex_4]; exact hv.at (K := 10) (kd_c i3 hi3).1.2.1 rfl
      exact W.iret (v := x_4) hx hb hr (fun t ht hW => ⟨⟨x_4, v_1, rfl, ⟨hv, hfr⟩, by rw [ht]; exact hP, hD⟩, hS.F ht⟩) hS.2.2 dX7_of_81
    · refine lv_tableIn (off := 61) (tgt := 82) hx hb dX7_of_21 (by rw [hsw]; decide) (by rw [hsw]; decide) (by rw [hsw]; decide) (by decide) ?_
      refine lv_aload_n hx hb dX7_of_82 rfl (lv_at hl 0 rfl) ?_
      refine va_get (D := (dC, dI)) (ci := 0) (v := .int (v_1 (29 + 15 * i3) 0)) (C := RX0) (T := TX0) (N := 11) hx hb hts iwX7_of_X0 hown hK hP (29 + 15 * i3) (wl_at (by omega) (ce_9 (kd_c i3 hi3).1.1)) rfl 0 (by decide) (hts (.fieldLink RX7 99 "QuietStairs$Case" "state" "I") fwX7_of_4) (fun _ h9 => h9) rfl dX7_of_83 ?_
      refine lv_topi (fun x_4 ex_4 => ?_)
      exact W.iret (v := x_4) hx hb hr (fun t ht hW => ⟨⟨x_4, v_1, rfl, ⟨hv, hfr⟩, by rw [ht]; exact hP, hD⟩, hS.F ht⟩) hS.2.2 dX7_of_86
    · refine lv_tableIn (off := 66) (tgt := 87) hx hb dX7_of_21 (by rw [hsw]; decide) (by rw [hsw]; decide) (by rw [hsw]; decide) (by decide) ?_
      refine lv_aload_n hx hb dX7_of_87 rfl (lv_at hl 0 rfl) ?_
      refine va_get (D := (dC, dI)) (ci := 0) (v := .int (v_1 (29 + 15 * i3) 0)) (C := RX0) (T := TX0) (N := 11) hx hb hts iwX7_of_X0 hown hK hP (29 + 15 * i3) (wl_at (by omega) (ce_9 (kd_c i3 hi3).1.1)) rfl 0 (by decide) (hts (.fieldLink RX7 99 "QuietStairs$Case" "state" "I") fwX7_of_4) (fun _ h9 => h9) rfl dX7_of_88 ?_
      refine lv_topi (fun x_4 ex_4 => ?_)
      refine lv_iconst (v := 1) hx hb dX7_of_91 (by decide) ?_
      have k_1 : (1 : Int32).toInt = 1 := by decide
      refine lv_icmp_ne (tgt := 102) hx hb dX7_of_92 (by decide) (fun c_5 => ?_) (fun c_5 => ?_)
      · have tc_5 : x_4.toInt ≠ (1 : Int32).toInt := fun q => absurd (Int32.toInt_inj.mp q) c_5
        refine lv_bipush (v := (-5)) hx hb dX7_of_102 (by decide) ?_
        exact W.iret (v := (-5)) hx hb hr (fun t ht hW => ⟨⟨(-5), v_1, rfl, ⟨hv, hfr⟩, by rw [ht]; exact hP, hD⟩, hS.F ht⟩) hS.2.2 dX7_of_104
      · have tc_5 : x_4.toInt = (1 : Int32).toInt := by rw [c_5]
        refine lv_aload_n hx hb dX7_of_95 rfl (lv_at hl 0 rfl) ?_
        refine va_get (D := (dC, dI)) (ci := 0) (v := .int (v_1 (29 + 15 * i3) 1)) (C := RX0) (T := TX0) (N := 11) hx hb hts iwX7_of_X0 hown hK hP (29 + 15 * i3) (wl_at (by omega) (ce_9 (kd_c i3 hi3).1.1)) rfl 1 (by decide) (hts (.fieldLink RX7 114 "QuietStairs$Case" "sum" "I") fwX7_of_5) (fun _ h9 => h9) rfl dX7_of_96 ?_
        refine lv_topi (fun x_6 ex_6 => ?_)
        refine lv_goto (tgt := 104) hx hb dX7_of_99 (by decide) ?_
        exact W.iret (v := x_6) hx hb hr (fun t ht hW => ⟨⟨x_6, v_1, rfl, ⟨hv, hfr⟩, by rw [ht]; exact hP, hD⟩, hS.F ht⟩) hS.2.2 dX7_of_104
    · refine lv_tableIn (off := 84) (tgt := 105) hx hb dX7_of_21 (by rw [hsw]; decide) (by rw [hsw]; decide) (by rw [hsw]; decide) (by decide) ?_
      refine lv_aload_n hx hb dX7_of_105 rfl (lv_at hl 0 rfl) ?_
      refine va_get (D := (dC, dI)) (ci := 0) (v := .int (v_1 (29 + 15 * i3) 2)) (C := RX0) (T := TX0) (N := 11) hx hb hts iwX7_of_X0 hown hK hP (29 + 15 * i3) (wl_at (by omega) (ce_9 (kd_c i3 hi3).1.1)) rfl 2 (by decide) (hts (.fieldLink RX7 117 "QuietStairs$Case" "roundsOver" "I") fwX7_of_6) (fun _ h9 => h9) rfl dX7_of_106 ?_
      refine lv_topi (fun x_4 ex_4 => ?_)
      have bx_4 : 0 ≤ x_4.toInt ∧ x_4.toInt ≤ 5 := by rw [ex_4]; exact hv.at (K := 9) (kd_c i3 hi3).1.1 rfl
      exact W.iret (v := x_4) hx hb hr (fun t ht hW => ⟨⟨x_4, v_1, rfl, ⟨hv, hfr⟩, by rw [ht]; exact hP, hD⟩, hS.F ht⟩) hS.2.2 dX7_of_109
    · refine lv_tableIn (off := 89) (tgt := 110) hx hb dX7_of_21 (by rw [hsw]; decide) (by rw [hsw]; decide) (by rw [hsw]; decide) (by decide) ?_
      refine lv_aload_n hx hb dX7_of_110 rfl (lv_at hl 1 rfl) ?_
      refine va_get (D := (dC, dI)) (ci := 7) (v := .ref (ad 13)) (C := RX7) (T := TX7) (N := 5) hx hb hts iwX7_of_X7 hown hK hP (0) (wl_at (by omega) (ce_0 (by decide))) rfl 0 (by decide) (hts (.fieldLink RX7 12 "QuietStairs" "now" "LQuietStairs$House;") fwX7_of_1) (fun _ h9 => h9) rfl dX7_of_111 ?_
      refine lv_iload_n hx hb dX7_of_114 rfl (lv_at hl 2 rfl) ?_
      refine yw_i (w1 := fun (u : Nat → Nat → Int32) => wl ad kv cy N u) hD hS hA (va_runV (As := [.int x0]) (rest := []) ⟨hx, hb, hml, hown, hts⟩ (g_X1_headOfQuarrel l dC dI cy _ ad kv N hN v_1 hv x0 ⟨by omega, by omega⟩) (cwV 1 hts gX7_of_X1_headOfQuarrel rfl rfl rfl hd_V_X1_headOfQuarrel_1 ⟨Nat.le_of_ble_eq_true rfl, Nat.le_of_ble_eq_true rfl⟩) (yw_preV hE hK hP hD (ci := 1) (q0 := 13) rfl (wl_at (by omega) (ce_3 (by decide)))) rfl rfl hl.1 rfl (lv_room (Nat.le_of_ble_eq_true rfl)) dX7_of_115 ⟨Nat.le_of_ble_eq_true rfl, Nat.le_of_ble_eq_true rfl⟩) (fun r_4 v_4 H locs hw_4 hP hD hS => ?_)
      obtain ⟨hv, hw_4⟩ := hw_4
      have hfr : Fz v v_4 := hfr.trans hw_4
      exact W.iret (v := r_4) hx hb hr (fun t ht hW => ⟨⟨r_4, v_4, rfl, ⟨hv, hfr⟩, by rw [ht]; exact hP, hD⟩, hS.F ht⟩) hS.2.2 dX7_of_118
    · refine lv_tableIn (off := 98) (tgt := 119) hx hb dX7_of_21 (by rw [hsw]; decide) (by rw [hsw]; decide) (by rw [hsw]; decide) (by decide) ?_
      refine lv_aload_n hx hb dX7_of_119 rfl (lv_at hl 1 rfl) ?_
      refine va_get (D := (dC, dI)) (ci := 7) (v := .ref (ad 13)) (C := RX7) (T := TX7) (N := 5) hx hb hts iwX7_of_X7 hown hK hP (0) (wl_at (by omega) (ce_0 (by decide))) rfl 0 (by decide) (hts (.fieldLink RX7 12 "QuietStairs" "now" "LQuietStairs$House;") fwX7_of_1) (fun _ h9 => h9) rfl dX7_of_120 ?_
      refine lv_iload_n hx hb dX7_of_123 rfl (lv_at hl 2 rfl) ?_
      refine yw_i (w1 := fun (u : Nat → Nat → Int32) => wl ad kv cy N u) hD hS hA (va_runV (As := [.int x0]) (rest := []) ⟨hx, hb, hml, hown, hts⟩ (g_X1_quarrelBits l dC dI cy _ ad kv N hN v_1 hv x0) (cwV 1 hts gX7_of_X1_quarrelBits rfl rfl rfl hd_V_X1_quarrelBits_1 ⟨Nat.le_of_ble_eq_true rfl, Nat.le_of_ble_eq_true rfl⟩) (yw_preV hE hK hP hD (ci := 1) (q0 := 13) rfl (wl_at (by omega) (ce_3 (by decide)))) rfl rfl hl.1 rfl (lv_room (Nat.le_of_ble_eq_true rfl)) dX7_of_124 ⟨Nat.le_of_ble_eq_true rfl, Nat.le_of_ble_eq_true rfl⟩) (fun r_4 v_4 H locs hw_4 hP hD hS => ?_)
      obtain ⟨hv, hw_4⟩ := hw_4
      have hfr : Fz v v_4 := hfr.trans hw_4
      refine yc_p hP hS (va_runS (As := [.int r_4]) (rest := []) ⟨hx, hb, hml, hown, hts⟩ (c_bitCount l r_4) (va_cwS 1 hts gX7_of_J6_bitCount_0f7a4 rfl rfl rfl hd_w_J6_bitCount_0f7a4_1 ⟨Nat.le_of_ble_eq_true rfl, Nat.le_of_ble_eq_true rfl⟩) ex_preP rfl rfl hl.1 rfl (lv_room (Nat.le_of_ble_eq_true rfl)) dX7_of_127 ⟨Nat.le_of_ble_eq_true rfl, Nat.le_of_ble_eq_true rfl⟩) (fun r_5 H locs hw_5 hP hS => ?_)
      exact W.iret (v := r_5) hx hb hr (fun t ht hW => ⟨⟨r_5, v_4, rfl, ⟨hv, hfr⟩, by rw [ht]; exact hP, hD⟩, hS.F ht⟩) hS.2.2 dX7_of_130
    · refine lv_tableIn (off := 110) (tgt := 131) hx hb dX7_of_21 (by rw [hsw]; decide) (by rw [hsw]; decide) (by rw [hsw]; decide) (by decide) ?_
      refine lv_aload_n hx hb dX7_of_131 rfl (lv_at hl 0 rfl) ?_
      refine va_get (D := (dC, dI)) (ci := 0) (v := .int (v_1 (29 + 15 * i3) 3)) (C := RX0) (T := TX0) (N := 11) hx hb hts iwX7_of_X0 hown hK hP (29 + 15 * i3) (wl_at (by omega) (ce_9 (kd_c i3 hi3).1.1)) rfl 3 (by decide) (hts (.fieldLink RX7 102 "QuietStairs$Case" "weight" "I") fwX7_of_7) (fun _ h9 => h9) rfl dX7_of_132 ?_
      refine lv_topi (fun x_4 ex_4 => ?_)
      exact W.iret (v := x_4) hx hb hr (fun t ht hW => ⟨⟨x_4, v_1, rfl, ⟨hv, hfr⟩, by rw [ht]; exact hP, hD⟩, hS.F ht⟩) hS.2.2 dX7_of_135
  · refine lv_if_ne (tgt := 10) hx hb dX7_of_5 (by decide) (fun c9 => absurd c9 (by decide)) (fun _ => ?_)
    refine lv_iconst (v := (-1)) hx hb dX7_of_8 (by decide) ?_
    exact W.iret (v := (-1)) hx hb hr (fun t ht hW => ⟨⟨(-1), v_1, rfl, ⟨hv, hfr⟩, by rw [ht]; exact hP, hD⟩, hS.F ht⟩) hS.2.2 dX7_of_9

set_option maxHeartbeats 4000000 in
set_option maxRecDepth 100000 in
theorem g_X7_many (l : Launch) (dC : Nat → ClassId) (dI : Nat → Nat → Nat) (cy : Nat → ClassId) (sz : Nat) (ad : Nat → Nat) (kv : Value) (N : Nat) (hN : 119 ≤ N) (v : Nat → Nat → Int32) (hv : Iv v)  (x0 : Int32) : Met l yX7_many wsX7_many ({ frames := 4, cells := 0, slots := 0, locals := 256 }) (va_Pc [.ref (ad 0), .int x0] (ex_Pre dC dI cy sz (wl ad kv cy N v))) (va_Qi (fun (r : Int32) (u : Nat → Nat → Int32) => Iv u ∧ Fz v u) (fun u t => ex_Pst dC dI (va_A (wl ad kv cy N v) sz) (wl ad kv cy N u) t) (va_A (wl ad kv cy N v) sz)) 0 0 (va_A (wl ad kv cy N v) sz) := by
  refine Met.ofW (cc := cX7_many) (maxL := 2) (ret := (some .int)) (by decide) rfl ?_
  intro p e s m args below meth c s₁ B hml hv
  obtain ⟨rfl, hsz, hE, hP, hK, hD0⟩ := hv
  have hx := B.exec
  have hb := B.bytes
  have hr := B.returns
  have hts := atoms_spec (ws := wsX7_many) B.pre
  have hown : s.vm.findClass RX7 = some m.cls := findClass_of_methodNamed B.named
  have hlocks := B.notSynchronized
  subst hsz
  have hD := hD0.self (sz := s.heap.size)
  generalize hAe : va_A (wl ad kv cy N v) s.heap.size = A at hD ⊢
  have hA : ∀ q : Nat, s.heap.size ≤ q → A q := fun q h => by rw [← hAe]; exact Or.inr h
  have hS : va_S A s.heap s.heap [] := va_S.rf
  have hP : va_P (dC, dI) vwCl (wl ad kv cy N v) s.heap := hP
  have hl := lv_entry ([.ref (ad 0), .int x0]) (n := 2) (Nat.le_of_ble_eq_true rfl)
  rw [lg_entry_eq]
  generalize (lg_sl ([.ref (ad 0), .int x0]) ++ List.replicate (2 - (lg_sl ([.ref (ad 0), .int x0])).length) Slot.unset).toArray = ls at hl ⊢
  have hl : lv_has ls 2 [(0, .ref (ad 0)), (1, .int x0)] := hl
  have hfr : Fz v v := Fz.rf
  refine lv_iload_n hx hb dX7_many_0 rfl (lv_at hl 1 rfl) ?_
  rcases sw_11 x0 with hsw | hsw | hsw | hsw | hsw | hsw | hsw | hsw | hsw | hsw | hsw | hsw
  · refine lv_tableOut (tgt := 153) hx hb dX7_many_1 hsw (by decide) ?_
    refine lv_iconst (v := (-1)) hx hb dX7_many_153 (by decide) ?_
    exact W.iret (v := (-1)) hx hb hr (fun t ht hW => ⟨⟨(-1), v, rfl, ⟨hv, hfr⟩, by rw [ht]; exact hP, hD⟩, hS.F ht⟩) hS.2.2 dX7_many_154
  · refine lv_tableIn (off := 59) (tgt := 60) hx hb dX7_many_1 (by rw [hsw]; decide) (by rw [hsw]; decide) (by rw [hsw]; decide) (by decide) ?_
    refine lv_aload_n hx hb dX7_many_60 rfl (lv_at hl 0 rfl) ?_
    refine va_get (D := (dC, dI)) (ci := 7) (v := .ref (ad 13)) (C := RX7) (T := TX7) (N := 5) hx hb hts iwX7_many_X7 hown hK hP (0) (wl_at (by omega) (ce_0 (by decide))) rfl 0 (by decide) (hts (.fieldLink RX7 12 "QuietStairs" "now" "LQuietStairs$House;") fwX7_many_1) (fun _ h9 => h9) rfl dX7_many_61 ?_
    refine va_get (D := (dC, dI)) (ci := 1) (v := .int (v (13) 0)) (C := RX1) (T := TX1) (N := 7) hx hb hts iwX7_many_X1 hown hK hP (13) (wl_at (by omega) (ce_3 (by decide))) rfl 0 (by decide) (hts (.fieldLink RX7 41 "QuietStairs$House" "partyCount" "I") fwX7_many_2) (fun _ h9 => h9) rfl dX7_many_64 ?_
    refine lv_topi (fun x_1 ex_1 => ?_)
    have bx_1 : 0 ≤ x_1.toInt ∧ x_1.toInt ≤ 8 := by rw [ex_1]; exact hv.at (K := 3) (by decide) rfl
    exact W.iret (v := x_1) hx hb hr (fun t ht hW => ⟨⟨x_1, v, rfl, ⟨hv, hfr⟩, by rw [ht]; exact hP, hD⟩, hS.F ht⟩) hS.2.2 dX7_many_67
  · refine lv_tableIn (off := 67) (tgt := 68) hx hb dX7_many_1 (by rw [hsw]; decide) (by rw [hsw]; decide) (by rw [hsw]; decide) (by decide) ?_
    refine lv_aload_n hx hb dX7_many_68 rfl (lv_at hl 0 rfl) ?_
    refine va_get (D := (dC, dI)) (ci := 7) (v := .ref (ad 13)) (C := RX7) (T := TX7) (N := 5) hx hb hts iwX7_many_X7 hown hK hP (0) (wl_at (by omega) (ce_0 (by decide))) rfl 0 (by decide) (hts (.fieldLink RX7 12 "QuietStairs" "now" "LQuietStairs$House;") fwX7_many_1) (fun _ h9 => h9) rfl dX7_many_69 ?_
    refine va_get (D := (dC, dI)) (ci := 1) (v := .int (v (13) 1)) (C := RX1) (T := TX1) (N := 7) hx hb hts iwX7_many_X1 hown hK hP (13) (wl_at (by omega) (ce_3 (by decide))) rfl 1 (by decide) (hts (.fieldLink RX7 56 "QuietStairs$House" "mediatorCount" "I") fwX7_many_3) (fun _ h9 => h9) rfl dX7_many_72 ?_
    refine lv_topi (fun x_1 ex_1 => ?_)
    have bx_1 : 0 ≤ x_1.toInt ∧ x_1.toInt ≤ 4 := by rw [ex_1]; exact hv.at (K := 3) (by decide) rfl
    exact W.iret (v := x_1) hx hb hr (fun t ht hW => ⟨⟨x_1, v, rfl, ⟨hv, hfr⟩, by rw [ht]; exact hP, hD⟩, hS.F ht⟩) hS.2.2 dX7_many_75
  · refine lv_tableIn (off := 75) (tgt := 76) hx hb dX7_many_1 (by rw [hsw]; decide) (by rw [hsw]; decide) (by rw [hsw]; decide) (by decide) ?_
    refine lv_aload_n hx hb dX7_many_76 rfl (lv_at hl 0 rfl) ?_
    refine va_get (D := (dC, dI)) (ci := 7) (v := .ref (ad 13)) (C := RX7) (T := TX7) (N := 5) hx hb hts iwX7_many_X7 hown hK hP (0) (wl_at (by omega) (ce_0 (by decide))) rfl 0 (by decide) (hts (.fieldLink RX7 12 "QuietStairs" "now" "LQuietStairs$House;") fwX7_many_1) (fun _ h9 => h9) rfl dX7_many_77 ?_
    refine va_get (D := (dC, dI)) (ci := 1) (v := .int (v (13) 2)) (C := RX1) (T := TX1) (N := 7) hx hb hts iwX7_many_X1 hown hK hP (13) (wl_at (by omega) (ce_3 (by decide))) rfl 2 (by decide) (hts (.fieldLink RX7 83 "QuietStairs$House" "caseCount" "I") fwX7_many_4) (fun _ h9 => h9) rfl dX7_many_80 ?_
    refine lv_topi (fun x_1 ex_1 => ?_)
    have bx_1 : 0 ≤ x_1.toInt ∧ x_1.toInt ≤ 6 := by rw [ex_1]; exact hv.at (K := 3) (by decide) rfl
    exact W.iret (v := x_1) hx hb hr (fun t ht hW => ⟨⟨x_1, v, rfl, ⟨hv, hfr⟩, by rw [ht]; exact hP, hD⟩, hS.F ht⟩) hS.2.2 dX7_many_83
  · refine lv_tableIn (off := 83) (tgt := 84) hx hb dX7_many_1 (by rw [hsw]; decide) (by rw [hsw]; decide) (by rw [hsw]; decide) (by decide) ?_
    refine lv_aload_n hx hb dX7_many_84 rfl (lv_at hl 0 rfl) ?_
    refine va_get (D := (dC, dI)) (ci := 7) (v := .ref (ad 13)) (C := RX7) (T := TX7) (N := 5) hx hb hts iwX7_many_X7 hown hK hP (0) (wl_at (by omega) (ce_0 (by decide))) rfl 0 (by decide) (hts (.fieldLink RX7 12 "QuietStairs" "now" "LQuietStairs$House;") fwX7_many_1) (fun _ h9 => h9) rfl dX7_many_85 ?_
    refine lv_iconst (v := 0) hx hb dX7_many_88 (by decide) ?_
    refine yw_i (w1 := fun (u : Nat → Nat → Int32) => wl ad kv cy N u) hD hS hA (va_runV (As := [.int 0]) (rest := []) ⟨hx, hb, hml, hown, hts⟩ (g_X1_countState l dC dI cy _ ad kv N hN v hv 0) (cwV 1 hts gX7_many_X1_countState rfl rfl rfl hd_V_X1_countState_1 ⟨Nat.le_of_ble_eq_true rfl, Nat.le_of_ble_eq_true rfl⟩) (yw_preV hE hK hP hD (ci := 1) (q0 := 13) rfl (wl_at (by omega) (ce_3 (by decide)))) rfl rfl hl.1 rfl (lv_room (Nat.le_of_ble_eq_true rfl)) dX7_many_89 ⟨Nat.le_of_ble_eq_true rfl, Nat.le_of_ble_eq_true rfl⟩) (fun r_1 v_1 H locs hw_1 hP hD hS => ?_)
    obtain ⟨hv, hw_1⟩ := hw_1
    have hfr : Fz v v_1 := hfr.trans hw_1
    exact W.iret (v := r_1) hx hb hr (fun t ht hW => ⟨⟨r_1, v_1, rfl, ⟨hv, hfr⟩, by rw [ht]; exact hP, hD⟩, hS.F ht⟩) hS.2.2 dX7_many_92
  · refine lv_tableIn (off := 92) (tgt := 93) hx hb dX7_many_1 (by rw [hsw]; decide) (by rw [hsw]; decide) (by rw [hsw]; decide) (by decide) ?_
    refine lv_aload_n hx hb dX7_many_93 rfl (lv_at hl 0 rfl) ?_
    refine va_get (D := (dC, dI)) (ci := 7) (v := .ref (ad 13)) (C := RX7) (T := TX7) (N := 5) hx hb hts iwX7_many_X7 hown hK hP (0) (wl_at (by omega) (ce_0 (by decide))) rfl 0 (by decide) (hts (.fieldLink RX7 12 "QuietStairs" "now" "LQuietStairs$House;") fwX7_many_1) (fun _ h9 => h9) rfl dX7_many_94 ?_
    refine lv_iconst (v := 1) hx hb dX7_many_97 (by decide) ?_
    refine yw_i (w1 := fun (u : Nat → Nat → Int32) => wl ad kv cy N u) hD hS hA (va_runV (As := [.int 1]) (rest := []) ⟨hx, hb, hml, hown, hts⟩ (g_X1_countState l dC dI cy _ ad kv N hN v hv 1) (cwV 1 hts gX7_many_X1_countState rfl rfl rfl hd_V_X1_countState_1 ⟨Nat.le_of_ble_eq_true rfl, Nat.le_of_ble_eq_true rfl⟩) (yw_preV hE hK hP hD (ci := 1) (q0 := 13) rfl (wl_at (by omega) (ce_3 (by decide)))) rfl rfl hl.1 rfl (lv_room (Nat.le_of_ble_eq_true rfl)) dX7_many_98 ⟨Nat.le_of_ble_eq_true rfl, Nat.le_of_ble_eq_true rfl⟩) (fun r_1 v_1 H locs hw_1 hP hD hS => ?_)
    obtain ⟨hv, hw_1⟩ := hw_1
    have hfr : Fz v v_1 := hfr.trans hw_1
    exact W.iret (v := r_1) hx hb hr (fun t ht hW => ⟨⟨r_1, v_1, rfl, ⟨hv, hfr⟩, by rw [ht]; exact hP, hD⟩, hS.F ht⟩) hS.2.2 dX7_many_101
  · refine lv_tableIn (off := 101) (tgt := 102) hx hb dX7_many_1 (by rw [hsw]; decide) (by rw [hsw]; decide) (by rw [hsw]; decide) (by decide) ?_
    refine lv_aload_n hx hb dX7_many_102 rfl (lv_at hl 0 rfl) ?_
    refine va_get (D := (dC, dI)) (ci := 7) (v := .ref (ad 13)) (C := RX7) (T := TX7) (N := 5) hx hb hts iwX7_many_X7 hown hK hP (0) (wl_at (by omega) (ce_0 (by decide))) rfl 0 (by decide) (hts (.fieldLink RX7 12 "QuietStairs" "now" "LQuietStairs$House;") fwX7_many_1) (fun _ h9 => h9) rfl dX7_many_103 ?_
    refine va_get (D := (dC, dI)) (ci := 1) (v := .int (v (13) 3)) (C := RX1) (T := TX1) (N := 7) hx hb hts iwX7_many_X1 hown hK hP (13) (wl_at (by omega) (ce_3 (by decide))) rfl 3 (by decide) (hts (.fieldLink RX7 108 "QuietStairs$House" "markCount" "I") fwX7_many_5) (fun _ h9 => h9) rfl dX7_many_106 ?_
    refine lv_topi (fun x_1 ex_1 => ?_)
    have bx_1 : 0 ≤ x_1.toInt ∧ x_1.toInt ≤ 6 := by rw [ex_1]; exact hv.at (K := 3) (by decide) rfl
    exact W.iret (v := x_1) hx hb hr (fun t ht hW => ⟨⟨x_1, v, rfl, ⟨hv, hfr⟩, by rw [ht]; exact hP, hD⟩, hS.F ht⟩) hS.2.2 dX7_many_109
  · refine lv_tableIn (off := 109) (tgt := 110) hx hb dX7_many_1 (by rw [hsw]; decide) (by rw [hsw]; decide) (by rw [hsw]; decide) (by decide) ?_
    refine lv_aload_n hx hb dX7_many_110 rfl (lv_at hl 0 rfl) ?_
    refine va_get (D := (dC, dI)) (ci := 7) (v := .ref (ad 13)) (C := RX7) (T := TX7) (N := 5) hx hb hts iwX7_many_X7 hown hK hP (0) (wl_at (by omega) (ce_0 (by decide))) rfl 0 (by decide) (hts (.fieldLink RX7 12 "QuietStairs" "now" "LQuietStairs$House;") fwX7_many_1) (fun _ h9 => h9) rfl dX7_many_111 ?_
    refine yw_i (w1 := fun (u : Nat → Nat → Int32) => wl ad kv cy N u) hD hS hA (va_runV (As := []) (rest := []) ⟨hx, hb, hml, hown, hts⟩ (g_X1_countQuarrels l dC dI cy _ ad kv N hN v hv ) (cwV 0 hts gX7_many_X1_countQuarrels rfl rfl rfl hd_V_X1_countQuarrels_0 ⟨Nat.le_of_ble_eq_true rfl, Nat.le_of_ble_eq_true rfl⟩) (yw_preV hE hK hP hD (ci := 1) (q0 := 13) rfl (wl_at (by omega) (ce_3 (by decide)))) rfl rfl hl.1 rfl (lv_room (Nat.le_of_ble_eq_true rfl)) dX7_many_114 ⟨Nat.le_of_ble_eq_true rfl, Nat.le_of_ble_eq_true rfl⟩) (fun r_1 v_1 H locs hw_1 hP hD hS => ?_)
    obtain ⟨hv, hw_1⟩ := hw_1
    have hfr : Fz v v_1 := hfr.trans hw_1
    exact W.iret (v := r_1) hx hb hr (fun t ht hW => ⟨⟨r_1, v_1, rfl, ⟨hv, hfr⟩, by rw [ht]; exact hP, hD⟩, hS.F ht⟩) hS.2.2 dX7_many_117
  · refine lv_tableIn (off := 117) (tgt := 118) hx hb dX7_many_1 (by rw [hsw]; decide) (by rw [hsw]; decide) (by rw [hsw]; decide) (by decide) ?_
    refine lv_aload_n hx hb dX7_many_118 rfl (lv_at hl 0 rfl) ?_
    refine va_get (D := (dC, dI)) (ci := 7) (v := .ref (ad 13)) (C := RX7) (T := TX7) (N := 5) hx hb hts iwX7_many_X7 hown hK hP (0) (wl_at (by omega) (ce_0 (by decide))) rfl 0 (by decide) (hts (.fieldLink RX7 12 "QuietStairs" "now" "LQuietStairs$House;") fwX7_many_1) (fun _ h9 => h9) rfl dX7_many_119 ?_
    refine yw_i (w1 := fun (u : Nat → Nat → Int32) => wl ad kv cy N u) hD hS hA (va_runV (As := []) (rest := []) ⟨hx, hb, hml, hown, hts⟩ (g_X1_countTerms l dC dI cy _ ad kv N hN v hv ) (cwV 0 hts gX7_many_X1_countTerms rfl rfl rfl hd_V_X1_countTerms_0 ⟨Nat.le_of_ble_eq_true rfl, Nat.le_of_ble_eq_true rfl⟩) (yw_preV hE hK hP hD (ci := 1) (q0 := 13) rfl (wl_at (by omega) (ce_3 (by decide)))) rfl rfl hl.1 rfl (lv_room (Nat.le_of_ble_eq_true rfl)) dX7_many_122 ⟨Nat.le_of_ble_eq_true rfl, Nat.le_of_ble_eq_true rfl⟩) (fun r_1 v_1 H locs hw_1 hP hD hS => ?_)
    obtain ⟨hv, hw_1⟩ := hw_1
    have hfr : Fz v v_1 := hfr.trans hw_1
    exact W.iret (v := r_1) hx hb hr (fun t ht hW => ⟨⟨r_1, v_1, rfl, ⟨hv, hfr⟩, by rw [ht]; exact hP, hD⟩, hS.F ht⟩) hS.2.2 dX7_many_125
  · refine lv_tableIn (off := 125) (tgt := 126) hx hb dX7_many_1 (by rw [hsw]; decide) (by rw [hsw]; decide) (by rw [hsw]; decide) (by decide) ?_
    refine lv_aload_n hx hb dX7_many_126 rfl (lv_at hl 0 rfl) ?_
    refine va_get (D := (dC, dI)) (ci := 7) (v := .ref (ad 13)) (C := RX7) (T := TX7) (N := 5) hx hb hts iwX7_many_X7 hown hK hP (0) (wl_at (by omega) (ce_0 (by decide))) rfl 0 (by decide) (hts (.fieldLink RX7 12 "QuietStairs" "now" "LQuietStairs$House;") fwX7_many_1) (fun _ h9 => h9) rfl dX7_many_127 ?_
    refine lv_iconst (v := 1) hx hb dX7_many_130 (by decide) ?_
    refine yw_i (w1 := fun (u : Nat → Nat → Int32) => wl ad kv cy N u) hD hS hA (va_runV (As := [.int 1]) (rest := []) ⟨hx, hb, hml, hown, hts⟩ (g_X1_countJudged l dC dI cy _ ad kv N hN v hv 1) (cwV 1 hts gX7_many_X1_countJudged rfl rfl rfl hd_V_X1_countJudged_1 ⟨Nat.le_of_ble_eq_true rfl, Nat.le_of_ble_eq_true rfl⟩) (yw_preV hE hK hP hD (ci := 1) (q0 := 13) rfl (wl_at (by omega) (ce_3 (by decide)))) rfl rfl hl.1 rfl (lv_room (Nat.le_of_ble_eq_true rfl)) dX7_many_131 ⟨Nat.le_of_ble_eq_true rfl, Nat.le_of_ble_eq_true rfl⟩) (fun r_1 v_1 H locs hw_1 hP hD hS => ?_)
    obtain ⟨hv, hw_1⟩ := hw_1
    have hfr : Fz v v_1 := hfr.trans hw_1
    exact W.iret (v := r_1) hx hb hr (fun t ht hW => ⟨⟨r_1, v_1, rfl, ⟨hv, hfr⟩, by rw [ht]; exact hP, hD⟩, hS.F ht⟩) hS.2.2 dX7_many_134
  · refine lv_tableIn (off := 134) (tgt := 135) hx hb dX7_many_1 (by rw [hsw]; decide) (by rw [hsw]; decide) (by rw [hsw]; decide) (by decide) ?_
    refine lv_aload_n hx hb dX7_many_135 rfl (lv_at hl 0 rfl) ?_
    refine va_get (D := (dC, dI)) (ci := 7) (v := .ref (ad 13)) (C := RX7) (T := TX7) (N := 5) hx hb hts iwX7_many_X7 hown hK hP (0) (wl_at (by omega) (ce_0 (by decide))) rfl 0 (by decide) (hts (.fieldLink RX7 12 "QuietStairs" "now" "LQuietStairs$House;") fwX7_many_1) (fun _ h9 => h9) rfl dX7_many_136 ?_
    refine lv_iconst (v := 0) hx hb dX7_many_139 (by decide) ?_
    refine yw_i (w1 := fun (u : Nat → Nat → Int32) => wl ad kv cy N u) hD hS hA (va_runV (As := [.int 0]) (rest := []) ⟨hx, hb, hml, hown, hts⟩ (g_X1_countJudged l dC dI cy _ ad kv N hN v hv 0) (cwV 1 hts gX7_many_X1_countJudged rfl rfl rfl hd_V_X1_countJudged_1 ⟨Nat.le_of_ble_eq_true rfl, Nat.le_of_ble_eq_true rfl⟩) (yw_preV hE hK hP hD (ci := 1) (q0 := 13) rfl (wl_at (by omega) (ce_3 (by decide)))) rfl rfl hl.1 rfl (lv_room (Nat.le_of_ble_eq_true rfl)) dX7_many_140 ⟨Nat.le_of_ble_eq_true rfl, Nat.le_of_ble_eq_true rfl⟩) (fun r_1 v_1 H locs hw_1 hP hD hS => ?_)
    obtain ⟨hv, hw_1⟩ := hw_1
    have hfr : Fz v v_1 := hfr.trans hw_1
    exact W.iret (v := r_1) hx hb hr (fun t ht hW => ⟨⟨r_1, v_1, rfl, ⟨hv, hfr⟩, by rw [ht]; exact hP, hD⟩, hS.F ht⟩) hS.2.2 dX7_many_143
  · refine lv_tableIn (off := 143) (tgt := 144) hx hb dX7_many_1 (by rw [hsw]; decide) (by rw [hsw]; decide) (by rw [hsw]; decide) (by decide) ?_
    refine lv_aload_n hx hb dX7_many_144 rfl (lv_at hl 0 rfl) ?_
    refine va_get (D := (dC, dI)) (ci := 7) (v := .ref (ad 13)) (C := RX7) (T := TX7) (N := 5) hx hb hts iwX7_many_X7 hown hK hP (0) (wl_at (by omega) (ce_0 (by decide))) rfl 0 (by decide) (hts (.fieldLink RX7 12 "QuietStairs" "now" "LQuietStairs$House;") fwX7_many_1) (fun _ h9 => h9) rfl dX7_many_145 ?_
    refine lv_iconst (v := 2) hx hb dX7_many_148 (by decide) ?_
    refine yw_i (w1 := fun (u : Nat → Nat → Int32) => wl ad kv cy N u) hD hS hA (va_runV (As := [.int 2]) (rest := []) ⟨hx, hb, hml, hown, hts⟩ (g_X1_countJudged l dC dI cy _ ad kv N hN v hv 2) (cwV 1 hts gX7_many_X1_countJudged rfl rfl rfl hd_V_X1_countJudged_1 ⟨Nat.le_of_ble_eq_true rfl, Nat.le_of_ble_eq_true rfl⟩) (yw_preV hE hK hP hD (ci := 1) (q0 := 13) rfl (wl_at (by omega) (ce_3 (by decide)))) rfl rfl hl.1 rfl (lv_room (Nat.le_of_ble_eq_true rfl)) dX7_many_149 ⟨Nat.le_of_ble_eq_true rfl, Nat.le_of_ble_eq_true rfl⟩) (fun r_1 v_1 H locs hw_1 hP hD hS => ?_)
    obtain ⟨hv, hw_1⟩ := hw_1
    have hfr : Fz v v_1 := hfr.trans hw_1
    exact W.iret (v := r_1) hx hb hr (fun t ht hW => ⟨⟨r_1, v_1, rfl, ⟨hv, hfr⟩, by rw [ht]; exact hP, hD⟩, hS.F ht⟩) hS.2.2 dX7_many_152
