set_option maxRecDepth 20000 in
theorem db_X0_endRound_0 : (decode cX0_endRound 0 = .ok (.aload_n 0, 1)) ∧ (decode cX0_endRound 1 = .ok (.getfield 15, 3)) ∧ (decode cX0_endRound 4 = .ok (.iconst 0, 1)) ∧ (decode cX0_endRound 5 = .ok (.iaload, 1)) ∧ (decode cX0_endRound 6 = .ok (.istore_n 1, 1)) ∧ (decode cX0_endRound 7 = .ok (.aload_n 0, 1)) ∧ (decode cX0_endRound 8 = .ok (.getfield 15, 3)) ∧ (decode cX0_endRound 11 = .ok (.iconst 1, 1)) := by decide +kernel
theorem dX0_endRound_0 : decode cX0_endRound 0 = .ok (.aload_n 0, 1) := db_X0_endRound_0.1
theorem dX0_endRound_1 : decode cX0_endRound 1 = .ok (.getfield 15, 3) := db_X0_endRound_0.2.1
theorem dX0_endRound_4 : decode cX0_endRound 4 = .ok (.iconst 0, 1) := db_X0_endRound_0.2.2.1
theorem dX0_endRound_5 : decode cX0_endRound 5 = .ok (.iaload, 1) := db_X0_endRound_0.2.2.2.1
theorem dX0_endRound_6 : decode cX0_endRound 6 = .ok (.istore_n 1, 1) := db_X0_endRound_0.2.2.2.2.1
theorem dX0_endRound_7 : decode cX0_endRound 7 = .ok (.aload_n 0, 1) := db_X0_endRound_0.2.2.2.2.2.1
theorem dX0_endRound_8 : decode cX0_endRound 8 = .ok (.getfield 15, 3) := db_X0_endRound_0.2.2.2.2.2.2.1
theorem dX0_endRound_11 : decode cX0_endRound 11 = .ok (.iconst 1, 1) := db_X0_endRound_0.2.2.2.2.2.2.2
set_option maxRecDepth 20000 in
theorem db_X0_endRound_12 : (decode cX0_endRound 12 = .ok (.iaload, 1)) ∧ (decode cX0_endRound 13 = .ok (.istore_n 2, 1)) ∧ (decode cX0_endRound 14 = .ok (.aload_n 0, 1)) ∧ (decode cX0_endRound 15 = .ok (.getfield 40, 3)) ∧ (decode cX0_endRound 18 = .ok (.iconst 5, 1)) ∧ (decode cX0_endRound 19 = .ok (.if_icmp .ge 37, 3)) ∧ (decode cX0_endRound 22 = .ok (.aload_n 0, 1)) ∧ (decode cX0_endRound 23 = .ok (.getfield 20, 3)) := by decide +kernel
theorem dX0_endRound_12 : decode cX0_endRound 12 = .ok (.iaload, 1) := db_X0_endRound_12.1
theorem dX0_endRound_13 : decode cX0_endRound 13 = .ok (.istore_n 2, 1) := db_X0_endRound_12.2.1
theorem dX0_endRound_14 : decode cX0_endRound 14 = .ok (.aload_n 0, 1) := db_X0_endRound_12.2.2.1
theorem dX0_endRound_15 : decode cX0_endRound 15 = .ok (.getfield 40, 3) := db_X0_endRound_12.2.2.2.1
theorem dX0_endRound_18 : decode cX0_endRound 18 = .ok (.iconst 5, 1) := db_X0_endRound_12.2.2.2.2.1
theorem dX0_endRound_19 : decode cX0_endRound 19 = .ok (.if_icmp .ge 37, 3) := db_X0_endRound_12.2.2.2.2.2.1
theorem dX0_endRound_22 : decode cX0_endRound 22 = .ok (.aload_n 0, 1) := db_X0_endRound_12.2.2.2.2.2.2.1
theorem dX0_endRound_23 : decode cX0_endRound 23 = .ok (.getfield 20, 3) := db_X0_endRound_12.2.2.2.2.2.2.2
set_option maxRecDepth 20000 in
theorem db_X0_endRound_26 : (decode cX0_endRound 26 = .ok (.iconst 0, 1)) ∧ (decode cX0_endRound 27 = .ok (.aaload, 1)) ∧ (decode cX0_endRound 28 = .ok (.aload_n 0, 1)) ∧ (decode cX0_endRound 29 = .ok (.getfield 40, 3)) ∧ (decode cX0_endRound 32 = .ok (.iload_n 1, 1)) ∧ (decode cX0_endRound 33 = .ok (.iastore, 1)) ∧ (decode cX0_endRound 34 = .ok (.aload_n 0, 1)) ∧ (decode cX0_endRound 35 = .ok (.getfield 20, 3)) := by decide +kernel
theorem dX0_endRound_26 : decode cX0_endRound 26 = .ok (.iconst 0, 1) := db_X0_endRound_26.1
theorem dX0_endRound_27 : decode cX0_endRound 27 = .ok (.aaload, 1) := db_X0_endRound_26.2.1
theorem dX0_endRound_28 : decode cX0_endRound 28 = .ok (.aload_n 0, 1) := db_X0_endRound_26.2.2.1
theorem dX0_endRound_29 : decode cX0_endRound 29 = .ok (.getfield 40, 3) := db_X0_endRound_26.2.2.2.1
theorem dX0_endRound_32 : decode cX0_endRound 32 = .ok (.iload_n 1, 1) := db_X0_endRound_26.2.2.2.2.1
theorem dX0_endRound_33 : decode cX0_endRound 33 = .ok (.iastore, 1) := db_X0_endRound_26.2.2.2.2.2.1
theorem dX0_endRound_34 : decode cX0_endRound 34 = .ok (.aload_n 0, 1) := db_X0_endRound_26.2.2.2.2.2.2.1
theorem dX0_endRound_35 : decode cX0_endRound 35 = .ok (.getfield 20, 3) := db_X0_endRound_26.2.2.2.2.2.2.2
set_option maxRecDepth 20000 in
theorem db_X0_endRound_38 : (decode cX0_endRound 38 = .ok (.iconst 1, 1)) ∧ (decode cX0_endRound 39 = .ok (.aaload, 1)) ∧ (decode cX0_endRound 40 = .ok (.aload_n 0, 1)) ∧ (decode cX0_endRound 41 = .ok (.getfield 40, 3)) ∧ (decode cX0_endRound 44 = .ok (.iload_n 2, 1)) ∧ (decode cX0_endRound 45 = .ok (.iastore, 1)) ∧ (decode cX0_endRound 46 = .ok (.aload_n 0, 1)) ∧ (decode cX0_endRound 47 = .ok (.dup, 1)) := by decide +kernel
theorem dX0_endRound_38 : decode cX0_endRound 38 = .ok (.iconst 1, 1) := db_X0_endRound_38.1
theorem dX0_endRound_39 : decode cX0_endRound 39 = .ok (.aaload, 1) := db_X0_endRound_38.2.1
theorem dX0_endRound_40 : decode cX0_endRound 40 = .ok (.aload_n 0, 1) := db_X0_endRound_38.2.2.1
theorem dX0_endRound_41 : decode cX0_endRound 41 = .ok (.getfield 40, 3) := db_X0_endRound_38.2.2.2.1
theorem dX0_endRound_44 : decode cX0_endRound 44 = .ok (.iload_n 2, 1) := db_X0_endRound_38.2.2.2.2.1
theorem dX0_endRound_45 : decode cX0_endRound 45 = .ok (.iastore, 1) := db_X0_endRound_38.2.2.2.2.2.1
theorem dX0_endRound_46 : decode cX0_endRound 46 = .ok (.aload_n 0, 1) := db_X0_endRound_38.2.2.2.2.2.2.1
theorem dX0_endRound_47 : decode cX0_endRound 47 = .ok (.dup, 1) := db_X0_endRound_38.2.2.2.2.2.2.2
set_option maxRecDepth 20000 in
theorem db_X0_endRound_48 : (decode cX0_endRound 48 = .ok (.getfield 40, 3)) ∧ (decode cX0_endRound 51 = .ok (.iconst 1, 1)) ∧ (decode cX0_endRound 52 = .ok (.iadd, 1)) ∧ (decode cX0_endRound 53 = .ok (.putfield 40, 3)) ∧ (decode cX0_endRound 56 = .ok (.iload_n 2, 1)) ∧ (decode cX0_endRound 57 = .ok (.iload_n 1, 1)) ∧ (decode cX0_endRound 58 = .ok (.if_icmp .lt 19, 3)) ∧ (decode cX0_endRound 77 = .ok (.aload_n 0, 1)) := by decide +kernel
theorem dX0_endRound_48 : decode cX0_endRound 48 = .ok (.getfield 40, 3) := db_X0_endRound_48.1
theorem dX0_endRound_51 : decode cX0_endRound 51 = .ok (.iconst 1, 1) := db_X0_endRound_48.2.1
theorem dX0_endRound_52 : decode cX0_endRound 52 = .ok (.iadd, 1) := db_X0_endRound_48.2.2.1
theorem dX0_endRound_53 : decode cX0_endRound 53 = .ok (.putfield 40, 3) := db_X0_endRound_48.2.2.2.1
theorem dX0_endRound_56 : decode cX0_endRound 56 = .ok (.iload_n 2, 1) := db_X0_endRound_48.2.2.2.2.1
theorem dX0_endRound_57 : decode cX0_endRound 57 = .ok (.iload_n 1, 1) := db_X0_endRound_48.2.2.2.2.2.1
theorem dX0_endRound_58 : decode cX0_endRound 58 = .ok (.if_icmp .lt 19, 3) := db_X0_endRound_48.2.2.2.2.2.2.1
theorem dX0_endRound_77 : decode cX0_endRound 77 = .ok (.aload_n 0, 1) := db_X0_endRound_48.2.2.2.2.2.2.2
set_option maxRecDepth 20000 in
theorem db_X0_endRound_78 : (decode cX0_endRound 78 = .ok (.getfield 15, 3)) ∧ (decode cX0_endRound 81 = .ok (.iconst 0, 1)) ∧ (decode cX0_endRound 82 = .ok (.iconst (-1), 1)) ∧ (decode cX0_endRound 83 = .ok (.iastore, 1)) ∧ (decode cX0_endRound 84 = .ok (.aload_n 0, 1)) ∧ (decode cX0_endRound 85 = .ok (.getfield 15, 3)) ∧ (decode cX0_endRound 88 = .ok (.iconst 1, 1)) ∧ (decode cX0_endRound 89 = .ok (.iconst (-1), 1)) := by decide +kernel
theorem dX0_endRound_78 : decode cX0_endRound 78 = .ok (.getfield 15, 3) := db_X0_endRound_78.1
theorem dX0_endRound_81 : decode cX0_endRound 81 = .ok (.iconst 0, 1) := db_X0_endRound_78.2.1
theorem dX0_endRound_82 : decode cX0_endRound 82 = .ok (.iconst (-1), 1) := db_X0_endRound_78.2.2.1
theorem dX0_endRound_83 : decode cX0_endRound 83 = .ok (.iastore, 1) := db_X0_endRound_78.2.2.2.1
theorem dX0_endRound_84 : decode cX0_endRound 84 = .ok (.aload_n 0, 1) := db_X0_endRound_78.2.2.2.2.1
theorem dX0_endRound_85 : decode cX0_endRound 85 = .ok (.getfield 15, 3) := db_X0_endRound_78.2.2.2.2.2.1
theorem dX0_endRound_88 : decode cX0_endRound 88 = .ok (.iconst 1, 1) := db_X0_endRound_78.2.2.2.2.2.2.1
theorem dX0_endRound_89 : decode cX0_endRound 89 = .ok (.iconst (-1), 1) := db_X0_endRound_78.2.2.2.2.2.2.2
set_option maxRecDepth 20000 in
theorem db_X0_endRound_90 : (decode cX0_endRound 90 = .ok (.iastore, 1)) ∧ (decode cX0_endRound 91 = .ok (.iconst 0, 1)) ∧ (decode cX0_endRound 92 = .ok (.ireturn, 1)) ∧ (decode cX0_endRound 61 = .ok (.aload_n 0, 1)) ∧ (decode cX0_endRound 62 = .ok (.iconst 1, 1)) ∧ (decode cX0_endRound 63 = .ok (.putfield 33, 3)) ∧ (decode cX0_endRound 66 = .ok (.aload_n 0, 1)) ∧ (decode cX0_endRound 67 = .ok (.iload_n 1, 1)) := by decide +kernel
theorem dX0_endRound_90 : decode cX0_endRound 90 = .ok (.iastore, 1) := db_X0_endRound_90.1
theorem dX0_endRound_91 : decode cX0_endRound 91 = .ok (.iconst 0, 1) := db_X0_endRound_90.2.1
theorem dX0_endRound_92 : decode cX0_endRound 92 = .ok (.ireturn, 1) := db_X0_endRound_90.2.2.1
theorem dX0_endRound_61 : decode cX0_endRound 61 = .ok (.aload_n 0, 1) := db_X0_endRound_90.2.2.2.1
theorem dX0_endRound_62 : decode cX0_endRound 62 = .ok (.iconst 1, 1) := db_X0_endRound_90.2.2.2.2.1
theorem dX0_endRound_63 : decode cX0_endRound 63 = .ok (.putfield 33, 3) := db_X0_endRound_90.2.2.2.2.2.1
theorem dX0_endRound_66 : decode cX0_endRound 66 = .ok (.aload_n 0, 1) := db_X0_endRound_90.2.2.2.2.2.2.1
theorem dX0_endRound_67 : decode cX0_endRound 67 = .ok (.iload_n 1, 1) := db_X0_endRound_90.2.2.2.2.2.2.2
set_option maxRecDepth 20000 in
theorem db_X0_endRound_68 : (decode cX0_endRound 68 = .ok (.iload_n 2, 1)) ∧ (decode cX0_endRound 69 = .ok (.iadd, 1)) ∧ (decode cX0_endRound 70 = .ok (.iconst 2, 1)) ∧ (decode cX0_endRound 71 = .ok (.idiv, 1)) ∧ (decode cX0_endRound 72 = .ok (.putfield 37, 3)) ∧ (decode cX0_endRound 75 = .ok (.iconst 1, 1)) ∧ (decode cX0_endRound 76 = .ok (.ireturn, 1)) := by decide +kernel
theorem dX0_endRound_68 : decode cX0_endRound 68 = .ok (.iload_n 2, 1) := db_X0_endRound_68.1
theorem dX0_endRound_69 : decode cX0_endRound 69 = .ok (.iadd, 1) := db_X0_endRound_68.2.1
theorem dX0_endRound_70 : decode cX0_endRound 70 = .ok (.iconst 2, 1) := db_X0_endRound_68.2.2.1
theorem dX0_endRound_71 : decode cX0_endRound 71 = .ok (.idiv, 1) := db_X0_endRound_68.2.2.2.1
theorem dX0_endRound_72 : decode cX0_endRound 72 = .ok (.putfield 37, 3) := db_X0_endRound_68.2.2.2.2.1
theorem dX0_endRound_75 : decode cX0_endRound 75 = .ok (.iconst 1, 1) := db_X0_endRound_68.2.2.2.2.2.1
theorem dX0_endRound_76 : decode cX0_endRound 76 = .ok (.ireturn, 1) := db_X0_endRound_68.2.2.2.2.2.2
set_option maxRecDepth 20000 in
theorem db_X7_offer_0 : (decode cX7_offer 0 = .ok (.aload_n 0, 1)) ∧ (decode cX7_offer 1 = .ok (.iload_n 1, 1)) ∧ (decode cX7_offer 2 = .ok (.invokevirtual 96, 3)) ∧ (decode cX7_offer 5 = .ok (.ifCond .eq 20, 3)) ∧ (decode cX7_offer 8 = .ok (.iload_n 2, 1)) ∧ (decode cX7_offer 9 = .ok (.invokestatic 132, 3)) ∧ (decode cX7_offer 12 = .ok (.ifCond .eq 13, 3)) ∧ (decode cX7_offer 15 = .ok (.iload_n 3, 1)) := by decide +kernel
theorem dX7_offer_0 : decode cX7_offer 0 = .ok (.aload_n 0, 1) := db_X7_offer_0.1
theorem dX7_offer_1 : decode cX7_offer 1 = .ok (.iload_n 1, 1) := db_X7_offer_0.2.1
set_option maxRecDepth 20000 in
theorem ggX7_offer_X7_isCase : GoodIn wsX7_offer wsX7_isCase := goodIn_r _ [10, 1, 11, 12, 13, 9, 14, 28, 29, 30, 31, 32, 33, 34, 35, 36, 37, 38, 39] rfl (by decide +kernel)
set_option maxRecDepth 20000 in
theorem gX7_offer_X7_isCase : GoodIn wsX7_offer (wsV RX7 96 RX7 yX7_isCase wsX7_isCase) := goodIn_app (goodIn_r _ [6, 7, 8, 9] rfl (by decide +kernel)) ggX7_offer_X7_isCase
theorem dX7_offer_2 : decode cX7_offer 2 = .ok (.invokevirtual 96, 3) := db_X7_offer_0.2.2.1
theorem dX7_offer_5 : decode cX7_offer 5 = .ok (.ifCond .eq 20, 3) := db_X7_offer_0.2.2.2.1
theorem dX7_offer_8 : decode cX7_offer 8 = .ok (.iload_n 2, 1) := db_X7_offer_0.2.2.2.2.1
set_option maxRecDepth 20000 in
theorem ggX7_offer_X7_isSide : GoodIn wsX7_offer wsX7_isSide := goodIn_r _ [17, 12, 13, 9, 14] rfl (by decide +kernel)
set_option maxRecDepth 20000 in
theorem gX7_offer_X7_isSide : GoodIn wsX7_offer (va_wsS RX7 132 yX7_isSide wsX7_isSide) := goodIn_app (goodIn_r _ [15, 16, 9] rfl (by decide +kernel)) ggX7_offer_X7_isSide
theorem dX7_offer_9 : decode cX7_offer 9 = .ok (.invokestatic 132, 3) := db_X7_offer_0.2.2.2.2.2.1
theorem dX7_offer_12 : decode cX7_offer 12 = .ok (.ifCond .eq 13, 3) := db_X7_offer_0.2.2.2.2.2.2.1
theorem dX7_offer_15 : decode cX7_offer 15 = .ok (.iload_n 3, 1) := db_X7_offer_0.2.2.2.2.2.2.2
set_option maxRecDepth 20000 in
theorem db_X7_offer_16 : (decode cX7_offer 16 = .ok (.iconst 0, 1)) ∧ (decode cX7_offer 17 = .ok (.bipush 100, 2)) ∧ (decode cX7_offer 19 = .ok (.invokestatic 37, 3)) ∧ (decode cX7_offer 22 = .ok (.ifCond .ne 5, 3)) ∧ (decode cX7_offer 27 = .ok (.aload_n 0, 1)) ∧ (decode cX7_offer 28 = .ok (.getfield 12, 3)) ∧ (decode cX7_offer 31 = .ok (.getfield 86, 3)) ∧ (decode cX7_offer 34 = .ok (.iload_n 1, 1)) := by decide +kernel
theorem dX7_offer_16 : decode cX7_offer 16 = .ok (.iconst 0, 1) := db_X7_offer_16.1
theorem dX7_offer_17 : decode cX7_offer 17 = .ok (.bipush 100, 2) := db_X7_offer_16.2.1
set_option maxRecDepth 20000 in
theorem ggX7_offer_X7_isWithin : GoodIn wsX7_offer wsX7_isWithin := goodIn_r _ [14] rfl (by decide +kernel)
set_option maxRecDepth 20000 in
theorem gX7_offer_X7_isWithin : GoodIn wsX7_offer (va_wsS RX7 37 yX7_isWithin wsX7_isWithin) := goodIn_app (goodIn_r _ [12, 13, 9] rfl (by decide +kernel)) ggX7_offer_X7_isWithin
theorem dX7_offer_19 : decode cX7_offer 19 = .ok (.invokestatic 37, 3) := db_X7_offer_16.2.2.1
theorem dX7_offer_22 : decode cX7_offer 22 = .ok (.ifCond .ne 5, 3) := db_X7_offer_16.2.2.2.1
theorem dX7_offer_27 : decode cX7_offer 27 = .ok (.aload_n 0, 1) := db_X7_offer_16.2.2.2.2.1
theorem dX7_offer_28 : decode cX7_offer 28 = .ok (.getfield 12, 3) := db_X7_offer_16.2.2.2.2.2.1
theorem dX7_offer_31 : decode cX7_offer 31 = .ok (.getfield 86, 3) := db_X7_offer_16.2.2.2.2.2.2.1
theorem dX7_offer_34 : decode cX7_offer 34 = .ok (.iload_n 1, 1) := db_X7_offer_16.2.2.2.2.2.2.2
set_option maxRecDepth 20000 in
theorem db_X7_offer_35 : (decode cX7_offer 35 = .ok (.aaload, 1)) ∧ (decode cX7_offer 36 = .ok (.astore 4, 2)) ∧ (decode cX7_offer 38 = .ok (.aload 4, 2)) ∧ (decode cX7_offer 40 = .ok (.getfield 99, 3)) ∧ (decode cX7_offer 43 = .ok (.ifCond .eq 6, 3)) ∧ (decode cX7_offer 49 = .ok (.aload 4, 2)) ∧ (decode cX7_offer 51 = .ok (.getfield 135, 3)) ∧ (decode cX7_offer 54 = .ok (.iload_n 2, 1)) := by decide +kernel
theorem dX7_offer_35 : decode cX7_offer 35 = .ok (.aaload, 1) := db_X7_offer_35.1
theorem dX7_offer_36 : decode cX7_offer 36 = .ok (.astore 4, 2) := db_X7_offer_35.2.1
theorem dX7_offer_38 : decode cX7_offer 38 = .ok (.aload 4, 2) := db_X7_offer_35.2.2.1
theorem dX7_offer_40 : decode cX7_offer 40 = .ok (.getfield 99, 3) := db_X7_offer_35.2.2.2.1
theorem dX7_offer_43 : decode cX7_offer 43 = .ok (.ifCond .eq 6, 3) := db_X7_offer_35.2.2.2.2.1
theorem dX7_offer_49 : decode cX7_offer 49 = .ok (.aload 4, 2) := db_X7_offer_35.2.2.2.2.2.1
theorem dX7_offer_51 : decode cX7_offer 51 = .ok (.getfield 135, 3) := db_X7_offer_35.2.2.2.2.2.2.1
theorem dX7_offer_54 : decode cX7_offer 54 = .ok (.iload_n 2, 1) := db_X7_offer_35.2.2.2.2.2.2.2
set_option maxRecDepth 20000 in
theorem db_X7_offer_55 : (decode cX7_offer 55 = .ok (.iaload, 1)) ∧ (decode cX7_offer 56 = .ok (.iconst (-1), 1)) ∧ (decode cX7_offer 57 = .ok (.if_icmp .eq 6, 3)) ∧ (decode cX7_offer 63 = .ok (.aload 4, 2)) ∧ (decode cX7_offer 65 = .ok (.getfield 117, 3)) ∧ (decode cX7_offer 68 = .ok (.iconst 5, 1)) ∧ (decode cX7_offer 69 = .ok (.if_icmp .lt 6, 3)) ∧ (decode cX7_offer 75 = .ok (.aload 4, 2)) := by decide +kernel
theorem dX7_offer_55 : decode cX7_offer 55 = .ok (.iaload, 1) := db_X7_offer_55.1
theorem dX7_offer_56 : decode cX7_offer 56 = .ok (.iconst (-1), 1) := db_X7_offer_55.2.1
theorem dX7_offer_57 : decode cX7_offer 57 = .ok (.if_icmp .eq 6, 3) := db_X7_offer_55.2.2.1
theorem dX7_offer_63 : decode cX7_offer 63 = .ok (.aload 4, 2) := db_X7_offer_55.2.2.2.1
theorem dX7_offer_65 : decode cX7_offer 65 = .ok (.getfield 117, 3) := db_X7_offer_55.2.2.2.2.1
theorem dX7_offer_68 : decode cX7_offer 68 = .ok (.iconst 5, 1) := db_X7_offer_55.2.2.2.2.2.1
theorem dX7_offer_69 : decode cX7_offer 69 = .ok (.if_icmp .lt 6, 3) := db_X7_offer_55.2.2.2.2.2.2.1
theorem dX7_offer_75 : decode cX7_offer 75 = .ok (.aload 4, 2) := db_X7_offer_55.2.2.2.2.2.2.2
set_option maxRecDepth 20000 in
theorem db_X7_offer_77 : (decode cX7_offer 77 = .ok (.getfield 135, 3)) ∧ (decode cX7_offer 80 = .ok (.iload_n 2, 1)) ∧ (decode cX7_offer 81 = .ok (.iload_n 3, 1)) ∧ (decode cX7_offer 82 = .ok (.iastore, 1)) ∧ (decode cX7_offer 83 = .ok (.aload 4, 2)) ∧ (decode cX7_offer 85 = .ok (.getfield 135, 3)) ∧ (decode cX7_offer 88 = .ok (.iconst 1, 1)) ∧ (decode cX7_offer 89 = .ok (.iload_n 2, 1)) := by decide +kernel
theorem dX7_offer_77 : decode cX7_offer 77 = .ok (.getfield 135, 3) := db_X7_offer_77.1
theorem dX7_offer_80 : decode cX7_offer 80 = .ok (.iload_n 2, 1) := db_X7_offer_77.2.1
theorem dX7_offer_81 : decode cX7_offer 81 = .ok (.iload_n 3, 1) := db_X7_offer_77.2.2.1
theorem dX7_offer_82 : decode cX7_offer 82 = .ok (.iastore, 1) := db_X7_offer_77.2.2.2.1
theorem dX7_offer_83 : decode cX7_offer 83 = .ok (.aload 4, 2) := db_X7_offer_77.2.2.2.2.1
theorem dX7_offer_85 : decode cX7_offer 85 = .ok (.getfield 135, 3) := db_X7_offer_77.2.2.2.2.2.1
theorem dX7_offer_88 : decode cX7_offer 88 = .ok (.iconst 1, 1) := db_X7_offer_77.2.2.2.2.2.2.1
theorem dX7_offer_89 : decode cX7_offer 89 = .ok (.iload_n 2, 1) := db_X7_offer_77.2.2.2.2.2.2.2
set_option maxRecDepth 20000 in
theorem db_X7_offer_90 : (decode cX7_offer 90 = .ok (.isub, 1)) ∧ (decode cX7_offer 91 = .ok (.iaload, 1)) ∧ (decode cX7_offer 92 = .ok (.iconst (-1), 1)) ∧ (decode cX7_offer 93 = .ok (.if_icmp .ne 5, 3)) ∧ (decode cX7_offer 98 = .ok (.aload 4, 2)) ∧ (decode cX7_offer 100 = .ok (.invokevirtual 138, 3)) ∧ (decode cX7_offer 103 = .ok (.ifCond .eq 7, 3)) ∧ (decode cX7_offer 110 = .ok (.iconst 2, 1)) := by decide +kernel
theorem dX7_offer_90 : decode cX7_offer 90 = .ok (.isub, 1) := db_X7_offer_90.1
theorem dX7_offer_91 : decode cX7_offer 91 = .ok (.iaload, 1) := db_X7_offer_90.2.1
theorem dX7_offer_92 : decode cX7_offer 92 = .ok (.iconst (-1), 1) := db_X7_offer_90.2.2.1
theorem dX7_offer_93 : decode cX7_offer 93 = .ok (.if_icmp .ne 5, 3) := db_X7_offer_90.2.2.2.1
theorem dX7_offer_98 : decode cX7_offer 98 = .ok (.aload 4, 2) := db_X7_offer_90.2.2.2.2.1
set_option maxRecDepth 20000 in
theorem ggX7_offer_X0_endRound : GoodIn wsX7_offer wsX0_endRound := goodIn_r _ [22, 23, 24, 25, 26, 27, 40, 41, 42, 43, 44, 45, 46, 47, 48, 49, 50] rfl (by decide +kernel)
set_option maxRecDepth 20000 in
theorem gX7_offer_X0_endRound : GoodIn wsX7_offer (wsV RX7 138 RX0 yX0_endRound wsX0_endRound) := goodIn_app (goodIn_r _ [18, 19, 20, 21] rfl (by decide +kernel)) ggX7_offer_X0_endRound
theorem dX7_offer_100 : decode cX7_offer 100 = .ok (.invokevirtual 138, 3) := db_X7_offer_90.2.2.2.2.2.1
theorem dX7_offer_103 : decode cX7_offer 103 = .ok (.ifCond .eq 7, 3) := db_X7_offer_90.2.2.2.2.2.2.1
theorem dX7_offer_110 : decode cX7_offer 110 = .ok (.iconst 2, 1) := db_X7_offer_90.2.2.2.2.2.2.2
set_option maxRecDepth 20000 in
theorem db_X7_offer_111 : (decode cX7_offer 111 = .ok (.ireturn, 1)) ∧ (decode cX7_offer 106 = .ok (.iconst 1, 1)) ∧ (decode cX7_offer 107 = .ok (.goto 4, 3)) ∧ (decode cX7_offer 96 = .ok (.iconst 0, 1)) ∧ (decode cX7_offer 97 = .ok (.ireturn, 1)) ∧ (decode cX7_offer 72 = .ok (.bipush (-2), 2)) ∧ (decode cX7_offer 74 = .ok (.ireturn, 1)) ∧ (decode cX7_offer 60 = .ok (.bipush (-3), 2)) := by decide +kernel
theorem dX7_offer_111 : decode cX7_offer 111 = .ok (.ireturn, 1) := db_X7_offer_111.1
theorem dX7_offer_106 : decode cX7_offer 106 = .ok (.iconst 1, 1) := db_X7_offer_111.2.1
theorem dX7_offer_107 : decode cX7_offer 107 = .ok (.goto 4, 3) := db_X7_offer_111.2.2.1
theorem dX7_offer_96 : decode cX7_offer 96 = .ok (.iconst 0, 1) := db_X7_offer_111.2.2.2.1
theorem dX7_offer_97 : decode cX7_offer 97 = .ok (.ireturn, 1) := db_X7_offer_111.2.2.2.2.1
theorem dX7_offer_72 : decode cX7_offer 72 = .ok (.bipush (-2), 2) := db_X7_offer_111.2.2.2.2.2.1
theorem dX7_offer_74 : decode cX7_offer 74 = .ok (.ireturn, 1) := db_X7_offer_111.2.2.2.2.2.2.1
theorem dX7_offer_60 : decode cX7_offer 60 = .ok (.bipush (-3), 2) := db_X7_offer_111.2.2.2.2.2.2.2
set_option maxRecDepth 20000 in
theorem db_X7_offer_62 : (decode cX7_offer 62 = .ok (.ireturn, 1)) ∧ (decode cX7_offer 46 = .ok (.bipush (-4), 2)) ∧ (decode cX7_offer 48 = .ok (.ireturn, 1)) ∧ (decode cX7_offer 25 = .ok (.iconst (-1), 1)) ∧ (decode cX7_offer 26 = .ok (.ireturn, 1)) := by decide +kernel
theorem dX7_offer_62 : decode cX7_offer 62 = .ok (.ireturn, 1) := db_X7_offer_62.1
theorem dX7_offer_46 : decode cX7_offer 46 = .ok (.bipush (-4), 2) := db_X7_offer_62.2.1
theorem dX7_offer_48 : decode cX7_offer 48 = .ok (.ireturn, 1) := db_X7_offer_62.2.2.1
theorem dX7_offer_25 : decode cX7_offer 25 = .ok (.iconst (-1), 1) := db_X7_offer_62.2.2.2.1
theorem dX7_offer_26 : decode cX7_offer 26 = .ok (.ireturn, 1) := db_X7_offer_62.2.2.2.2
set_option maxHeartbeats 4000000 in
set_option maxRecDepth 100000 in
theorem e_X0_endRound (l : Launch) (dC : Nat → ClassId) (dI : Nat → Nat → Nat) (cy : Nat → ClassId) (sz : Nat) (ad : Nat → Nat) (kv : Value) (N : Nat) (hN : 119 ≤ N) (v : Nat → Nat → Int32) (hv : Iv v) (i : Nat) (hi : i < 6) (hr5 : (v (29 + 15 * i) 2).toInt < 5) : Met l yX0_endRound wsX0_endRound ({ frames := 0, cells := 0, slots := 0, locals := 0 }) (va_Pc [.ref (ad (29 + 15 * i))] (ex_Pre dC dI cy sz (wl ad kv cy N v))) (va_Qi (fun (r : Int32) (u : Nat → Nat → Int32) => Iv u ∧ ((v (31 + 15 * i) 0).toInt ≤ (v (31 + 15 * i) 1).toInt → r = 1 ∧ (∀ k j : Nat, u k j = if k = 29 + 15 * i ∧ j = 1 then (v (31 + 15 * i) 0 + v (31 + 15 * i) 1) / 2 else if k = 29 + 15 * i ∧ j = 0 then 1 else if k = 29 + 15 * i ∧ j = 2 then v (29 + 15 * i) 2 + 1 else if k = 33 + 15 * i + 1 ∧ j = (v (29 + 15 * i) 2).toNatClampNeg then v (31 + 15 * i) 1 else if k = 33 + 15 * i + 0 ∧ j = (v (29 + 15 * i) 2).toNatClampNeg then v (31 + 15 * i) 0 else v k j)) ∧ ((v (31 + 15 * i) 1).toInt < (v (31 + 15 * i) 0).toInt → r = 0 ∧ (∀ k j : Nat, u k j = if k = 31 + 15 * i ∧ j = 1 then -1 else if k = 31 + 15 * i ∧ j = 0 then -1 else if k = 29 + 15 * i ∧ j = 2 then v (29 + 15 * i) 2 + 1 else if k = 33 + 15 * i + 1 ∧ j = (v (29 + 15 * i) 2).toNatClampNeg then v (31 + 15 * i) 1 else if k = 33 + 15 * i + 0 ∧ j = (v (29 + 15 * i) 2).toNatClampNeg then v (31 + 15 * i) 0 else v k j))) (fun u t => ex_Pst dC dI (va_A (wl ad kv cy N v) sz) (wl ad kv cy N u) t) (va_A (wl ad kv cy N v) sz)) 0 0 (va_A (wl ad kv cy N v) sz) := by
  refine Met.ofW (cc := cX0_endRound) (maxL := 3) (ret := (some .boolean)) (by decide) rfl ?_
  intro p e s m args below meth c s₁ B hml hv
  obtain ⟨rfl, hsz, hE, hP, hK, hD0⟩ := hv
  have hx := B.exec
  have hb := B.bytes
  have hr := B.returns
  have hts := atoms_spec (ws := wsX0_endRound) B.pre
  have hown : s.vm.findClass RX0 = some m.cls := findClass_of_methodNamed B.named
  have hlocks := B.notSynchronized
  subst hsz
  have hD := hD0.self (sz := s.heap.size)
  generalize hAe : va_A (wl ad kv cy N v) s.heap.size = A at hD ⊢
  have hA : ∀ q : Nat, s.heap.size ≤ q → A q := fun q h => by rw [← hAe]; exact Or.inr h
  have hS : va_S A s.heap s.heap [] := va_S.rf
  have hP : va_P (dC, dI) vwCl (wl ad kv cy N v) s.heap := hP
  have hl := lv_entry ([.ref (ad (29 + 15 * i))]) (n := 3) (Nat.le_of_ble_eq_true rfl)
  rw [lg_entry_eq]
  generalize (lg_sl ([.ref (ad (29 + 15 * i))]) ++ List.replicate (3 - (lg_sl ([.ref (ad (29 + 15 * i))])).length) Slot.unset).toArray = ls at hl ⊢
  have hl : lv_has ls 3 [(0, .ref (ad (29 + 15 * i)))] := hl
  refine lv_aload_n hx hb dX0_endRound_0 rfl (lv_at hl 0 rfl) ?_
  refine va_get (D := (dC, dI)) (ci := 0) (v := .ref (ad (29 + 15 * i + 2))) (C := RX0) (T := TX0) (N := 11) hx hb hts iwX0_endRound_X0 hown hK hP (29 + 15 * i) (wl_at (by omega) (ce_9 (kd_c _ hi).1.1)) rfl 7 (by decide) (hts (.fieldLink RX0 15 "QuietStairs$Case" "box" "[I") fwX0_endRound_1) (fun _ h9 => h9) rfl dX0_endRound_1 ?_
  refine W.eq (g2 := F0 m 4 ls [.ref (ad (31 + 15 * i))]) (by rw [show 29 + 15 * i + 2 = 31 + 15 * i from by omega]) ?_
  refine lv_iconst (v := 0) hx hb dX0_endRound_4 (by decide) ?_
  have k_0 : (0 : Int32).toInt = 0 := by decide
  refine va_iald hx hb hK hP (31 + 15 * i) 0 (wl_at (by omega) (ce_20 (kd_c _ hi).1.2.2.1)) rfl (by unfold vp_in; decide) dX0_endRound_5 ?_
  refine lv_topi (fun x_1 ex_1 => ?_)
  have ex_1 : x_1 = v (31 + 15 * i) 0 := ex_1
  have qx_1 : x_1.toInt = (v (31 + 15 * i) (0)).toInt := congrArg Int32.toInt ex_1
  refine lv_istore_n (lv' := [(1, .int x_1), (0, .ref (ad (29 + 15 * i)))]) hx hb dX0_endRound_6 rfl hl (by decide) rfl (fun ls hl => ?_)
  refine lv_aload_n hx hb dX0_endRound_7 rfl (lv_at hl 1 rfl) ?_
  refine va_get (D := (dC, dI)) (ci := 0) (v := .ref (ad (29 + 15 * i + 2))) (C := RX0) (T := TX0) (N := 11) hx hb hts iwX0_endRound_X0 hown hK hP (29 + 15 * i) (wl_at (by omega) (ce_9 (kd_c _ hi).1.1)) rfl 7 (by decide) (hts (.fieldLink RX0 15 "QuietStairs$Case" "box" "[I") fwX0_endRound_1) (fun _ h9 => h9) rfl dX0_endRound_8 ?_
  refine W.eq (g2 := F0 m 11 ls [.ref (ad (31 + 15 * i))]) (by rw [show 29 + 15 * i + 2 = 31 + 15 * i from by omega]) ?_
  refine lv_iconst (v := 1) hx hb dX0_endRound_11 (by decide) ?_
  have k_1 : (1 : Int32).toInt = 1 := by decide
  refine va_iald hx hb hK hP (31 + 15 * i) 0 (wl_at (by omega) (ce_20 (kd_c _ hi).1.2.2.1)) rfl (by unfold vp_in; decide) dX0_endRound_12 ?_
  refine lv_topi (fun x_2 ex_2 => ?_)
  have ex_2 : x_2 = v (31 + 15 * i) 1 := ex_2
  have qx_2 : x_2.toInt = (v (31 + 15 * i) (1)).toInt := congrArg Int32.toInt ex_2
  refine lv_istore_n (lv' := [(2, .int x_2), (1, .int x_1), (0, .ref (ad (29 + 15 * i)))]) hx hb dX0_endRound_13 rfl hl (by decide) rfl (fun ls hl => ?_)
  refine lv_aload_n hx hb dX0_endRound_14 rfl (lv_at hl 2 rfl) ?_
  refine va_get (D := (dC, dI)) (ci := 0) (v := .int (v (29 + 15 * i) 2)) (C := RX0) (T := TX0) (N := 11) hx hb hts iwX0_endRound_X0 hown hK hP (29 + 15 * i) (wl_at (by omega) (ce_9 (kd_c _ hi).1.1)) rfl 2 (by decide) (hts (.fieldLink RX0 40 "QuietStairs$Case" "roundsOver" "I") fwX0_endRound_2) (fun _ h9 => h9) rfl dX0_endRound_15 ?_
  refine lv_topi (fun x_3 ex_3 => ?_)
  have bzx_3 : 0 ≤ x_3.toInt ∧ x_3.toInt ≤ 5 := by rw [ex_3]; exact hv.at (K := 9) (kd_c _ hi).1.1 rfl
  have qx_3 : x_3.toInt = (v (29 + 15 * i) (2)).toInt := congrArg Int32.toInt ex_3
  refine lv_iconst (v := 5) hx hb dX0_endRound_18 (by decide) ?_
  have k_5 : (5 : Int32).toInt = 5 := by decide
  refine lv_icmp_ge (tgt := 56) hx hb dX0_endRound_19 (by decide) (fun c_4 => ?_) (fun c_4 => ?_)
  · have tc_4 : x_3.toInt ≥ (5 : Int32).toInt := Int32.le_iff_toInt_le.mp c_4
    exfalso
    omega
  · have tc_4 : x_3.toInt < (5 : Int32).toInt := Int32.lt_iff_toInt_lt.mp (Int32.not_le.mp c_4)
    refine lv_aload_n hx hb dX0_endRound_22 rfl (lv_at hl 2 rfl) ?_
    refine va_get (D := (dC, dI)) (ci := 0) (v := .ref (ad (29 + 15 * i + 3))) (C := RX0) (T := TX0) (N := 11) hx hb hts iwX0_endRound_X0 hown hK hP (29 + 15 * i) (wl_at (by omega) (ce_9 (kd_c _ hi).1.1)) rfl 8 (by decide) (hts (.fieldLink RX0 20 "QuietStairs$Case" "offers" "[[I") fwX0_endRound_3) (fun _ h9 => h9) rfl dX0_endRound_23 ?_
    refine W.eq (g2 := F0 m 26 ls [.ref (ad (32 + 15 * i))]) (by rw [show 29 + 15 * i + 3 = 32 + 15 * i from by omega]) ?_
    refine lv_iconst (v := 0) hx hb dX0_endRound_26 (by decide) ?_
    refine ya_ald hx hb hK hP (32 + 15 * i) (wl_at (by omega) (ce_11 (kd_c _ hi).1.2.2.2.1)) (by unfold vp_in; decide) dX0_endRound_27 ?_
    refine W.eq (g2 := F0 m 28 ls [.ref (ad (33 + 15 * i + 0))]) (by show F0 m 28 ls (.ref (ad (32 + 15 * i + 1 + 0)) :: _) = _; rw [show 32 + 15 * i + 1 + 0 = 33 + 15 * i + 0 from by omega]) ?_
    refine lv_aload_n hx hb dX0_endRound_28 rfl (lv_at hl 2 rfl) ?_
    refine va_get (D := (dC, dI)) (ci := 0) (v := .int (v (29 + 15 * i) 2)) (C := RX0) (T := TX0) (N := 11) hx hb hts iwX0_endRound_X0 hown hK hP (29 + 15 * i) (wl_at (by omega) (ce_9 (kd_c _ hi).1.1)) rfl 2 (by decide) (hts (.fieldLink RX0 40 "QuietStairs$Case" "roundsOver" "I") fwX0_endRound_2) (fun _ h9 => h9) rfl dX0_endRound_29 ?_
    refine lv_topi (fun x_5 ex_5 => ?_)
    have bzx_5 : 0 ≤ x_5.toInt ∧ x_5.toInt ≤ 5 := by rw [ex_5]; exact hv.at (K := 9) (kd_c _ hi).1.1 rfl
    obtain rfl : x_3 = x_5 := (ex_5.trans ex_3.symm).symm
    refine lv_iload_n hx hb dX0_endRound_32 rfl (lv_at hl 1 rfl) ?_
    have zn_x_3 : (x_3.toNatClampNeg : Int) = x_3.toInt := t_nn (by omega)
    have hx_6 : x_3.toNatClampNeg < 5 := by omega
    refine va_iast hx hb hK hP hD hS (33 + 15 * i + 0) 0 (wl_at (by omega) (ce_12 (kd_o _ hi 0 (by decide)).1.1)) rfl (vp_in_iff.mpr ⟨by omega, by omega⟩) dX0_endRound_33 (fun H locs hP hD hS => ?_)
    obtain ⟨v_7, ev_7⟩ : ∃ u : Nat → Nat → Int32, u = upr v (33 + 15 * i + 0) (upd (v (33 + 15 * i + 0)) (x_3.toNatClampNeg) x_1) := ⟨_, rfl⟩
    have hP : va_P (dC, dI) vwCl (wl ad kv cy N v_7) H := by rw [ev_7, ← wl_put (e := _) (ce_12 (kd_o _ hi 0 (by decide)).1.1)]; exact hP
    have hD : va_D A (wl ad kv cy N v_7) := by rw [ev_7, ← wl_put (e := _) (ce_12 (kd_o _ hi 0 (by decide)).1.1)]; exact hD
    have hv : Iv v_7 := by rw [ev_7]; exact hv.put (K := 12) (kd_o _ hi 0 (by decide)).1.1 (fun h q => by simp [bd] at q)
    refine lv_aload_n hx hb dX0_endRound_34 rfl (lv_at hl 2 rfl) ?_
    refine va_get (D := (dC, dI)) (ci := 0) (v := .ref (ad (29 + 15 * i + 3))) (C := RX0) (T := TX0) (N := 11) hx hb hts iwX0_endRound_X0 hown hK hP (29 + 15 * i) (wl_at (by omega) (ce_9 (kd_c _ hi).1.1)) rfl 8 (by decide) (hts (.fieldLink RX0 20 "QuietStairs$Case" "offers" "[[I") fwX0_endRound_3) (fun _ h9 => h9) rfl dX0_endRound_35 ?_
    refine W.eq (g2 := F0 m 38 ls [.ref (ad (32 + 15 * i))]) (by rw [show 29 + 15 * i + 3 = 32 + 15 * i from by omega]) ?_
    refine lv_iconst (v := 1) hx hb dX0_endRound_38 (by decide) ?_
    refine ya_ald hx hb hK hP (32 + 15 * i) (wl_at (by omega) (ce_11 (kd_c _ hi).1.2.2.2.1)) (by unfold vp_in; decide) dX0_endRound_39 ?_
    refine W.eq (g2 := F0 m 40 ls [.ref (ad (33 + 15 * i + 1))]) (by show F0 m 40 ls (.ref (ad (32 + 15 * i + 1 + 1)) :: _) = _; rw [show 32 + 15 * i + 1 + 1 = 33 + 15 * i + 1 from by omega]) ?_
    refine lv_aload_n hx hb dX0_endRound_40 rfl (lv_at hl 2 rfl) ?_
    refine va_get (D := (dC, dI)) (ci := 0) (v := .int (v_7 (29 + 15 * i) 2)) (C := RX0) (T := TX0) (N := 11) hx hb hts iwX0_endRound_X0 hown hK hP (29 + 15 * i) (wl_at (by omega) (ce_9 (kd_c _ hi).1.1)) rfl 2 (by decide) (hts (.fieldLink RX0 40 "QuietStairs$Case" "roundsOver" "I") fwX0_endRound_2) (fun _ h9 => h9) rfl dX0_endRound_41 ?_
    refine lv_topi (fun x_8 ex_8 => ?_)
    have bzx_8 : 0 ≤ x_8.toInt ∧ x_8.toInt ≤ 5 := by rw [ex_8]; exact hv.at (K := 9) (kd_c _ hi).1.1 rfl
    rw [ev_7, upr_n (by omega)] at ex_8
    obtain rfl : x_3 = x_8 := (ex_8.trans ex_3.symm).symm
    refine lv_iload_n hx hb dX0_endRound_44 rfl (lv_at hl 0 rfl) ?_
    refine va_iast hx hb hK hP hD hS (33 + 15 * i + 1) 0 (wl_at (by omega) (ce_12 (kd_o _ hi 1 (by decide)).1.1)) rfl (vp_in_iff.mpr ⟨by omega, by omega⟩) dX0_endRound_45 (fun H locs hP hD hS => ?_)
    obtain ⟨v_9, ev_9⟩ : ∃ u : Nat → Nat → Int32, u = upr v_7 (33 + 15 * i + 1) (upd (v_7 (33 + 15 * i + 1)) (x_3.toNatClampNeg) x_2) := ⟨_, rfl⟩
    have hP : va_P (dC, dI) vwCl (wl ad kv cy N v_9) H := by rw [ev_9, ← wl_put (e := _) (ce_12 (kd_o _ hi 1 (by decide)).1.1)]; exact hP
    have hD : va_D A (wl ad kv cy N v_9) := by rw [ev_9, ← wl_put (e := _) (ce_12 (kd_o _ hi 1 (by decide)).1.1)]; exact hD
    have hv : Iv v_9 := by rw [ev_9]; exact hv.put (K := 12) (kd_o _ hi 1 (by decide)).1.1 (fun h q => by simp [bd] at q)
    refine lv_aload_n hx hb dX0_endRound_46 rfl (lv_at hl 2 rfl) ?_
    refine lv_dup hx hb dX0_endRound_47 rfl ?_
    refine va_get (D := (dC, dI)) (ci := 0) (v := .int (v_9 (29 + 15 * i) 2)) (C := RX0) (T := TX0) (N := 11) hx hb hts iwX0_endRound_X0 hown hK hP (29 + 15 * i) (wl_at (by omega) (ce_9 (kd_c _ hi).1.1)) rfl 2 (by decide) (hts (.fieldLink RX0 40 "QuietStairs$Case" "roundsOver" "I") fwX0_endRound_2) (fun _ h9 => h9) rfl dX0_endRound_48 ?_
    refine lv_topi (fun x_10 ex_10 => ?_)
    have bzx_10 : 0 ≤ x_10.toInt ∧ x_10.toInt ≤ 5 := by rw [ex_10]; exact hv.at (K := 9) (kd_c _ hi).1.1 rfl
    rw [ev_9, upr_n (by omega), ev_7, upr_n (by omega)] at ex_10
    obtain rfl : x_3 = x_10 := (ex_10.trans ex_3.symm).symm
    refine lv_iconst (v := 1) hx hb dX0_endRound_51 (by decide) ?_
    refine lv_iadd hx hb dX0_endRound_52 ?_
    refine lv_topi (fun x_11 ex_11 => ?_)
    have tx_11 : x_11.toInt = x_3.toInt + (1 : Int32).toInt := by rw [ex_11]; exact t_add ⟨by omega, by omega⟩
    refine va_put (D := (dC, dI)) (ci := 0) (v := .int x_11) (ty := .int) (C := RX0) (T := TX0) (N := 11) hx hb hts iwX0_endRound_X0 tyX0 tyX0_ok nmX0 hown hK hP hD hS (29 + 15 * i) (wl_at (by omega) (ce_9 (kd_c _ hi).1.1)) rfl 2 (by decide) (hts (.fieldLink RX0 40 "QuietStairs$Case" "roundsOver" "I") fwX0_endRound_2) (fun _ h9 => h9) rfl (by decide +kernel) rfl rfl (Nat.le_of_ble_eq_true rfl) dX0_endRound_53 (fun H locs hP hD hS => ?_)
    obtain ⟨v_12, ev_12⟩ : ∃ u : Nat → Nat → Int32, u = upr v_9 (29 + 15 * i) (upd (v_9 (29 + 15 * i)) 2 x_11) := ⟨_, rfl⟩
    have hP : va_P (dC, dI) vwCl (wl ad kv cy N v_12) H := by rw [ev_12, ← wl_put (e := _) (ce_9 (kd_c _ hi).1.1)]; exact hP
    have hD : va_D A (wl ad kv cy N v_12) := by rw [ev_12, ← wl_put (e := _) (ce_9 (kd_c _ hi).1.1)]; exact hD
    have hv : Iv v_12 := by rw [ev_12]; exact hv.put (K := 9) (kd_c _ hi).1.1 (fun h q => by cases q; exact ⟨by omega, by omega⟩)
    refine lv_iload_n hx hb dX0_endRound_56 rfl (lv_at hl 0 rfl) ?_
    refine lv_iload_n hx hb dX0_endRound_57 rfl (lv_at hl 1 rfl) ?_
    refine lv_icmp_lt (tgt := 77) hx hb dX0_endRound_58 (by decide) (fun c_13 => ?_) (fun c_13 => ?_)
    · have tc_13 : x_2.toInt < x_1.toInt := Int32.lt_iff_toInt_lt.mp c_13
      refine lv_aload_n hx hb dX0_endRound_77 rfl (lv_at hl 2 rfl) ?_
      refine va_get (D := (dC, dI)) (ci := 0) (v := .ref (ad (29 + 15 * i + 2))) (C := RX0) (T := TX0) (N := 11) hx hb hts iwX0_endRound_X0 hown hK hP (29 + 15 * i) (wl_at (by omega) (ce_9 (kd_c _ hi).1.1)) rfl 7 (by decide) (hts (.fieldLink RX0 15 "QuietStairs$Case" "box" "[I") fwX0_endRound_1) (fun _ h9 => h9) rfl dX0_endRound_78 ?_
      refine W.eq (g2 := F0 m 81 ls [.ref (ad (31 + 15 * i))]) (by rw [show 29 + 15 * i + 2 = 31 + 15 * i from by omega]) ?_
      refine lv_iconst (v := 0) hx hb dX0_endRound_81 (by decide) ?_
      refine lv_iconst (v := (-1)) hx hb dX0_endRound_82 (by decide) ?_
      refine va_iast hx hb hK hP hD hS (31 + 15 * i) 0 (wl_at (by omega) (ce_20 (kd_c _ hi).1.2.2.1)) rfl (by unfold vp_in; decide) dX0_endRound_83 (fun H locs hP hD hS => ?_)
      have k_m1 : ((-1) : Int32).toInt = -1 := by decide
      have hP : va_P (dC, dI) vwCl ((wl ad kv cy N v_12).set (31 + 15 * i) (ad (31 + 15 * i), .inl (cy 0, 2, .inl (upd (v_12 (31 + 15 * i)) 0 (-1))))) H := hP
      have hD : va_D A ((wl ad kv cy N v_12).set (31 + 15 * i) (ad (31 + 15 * i), .inl (cy 0, 2, .inl (upd (v_12 (31 + 15 * i)) 0 (-1))))) := hD
      obtain ⟨v_14, ev_14⟩ : ∃ u : Nat → Nat → Int32, u = upr v_12 (31 + 15 * i) (upd (v_12 (31 + 15 * i)) 0 (-1)) := ⟨_, rfl⟩
      have hP : va_P (dC, dI) vwCl (wl ad kv cy N v_14) H := by rw [ev_14, ← wl_put (e := _) (ce_20 (kd_c _ hi).1.2.2.1)]; exact hP
      have hD : va_D A (wl ad kv cy N v_14) := by rw [ev_14, ← wl_put (e := _) (ce_20 (kd_c _ hi).1.2.2.1)]; exact hD
      have hv : Iv v_14 := by rw [ev_14]; exact hv.put (K := 20) (kd_c _ hi).1.2.2.1 (fun h q => by simp [bd] at q)
      refine lv_aload_n hx hb dX0_endRound_84 rfl (lv_at hl 2 rfl) ?_
      refine va_get (D := (dC, dI)) (ci := 0) (v := .ref (ad (29 + 15 * i + 2))) (C := RX0) (T := TX0) (N := 11) hx hb hts iwX0_endRound_X0 hown hK hP (29 + 15 * i) (wl_at (by omega) (ce_9 (kd_c _ hi).1.1)) rfl 7 (by decide) (hts (.fieldLink RX0 15 "QuietStairs$Case" "box" "[I") fwX0_endRound_1) (fun _ h9 => h9) rfl dX0_endRound_85 ?_
      refine W.eq (g2 := F0 m 88 ls [.ref (ad (31 + 15 * i))]) (by rw [show 29 + 15 * i + 2 = 31 + 15 * i from by omega]) ?_
      refine lv_iconst (v := 1) hx hb dX0_endRound_88 (by decide) ?_
      refine lv_iconst (v := (-1)) hx hb dX0_endRound_89 (by decide) ?_
      refine va_iast hx hb hK hP hD hS (31 + 15 * i) 0 (wl_at (by omega) (ce_20 (kd_c _ hi).1.2.2.1)) rfl (by unfold vp_in; decide) dX0_endRound_90 (fun H locs hP hD hS => ?_)
      have hP : va_P (dC, dI) vwCl ((wl ad kv cy N v_14).set (31 + 15 * i) (ad (31 + 15 * i), .inl (cy 0, 2, .inl (upd (v_14 (31 + 15 * i)) 1 (-1))))) H := hP
      have hD : va_D A ((wl ad kv cy N v_14).set (31 + 15 * i) (ad (31 + 15 * i), .inl (cy 0, 2, .inl (upd (v_14 (31 + 15 * i)) 1 (-1))))) := hD
      obtain ⟨v_15, ev_15⟩ : ∃ u : Nat → Nat → Int32, u = upr v_14 (31 + 15 * i) (upd (v_14 (31 + 15 * i)) 1 (-1)) := ⟨_, rfl⟩
      have hP : va_P (dC, dI) vwCl (wl ad kv cy N v_15) H := by rw [ev_15, ← wl_put (e := _) (ce_20 (kd_c _ hi).1.2.2.1)]; exact hP
      have hD : va_D A (wl ad kv cy N v_15) := by rw [ev_15, ← wl_put (e := _) (ce_20 (kd_c _ hi).1.2.2.1)]; exact hD
      have hv : Iv v_15 := by rw [ev_15]; exact hv.put (K := 20) (kd_c _ hi).1.2.2.1 (fun h q => by simp [bd] at q)
      refine lv_iconst (v := 0) hx hb dX0_endRound_91 (by decide) ?_
      have hpost : ((v (31 + 15 * i) 0).toInt ≤ (v (31 + 15 * i) 1).toInt → (0 : Int32) = 1 ∧ (∀ k j : Nat, v_15 k j = if k = 29 + 15 * i ∧ j = 1 then (v (31 + 15 * i) 0 + v (31 + 15 * i) 1) / 2 else if k = 29 + 15 * i ∧ j = 0 then 1 else if k = 29 + 15 * i ∧ j = 2 then v (29 + 15 * i) 2 + 1 else if k = 33 + 15 * i + 1 ∧ j = (v (29 + 15 * i) 2).toNatClampNeg then v (31 + 15 * i) 1 else if k = 33 + 15 * i + 0 ∧ j = (v (29 + 15 * i) 2).toNatClampNeg then v (31 + 15 * i) 0 else v k j)) ∧ ((v (31 + 15 * i) 1).toInt < (v (31 + 15 * i) 0).toInt → (0 : Int32) = 0 ∧ (∀ k j : Nat, v_15 k j = if k = 31 + 15 * i ∧ j = 1 then -1 else if k = 31 + 15 * i ∧ j = 0 then -1 else if k = 29 + 15 * i ∧ j = 2 then v (29 + 15 * i) 2 + 1 else if k = 33 + 15 * i + 1 ∧ j = (v (29 + 15 * i) 2).toNatClampNeg then v (31 + 15 * i) 1 else if k = 33 + 15 * i + 0 ∧ j = (v (29 + 15 * i) 2).toNatClampNeg then v (31 + 15 * i) 0 else v k j)) := by
        refine ⟨fun hq => ?_, fun hq => ?_⟩
        · exfalso; omega
        · exact ⟨rfl, fun k j => by rw [ev_15, up2, ev_14, up2, ev_12, up2, ev_9, up2, ev_7, up2, ex_11, ex_3, ex_2, ex_1]⟩
      exact W.zret (ty := .boolean) (v := 0) hx hb hr rfl (fun t ht hW => ⟨⟨0, v_15, rfl, ⟨hv, hpost⟩, by rw [ht]; exact hP, hD⟩, hS.F ht⟩) hS.2.2 dX0_endRound_92
    · have tc_13 : x_2.toInt ≥ x_1.toInt := Int32.le_iff_toInt_le.mp (Int32.not_lt.mp c_13)
      refine lv_aload_n hx hb dX0_endRound_61 rfl (lv_at hl 2 rfl) ?_
      refine lv_iconst (v := 1) hx hb dX0_endRound_62 (by decide) ?_
      refine va_put (D := (dC, dI)) (ci := 0) (v := .int 1) (ty := .int) (C := RX0) (T := TX0) (N := 11) hx hb hts iwX0_endRound_X0 tyX0 tyX0_ok nmX0 hown hK hP hD hS (29 + 15 * i) (wl_at (by omega) (ce_9 (kd_c _ hi).1.1)) rfl 0 (by decide) (hts (.fieldLink RX0 33 "QuietStairs$Case" "state" "I") fwX0_endRound_4) (fun _ h9 => h9) rfl (by decide +kernel) rfl rfl (Nat.le_of_ble_eq_true rfl) dX0_endRound_63 (fun H locs hP hD hS => ?_)
      obtain ⟨v_14, ev_14⟩ : ∃ u : Nat → Nat → Int32, u = upr v_12 (29 + 15 * i) (upd (v_12 (29 + 15 * i)) 0 1) := ⟨_, rfl⟩
      have hP : va_P (dC, dI) vwCl (wl ad kv cy N v_14) H := by rw [ev_14, ← wl_put (e := _) (ce_9 (kd_c _ hi).1.1)]; exact hP
      have hD : va_D A (wl ad kv cy N v_14) := by rw [ev_14, ← wl_put (e := _) (ce_9 (kd_c _ hi).1.1)]; exact hD
      have hv : Iv v_14 := by rw [ev_14]; exact hv.put (K := 9) (kd_c _ hi).1.1 (fun h q => by simp [bd] at q)
      refine lv_aload_n hx hb dX0_endRound_66 rfl (lv_at hl 2 rfl) ?_
      refine lv_iload_n hx hb dX0_endRound_67 rfl (lv_at hl 1 rfl) ?_
      refine lv_iload_n hx hb dX0_endRound_68 rfl (lv_at hl 0 rfl) ?_
      refine lv_iadd hx hb dX0_endRound_69 ?_
      refine lv_topi (fun x_15 ex_15 => ?_)
      refine lv_iconst (v := 2) hx hb dX0_endRound_70 (by decide) ?_
      refine lv_idiv hx hb dX0_endRound_71 (by decide) ?_
      refine lv_topi (fun x_16 ex_16 => ?_)
      refine va_put (D := (dC, dI)) (ci := 0) (v := .int x_16) (ty := .int) (C := RX0) (T := TX0) (N := 11) hx hb hts iwX0_endRound_X0 tyX0 tyX0_ok nmX0 hown hK hP hD hS (29 + 15 * i) (wl_at (by omega) (ce_9 (kd_c _ hi).1.1)) rfl 1 (by decide) (hts (.fieldLink RX0 37 "QuietStairs$Case" "sum" "I") fwX0_endRound_5) (fun _ h9 => h9) rfl (by decide +kernel) rfl rfl (Nat.le_of_ble_eq_true rfl) dX0_endRound_72 (fun H locs hP hD hS => ?_)
      obtain ⟨v_17, ev_17⟩ : ∃ u : Nat → Nat → Int32, u = upr v_14 (29 + 15 * i) (upd (v_14 (29 + 15 * i)) 1 x_16) := ⟨_, rfl⟩
      have hP : va_P (dC, dI) vwCl (wl ad kv cy N v_17) H := by rw [ev_17, ← wl_put (e := _) (ce_9 (kd_c _ hi).1.1)]; exact hP
      have hD : va_D A (wl ad kv cy N v_17) := by rw [ev_17, ← wl_put (e := _) (ce_9 (kd_c _ hi).1.1)]; exact hD
      have hv : Iv v_17 := by rw [ev_17]; exact hv.put (K := 9) (kd_c _ hi).1.1 (fun h q => by simp [bd] at q)
      refine lv_iconst (v := 1) hx hb dX0_endRound_75 (by decide) ?_
      have hpost : ((v (31 + 15 * i) 0).toInt ≤ (v (31 + 15 * i) 1).toInt → (1 : Int32) = 1 ∧ (∀ k j : Nat, v_17 k j = if k = 29 + 15 * i ∧ j = 1 then (v (31 + 15 * i) 0 + v (31 + 15 * i) 1) / 2 else if k = 29 + 15 * i ∧ j = 0 then 1 else if k = 29 + 15 * i ∧ j = 2 then v (29 + 15 * i) 2 + 1 else if k = 33 + 15 * i + 1 ∧ j = (v (29 + 15 * i) 2).toNatClampNeg then v (31 + 15 * i) 1 else if k = 33 + 15 * i + 0 ∧ j = (v (29 + 15 * i) 2).toNatClampNeg then v (31 + 15 * i) 0 else v k j)) ∧ ((v (31 + 15 * i) 1).toInt < (v (31 + 15 * i) 0).toInt → (1 : Int32) = 0 ∧ (∀ k j : Nat, v_17 k j = if k = 31 + 15 * i ∧ j = 1 then -1 else if k = 31 + 15 * i ∧ j = 0 then -1 else if k = 29 + 15 * i ∧ j = 2 then v (29 + 15 * i) 2 + 1 else if k = 33 + 15 * i + 1 ∧ j = (v (29 + 15 * i) 2).toNatClampNeg then v (31 + 15 * i) 1 else if k = 33 + 15 * i + 0 ∧ j = (v (29 + 15 * i) 2).toNatClampNeg then v (31 + 15 * i) 0 else v k j)) := by
        refine ⟨fun hq => ?_, fun hq => ?_⟩
        · exact ⟨rfl, fun k j => by rw [ev_17, up2, ev_14, up2, ev_12, up2, ev_9, up2, ev_7, up2, ex_16, ex_15, ex_1, ex_2, ex_11, ex_3]⟩
        · exfalso; omega
      exact W.zret (ty := .boolean) (v := 1) hx hb hr rfl (fun t ht hW => ⟨⟨1, v_17, rfl, ⟨hv, hpost⟩, by rw [ht]; exact hP, hD⟩, hS.F ht⟩) hS.2.2 dX0_endRound_76

set_option maxHeartbeats 4000000 in
set_option maxRecDepth 100000 in
theorem e_X7_offer_0 (l : Launch) (dC : Nat → ClassId) (dI : Nat → Nat → Nat) (cy : Nat → ClassId) (sz : Nat) (ad : Nat → Nat) (kv : Value) (N : Nat) (hN : 119 ≤ N) (v : Nat → Nat → Int32) (hv : Iv v) (x0 x1 : Int32) : Met l yX7_offer wsX7_offer ({ frames := 3, cells := 0, slots := 0, locals := 192 }) (va_Pc [.ref (ad 0), .int x0, .int 0, .int x1] (ex_Pre dC dI cy sz (wl ad kv cy N v))) (va_Qi (fun (r : Int32) (u : Nat → Nat → Int32) => Iv u ∧ (¬ ((0 ≤ x0.toInt ∧ x0.toInt < (v 13 2).toInt) ∧ 0 ≤ x1.toInt ∧ x1.toInt ≤ 100) → r = -1 ∧ u = v) ∧ (((0 ≤ x0.toInt ∧ x0.toInt < (v 13 2).toInt) ∧ 0 ≤ x1.toInt ∧ x1.toInt ≤ 100) ∧ (v (29 + 15 * x0.toNatClampNeg) 0).toInt ≠ 0 → r = -4 ∧ u = v) ∧ (((0 ≤ x0.toInt ∧ x0.toInt < (v 13 2).toInt) ∧ 0 ≤ x1.toInt ∧ x1.toInt ≤ 100) ∧ (v (29 + 15 * x0.toNatClampNeg) 0).toInt = 0 ∧ (v (31 + 15 * x0.toNatClampNeg) 0).toInt ≠ -1 → r = -3 ∧ u = v) ∧ (((0 ≤ x0.toInt ∧ x0.toInt < (v 13 2).toInt) ∧ 0 ≤ x1.toInt ∧ x1.toInt ≤ 100) ∧ (v (29 + 15 * x0.toNatClampNeg) 0).toInt = 0 ∧ (v (31 + 15 * x0.toNatClampNeg) 0).toInt = -1 ∧ 5 ≤ (v (29 + 15 * x0.toNatClampNeg) 2).toInt → r = -2 ∧ u = v) ∧ (((0 ≤ x0.toInt ∧ x0.toInt < (v 13 2).toInt) ∧ 0 ≤ x1.toInt ∧ x1.toInt ≤ 100) ∧ (v (29 + 15 * x0.toNatClampNeg) 0).toInt = 0 ∧ (v (31 + 15 * x0.toNatClampNeg) 0).toInt = -1 ∧ (v (29 + 15 * x0.toNatClampNeg) 2).toInt < 5 ∧ (v (31 + 15 * x0.toNatClampNeg) 1).toInt = -1 → r = 0 ∧ (∀ k j : Nat, u k j = if k = 31 + 15 * x0.toNatClampNeg ∧ j = 0 then x1 else v k j)) ∧ (((0 ≤ x0.toInt ∧ x0.toInt < (v 13 2).toInt) ∧ 0 ≤ x1.toInt ∧ x1.toInt ≤ 100) ∧ (v (29 + 15 * x0.toNatClampNeg) 0).toInt = 0 ∧ (v (31 + 15 * x0.toNatClampNeg) 0).toInt = -1 ∧ (v (29 + 15 * x0.toNatClampNeg) 2).toInt < 5 ∧ (v (31 + 15 * x0.toNatClampNeg) 1).toInt ≠ -1 ∧ (v (31 + 15 * x0.toNatClampNeg) 1).toInt < x1.toInt → r = 2 ∧ (∀ k j : Nat, u k j = if k = 31 + 15 * x0.toNatClampNeg ∧ j = 1 then -1 else if k = 31 + 15 * x0.toNatClampNeg ∧ j = 0 then -1 else if k = 29 + 15 * x0.toNatClampNeg ∧ j = 2 then v (29 + 15 * x0.toNatClampNeg) 2 + 1 else if k = 33 + 15 * x0.toNatClampNeg + 1 ∧ j = (v (29 + 15 * x0.toNatClampNeg) 2).toNatClampNeg then v (31 + 15 * x0.toNatClampNeg) 1 else if k = 33 + 15 * x0.toNatClampNeg + 0 ∧ j = (v (29 + 15 * x0.toNatClampNeg) 2).toNatClampNeg then x1 else if k = 31 + 15 * x0.toNatClampNeg ∧ j = 0 then x1 else v k j)) ∧ (((0 ≤ x0.toInt ∧ x0.toInt < (v 13 2).toInt) ∧ 0 ≤ x1.toInt ∧ x1.toInt ≤ 100) ∧ (v (29 + 15 * x0.toNatClampNeg) 0).toInt = 0 ∧ (v (31 + 15 * x0.toNatClampNeg) 0).toInt = -1 ∧ (v (29 + 15 * x0.toNatClampNeg) 2).toInt < 5 ∧ (v (31 + 15 * x0.toNatClampNeg) 1).toInt ≠ -1 ∧ x1.toInt ≤ (v (31 + 15 * x0.toNatClampNeg) 1).toInt → r = 1 ∧ (∀ k j : Nat, u k j = if k = 29 + 15 * x0.toNatClampNeg ∧ j = 1 then (x1 + v (31 + 15 * x0.toNatClampNeg) 1) / 2 else if k = 29 + 15 * x0.toNatClampNeg ∧ j = 0 then 1 else if k = 29 + 15 * x0.toNatClampNeg ∧ j = 2 then v (29 + 15 * x0.toNatClampNeg) 2 + 1 else if k = 33 + 15 * x0.toNatClampNeg + 1 ∧ j = (v (29 + 15 * x0.toNatClampNeg) 2).toNatClampNeg then v (31 + 15 * x0.toNatClampNeg) 1 else if k = 33 + 15 * x0.toNatClampNeg + 0 ∧ j = (v (29 + 15 * x0.toNatClampNeg) 2).toNatClampNeg then x1 else if k = 31 + 15 * x0.toNatClampNeg ∧ j = 0 then x1 else v k j))) (fun u t => ex_Pst dC dI (va_A (wl ad kv cy N v) sz) (wl ad kv cy N u) t) (va_A (wl ad kv cy N v) sz)) 0 0 (va_A (wl ad kv cy N v) sz) := by
  refine Met.ofW (cc := cX7_offer) (maxL := 5) (ret := (some .int)) (by decide) rfl ?_
  intro p e s m args below meth c s₁ B hml hv
  obtain ⟨rfl, hsz, hE, hP, hK, hD0⟩ := hv
  have hx := B.exec
  have hb := B.bytes
  have hr := B.returns
  have hts := atoms_spec (ws := wsX7_offer) B.pre
  have hown : s.vm.findClass RX7 = some m.cls := findClass_of_methodNamed B.named
  have hlocks := B.notSynchronized
  subst hsz
  have hD := hD0.self (sz := s.heap.size)
  generalize hAe : va_A (wl ad kv cy N v) s.heap.size = A at hD ⊢
  have hA : ∀ q : Nat, s.heap.size ≤ q → A q := fun q h => by rw [← hAe]; exact Or.inr h
  have hS : va_S A s.heap s.heap [] := va_S.rf
  have hP : va_P (dC, dI) vwCl (wl ad kv cy N v) s.heap := hP
  have hl := lv_entry ([.ref (ad 0), .int x0, .int 0, .int x1]) (n := 5) (Nat.le_of_ble_eq_true rfl)
  rw [lg_entry_eq]
  generalize (lg_sl ([.ref (ad 0), .int x0, .int 0, .int x1]) ++ List.replicate (5 - (lg_sl ([.ref (ad 0), .int x0, .int 0, .int x1])).length) Slot.unset).toArray = ls at hl ⊢
  have hl : lv_has ls 5 [(0, .ref (ad 0)), (1, .int x0), (2, .int 0), (3, .int x1)] := hl
  refine lv_aload_n hx hb dX7_offer_0 rfl (lv_at hl 0 rfl) ?_
  refine lv_iload_n hx hb dX7_offer_1 rfl (lv_at hl 1 rfl) ?_
  refine yw_i (w1 := fun (u : Nat → Nat → Int32) => wl ad kv cy N u) hD hS hA (va_runV (As := [.int x0]) (rest := []) ⟨hx, hb, hml, hown, hts⟩ (g_X7_isCase l dC dI cy _ ad kv N hN v hv x0) (cwV 1 hts gX7_offer_X7_isCase rfl rfl rfl hd_V_X7_isCase_1 ⟨Nat.le_of_ble_eq_true rfl, Nat.le_of_ble_eq_true rfl⟩) (yw_preV hE hK hP hD (ci := 7) (q := (RX7, TX7, 5)) (q0 := 0) rfl (wl_at (by omega) (ce_0 (by decide)))) rfl rfl hl.1 rfl (lv_room (Nat.le_of_ble_eq_true rfl)) dX7_offer_2 ⟨Nat.le_of_ble_eq_true rfl, Nat.le_of_ble_eq_true rfl⟩) (fun r_1 v_1 H locs hw_1 hP hD hS => ?_)
  obtain ⟨-, hu_1, hw_1⟩ := hw_1
  replace hu_1 := hu_1.symm
  subst hu_1
  rcases hw_1 with ⟨rfl, ha_2⟩ | ⟨rfl, ha_2⟩
  · have hb_2 := hv.at (k := 13) (j := 2) (K := 3) (by decide) rfl
    have hj_2 : 0 ≤ x0.toInt ∧ x0.toInt ≤ 5 := ⟨by omega, by omega⟩
    refine lv_if_eq (tgt := 25) hx hb dX7_offer_5 (by decide) (fun c9 => absurd c9 (by decide)) (fun _ => ?_)
    refine lv_iload_n hx hb dX7_offer_8 rfl (lv_at hl 2 rfl) ?_
    refine yc_p hP hS (va_runS (As := [.int 0]) (rest := []) ⟨hx, hb, hml, hown, hts⟩ (c_X7_isSide l 0) (cwS 1 hts gX7_offer_X7_isSide rfl rfl rfl hd_S_X7_isSide_1 ⟨Nat.le_of_ble_eq_true rfl, Nat.le_of_ble_eq_true rfl⟩) ex_preP rfl rfl hl.1 rfl (lv_room (Nat.le_of_ble_eq_true rfl)) dX7_offer_9 ⟨Nat.le_of_ble_eq_true rfl, Nat.le_of_ble_eq_true rfl⟩) (fun r_3 H locs hw_3 hP hS => ?_)
    rcases wi_ca hw_3 with ⟨rfl, hc_4⟩ | ⟨rfl, hc_4⟩
    · have k_0 : (0 : Int32).toInt = 0 := by decide
      have k_1 : (1 : Int32).toInt = 1 := by decide
      have tc_4 := wi_tl hc_4
      refine lv_if_eq (tgt := 25) hx hb dX7_offer_12 (by decide) (fun c9 => absurd c9 (by decide)) (fun _ => ?_)
      refine lv_iload_n hx hb dX7_offer_15 rfl (lv_at hl 3 rfl) ?_
      refine lv_iconst (v := 0) hx hb dX7_offer_16 (by decide) ?_
      refine lv_bipush (v := 100) hx hb dX7_offer_17 (by decide) ?_
      refine yc_p hP hS (va_runS (As := [.int x1, .int 0, .int 100]) (rest := []) ⟨hx, hb, hml, hown, hts⟩ (c_X7_isWithin l x1 0 100) (cwS 3 hts gX7_offer_X7_isWithin rfl rfl rfl hd_S_X7_isWithin_3 ⟨Nat.le_of_ble_eq_true rfl, Nat.le_of_ble_eq_true rfl⟩) ex_preP rfl rfl hl.1 rfl (lv_room (Nat.le_of_ble_eq_true rfl)) dX7_offer_19 ⟨Nat.le_of_ble_eq_true rfl, Nat.le_of_ble_eq_true rfl⟩) (fun r_5 H locs hw_5 hP hS => ?_)
      rcases wi_ca hw_5 with ⟨rfl, hc_6⟩ | ⟨rfl, hc_6⟩
      · have k_100 : (100 : Int32).toInt = 100 := by decide
        have tc_6 := wi_tl hc_6
        refine lv_if_ne (tgt := 27) hx hb dX7_offer_22 (by decide) (fun _ => ?_) (fun c9 => absurd c9 (by decide))
        refine lv_aload_n hx hb dX7_offer_27 rfl (lv_at hl 0 rfl) ?_
        refine va_get (D := (dC, dI)) (ci := 7) (v := .ref (ad 13)) (C := RX7) (T := TX7) (N := 5) hx hb hts iwX7_offer_X7 hown hK hP (0) (wl_at (by omega) (ce_0 (by decide))) rfl 0 (by decide) (hts (.fieldLink RX7 12 "QuietStairs" "now" "LQuietStairs$House;") fwX7_offer_1) (fun _ h9 => h9) rfl dX7_offer_28 ?_
        refine va_get (D := (dC, dI)) (ci := 1) (v := .ref (ad 16)) (C := RX1) (T := TX1) (N := 7) hx hb hts iwX7_offer_X1 hown hK hP (13) (wl_at (by omega) (ce_3 (by decide))) rfl 6 (by decide) (hts (.fieldLink RX7 86 "QuietStairs$House" "cases" "[LQuietStairs$Case;") fwX7_offer_2) (fun _ h9 => h9) rfl dX7_offer_31 ?_
        refine lv_iload_n hx hb dX7_offer_34 rfl (lv_at hl 1 rfl) ?_
        have zn_x0 : (x0.toNatClampNeg : Int) = x0.toInt := t_nn (by omega)
        have hx_7 : x0.toNatClampNeg < 6 := by omega
        refine va_aldq hx hb hK hP (16) 3 (wl_at (by omega) (ce_6 (by decide))) rfl (vp_in_iff.mpr ⟨by omega, by omega⟩) dX7_offer_35 ?_
        refine W.eq (g2 := F0 m 36 ls [.ref (ad (29 + 15 * x0.toNatClampNeg))]) (by rw [if_pos hx_7, show 16 + 13 + 15 * x0.toNatClampNeg = 29 + 15 * x0.toNatClampNeg from by omega]; rfl) ?_
        refine lv_astore (lv' := [(4, .ref (ad (29 + 15 * x0.toNatClampNeg))), (0, .ref (ad 0)), (1, .int x0), (2, .int 0), (3, .int x1)]) hx hb dX7_offer_36 hl (by decide) rfl (fun ls hl => ?_)
        refine lv_aload hx hb dX7_offer_38 (lv_at hl 0 rfl) ?_
        refine va_get (D := (dC, dI)) (ci := 0) (v := .int (v (29 + 15 * x0.toNatClampNeg) 0)) (C := RX0) (T := TX0) (N := 11) hx hb hts iwX7_offer_X0 hown hK hP (29 + 15 * x0.toNatClampNeg) (wl_at (by omega) (ce_9 (kd_c _ hx_7).1.1)) rfl 0 (by decide) (hts (.fieldLink RX7 99 "QuietStairs$Case" "state" "I") fwX7_offer_3) (fun _ h9 => h9) rfl dX7_offer_40 ?_
        refine lv_topi (fun x_8 ex_8 => ?_)
        have qx_8 : x_8.toInt = (v (29 + 15 * x0.toNatClampNeg) (0)).toInt := congrArg Int32.toInt ex_8
        refine lv_if_eq (tgt := 49) hx hb dX7_offer_43 (by decide) (fun c_9 => ?_) (fun c_9 => ?_)
        · have tc_9 : x_8.toInt = (0 : Int32).toInt := by rw [c_9]
          refine lv_aload hx hb dX7_offer_49 (lv_at hl 0 rfl) ?_
          refine va_get (D := (dC, dI)) (ci := 0) (v := .ref (ad (29 + 15 * x0.toNatClampNeg + 2))) (C := RX0) (T := TX0) (N := 11) hx hb hts iwX7_offer_X0 hown hK hP (29 + 15 * x0.toNatClampNeg) (wl_at (by omega) (ce_9 (kd_c _ hx_7).1.1)) rfl 7 (by decide) (hts (.fieldLink RX7 135 "QuietStairs$Case" "box" "[I") fwX7_offer_4) (fun _ h9 => h9) rfl dX7_offer_51 ?_
          refine W.eq (g2 := F0 m 54 ls [.ref (ad (31 + 15 * x0.toNatClampNeg))]) (by rw [show 29 + 15 * x0.toNatClampNeg + 2 = 31 + 15 * x0.toNatClampNeg from by omega]) ?_
          refine lv_iload_n hx hb dX7_offer_54 rfl (lv_at hl 3 rfl) ?_
          refine va_iald hx hb hK hP (31 + 15 * x0.toNatClampNeg) 0 (wl_at (by omega) (ce_20 (kd_c _ hx_7).1.2.2.1)) rfl (by unfold vp_in; decide) dX7_offer_55 ?_
          refine lv_topi (fun x_10 ex_10 => ?_)
          have ex_10 : x_10 = v (31 + 15 * x0.toNatClampNeg) 0 := ex_10
          have qx_10 : x_10.toInt = (v (31 + 15 * x0.toNatClampNeg) (0)).toInt := congrArg Int32.toInt ex_10
          refine lv_iconst (v := (-1)) hx hb dX7_offer_56 (by decide) ?_
          have k_m1 : ((-1) : Int32).toInt = -1 := by decide
          refine lv_icmp_eq (tgt := 63) hx hb dX7_offer_57 (by decide) (fun c_11 => ?_) (fun c_11 => ?_)
          · have tc_11 : x_10.toInt = ((-1) : Int32).toInt := by rw [c_11]
            refine lv_aload hx hb dX7_offer_63 (lv_at hl 0 rfl) ?_
            refine va_get (D := (dC, dI)) (ci := 0) (v := .int (v (29 + 15 * x0.toNatClampNeg) 2)) (C := RX0) (T := TX0) (N := 11) hx hb hts iwX7_offer_X0 hown hK hP (29 + 15 * x0.toNatClampNeg) (wl_at (by omega) (ce_9 (kd_c _ hx_7).1.1)) rfl 2 (by decide) (hts (.fieldLink RX7 117 "QuietStairs$Case" "roundsOver" "I") fwX7_offer_5) (fun _ h9 => h9) rfl dX7_offer_65 ?_
            refine lv_topi (fun x_12 ex_12 => ?_)
            have bzx_12 : 0 ≤ x_12.toInt ∧ x_12.toInt ≤ 5 := by rw [ex_12]; exact hv.at (K := 9) (kd_c _ hx_7).1.1 rfl
            have qx_12 : x_12.toInt = (v (29 + 15 * x0.toNatClampNeg) (2)).toInt := congrArg Int32.toInt ex_12
            refine lv_iconst (v := 5) hx hb dX7_offer_68 (by decide) ?_
            have k_5 : (5 : Int32).toInt = 5 := by decide
            refine lv_icmp_lt (tgt := 75) hx hb dX7_offer_69 (by decide) (fun c_13 => ?_) (fun c_13 => ?_)
            · have tc_13 : x_12.toInt < (5 : Int32).toInt := Int32.lt_iff_toInt_lt.mp c_13
              refine lv_aload hx hb dX7_offer_75 (lv_at hl 0 rfl) ?_
              refine va_get (D := (dC, dI)) (ci := 0) (v := .ref (ad (29 + 15 * x0.toNatClampNeg + 2))) (C := RX0) (T := TX0) (N := 11) hx hb hts iwX7_offer_X0 hown hK hP (29 + 15 * x0.toNatClampNeg) (wl_at (by omega) (ce_9 (kd_c _ hx_7).1.1)) rfl 7 (by decide) (hts (.fieldLink RX7 135 "QuietStairs$Case" "box" "[I") fwX7_offer_4) (fun _ h9 => h9) rfl dX7_offer_77 ?_
              refine W.eq (g2 := F0 m 80 ls [.ref (ad (31 + 15 * x0.toNatClampNeg))]) (by rw [show 29 + 15 * x0.toNatClampNeg + 2 = 31 + 15 * x0.toNatClampNeg from by omega]) ?_
              refine lv_iload_n hx hb dX7_offer_80 rfl (lv_at hl 3 rfl) ?_
              refine lv_iload_n hx hb dX7_offer_81 rfl (lv_at hl 4 rfl) ?_
              refine va_iast hx hb hK hP hD hS (31 + 15 * x0.toNatClampNeg) 0 (wl_at (by omega) (ce_20 (kd_c _ hx_7).1.2.2.1)) rfl (by unfold vp_in; decide) dX7_offer_82 (fun H locs hP hD hS => ?_)
              have hP : va_P (dC, dI) vwCl ((wl ad kv cy N v).set (31 + 15 * x0.toNatClampNeg) (ad (31 + 15 * x0.toNatClampNeg), .inl (cy 0, 2, .inl (upd (v (31 + 15 * x0.toNatClampNeg)) 0 x1)))) H := hP
              have hD : va_D A ((wl ad kv cy N v).set (31 + 15 * x0.toNatClampNeg) (ad (31 + 15 * x0.toNatClampNeg), .inl (cy 0, 2, .inl (upd (v (31 + 15 * x0.toNatClampNeg)) 0 x1)))) := hD
              obtain ⟨v_14, ev_14⟩ : ∃ u : Nat → Nat → Int32, u = upr v (31 + 15 * x0.toNatClampNeg) (upd (v (31 + 15 * x0.toNatClampNeg)) 0 x1) := ⟨_, rfl⟩
              have hP : va_P (dC, dI) vwCl (wl ad kv cy N v_14) H := by rw [ev_14, ← wl_put (e := _) (ce_20 (kd_c _ hx_7).1.2.2.1)]; exact hP
              have hD : va_D A (wl ad kv cy N v_14) := by rw [ev_14, ← wl_put (e := _) (ce_20 (kd_c _ hx_7).1.2.2.1)]; exact hD
              have hv : Iv v_14 := by rw [ev_14]; exact hv.put (K := 20) (kd_c _ hx_7).1.2.2.1 (fun h q => by simp [bd] at q)
              refine lv_aload hx hb dX7_offer_83 (lv_at hl 0 rfl) ?_
              refine va_get (D := (dC, dI)) (ci := 0) (v := .ref (ad (29 + 15 * x0.toNatClampNeg + 2))) (C := RX0) (T := TX0) (N := 11) hx hb hts iwX7_offer_X0 hown hK hP (29 + 15 * x0.toNatClampNeg) (wl_at (by omega) (ce_9 (kd_c _ hx_7).1.1)) rfl 7 (by decide) (hts (.fieldLink RX7 135 "QuietStairs$Case" "box" "[I") fwX7_offer_4) (fun _ h9 => h9) rfl dX7_offer_85 ?_
              refine W.eq (g2 := F0 m 88 ls [.ref (ad (31 + 15 * x0.toNatClampNeg))]) (by rw [show 29 + 15 * x0.toNatClampNeg + 2 = 31 + 15 * x0.toNatClampNeg from by omega]) ?_
              refine lv_iconst (v := 1) hx hb dX7_offer_88 (by decide) ?_
              refine lv_iload_n hx hb dX7_offer_89 rfl (lv_at hl 3 rfl) ?_
              refine lv_isub hx hb dX7_offer_90 ?_
              refine lv_topi (fun x_15 ex_15 => ?_)
              obtain rfl : x_15 = 1 := ex_15.trans (by decide)
              refine va_iald hx hb hK hP (31 + 15 * x0.toNatClampNeg) 0 (wl_at (by omega) (ce_20 (kd_c _ hx_7).1.2.2.1)) rfl (by unfold vp_in; decide) dX7_offer_91 ?_
              refine lv_topi (fun x_16 ex_16 => ?_)
              have ex_16 : x_16 = v_14 (31 + 15 * x0.toNatClampNeg) 1 := ex_16
              rw [ev_14, upr_s, pk_un (by decide)] at ex_16
              have qx_16 : x_16.toInt = (v (31 + 15 * x0.toNatClampNeg) (1)).toInt := congrArg Int32.toInt ex_16
              refine lv_iconst (v := (-1)) hx hb dX7_offer_92 (by decide) ?_
              refine lv_icmp_ne (tgt := 98) hx hb dX7_offer_93 (by decide) (fun c_17 => ?_) (fun c_17 => ?_)
              · have tc_17 : x_16.toInt ≠ ((-1) : Int32).toInt := fun q => absurd (Int32.toInt_inj.mp q) c_17
                refine lv_aload hx hb dX7_offer_98 (lv_at hl 0 rfl) ?_
                have hx2 : v_14 (29 + 15 * x0.toNatClampNeg) 2 = v (29 + 15 * x0.toNatClampNeg) 2 := by rw [ev_14, upr_n (by omega)]
                have hx1 : v_14 (31 + 15 * x0.toNatClampNeg) 0 = x1 := by rw [ev_14, upr_s, pk_us]
                have hx0 : v_14 (31 + 15 * x0.toNatClampNeg) 1 = v (31 + 15 * x0.toNatClampNeg) 1 := by rw [ev_14, upr_s, pk_un (by decide)]
                refine yw_i (w1 := fun (u : Nat → Nat → Int32) => wl ad kv cy N u) hD hS hA (va_runV (As := []) (rest := []) ⟨hx, hb, hml, hown, hts⟩ (e_X0_endRound l dC dI cy _ ad kv N hN v_14 hv x0.toNatClampNeg hx_7 (by rw [hx2]; omega)) (cwV 0 hts gX7_offer_X0_endRound rfl rfl rfl hd_V_X0_endRound_0 ⟨Nat.le_of_ble_eq_true rfl, Nat.le_of_ble_eq_true rfl⟩) (yw_preV hE hK hP hD (ci := 0) (q := (RX0, TX0, 11)) (q0 := (29 + 15 * x0.toNatClampNeg)) rfl (wl_at (by omega) (ce_9 (kd_c _ hx_7).1.1))) rfl rfl hl.1 rfl (lv_room (Nat.le_of_ble_eq_true rfl)) dX7_offer_100 ⟨Nat.le_of_ble_eq_true rfl, Nat.le_of_ble_eq_true rfl⟩) (fun r_18 v_18 H locs hw_18 hP hD hS => ?_)
                obtain ⟨hv, hw_18⟩ := hw_18
                rw [hx2, hx1, hx0] at hw_18
                rcases Int.lt_or_le (v (31 + 15 * x0.toNatClampNeg) 1).toInt x1.toInt with hlt_19 | hle_19
                · obtain ⟨rfl, hp_19⟩ := hw_18.2 hlt_19
                  refine lv_if_eq (tgt := 110) hx hb dX7_offer_103 (by decide) (fun _ => ?_) (fun c9 => absurd c9 (by decide))
                  refine lv_iconst (v := 2) hx hb dX7_offer_110 (by decide) ?_
                  have hpost : (¬ ((0 ≤ x0.toInt ∧ x0.toInt < (v 13 2).toInt) ∧ 0 ≤ x1.toInt ∧ x1.toInt ≤ 100) → (2 : Int32) = -1 ∧ v_18 = v) ∧ (((0 ≤ x0.toInt ∧ x0.toInt < (v 13 2).toInt) ∧ 0 ≤ x1.toInt ∧ x1.toInt ≤ 100) ∧ (v (29 + 15 * x0.toNatClampNeg) 0).toInt ≠ 0 → (2 : Int32) = -4 ∧ v_18 = v) ∧ (((0 ≤ x0.toInt ∧ x0.toInt < (v 13 2).toInt) ∧ 0 ≤ x1.toInt ∧ x1.toInt ≤ 100) ∧ (v (29 + 15 * x0.toNatClampNeg) 0).toInt = 0 ∧ (v (31 + 15 * x0.toNatClampNeg) 0).toInt ≠ -1 → (2 : Int32) = -3 ∧ v_18 = v) ∧ (((0 ≤ x0.toInt ∧ x0.toInt < (v 13 2).toInt) ∧ 0 ≤ x1.toInt ∧ x1.toInt ≤ 100) ∧ (v (29 + 15 * x0.toNatClampNeg) 0).toInt = 0 ∧ (v (31 + 15 * x0.toNatClampNeg) 0).toInt = -1 ∧ 5 ≤ (v (29 + 15 * x0.toNatClampNeg) 2).toInt → (2 : Int32) = -2 ∧ v_18 = v) ∧ (((0 ≤ x0.toInt ∧ x0.toInt < (v 13 2).toInt) ∧ 0 ≤ x1.toInt ∧ x1.toInt ≤ 100) ∧ (v (29 + 15 * x0.toNatClampNeg) 0).toInt = 0 ∧ (v (31 + 15 * x0.toNatClampNeg) 0).toInt = -1 ∧ (v (29 + 15 * x0.toNatClampNeg) 2).toInt < 5 ∧ (v (31 + 15 * x0.toNatClampNeg) 1).toInt = -1 → (2 : Int32) = 0 ∧ (∀ k j : Nat, v_18 k j = if k = 31 + 15 * x0.toNatClampNeg ∧ j = 0 then x1 else v k j)) ∧ (((0 ≤ x0.toInt ∧ x0.toInt < (v 13 2).toInt) ∧ 0 ≤ x1.toInt ∧ x1.toInt ≤ 100) ∧ (v (29 + 15 * x0.toNatClampNeg) 0).toInt = 0 ∧ (v (31 + 15 * x0.toNatClampNeg) 0).toInt = -1 ∧ (v (29 + 15 * x0.toNatClampNeg) 2).toInt < 5 ∧ (v (31 + 15 * x0.toNatClampNeg) 1).toInt ≠ -1 ∧ (v (31 + 15 * x0.toNatClampNeg) 1).toInt < x1.toInt → (2 : Int32) = 2 ∧ (∀ k j : Nat, v_18 k j = if k = 31 + 15 * x0.toNatClampNeg ∧ j = 1 then -1 else if k = 31 + 15 * x0.toNatClampNeg ∧ j = 0 then -1 else if k = 29 + 15 * x0.toNatClampNeg ∧ j = 2 then v (29 + 15 * x0.toNatClampNeg) 2 + 1 else if k = 33 + 15 * x0.toNatClampNeg + 1 ∧ j = (v (29 + 15 * x0.toNatClampNeg) 2).toNatClampNeg then v (31 + 15 * x0.toNatClampNeg) 1 else if k = 33 + 15 * x0.toNatClampNeg + 0 ∧ j = (v (29 + 15 * x0.toNatClampNeg) 2).toNatClampNeg then x1 else if k = 31 + 15 * x0.toNatClampNeg ∧ j = 0 then x1 else v k j)) ∧ (((0 ≤ x0.toInt ∧ x0.toInt < (v 13 2).toInt) ∧ 0 ≤ x1.toInt ∧ x1.toInt ≤ 100) ∧ (v (29 + 15 * x0.toNatClampNeg) 0).toInt = 0 ∧ (v (31 + 15 * x0.toNatClampNeg) 0).toInt = -1 ∧ (v (29 + 15 * x0.toNatClampNeg) 2).toInt < 5 ∧ (v (31 + 15 * x0.toNatClampNeg) 1).toInt ≠ -1 ∧ x1.toInt ≤ (v (31 + 15 * x0.toNatClampNeg) 1).toInt → (2 : Int32) = 1 ∧ (∀ k j : Nat, v_18 k j = if k = 29 + 15 * x0.toNatClampNeg ∧ j = 1 then (x1 + v (31 + 15 * x0.toNatClampNeg) 1) / 2 else if k = 29 + 15 * x0.toNatClampNeg ∧ j = 0 then 1 else if k = 29 + 15 * x0.toNatClampNeg ∧ j = 2 then v (29 + 15 * x0.toNatClampNeg) 2 + 1 else if k = 33 + 15 * x0.toNatClampNeg + 1 ∧ j = (v (29 + 15 * x0.toNatClampNeg) 2).toNatClampNeg then v (31 + 15 * x0.toNatClampNeg) 1 else if k = 33 + 15 * x0.toNatClampNeg + 0 ∧ j = (v (29 + 15 * x0.toNatClampNeg) 2).toNatClampNeg then x1 else if k = 31 + 15 * x0.toNatClampNeg ∧ j = 0 then x1 else v k j)) := by
                    refine ⟨fun hq => ?_, fun hq => ?_, fun hq => ?_, fun hq => ?_, fun hq => ?_, fun hq => ?_, fun hq => ?_⟩
                    · exfalso; omega
                    · exfalso; omega
                    · exfalso; omega
                    · exfalso; omega
                    · exfalso; omega
                    · exact ⟨rfl, fun k j => by rw [hp_19, ev_14, up2]⟩
                    · exfalso; omega
                  exact W.iret (v := 2) hx hb hr (fun t ht hW => ⟨⟨2, v_18, rfl, ⟨hv, hpost⟩, by rw [ht]; exact hP, hD⟩, hS.F ht⟩) hS.2.2 dX7_offer_111
                · obtain ⟨rfl, hp_19⟩ := hw_18.1 hle_19
                  refine lv_if_eq (tgt := 110) hx hb dX7_offer_103 (by decide) (fun c9 => absurd c9 (by decide)) (fun _ => ?_)
                  refine lv_iconst (v := 1) hx hb dX7_offer_106 (by decide) ?_
                  refine lv_goto (tgt := 111) hx hb dX7_offer_107 (by decide) ?_
                  have hpost : (¬ ((0 ≤ x0.toInt ∧ x0.toInt < (v 13 2).toInt) ∧ 0 ≤ x1.toInt ∧ x1.toInt ≤ 100) → (1 : Int32) = -1 ∧ v_18 = v) ∧ (((0 ≤ x0.toInt ∧ x0.toInt < (v 13 2).toInt) ∧ 0 ≤ x1.toInt ∧ x1.toInt ≤ 100) ∧ (v (29 + 15 * x0.toNatClampNeg) 0).toInt ≠ 0 → (1 : Int32) = -4 ∧ v_18 = v) ∧ (((0 ≤ x0.toInt ∧ x0.toInt < (v 13 2).toInt) ∧ 0 ≤ x1.toInt ∧ x1.toInt ≤ 100) ∧ (v (29 + 15 * x0.toNatClampNeg) 0).toInt = 0 ∧ (v (31 + 15 * x0.toNatClampNeg) 0).toInt ≠ -1 → (1 : Int32) = -3 ∧ v_18 = v) ∧ (((0 ≤ x0.toInt ∧ x0.toInt < (v 13 2).toInt) ∧ 0 ≤ x1.toInt ∧ x1.toInt ≤ 100) ∧ (v (29 + 15 * x0.toNatClampNeg) 0).toInt = 0 ∧ (v (31 + 15 * x0.toNatClampNeg) 0).toInt = -1 ∧ 5 ≤ (v (29 + 15 * x0.toNatClampNeg) 2).toInt → (1 : Int32) = -2 ∧ v_18 = v) ∧ (((0 ≤ x0.toInt ∧ x0.toInt < (v 13 2).toInt) ∧ 0 ≤ x1.toInt ∧ x1.toInt ≤ 100) ∧ (v (29 + 15 * x0.toNatClampNeg) 0).toInt = 0 ∧ (v (31 + 15 * x0.toNatClampNeg) 0).toInt = -1 ∧ (v (29 + 15 * x0.toNatClampNeg) 2).toInt < 5 ∧ (v (31 + 15 * x0.toNatClampNeg) 1).toInt = -1 → (1 : Int32) = 0 ∧ (∀ k j : Nat, v_18 k j = if k = 31 + 15 * x0.toNatClampNeg ∧ j = 0 then x1 else v k j)) ∧ (((0 ≤ x0.toInt ∧ x0.toInt < (v 13 2).toInt) ∧ 0 ≤ x1.toInt ∧ x1.toInt ≤ 100) ∧ (v (29 + 15 * x0.toNatClampNeg) 0).toInt = 0 ∧ (v (31 + 15 * x0.toNatClampNeg) 0).toInt = -1 ∧ (v (29 + 15 * x0.toNatClampNeg) 2).toInt < 5 ∧ (v (31 + 15 * x0.toNatClampNeg) 1).toInt ≠ -1 ∧ (v (31 + 15 * x0.toNatClampNeg) 1).toInt < x1.toInt → (1 : Int32) = 2 ∧ (∀ k j : Nat, v_18 k j = if k = 31 + 15 * x0.toNatClampNeg ∧ j = 1 then -1 else if k = 31 + 15 * x0.toNatClampNeg ∧ j = 0 then -1 else if k = 29 + 15 * x0.toNatClampNeg ∧ j = 2 then v (29 + 15 * x0.toNatClampNeg) 2 + 1 else if k = 33 + 15 * x0.toNatClampNeg + 1 ∧ j = (v (29 + 15 * x0.toNatClampNeg) 2).toNatClampNeg then v (31 + 15 * x0.toNatClampNeg) 1 else if k = 33 + 15 * x0.toNatClampNeg + 0 ∧ j = (v (29 + 15 * x0.toNatClampNeg) 2).toNatClampNeg then x1 else if k = 31 + 15 * x0.toNatClampNeg ∧ j = 0 then x1 else v k j)) ∧ (((0 ≤ x0.toInt ∧ x0.toInt < (v 13 2).toInt) ∧ 0 ≤ x1.toInt ∧ x1.toInt ≤ 100) ∧ (v (29 + 15 * x0.toNatClampNeg) 0).toInt = 0 ∧ (v (31 + 15 * x0.toNatClampNeg) 0).toInt = -1 ∧ (v (29 + 15 * x0.toNatClampNeg) 2).toInt < 5 ∧ (v (31 + 15 * x0.toNatClampNeg) 1).toInt ≠ -1 ∧ x1.toInt ≤ (v (31 + 15 * x0.toNatClampNeg) 1).toInt → (1 : Int32) = 1 ∧ (∀ k j : Nat, v_18 k j = if k = 29 + 15 * x0.toNatClampNeg ∧ j = 1 then (x1 + v (31 + 15 * x0.toNatClampNeg) 1) / 2 else if k = 29 + 15 * x0.toNatClampNeg ∧ j = 0 then 1 else if k = 29 + 15 * x0.toNatClampNeg ∧ j = 2 then v (29 + 15 * x0.toNatClampNeg) 2 + 1 else if k = 33 + 15 * x0.toNatClampNeg + 1 ∧ j = (v (29 + 15 * x0.toNatClampNeg) 2).toNatClampNeg then v (31 + 15 * x0.toNatClampNeg) 1 else if k = 33 + 15 * x0.toNatClampNeg + 0 ∧ j = (v (29 + 15 * x0.toNatClampNeg) 2).toNatClampNeg then x1 else if k = 31 + 15 * x0.toNatClampNeg ∧ j = 0 then x1 else v k j)) := by
                    refine ⟨fun hq => ?_, fun hq => ?_, fun hq => ?_, fun hq => ?_, fun hq => ?_, fun hq => ?_, fun hq => ?_⟩
                    · exfalso; omega
                    · exfalso; omega
                    · exfalso; omega
                    · exfalso; omega
                    · exfalso; omega
                    · exfalso; omega
                    · exact ⟨rfl, fun k j => by rw [hp_19, ev_14, up2]⟩
                  exact W.iret (v := 1) hx hb hr (fun t ht hW => ⟨⟨1, v_18, rfl, ⟨hv, hpost⟩, by rw [ht]; exact hP, hD⟩, hS.F ht⟩) hS.2.2 dX7_offer_111
              · have tc_17 : x_16.toInt = ((-1) : Int32).toInt := by rw [c_17]
                refine lv_iconst (v := 0) hx hb dX7_offer_96 (by decide) ?_
                have hpost : (¬ ((0 ≤ x0.toInt ∧ x0.toInt < (v 13 2).toInt) ∧ 0 ≤ x1.toInt ∧ x1.toInt ≤ 100) → (0 : Int32) = -1 ∧ v_14 = v) ∧ (((0 ≤ x0.toInt ∧ x0.toInt < (v 13 2).toInt) ∧ 0 ≤ x1.toInt ∧ x1.toInt ≤ 100) ∧ (v (29 + 15 * x0.toNatClampNeg) 0).toInt ≠ 0 → (0 : Int32) = -4 ∧ v_14 = v) ∧ (((0 ≤ x0.toInt ∧ x0.toInt < (v 13 2).toInt) ∧ 0 ≤ x1.toInt ∧ x1.toInt ≤ 100) ∧ (v (29 + 15 * x0.toNatClampNeg) 0).toInt = 0 ∧ (v (31 + 15 * x0.toNatClampNeg) 0).toInt ≠ -1 → (0 : Int32) = -3 ∧ v_14 = v) ∧ (((0 ≤ x0.toInt ∧ x0.toInt < (v 13 2).toInt) ∧ 0 ≤ x1.toInt ∧ x1.toInt ≤ 100) ∧ (v (29 + 15 * x0.toNatClampNeg) 0).toInt = 0 ∧ (v (31 + 15 * x0.toNatClampNeg) 0).toInt = -1 ∧ 5 ≤ (v (29 + 15 * x0.toNatClampNeg) 2).toInt → (0 : Int32) = -2 ∧ v_14 = v) ∧ (((0 ≤ x0.toInt ∧ x0.toInt < (v 13 2).toInt) ∧ 0 ≤ x1.toInt ∧ x1.toInt ≤ 100) ∧ (v (29 + 15 * x0.toNatClampNeg) 0).toInt = 0 ∧ (v (31 + 15 * x0.toNatClampNeg) 0).toInt = -1 ∧ (v (29 + 15 * x0.toNatClampNeg) 2).toInt < 5 ∧ (v (31 + 15 * x0.toNatClampNeg) 1).toInt = -1 → (0 : Int32) = 0 ∧ (∀ k j : Nat, v_14 k j = if k = 31 + 15 * x0.toNatClampNeg ∧ j = 0 then x1 else v k j)) ∧ (((0 ≤ x0.toInt ∧ x0.toInt < (v 13 2).toInt) ∧ 0 ≤ x1.toInt ∧ x1.toInt ≤ 100) ∧ (v (29 + 15 * x0.toNatClampNeg) 0).toInt = 0 ∧ (v (31 + 15 * x0.toNatClampNeg) 0).toInt = -1 ∧ (v (29 + 15 * x0.toNatClampNeg) 2).toInt < 5 ∧ (v (31 + 15 * x0.toNatClampNeg) 1).toInt ≠ -1 ∧ (v (31 + 15 * x0.toNatClampNeg) 1).toInt < x1.toInt → (0 : Int32) = 2 ∧ (∀ k j : Nat, v_14 k j = if k = 31 + 15 * x0.toNatClampNeg ∧ j = 1 then -1 else if k = 31 + 15 * x0.toNatClampNeg ∧ j = 0 then -1 else if k = 29 + 15 * x0.toNatClampNeg ∧ j = 2 then v (29 + 15 * x0.toNatClampNeg) 2 + 1 else if k = 33 + 15 * x0.toNatClampNeg + 1 ∧ j = (v (29 + 15 * x0.toNatClampNeg) 2).toNatClampNeg then v (31 + 15 * x0.toNatClampNeg) 1 else if k = 33 + 15 * x0.toNatClampNeg + 0 ∧ j = (v (29 + 15 * x0.toNatClampNeg) 2).toNatClampNeg then x1 else if k = 31 + 15 * x0.toNatClampNeg ∧ j = 0 then x1 else v k j)) ∧ (((0 ≤ x0.toInt ∧ x0.toInt < (v 13 2).toInt) ∧ 0 ≤ x1.toInt ∧ x1.toInt ≤ 100) ∧ (v (29 + 15 * x0.toNatClampNeg) 0).toInt = 0 ∧ (v (31 + 15 * x0.toNatClampNeg) 0).toInt = -1 ∧ (v (29 + 15 * x0.toNatClampNeg) 2).toInt < 5 ∧ (v (31 + 15 * x0.toNatClampNeg) 1).toInt ≠ -1 ∧ x1.toInt ≤ (v (31 + 15 * x0.toNatClampNeg) 1).toInt → (0 : Int32) = 1 ∧ (∀ k j : Nat, v_14 k j = if k = 29 + 15 * x0.toNatClampNeg ∧ j = 1 then (x1 + v (31 + 15 * x0.toNatClampNeg) 1) / 2 else if k = 29 + 15 * x0.toNatClampNeg ∧ j = 0 then 1 else if k = 29 + 15 * x0.toNatClampNeg ∧ j = 2 then v (29 + 15 * x0.toNatClampNeg) 2 + 1 else if k = 33 + 15 * x0.toNatClampNeg + 1 ∧ j = (v (29 + 15 * x0.toNatClampNeg) 2).toNatClampNeg then v (31 + 15 * x0.toNatClampNeg) 1 else if k = 33 + 15 * x0.toNatClampNeg + 0 ∧ j = (v (29 + 15 * x0.toNatClampNeg) 2).toNatClampNeg then x1 else if k = 31 + 15 * x0.toNatClampNeg ∧ j = 0 then x1 else v k j)) := by
                  refine ⟨fun hq => ?_, fun hq => ?_, fun hq => ?_, fun hq => ?_, fun hq => ?_, fun hq => ?_, fun hq => ?_⟩
                  · exfalso; omega
                  · exfalso; omega
                  · exfalso; omega
                  · exfalso; omega
                  · exact ⟨rfl, fun k j => by rw [ev_14, up2]⟩
                  · exfalso; omega
                  · exfalso; omega
                exact W.iret (v := 0) hx hb hr (fun t ht hW => ⟨⟨0, v_14, rfl, ⟨hv, hpost⟩, by rw [ht]; exact hP, hD⟩, hS.F ht⟩) hS.2.2 dX7_offer_97
            · have tc_13 : x_12.toInt ≥ (5 : Int32).toInt := Int32.le_iff_toInt_le.mp (Int32.not_lt.mp c_13)
              refine lv_bipush (v := (-2)) hx hb dX7_offer_72 (by decide) ?_
              have hpost : (¬ ((0 ≤ x0.toInt ∧ x0.toInt < (v 13 2).toInt) ∧ 0 ≤ x1.toInt ∧ x1.toInt ≤ 100) → ((-2) : Int32) = -1 ∧ v = v) ∧ (((0 ≤ x0.toInt ∧ x0.toInt < (v 13 2).toInt) ∧ 0 ≤ x1.toInt ∧ x1.toInt ≤ 100) ∧ (v (29 + 15 * x0.toNatClampNeg) 0).toInt ≠ 0 → ((-2) : Int32) = -4 ∧ v = v) ∧ (((0 ≤ x0.toInt ∧ x0.toInt < (v 13 2).toInt) ∧ 0 ≤ x1.toInt ∧ x1.toInt ≤ 100) ∧ (v (29 + 15 * x0.toNatClampNeg) 0).toInt = 0 ∧ (v (31 + 15 * x0.toNatClampNeg) 0).toInt ≠ -1 → ((-2) : Int32) = -3 ∧ v = v) ∧ (((0 ≤ x0.toInt ∧ x0.toInt < (v 13 2).toInt) ∧ 0 ≤ x1.toInt ∧ x1.toInt ≤ 100) ∧ (v (29 + 15 * x0.toNatClampNeg) 0).toInt = 0 ∧ (v (31 + 15 * x0.toNatClampNeg) 0).toInt = -1 ∧ 5 ≤ (v (29 + 15 * x0.toNatClampNeg) 2).toInt → ((-2) : Int32) = -2 ∧ v = v) ∧ (((0 ≤ x0.toInt ∧ x0.toInt < (v 13 2).toInt) ∧ 0 ≤ x1.toInt ∧ x1.toInt ≤ 100) ∧ (v (29 + 15 * x0.toNatClampNeg) 0).toInt = 0 ∧ (v (31 + 15 * x0.toNatClampNeg) 0).toInt = -1 ∧ (v (29 + 15 * x0.toNatClampNeg) 2).toInt < 5 ∧ (v (31 + 15 * x0.toNatClampNeg) 1).toInt = -1 → ((-2) : Int32) = 0 ∧ (∀ k j : Nat, v k j = if k = 31 + 15 * x0.toNatClampNeg ∧ j = 0 then x1 else v k j)) ∧ (((0 ≤ x0.toInt ∧ x0.toInt < (v 13 2).toInt) ∧ 0 ≤ x1.toInt ∧ x1.toInt ≤ 100) ∧ (v (29 + 15 * x0.toNatClampNeg) 0).toInt = 0 ∧ (v (31 + 15 * x0.toNatClampNeg) 0).toInt = -1 ∧ (v (29 + 15 * x0.toNatClampNeg) 2).toInt < 5 ∧ (v (31 + 15 * x0.toNatClampNeg) 1).toInt ≠ -1 ∧ (v (31 + 15 * x0.toNatClampNeg) 1).toInt < x1.toInt → ((-2) : Int32) = 2 ∧ (∀ k j : Nat, v k j = if k = 31 + 15 * x0.toNatClampNeg ∧ j = 1 then -1 else if k = 31 + 15 * x0.toNatClampNeg ∧ j = 0 then -1 else if k = 29 + 15 * x0.toNatClampNeg ∧ j = 2 then v (29 + 15 * x0.toNatClampNeg) 2 + 1 else if k = 33 + 15 * x0.toNatClampNeg + 1 ∧ j = (v (29 + 15 * x0.toNatClampNeg) 2).toNatClampNeg then v (31 + 15 * x0.toNatClampNeg) 1 else if k = 33 + 15 * x0.toNatClampNeg + 0 ∧ j = (v (29 + 15 * x0.toNatClampNeg) 2).toNatClampNeg then x1 else if k = 31 + 15 * x0.toNatClampNeg ∧ j = 0 then x1 else v k j)) ∧ (((0 ≤ x0.toInt ∧ x0.toInt < (v 13 2).toInt) ∧ 0 ≤ x1.toInt ∧ x1.toInt ≤ 100) ∧ (v (29 + 15 * x0.toNatClampNeg) 0).toInt = 0 ∧ (v (31 + 15 * x0.toNatClampNeg) 0).toInt = -1 ∧ (v (29 + 15 * x0.toNatClampNeg) 2).toInt < 5 ∧ (v (31 + 15 * x0.toNatClampNeg) 1).toInt ≠ -1 ∧ x1.toInt ≤ (v (31 + 15 * x0.toNatClampNeg) 1).toInt → ((-2) : Int32) = 1 ∧ (∀ k j : Nat, v k j = if k = 29 + 15 * x0.toNatClampNeg ∧ j = 1 then (x1 + v (31 + 15 * x0.toNatClampNeg) 1) / 2 else if k = 29 + 15 * x0.toNatClampNeg ∧ j = 0 then 1 else if k = 29 + 15 * x0.toNatClampNeg ∧ j = 2 then v (29 + 15 * x0.toNatClampNeg) 2 + 1 else if k = 33 + 15 * x0.toNatClampNeg + 1 ∧ j = (v (29 + 15 * x0.toNatClampNeg) 2).toNatClampNeg then v (31 + 15 * x0.toNatClampNeg) 1 else if k = 33 + 15 * x0.toNatClampNeg + 0 ∧ j = (v (29 + 15 * x0.toNatClampNeg) 2).toNatClampNeg then x1 else if k = 31 + 15 * x0.toNatClampNeg ∧ j = 0 then x1 else v k j)) := by
                refine ⟨fun hq => ?_, fun hq => ?_, fun hq => ?_, fun hq => ?_, fun hq => ?_, fun hq => ?_, fun hq => ?_⟩
                · exfalso; omega
                · exfalso; omega
                · exfalso; omega
                · exact ⟨rfl, rfl⟩
                · exfalso; omega
                · exfalso; omega
                · exfalso; omega
              exact W.iret (v := (-2)) hx hb hr (fun t ht hW => ⟨⟨(-2), v, rfl, ⟨hv, hpost⟩, by rw [ht]; exact hP, hD⟩, hS.F ht⟩) hS.2.2 dX7_offer_74
          · have tc_11 : x_10.toInt ≠ ((-1) : Int32).toInt := fun q => absurd (Int32.toInt_inj.mp q) c_11
            refine lv_bipush (v := (-3)) hx hb dX7_offer_60 (by decide) ?_
            have hpost : (¬ ((0 ≤ x0.toInt ∧ x0.toInt < (v 13 2).toInt) ∧ 0 ≤ x1.toInt ∧ x1.toInt ≤ 100) → ((-3) : Int32) = -1 ∧ v = v) ∧ (((0 ≤ x0.toInt ∧ x0.toInt < (v 13 2).toInt) ∧ 0 ≤ x1.toInt ∧ x1.toInt ≤ 100) ∧ (v (29 + 15 * x0.toNatClampNeg) 0).toInt ≠ 0 → ((-3) : Int32) = -4 ∧ v = v) ∧ (((0 ≤ x0.toInt ∧ x0.toInt < (v 13 2).toInt) ∧ 0 ≤ x1.toInt ∧ x1.toInt ≤ 100) ∧ (v (29 + 15 * x0.toNatClampNeg) 0).toInt = 0 ∧ (v (31 + 15 * x0.toNatClampNeg) 0).toInt ≠ -1 → ((-3) : Int32) = -3 ∧ v = v) ∧ (((0 ≤ x0.toInt ∧ x0.toInt < (v 13 2).toInt) ∧ 0 ≤ x1.toInt ∧ x1.toInt ≤ 100) ∧ (v (29 + 15 * x0.toNatClampNeg) 0).toInt = 0 ∧ (v (31 + 15 * x0.toNatClampNeg) 0).toInt = -1 ∧ 5 ≤ (v (29 + 15 * x0.toNatClampNeg) 2).toInt → ((-3) : Int32) = -2 ∧ v = v) ∧ (((0 ≤ x0.toInt ∧ x0.toInt < (v 13 2).toInt) ∧ 0 ≤ x1.toInt ∧ x1.toInt ≤ 100) ∧ (v (29 + 15 * x0.toNatClampNeg) 0).toInt = 0 ∧ (v (31 + 15 * x0.toNatClampNeg) 0).toInt = -1 ∧ (v (29 + 15 * x0.toNatClampNeg) 2).toInt < 5 ∧ (v (31 + 15 * x0.toNatClampNeg) 1).toInt = -1 → ((-3) : Int32) = 0 ∧ (∀ k j : Nat, v k j = if k = 31 + 15 * x0.toNatClampNeg ∧ j = 0 then x1 else v k j)) ∧ (((0 ≤ x0.toInt ∧ x0.toInt < (v 13 2).toInt) ∧ 0 ≤ x1.toInt ∧ x1.toInt ≤ 100) ∧ (v (29 + 15 * x0.toNatClampNeg) 0).toInt = 0 ∧ (v (31 + 15 * x0.toNatClampNeg) 0).toInt = -1 ∧ (v (29 + 15 * x0.toNatClampNeg) 2).toInt < 5 ∧ (v (31 + 15 * x0.toNatClampNeg) 1).toInt ≠ -1 ∧ (v (31 + 15 * x0.toNatClampNeg) 1).toInt < x1.toInt → ((-3) : Int32) = 2 ∧ (∀ k j : Nat, v k j = if k = 31 + 15 * x0.toNatClampNeg ∧ j = 1 then -1 else if k = 31 + 15 * x0.toNatClampNeg ∧ j = 0 then -1 else if k = 29 + 15 * x0.toNatClampNeg ∧ j = 2 then v (29 + 15 * x0.toNatClampNeg) 2 + 1 else if k = 33 + 15 * x0.toNatClampNeg + 1 ∧ j = (v (29 + 15 * x0.toNatClampNeg) 2).toNatClampNeg then v (31 + 15 * x0.toNatClampNeg) 1 else if k = 33 + 15 * x0.toNatClampNeg + 0 ∧ j = (v (29 + 15 * x0.toNatClampNeg) 2).toNatClampNeg then x1 else if k = 31 + 15 * x0.toNatClampNeg ∧ j = 0 then x1 else v k j)) ∧ (((0 ≤ x0.toInt ∧ x0.toInt < (v 13 2).toInt) ∧ 0 ≤ x1.toInt ∧ x1.toInt ≤ 100) ∧ (v (29 + 15 * x0.toNatClampNeg) 0).toInt = 0 ∧ (v (31 + 15 * x0.toNatClampNeg) 0).toInt = -1 ∧ (v (29 + 15 * x0.toNatClampNeg) 2).toInt < 5 ∧ (v (31 + 15 * x0.toNatClampNeg) 1).toInt ≠ -1 ∧ x1.toInt ≤ (v (31 + 15 * x0.toNatClampNeg) 1).toInt → ((-3) : Int32) = 1 ∧ (∀ k j : Nat, v k j = if k = 29 + 15 * x0.toNatClampNeg ∧ j = 1 then (x1 + v (31 + 15 * x0.toNatClampNeg) 1) / 2 else if k = 29 + 15 * x0.toNatClampNeg ∧ j = 0 then 1 else if k = 29 + 15 * x0.toNatClampNeg ∧ j = 2 then v (29 + 15 * x0.toNatClampNeg) 2 + 1 else if k = 33 + 15 * x0.toNatClampNeg + 1 ∧ j = (v (29 + 15 * x0.toNatClampNeg) 2).toNatClampNeg then v (31 + 15 * x0.toNatClampNeg) 1 else if k = 33 + 15 * x0.toNatClampNeg + 0 ∧ j = (v (29 + 15 * x0.toNatClampNeg) 2).toNatClampNeg then x1 else if k = 31 + 15 * x0.toNatClampNeg ∧ j = 0 then x1 else v k j)) := by
              refine ⟨fun hq => ?_, fun hq => ?_, fun hq => ?_, fun hq => ?_, fun hq => ?_, fun hq => ?_, fun hq => ?_⟩
              · exfalso; omega
              · exfalso; omega
              · exact ⟨rfl, rfl⟩
              · exfalso; omega
              · exfalso; omega
              · exfalso; omega
              · exfalso; omega
            exact W.iret (v := (-3)) hx hb hr (fun t ht hW => ⟨⟨(-3), v, rfl, ⟨hv, hpost⟩, by rw [ht]; exact hP, hD⟩, hS.F ht⟩) hS.2.2 dX7_offer_62
        · have tc_9 : x_8.toInt ≠ (0 : Int32).toInt := fun q => absurd (Int32.toInt_inj.mp q) c_9
          refine lv_bipush (v := (-4)) hx hb dX7_offer_46 (by decide) ?_
          have hpost : (¬ ((0 ≤ x0.toInt ∧ x0.toInt < (v 13 2).toInt) ∧ 0 ≤ x1.toInt ∧ x1.toInt ≤ 100) → ((-4) : Int32) = -1 ∧ v = v) ∧ (((0 ≤ x0.toInt ∧ x0.toInt < (v 13 2).toInt) ∧ 0 ≤ x1.toInt ∧ x1.toInt ≤ 100) ∧ (v (29 + 15 * x0.toNatClampNeg) 0).toInt ≠ 0 → ((-4) : Int32) = -4 ∧ v = v) ∧ (((0 ≤ x0.toInt ∧ x0.toInt < (v 13 2).toInt) ∧ 0 ≤ x1.toInt ∧ x1.toInt ≤ 100) ∧ (v (29 + 15 * x0.toNatClampNeg) 0).toInt = 0 ∧ (v (31 + 15 * x0.toNatClampNeg) 0).toInt ≠ -1 → ((-4) : Int32) = -3 ∧ v = v) ∧ (((0 ≤ x0.toInt ∧ x0.toInt < (v 13 2).toInt) ∧ 0 ≤ x1.toInt ∧ x1.toInt ≤ 100) ∧ (v (29 + 15 * x0.toNatClampNeg) 0).toInt = 0 ∧ (v (31 + 15 * x0.toNatClampNeg) 0).toInt = -1 ∧ 5 ≤ (v (29 + 15 * x0.toNatClampNeg) 2).toInt → ((-4) : Int32) = -2 ∧ v = v) ∧ (((0 ≤ x0.toInt ∧ x0.toInt < (v 13 2).toInt) ∧ 0 ≤ x1.toInt ∧ x1.toInt ≤ 100) ∧ (v (29 + 15 * x0.toNatClampNeg) 0).toInt = 0 ∧ (v (31 + 15 * x0.toNatClampNeg) 0).toInt = -1 ∧ (v (29 + 15 * x0.toNatClampNeg) 2).toInt < 5 ∧ (v (31 + 15 * x0.toNatClampNeg) 1).toInt = -1 → ((-4) : Int32) = 0 ∧ (∀ k j : Nat, v k j = if k = 31 + 15 * x0.toNatClampNeg ∧ j = 0 then x1 else v k j)) ∧ (((0 ≤ x0.toInt ∧ x0.toInt < (v 13 2).toInt) ∧ 0 ≤ x1.toInt ∧ x1.toInt ≤ 100) ∧ (v (29 + 15 * x0.toNatClampNeg) 0).toInt = 0 ∧ (v (31 + 15 * x0.toNatClampNeg) 0).toInt = -1 ∧ (v (29 + 15 * x0.toNatClampNeg) 2).toInt < 5 ∧ (v (31 + 15 * x0.toNatClampNeg) 1).toInt ≠ -1 ∧ (v (31 + 15 * x0.toNatClampNeg) 1).toInt < x1.toInt → ((-4) : Int32) = 2 ∧ (∀ k j : Nat, v k j = if k = 31 + 15 * x0.toNatClampNeg ∧ j = 1 then -1 else if k = 31 + 15 * x0.toNatClampNeg ∧ j = 0 then -1 else if k = 29 + 15 * x0.toNatClampNeg ∧ j = 2 then v (29 + 15 * x0.toNatClampNeg) 2 + 1 else if k = 33 + 15 * x0.toNatClampNeg + 1 ∧ j = (v (29 + 15 * x0.toNatClampNeg) 2).toNatClampNeg then v (31 + 15 * x0.toNatClampNeg) 1 else if k = 33 + 15 * x0.toNatClampNeg + 0 ∧ j = (v (29 + 15 * x0.toNatClampNeg) 2).toNatClampNeg then x1 else if k = 31 + 15 * x0.toNatClampNeg ∧ j = 0 then x1 else v k j)) ∧ (((0 ≤ x0.toInt ∧ x0.toInt < (v 13 2).toInt) ∧ 0 ≤ x1.toInt ∧ x1.toInt ≤ 100) ∧ (v (29 + 15 * x0.toNatClampNeg) 0).toInt = 0 ∧ (v (31 + 15 * x0.toNatClampNeg) 0).toInt = -1 ∧ (v (29 + 15 * x0.toNatClampNeg) 2).toInt < 5 ∧ (v (31 + 15 * x0.toNatClampNeg) 1).toInt ≠ -1 ∧ x1.toInt ≤ (v (31 + 15 * x0.toNatClampNeg) 1).toInt → ((-4) : Int32) = 1 ∧ (∀ k j : Nat, v k j = if k = 29 + 15 * x0.toNatClampNeg ∧ j = 1 then (x1 + v (31 + 15 * x0.toNatClampNeg) 1) / 2 else if k = 29 + 15 * x0.toNatClampNeg ∧ j = 0 then 1 else if k = 29 + 15 * x0.toNatClampNeg ∧ j = 2 then v (29 + 15 * x0.toNatClampNeg) 2 + 1 else if k = 33 + 15 * x0.toNatClampNeg + 1 ∧ j = (v (29 + 15 * x0.toNatClampNeg) 2).toNatClampNeg then v (31 + 15 * x0.toNatClampNeg) 1 else if k = 33 + 15 * x0.toNatClampNeg + 0 ∧ j = (v (29 + 15 * x0.toNatClampNeg) 2).toNatClampNeg then x1 else if k = 31 + 15 * x0.toNatClampNeg ∧ j = 0 then x1 else v k j)) := by
            refine ⟨fun hq => ?_, fun hq => ?_, fun hq => ?_, fun hq => ?_, fun hq => ?_, fun hq => ?_, fun hq => ?_⟩
            · exfalso; omega
            · exact ⟨rfl, rfl⟩
            · exfalso; omega
            · exfalso; omega
            · exfalso; omega
            · exfalso; omega
            · exfalso; omega
          exact W.iret (v := (-4)) hx hb hr (fun t ht hW => ⟨⟨(-4), v, rfl, ⟨hv, hpost⟩, by rw [ht]; exact hP, hD⟩, hS.F ht⟩) hS.2.2 dX7_offer_48
      · have k_100 : (100 : Int32).toInt = 100 := by decide
        have tc_6 : ¬ ((0 : Int32).toInt ≤ x1.toInt ∧ x1.toInt ≤ (100 : Int32).toInt) := fun q => hc_6 ⟨Int32.le_iff_toInt_le.mpr q.1, Int32.le_iff_toInt_le.mpr q.2⟩
        refine lv_if_ne (tgt := 27) hx hb dX7_offer_22 (by decide) (fun c9 => absurd c9 (by decide)) (fun _ => ?_)
        refine lv_iconst (v := (-1)) hx hb dX7_offer_25 (by decide) ?_
        have hpost : (¬ ((0 ≤ x0.toInt ∧ x0.toInt < (v 13 2).toInt) ∧ 0 ≤ x1.toInt ∧ x1.toInt ≤ 100) → ((-1) : Int32) = -1 ∧ v = v) ∧ (((0 ≤ x0.toInt ∧ x0.toInt < (v 13 2).toInt) ∧ 0 ≤ x1.toInt ∧ x1.toInt ≤ 100) ∧ (v (29 + 15 * x0.toNatClampNeg) 0).toInt ≠ 0 → ((-1) : Int32) = -4 ∧ v = v) ∧ (((0 ≤ x0.toInt ∧ x0.toInt < (v 13 2).toInt) ∧ 0 ≤ x1.toInt ∧ x1.toInt ≤ 100) ∧ (v (29 + 15 * x0.toNatClampNeg) 0).toInt = 0 ∧ (v (31 + 15 * x0.toNatClampNeg) 0).toInt ≠ -1 → ((-1) : Int32) = -3 ∧ v = v) ∧ (((0 ≤ x0.toInt ∧ x0.toInt < (v 13 2).toInt) ∧ 0 ≤ x1.toInt ∧ x1.toInt ≤ 100) ∧ (v (29 + 15 * x0.toNatClampNeg) 0).toInt = 0 ∧ (v (31 + 15 * x0.toNatClampNeg) 0).toInt = -1 ∧ 5 ≤ (v (29 + 15 * x0.toNatClampNeg) 2).toInt → ((-1) : Int32) = -2 ∧ v = v) ∧ (((0 ≤ x0.toInt ∧ x0.toInt < (v 13 2).toInt) ∧ 0 ≤ x1.toInt ∧ x1.toInt ≤ 100) ∧ (v (29 + 15 * x0.toNatClampNeg) 0).toInt = 0 ∧ (v (31 + 15 * x0.toNatClampNeg) 0).toInt = -1 ∧ (v (29 + 15 * x0.toNatClampNeg) 2).toInt < 5 ∧ (v (31 + 15 * x0.toNatClampNeg) 1).toInt = -1 → ((-1) : Int32) = 0 ∧ (∀ k j : Nat, v k j = if k = 31 + 15 * x0.toNatClampNeg ∧ j = 0 then x1 else v k j)) ∧ (((0 ≤ x0.toInt ∧ x0.toInt < (v 13 2).toInt) ∧ 0 ≤ x1.toInt ∧ x1.toInt ≤ 100) ∧ (v (29 + 15 * x0.toNatClampNeg) 0).toInt = 0 ∧ (v (31 + 15 * x0.toNatClampNeg) 0).toInt = -1 ∧ (v (29 + 15 * x0.toNatClampNeg) 2).toInt < 5 ∧ (v (31 + 15 * x0.toNatClampNeg) 1).toInt ≠ -1 ∧ (v (31 + 15 * x0.toNatClampNeg) 1).toInt < x1.toInt → ((-1) : Int32) = 2 ∧ (∀ k j : Nat, v k j = if k = 31 + 15 * x0.toNatClampNeg ∧ j = 1 then -1 else if k = 31 + 15 * x0.toNatClampNeg ∧ j = 0 then -1 else if k = 29 + 15 * x0.toNatClampNeg ∧ j = 2 then v (29 + 15 * x0.toNatClampNeg) 2 + 1 else if k = 33 + 15 * x0.toNatClampNeg + 1 ∧ j = (v (29 + 15 * x0.toNatClampNeg) 2).toNatClampNeg then v (31 + 15 * x0.toNatClampNeg) 1 else if k = 33 + 15 * x0.toNatClampNeg + 0 ∧ j = (v (29 + 15 * x0.toNatClampNeg) 2).toNatClampNeg then x1 else if k = 31 + 15 * x0.toNatClampNeg ∧ j = 0 then x1 else v k j)) ∧ (((0 ≤ x0.toInt ∧ x0.toInt < (v 13 2).toInt) ∧ 0 ≤ x1.toInt ∧ x1.toInt ≤ 100) ∧ (v (29 + 15 * x0.toNatClampNeg) 0).toInt = 0 ∧ (v (31 + 15 * x0.toNatClampNeg) 0).toInt = -1 ∧ (v (29 + 15 * x0.toNatClampNeg) 2).toInt < 5 ∧ (v (31 + 15 * x0.toNatClampNeg) 1).toInt ≠ -1 ∧ x1.toInt ≤ (v (31 + 15 * x0.toNatClampNeg) 1).toInt → ((-1) : Int32) = 1 ∧ (∀ k j : Nat, v k j = if k = 29 + 15 * x0.toNatClampNeg ∧ j = 1 then (x1 + v (31 + 15 * x0.toNatClampNeg) 1) / 2 else if k = 29 + 15 * x0.toNatClampNeg ∧ j = 0 then 1 else if k = 29 + 15 * x0.toNatClampNeg ∧ j = 2 then v (29 + 15 * x0.toNatClampNeg) 2 + 1 else if k = 33 + 15 * x0.toNatClampNeg + 1 ∧ j = (v (29 + 15 * x0.toNatClampNeg) 2).toNatClampNeg then v (31 + 15 * x0.toNatClampNeg) 1 else if k = 33 + 15 * x0.toNatClampNeg + 0 ∧ j = (v (29 + 15 * x0.toNatClampNeg) 2).toNatClampNeg then x1 else if k = 31 + 15 * x0.toNatClampNeg ∧ j = 0 then x1 else v k j)) := by
          refine ⟨fun hq => ?_, fun hq => ?_, fun hq => ?_, fun hq => ?_, fun hq => ?_, fun hq => ?_, fun hq => ?_⟩
          · exact ⟨rfl, rfl⟩
          · exfalso; omega
          · exfalso; omega
          · exfalso; omega
          · exfalso; omega
          · exfalso; omega
          · exfalso; omega
        exact W.iret (v := (-1)) hx hb hr (fun t ht hW => ⟨⟨(-1), v, rfl, ⟨hv, hpost⟩, by rw [ht]; exact hP, hD⟩, hS.F ht⟩) hS.2.2 dX7_offer_26
    · have k_0 : (0 : Int32).toInt = 0 := by decide
      have k_1 : (1 : Int32).toInt = 1 := by decide
      have tc_4 : ¬ ((0 : Int32).toInt ≤ (0 : Int32).toInt ∧ (0 : Int32).toInt ≤ (1 : Int32).toInt) := fun q => hc_4 ⟨Int32.le_iff_toInt_le.mpr q.1, Int32.le_iff_toInt_le.mpr q.2⟩
      refine lv_if_eq (tgt := 25) hx hb dX7_offer_12 (by decide) (fun _ => ?_) (fun c9 => absurd c9 (by decide))
      refine lv_iconst (v := (-1)) hx hb dX7_offer_25 (by decide) ?_
      have hpost : (¬ ((0 ≤ x0.toInt ∧ x0.toInt < (v 13 2).toInt) ∧ 0 ≤ x1.toInt ∧ x1.toInt ≤ 100) → ((-1) : Int32) = -1 ∧ v = v) ∧ (((0 ≤ x0.toInt ∧ x0.toInt < (v 13 2).toInt) ∧ 0 ≤ x1.toInt ∧ x1.toInt ≤ 100) ∧ (v (29 + 15 * x0.toNatClampNeg) 0).toInt ≠ 0 → ((-1) : Int32) = -4 ∧ v = v) ∧ (((0 ≤ x0.toInt ∧ x0.toInt < (v 13 2).toInt) ∧ 0 ≤ x1.toInt ∧ x1.toInt ≤ 100) ∧ (v (29 + 15 * x0.toNatClampNeg) 0).toInt = 0 ∧ (v (31 + 15 * x0.toNatClampNeg) 0).toInt ≠ -1 → ((-1) : Int32) = -3 ∧ v = v) ∧ (((0 ≤ x0.toInt ∧ x0.toInt < (v 13 2).toInt) ∧ 0 ≤ x1.toInt ∧ x1.toInt ≤ 100) ∧ (v (29 + 15 * x0.toNatClampNeg) 0).toInt = 0 ∧ (v (31 + 15 * x0.toNatClampNeg) 0).toInt = -1 ∧ 5 ≤ (v (29 + 15 * x0.toNatClampNeg) 2).toInt → ((-1) : Int32) = -2 ∧ v = v) ∧ (((0 ≤ x0.toInt ∧ x0.toInt < (v 13 2).toInt) ∧ 0 ≤ x1.toInt ∧ x1.toInt ≤ 100) ∧ (v (29 + 15 * x0.toNatClampNeg) 0).toInt = 0 ∧ (v (31 + 15 * x0.toNatClampNeg) 0).toInt = -1 ∧ (v (29 + 15 * x0.toNatClampNeg) 2).toInt < 5 ∧ (v (31 + 15 * x0.toNatClampNeg) 1).toInt = -1 → ((-1) : Int32) = 0 ∧ (∀ k j : Nat, v k j = if k = 31 + 15 * x0.toNatClampNeg ∧ j = 0 then x1 else v k j)) ∧ (((0 ≤ x0.toInt ∧ x0.toInt < (v 13 2).toInt) ∧ 0 ≤ x1.toInt ∧ x1.toInt ≤ 100) ∧ (v (29 + 15 * x0.toNatClampNeg) 0).toInt = 0 ∧ (v (31 + 15 * x0.toNatClampNeg) 0).toInt = -1 ∧ (v (29 + 15 * x0.toNatClampNeg) 2).toInt < 5 ∧ (v (31 + 15 * x0.toNatClampNeg) 1).toInt ≠ -1 ∧ (v (31 + 15 * x0.toNatClampNeg) 1).toInt < x1.toInt → ((-1) : Int32) = 2 ∧ (∀ k j : Nat, v k j = if k = 31 + 15 * x0.toNatClampNeg ∧ j = 1 then -1 else if k = 31 + 15 * x0.toNatClampNeg ∧ j = 0 then -1 else if k = 29 + 15 * x0.toNatClampNeg ∧ j = 2 then v (29 + 15 * x0.toNatClampNeg) 2 + 1 else if k = 33 + 15 * x0.toNatClampNeg + 1 ∧ j = (v (29 + 15 * x0.toNatClampNeg) 2).toNatClampNeg then v (31 + 15 * x0.toNatClampNeg) 1 else if k = 33 + 15 * x0.toNatClampNeg + 0 ∧ j = (v (29 + 15 * x0.toNatClampNeg) 2).toNatClampNeg then x1 else if k = 31 + 15 * x0.toNatClampNeg ∧ j = 0 then x1 else v k j)) ∧ (((0 ≤ x0.toInt ∧ x0.toInt < (v 13 2).toInt) ∧ 0 ≤ x1.toInt ∧ x1.toInt ≤ 100) ∧ (v (29 + 15 * x0.toNatClampNeg) 0).toInt = 0 ∧ (v (31 + 15 * x0.toNatClampNeg) 0).toInt = -1 ∧ (v (29 + 15 * x0.toNatClampNeg) 2).toInt < 5 ∧ (v (31 + 15 * x0.toNatClampNeg) 1).toInt ≠ -1 ∧ x1.toInt ≤ (v (31 + 15 * x0.toNatClampNeg) 1).toInt → ((-1) : Int32) = 1 ∧ (∀ k j : Nat, v k j = if k = 29 + 15 * x0.toNatClampNeg ∧ j = 1 then (x1 + v (31 + 15 * x0.toNatClampNeg) 1) / 2 else if k = 29 + 15 * x0.toNatClampNeg ∧ j = 0 then 1 else if k = 29 + 15 * x0.toNatClampNeg ∧ j = 2 then v (29 + 15 * x0.toNatClampNeg) 2 + 1 else if k = 33 + 15 * x0.toNatClampNeg + 1 ∧ j = (v (29 + 15 * x0.toNatClampNeg) 2).toNatClampNeg then v (31 + 15 * x0.toNatClampNeg) 1 else if k = 33 + 15 * x0.toNatClampNeg + 0 ∧ j = (v (29 + 15 * x0.toNatClampNeg) 2).toNatClampNeg then x1 else if k = 31 + 15 * x0.toNatClampNeg ∧ j = 0 then x1 else v k j)) := by
        refine ⟨fun hq => ?_, fun hq => ?_, fun hq => ?_, fun hq => ?_, fun hq => ?_, fun hq => ?_, fun hq => ?_⟩
        · exact ⟨rfl, rfl⟩
        · exfalso; omega
        · exfalso; omega
        · exfalso; omega
        · exfalso; omega
        · exfalso; omega
        · exfalso; omega
      exact W.iret (v := (-1)) hx hb hr (fun t ht hW => ⟨⟨(-1), v, rfl, ⟨hv, hpost⟩, by rw [ht]; exact hP, hD⟩, hS.F ht⟩) hS.2.2 dX7_offer_26
  · refine lv_if_eq (tgt := 25) hx hb dX7_offer_5 (by decide) (fun _ => ?_) (fun c9 => absurd c9 (by decide))
    refine lv_iconst (v := (-1)) hx hb dX7_offer_25 (by decide) ?_
    have hpost : (¬ ((0 ≤ x0.toInt ∧ x0.toInt < (v 13 2).toInt) ∧ 0 ≤ x1.toInt ∧ x1.toInt ≤ 100) → ((-1) : Int32) = -1 ∧ v = v) ∧ (((0 ≤ x0.toInt ∧ x0.toInt < (v 13 2).toInt) ∧ 0 ≤ x1.toInt ∧ x1.toInt ≤ 100) ∧ (v (29 + 15 * x0.toNatClampNeg) 0).toInt ≠ 0 → ((-1) : Int32) = -4 ∧ v = v) ∧ (((0 ≤ x0.toInt ∧ x0.toInt < (v 13 2).toInt) ∧ 0 ≤ x1.toInt ∧ x1.toInt ≤ 100) ∧ (v (29 + 15 * x0.toNatClampNeg) 0).toInt = 0 ∧ (v (31 + 15 * x0.toNatClampNeg) 0).toInt ≠ -1 → ((-1) : Int32) = -3 ∧ v = v) ∧ (((0 ≤ x0.toInt ∧ x0.toInt < (v 13 2).toInt) ∧ 0 ≤ x1.toInt ∧ x1.toInt ≤ 100) ∧ (v (29 + 15 * x0.toNatClampNeg) 0).toInt = 0 ∧ (v (31 + 15 * x0.toNatClampNeg) 0).toInt = -1 ∧ 5 ≤ (v (29 + 15 * x0.toNatClampNeg) 2).toInt → ((-1) : Int32) = -2 ∧ v = v) ∧ (((0 ≤ x0.toInt ∧ x0.toInt < (v 13 2).toInt) ∧ 0 ≤ x1.toInt ∧ x1.toInt ≤ 100) ∧ (v (29 + 15 * x0.toNatClampNeg) 0).toInt = 0 ∧ (v (31 + 15 * x0.toNatClampNeg) 0).toInt = -1 ∧ (v (29 + 15 * x0.toNatClampNeg) 2).toInt < 5 ∧ (v (31 + 15 * x0.toNatClampNeg) 1).toInt = -1 → ((-1) : Int32) = 0 ∧ (∀ k j : Nat, v k j = if k = 31 + 15 * x0.toNatClampNeg ∧ j = 0 then x1 else v k j)) ∧ (((0 ≤ x0.toInt ∧ x0.toInt < (v 13 2).toInt) ∧ 0 ≤ x1.toInt ∧ x1.toInt ≤ 100) ∧ (v (29 + 15 * x0.toNatClampNeg) 0).toInt = 0 ∧ (v (31 + 15 * x0.toNatClampNeg) 0).toInt = -1 ∧ (v (29 + 15 * x0.toNatClampNeg) 2).toInt < 5 ∧ (v (31 + 15 * x0.toNatClampNeg) 1).toInt ≠ -1 ∧ (v (31 + 15 * x0.toNatClampNeg) 1).toInt < x1.toInt → ((-1) : Int32) = 2 ∧ (∀ k j : Nat, v k j = if k = 31 + 15 * x0.toNatClampNeg ∧ j = 1 then -1 else if k = 31 + 15 * x0.toNatClampNeg ∧ j = 0 then -1 else if k = 29 + 15 * x0.toNatClampNeg ∧ j = 2 then v (29 + 15 * x0.toNatClampNeg) 2 + 1 else if k = 33 + 15 * x0.toNatClampNeg + 1 ∧ j = (v (29 + 15 * x0.toNatClampNeg) 2).toNatClampNeg then v (31 + 15 * x0.toNatClampNeg) 1 else if k = 33 + 15 * x0.toNatClampNeg + 0 ∧ j = (v (29 + 15 * x0.toNatClampNeg) 2).toNatClampNeg then x1 else if k = 31 + 15 * x0.toNatClampNeg ∧ j = 0 then x1 else v k j)) ∧ (((0 ≤ x0.toInt ∧ x0.toInt < (v 13 2).toInt) ∧ 0 ≤ x1.toInt ∧ x1.toInt ≤ 100) ∧ (v (29 + 15 * x0.toNatClampNeg) 0).toInt = 0 ∧ (v (31 + 15 * x0.toNatClampNeg) 0).toInt = -1 ∧ (v (29 + 15 * x0.toNatClampNeg) 2).toInt < 5 ∧ (v (31 + 15 * x0.toNatClampNeg) 1).toInt ≠ -1 ∧ x1.toInt ≤ (v (31 + 15 * x0.toNatClampNeg) 1).toInt → ((-1) : Int32) = 1 ∧ (∀ k j : Nat, v k j = if k = 29 + 15 * x0.toNatClampNeg ∧ j = 1 then (x1 + v (31 + 15 * x0.toNatClampNeg) 1) / 2 else if k = 29 + 15 * x0.toNatClampNeg ∧ j = 0 then 1 else if k = 29 + 15 * x0.toNatClampNeg ∧ j = 2 then v (29 + 15 * x0.toNatClampNeg) 2 + 1 else if k = 33 + 15 * x0.toNatClampNeg + 1 ∧ j = (v (29 + 15 * x0.toNatClampNeg) 2).toNatClampNeg then v (31 + 15 * x0.toNatClampNeg) 1 else if k = 33 + 15 * x0.toNatClampNeg + 0 ∧ j = (v (29 + 15 * x0.toNatClampNeg) 2).toNatClampNeg then x1 else if k = 31 + 15 * x0.toNatClampNeg ∧ j = 0 then x1 else v k j)) := by
      refine ⟨fun hq => ?_, fun hq => ?_, fun hq => ?_, fun hq => ?_, fun hq => ?_, fun hq => ?_, fun hq => ?_⟩
      · exact ⟨rfl, rfl⟩
      · exfalso; omega
      · exfalso; omega
      · exfalso; omega
      · exfalso; omega
      · exfalso; omega
      · exfalso; omega
    exact W.iret (v := (-1)) hx hb hr (fun t ht hW => ⟨⟨(-1), v, rfl, ⟨hv, hpost⟩, by rw [ht]; exact hP, hD⟩, hS.F ht⟩) hS.2.2 dX7_offer_26

set_option maxHeartbeats 4000000 in
set_option maxRecDepth 100000 in
theorem e_X7_offer_1 (l : Launch) (dC : Nat → ClassId) (dI : Nat → Nat → Nat) (cy : Nat → ClassId) (sz : Nat) (ad : Nat → Nat) (kv : Value) (N : Nat) (hN : 119 ≤ N) (v : Nat → Nat → Int32) (hv : Iv v) (x0 x1 : Int32) : Met l yX7_offer wsX7_offer ({ frames := 3, cells := 0, slots := 0, locals := 192 }) (va_Pc [.ref (ad 0), .int x0, .int 1, .int x1] (ex_Pre dC dI cy sz (wl ad kv cy N v))) (va_Qi (fun (r : Int32) (u : Nat → Nat → Int32) => Iv u ∧ (¬ ((0 ≤ x0.toInt ∧ x0.toInt < (v 13 2).toInt) ∧ 0 ≤ x1.toInt ∧ x1.toInt ≤ 100) → r = -1 ∧ u = v) ∧ (((0 ≤ x0.toInt ∧ x0.toInt < (v 13 2).toInt) ∧ 0 ≤ x1.toInt ∧ x1.toInt ≤ 100) ∧ (v (29 + 15 * x0.toNatClampNeg) 0).toInt ≠ 0 → r = -4 ∧ u = v) ∧ (((0 ≤ x0.toInt ∧ x0.toInt < (v 13 2).toInt) ∧ 0 ≤ x1.toInt ∧ x1.toInt ≤ 100) ∧ (v (29 + 15 * x0.toNatClampNeg) 0).toInt = 0 ∧ (v (31 + 15 * x0.toNatClampNeg) 1).toInt ≠ -1 → r = -3 ∧ u = v) ∧ (((0 ≤ x0.toInt ∧ x0.toInt < (v 13 2).toInt) ∧ 0 ≤ x1.toInt ∧ x1.toInt ≤ 100) ∧ (v (29 + 15 * x0.toNatClampNeg) 0).toInt = 0 ∧ (v (31 + 15 * x0.toNatClampNeg) 1).toInt = -1 ∧ 5 ≤ (v (29 + 15 * x0.toNatClampNeg) 2).toInt → r = -2 ∧ u = v) ∧ (((0 ≤ x0.toInt ∧ x0.toInt < (v 13 2).toInt) ∧ 0 ≤ x1.toInt ∧ x1.toInt ≤ 100) ∧ (v (29 + 15 * x0.toNatClampNeg) 0).toInt = 0 ∧ (v (31 + 15 * x0.toNatClampNeg) 1).toInt = -1 ∧ (v (29 + 15 * x0.toNatClampNeg) 2).toInt < 5 ∧ (v (31 + 15 * x0.toNatClampNeg) 0).toInt = -1 → r = 0 ∧ (∀ k j : Nat, u k j = if k = 31 + 15 * x0.toNatClampNeg ∧ j = 1 then x1 else v k j)) ∧ (((0 ≤ x0.toInt ∧ x0.toInt < (v 13 2).toInt) ∧ 0 ≤ x1.toInt ∧ x1.toInt ≤ 100) ∧ (v (29 + 15 * x0.toNatClampNeg) 0).toInt = 0 ∧ (v (31 + 15 * x0.toNatClampNeg) 1).toInt = -1 ∧ (v (29 + 15 * x0.toNatClampNeg) 2).toInt < 5 ∧ (v (31 + 15 * x0.toNatClampNeg) 0).toInt ≠ -1 ∧ x1.toInt < (v (31 + 15 * x0.toNatClampNeg) 0).toInt → r = 2 ∧ (∀ k j : Nat, u k j = if k = 31 + 15 * x0.toNatClampNeg ∧ j = 1 then -1 else if k = 31 + 15 * x0.toNatClampNeg ∧ j = 0 then -1 else if k = 29 + 15 * x0.toNatClampNeg ∧ j = 2 then v (29 + 15 * x0.toNatClampNeg) 2 + 1 else if k = 33 + 15 * x0.toNatClampNeg + 1 ∧ j = (v (29 + 15 * x0.toNatClampNeg) 2).toNatClampNeg then x1 else if k = 33 + 15 * x0.toNatClampNeg + 0 ∧ j = (v (29 + 15 * x0.toNatClampNeg) 2).toNatClampNeg then v (31 + 15 * x0.toNatClampNeg) 0 else if k = 31 + 15 * x0.toNatClampNeg ∧ j = 1 then x1 else v k j)) ∧ (((0 ≤ x0.toInt ∧ x0.toInt < (v 13 2).toInt) ∧ 0 ≤ x1.toInt ∧ x1.toInt ≤ 100) ∧ (v (29 + 15 * x0.toNatClampNeg) 0).toInt = 0 ∧ (v (31 + 15 * x0.toNatClampNeg) 1).toInt = -1 ∧ (v (29 + 15 * x0.toNatClampNeg) 2).toInt < 5 ∧ (v (31 + 15 * x0.toNatClampNeg) 0).toInt ≠ -1 ∧ (v (31 + 15 * x0.toNatClampNeg) 0).toInt ≤ x1.toInt → r = 1 ∧ (∀ k j : Nat, u k j = if k = 29 + 15 * x0.toNatClampNeg ∧ j = 1 then (v (31 + 15 * x0.toNatClampNeg) 0 + x1) / 2 else if k = 29 + 15 * x0.toNatClampNeg ∧ j = 0 then 1 else if k = 29 + 15 * x0.toNatClampNeg ∧ j = 2 then v (29 + 15 * x0.toNatClampNeg) 2 + 1 else if k = 33 + 15 * x0.toNatClampNeg + 1 ∧ j = (v (29 + 15 * x0.toNatClampNeg) 2).toNatClampNeg then x1 else if k = 33 + 15 * x0.toNatClampNeg + 0 ∧ j = (v (29 + 15 * x0.toNatClampNeg) 2).toNatClampNeg then v (31 + 15 * x0.toNatClampNeg) 0 else if k = 31 + 15 * x0.toNatClampNeg ∧ j = 1 then x1 else v k j))) (fun u t => ex_Pst dC dI (va_A (wl ad kv cy N v) sz) (wl ad kv cy N u) t) (va_A (wl ad kv cy N v) sz)) 0 0 (va_A (wl ad kv cy N v) sz) := by
  refine Met.ofW (cc := cX7_offer) (maxL := 5) (ret := (some .int)) (by decide) rfl ?_
  intro p e s m args below meth c s₁ B hml hv
  obtain ⟨rfl, hsz, hE, hP, hK, hD0⟩ := hv
  have hx := B.exec
  have hb := B.bytes
  have hr := B.returns
  have hts := atoms_spec (ws := wsX7_offer) B.pre
  have hown : s.vm.findClass RX7 = some m.cls := findClass_of_methodNamed B.named
  have hlocks := B.notSynchronized
  subst hsz
  have hD := hD0.self (sz := s.heap.size)
  generalize hAe : va_A (wl ad kv cy N v) s.heap.size = A at hD ⊢
  have hA : ∀ q : Nat, s.heap.size ≤ q → A q := fun q h => by rw [← hAe]; exact Or.inr h
  have hS : va_S A s.heap s.heap [] := va_S.rf
  have hP : va_P (dC, dI) vwCl (wl ad kv cy N v) s.heap := hP
  have hl := lv_entry ([.ref (ad 0), .int x0, .int 1, .int x1]) (n := 5) (Nat.le_of_ble_eq_true rfl)
  rw [lg_entry_eq]
  generalize (lg_sl ([.ref (ad 0), .int x0, .int 1, .int x1]) ++ List.replicate (5 - (lg_sl ([.ref (ad 0), .int x0, .int 1, .int x1])).length) Slot.unset).toArray = ls at hl ⊢
  have hl : lv_has ls 5 [(0, .ref (ad 0)), (1, .int x0), (2, .int 1), (3, .int x1)] := hl
  refine lv_aload_n hx hb dX7_offer_0 rfl (lv_at hl 0 rfl) ?_
  refine lv_iload_n hx hb dX7_offer_1 rfl (lv_at hl 1 rfl) ?_
  refine yw_i (w1 := fun (u : Nat → Nat → Int32) => wl ad kv cy N u) hD hS hA (va_runV (As := [.int x0]) (rest := []) ⟨hx, hb, hml, hown, hts⟩ (g_X7_isCase l dC dI cy _ ad kv N hN v hv x0) (cwV 1 hts gX7_offer_X7_isCase rfl rfl rfl hd_V_X7_isCase_1 ⟨Nat.le_of_ble_eq_true rfl, Nat.le_of_ble_eq_true rfl⟩) (yw_preV hE hK hP hD (ci := 7) (q := (RX7, TX7, 5)) (q0 := 0) rfl (wl_at (by omega) (ce_0 (by decide)))) rfl rfl hl.1 rfl (lv_room (Nat.le_of_ble_eq_true rfl)) dX7_offer_2 ⟨Nat.le_of_ble_eq_true rfl, Nat.le_of_ble_eq_true rfl⟩) (fun r_1 v_1 H locs hw_1 hP hD hS => ?_)
  obtain ⟨-, hu_1, hw_1⟩ := hw_1
  replace hu_1 := hu_1.symm
  subst hu_1
  rcases hw_1 with ⟨rfl, ha_2⟩ | ⟨rfl, ha_2⟩
  · have hb_2 := hv.at (k := 13) (j := 2) (K := 3) (by decide) rfl
    have hj_2 : 0 ≤ x0.toInt ∧ x0.toInt ≤ 5 := ⟨by omega, by omega⟩
    refine lv_if_eq (tgt := 25) hx hb dX7_offer_5 (by decide) (fun c9 => absurd c9 (by decide)) (fun _ => ?_)
    refine lv_iload_n hx hb dX7_offer_8 rfl (lv_at hl 2 rfl) ?_
    refine yc_p hP hS (va_runS (As := [.int 1]) (rest := []) ⟨hx, hb, hml, hown, hts⟩ (c_X7_isSide l 1) (cwS 1 hts gX7_offer_X7_isSide rfl rfl rfl hd_S_X7_isSide_1 ⟨Nat.le_of_ble_eq_true rfl, Nat.le_of_ble_eq_true rfl⟩) ex_preP rfl rfl hl.1 rfl (lv_room (Nat.le_of_ble_eq_true rfl)) dX7_offer_9 ⟨Nat.le_of_ble_eq_true rfl, Nat.le_of_ble_eq_true rfl⟩) (fun r_3 H locs hw_3 hP hS => ?_)
    rcases wi_ca hw_3 with ⟨rfl, hc_4⟩ | ⟨rfl, hc_4⟩
    · have k_0 : (0 : Int32).toInt = 0 := by decide
      have k_1 : (1 : Int32).toInt = 1 := by decide
      have tc_4 := wi_tl hc_4
      refine lv_if_eq (tgt := 25) hx hb dX7_offer_12 (by decide) (fun c9 => absurd c9 (by decide)) (fun _ => ?_)
      refine lv_iload_n hx hb dX7_offer_15 rfl (lv_at hl 3 rfl) ?_
      refine lv_iconst (v := 0) hx hb dX7_offer_16 (by decide) ?_
      refine lv_bipush (v := 100) hx hb dX7_offer_17 (by decide) ?_
      refine yc_p hP hS (va_runS (As := [.int x1, .int 0, .int 100]) (rest := []) ⟨hx, hb, hml, hown, hts⟩ (c_X7_isWithin l x1 0 100) (cwS 3 hts gX7_offer_X7_isWithin rfl rfl rfl hd_S_X7_isWithin_3 ⟨Nat.le_of_ble_eq_true rfl, Nat.le_of_ble_eq_true rfl⟩) ex_preP rfl rfl hl.1 rfl (lv_room (Nat.le_of_ble_eq_true rfl)) dX7_offer_19 ⟨Nat.le_of_ble_eq_true rfl, Nat.le_of_ble_eq_true rfl⟩) (fun r_5 H locs hw_5 hP hS => ?_)
      rcases wi_ca hw_5 with ⟨rfl, hc_6⟩ | ⟨rfl, hc_6⟩
      · have k_100 : (100 : Int32).toInt = 100 := by decide
        have tc_6 := wi_tl hc_6
        refine lv_if_ne (tgt := 27) hx hb dX7_offer_22 (by decide) (fun _ => ?_) (fun c9 => absurd c9 (by decide))
        refine lv_aload_n hx hb dX7_offer_27 rfl (lv_at hl 0 rfl) ?_
        refine va_get (D := (dC, dI)) (ci := 7) (v := .ref (ad 13)) (C := RX7) (T := TX7) (N := 5) hx hb hts iwX7_offer_X7 hown hK hP (0) (wl_at (by omega) (ce_0 (by decide))) rfl 0 (by decide) (hts (.fieldLink RX7 12 "QuietStairs" "now" "LQuietStairs$House;") fwX7_offer_1) (fun _ h9 => h9) rfl dX7_offer_28 ?_
        refine va_get (D := (dC, dI)) (ci := 1) (v := .ref (ad 16)) (C := RX1) (T := TX1) (N := 7) hx hb hts iwX7_offer_X1 hown hK hP (13) (wl_at (by omega) (ce_3 (by decide))) rfl 6 (by decide) (hts (.fieldLink RX7 86 "QuietStairs$House" "cases" "[LQuietStairs$Case;") fwX7_offer_2) (fun _ h9 => h9) rfl dX7_offer_31 ?_
        refine lv_iload_n hx hb dX7_offer_34 rfl (lv_at hl 1 rfl) ?_
        have zn_x0 : (x0.toNatClampNeg : Int) = x0.toInt := t_nn (by omega)
        have hx_7 : x0.toNatClampNeg < 6 := by omega
        refine va_aldq hx hb hK hP (16) 3 (wl_at (by omega) (ce_6 (by decide))) rfl (vp_in_iff.mpr ⟨by omega, by omega⟩) dX7_offer_35 ?_
        refine W.eq (g2 := F0 m 36 ls [.ref (ad (29 + 15 * x0.toNatClampNeg))]) (by rw [if_pos hx_7, show 16 + 13 + 15 * x0.toNatClampNeg = 29 + 15 * x0.toNatClampNeg from by omega]; rfl) ?_
        refine lv_astore (lv' := [(4, .ref (ad (29 + 15 * x0.toNatClampNeg))), (0, .ref (ad 0)), (1, .int x0), (2, .int 1), (3, .int x1)]) hx hb dX7_offer_36 hl (by decide) rfl (fun ls hl => ?_)
        refine lv_aload hx hb dX7_offer_38 (lv_at hl 0 rfl) ?_
        refine va_get (D := (dC, dI)) (ci := 0) (v := .int (v (29 + 15 * x0.toNatClampNeg) 0)) (C := RX0) (T := TX0) (N := 11) hx hb hts iwX7_offer_X0 hown hK hP (29 + 15 * x0.toNatClampNeg) (wl_at (by omega) (ce_9 (kd_c _ hx_7).1.1)) rfl 0 (by decide) (hts (.fieldLink RX7 99 "QuietStairs$Case" "state" "I") fwX7_offer_3) (fun _ h9 => h9) rfl dX7_offer_40 ?_
        refine lv_topi (fun x_8 ex_8 => ?_)
        have qx_8 : x_8.toInt = (v (29 + 15 * x0.toNatClampNeg) (0)).toInt := congrArg Int32.toInt ex_8
        refine lv_if_eq (tgt := 49) hx hb dX7_offer_43 (by decide) (fun c_9 => ?_) (fun c_9 => ?_)
        · have tc_9 : x_8.toInt = (0 : Int32).toInt := by rw [c_9]
          refine lv_aload hx hb dX7_offer_49 (lv_at hl 0 rfl) ?_
          refine va_get (D := (dC, dI)) (ci := 0) (v := .ref (ad (29 + 15 * x0.toNatClampNeg + 2))) (C := RX0) (T := TX0) (N := 11) hx hb hts iwX7_offer_X0 hown hK hP (29 + 15 * x0.toNatClampNeg) (wl_at (by omega) (ce_9 (kd_c _ hx_7).1.1)) rfl 7 (by decide) (hts (.fieldLink RX7 135 "QuietStairs$Case" "box" "[I") fwX7_offer_4) (fun _ h9 => h9) rfl dX7_offer_51 ?_
          refine W.eq (g2 := F0 m 54 ls [.ref (ad (31 + 15 * x0.toNatClampNeg))]) (by rw [show 29 + 15 * x0.toNatClampNeg + 2 = 31 + 15 * x0.toNatClampNeg from by omega]) ?_
          refine lv_iload_n hx hb dX7_offer_54 rfl (lv_at hl 3 rfl) ?_
          refine va_iald hx hb hK hP (31 + 15 * x0.toNatClampNeg) 0 (wl_at (by omega) (ce_20 (kd_c _ hx_7).1.2.2.1)) rfl (by unfold vp_in; decide) dX7_offer_55 ?_
          refine lv_topi (fun x_10 ex_10 => ?_)
          have ex_10 : x_10 = v (31 + 15 * x0.toNatClampNeg) 1 := ex_10
          have qx_10 : x_10.toInt = (v (31 + 15 * x0.toNatClampNeg) (1)).toInt := congrArg Int32.toInt ex_10
          refine lv_iconst (v := (-1)) hx hb dX7_offer_56 (by decide) ?_
          have k_m1 : ((-1) : Int32).toInt = -1 := by decide
          refine lv_icmp_eq (tgt := 63) hx hb dX7_offer_57 (by decide) (fun c_11 => ?_) (fun c_11 => ?_)
          · have tc_11 : x_10.toInt = ((-1) : Int32).toInt := by rw [c_11]
            refine lv_aload hx hb dX7_offer_63 (lv_at hl 0 rfl) ?_
            refine va_get (D := (dC, dI)) (ci := 0) (v := .int (v (29 + 15 * x0.toNatClampNeg) 2)) (C := RX0) (T := TX0) (N := 11) hx hb hts iwX7_offer_X0 hown hK hP (29 + 15 * x0.toNatClampNeg) (wl_at (by omega) (ce_9 (kd_c _ hx_7).1.1)) rfl 2 (by decide) (hts (.fieldLink RX7 117 "QuietStairs$Case" "roundsOver" "I") fwX7_offer_5) (fun _ h9 => h9) rfl dX7_offer_65 ?_
            refine lv_topi (fun x_12 ex_12 => ?_)
            have bzx_12 : 0 ≤ x_12.toInt ∧ x_12.toInt ≤ 5 := by rw [ex_12]; exact hv.at (K := 9) (kd_c _ hx_7).1.1 rfl
            have qx_12 : x_12.toInt = (v (29 + 15 * x0.toNatClampNeg) (2)).toInt := congrArg Int32.toInt ex_12
            refine lv_iconst (v := 5) hx hb dX7_offer_68 (by decide) ?_
            have k_5 : (5 : Int32).toInt = 5 := by decide
            refine lv_icmp_lt (tgt := 75) hx hb dX7_offer_69 (by decide) (fun c_13 => ?_) (fun c_13 => ?_)
            · have tc_13 : x_12.toInt < (5 : Int32).toInt := Int32.lt_iff_toInt_lt.mp c_13
              refine lv_aload hx hb dX7_offer_75 (lv_at hl 0 rfl) ?_
              refine va_get (D := (dC, dI)) (ci := 0) (v := .ref (ad (29 + 15 * x0.toNatClampNeg + 2))) (C := RX0) (T := TX0) (N := 11) hx hb hts iwX7_offer_X0 hown hK hP (29 + 15 * x0.toNatClampNeg) (wl_at (by omega) (ce_9 (kd_c _ hx_7).1.1)) rfl 7 (by decide) (hts (.fieldLink RX7 135 "QuietStairs$Case" "box" "[I") fwX7_offer_4) (fun _ h9 => h9) rfl dX7_offer_77 ?_
              refine W.eq (g2 := F0 m 80 ls [.ref (ad (31 + 15 * x0.toNatClampNeg))]) (by rw [show 29 + 15 * x0.toNatClampNeg + 2 = 31 + 15 * x0.toNatClampNeg from by omega]) ?_
              refine lv_iload_n hx hb dX7_offer_80 rfl (lv_at hl 3 rfl) ?_
              refine lv_iload_n hx hb dX7_offer_81 rfl (lv_at hl 4 rfl) ?_
              refine va_iast hx hb hK hP hD hS (31 + 15 * x0.toNatClampNeg) 0 (wl_at (by omega) (ce_20 (kd_c _ hx_7).1.2.2.1)) rfl (by unfold vp_in; decide) dX7_offer_82 (fun H locs hP hD hS => ?_)
              have hP : va_P (dC, dI) vwCl ((wl ad kv cy N v).set (31 + 15 * x0.toNatClampNeg) (ad (31 + 15 * x0.toNatClampNeg), .inl (cy 0, 2, .inl (upd (v (31 + 15 * x0.toNatClampNeg)) 1 x1)))) H := hP
              have hD : va_D A ((wl ad kv cy N v).set (31 + 15 * x0.toNatClampNeg) (ad (31 + 15 * x0.toNatClampNeg), .inl (cy 0, 2, .inl (upd (v (31 + 15 * x0.toNatClampNeg)) 1 x1)))) := hD
              obtain ⟨v_14, ev_14⟩ : ∃ u : Nat → Nat → Int32, u = upr v (31 + 15 * x0.toNatClampNeg) (upd (v (31 + 15 * x0.toNatClampNeg)) 1 x1) := ⟨_, rfl⟩
              have hP : va_P (dC, dI) vwCl (wl ad kv cy N v_14) H := by rw [ev_14, ← wl_put (e := _) (ce_20 (kd_c _ hx_7).1.2.2.1)]; exact hP
              have hD : va_D A (wl ad kv cy N v_14) := by rw [ev_14, ← wl_put (e := _) (ce_20 (kd_c _ hx_7).1.2.2.1)]; exact hD
              have hv : Iv v_14 := by rw [ev_14]; exact hv.put (K := 20) (kd_c _ hx_7).1.2.2.1 (fun h q => by simp [bd] at q)
              refine lv_aload hx hb dX7_offer_83 (lv_at hl 0 rfl) ?_
              refine va_get (D := (dC, dI)) (ci := 0) (v := .ref (ad (29 + 15 * x0.toNatClampNeg + 2))) (C := RX0) (T := TX0) (N := 11) hx hb hts iwX7_offer_X0 hown hK hP (29 + 15 * x0.toNatClampNeg) (wl_at (by omega) (ce_9 (kd_c _ hx_7).1.1)) rfl 7 (by decide) (hts (.fieldLink RX7 135 "QuietStairs$Case" "box" "[I") fwX7_offer_4) (fun _ h9 => h9) rfl dX7_offer_85 ?_
              refine W.eq (g2 := F0 m 88 ls [.ref (ad (31 + 15 * x0.toNatClampNeg))]) (by rw [show 29 + 15 * x0.toNatClampNeg + 2 = 31 + 15 * x0.toNatClampNeg from by omega]) ?_
              refine lv_iconst (v := 1) hx hb dX7_offer_88 (by decide) ?_
              refine lv_iload_n hx hb dX7_offer_89 rfl (lv_at hl 3 rfl) ?_
              refine lv_isub hx hb dX7_offer_90 ?_
              refine lv_topi (fun x_15 ex_15 => ?_)
              obtain rfl : x_15 = 0 := ex_15.trans (by decide)
              refine va_iald hx hb hK hP (31 + 15 * x0.toNatClampNeg) 0 (wl_at (by omega) (ce_20 (kd_c _ hx_7).1.2.2.1)) rfl (by unfold vp_in; decide) dX7_offer_91 ?_
              refine lv_topi (fun x_16 ex_16 => ?_)
              have ex_16 : x_16 = v_14 (31 + 15 * x0.toNatClampNeg) 0 := ex_16
              rw [ev_14, upr_s, pk_un (by decide)] at ex_16
              have qx_16 : x_16.toInt = (v (31 + 15 * x0.toNatClampNeg) (0)).toInt := congrArg Int32.toInt ex_16
              refine lv_iconst (v := (-1)) hx hb dX7_offer_92 (by decide) ?_
              refine lv_icmp_ne (tgt := 98) hx hb dX7_offer_93 (by decide) (fun c_17 => ?_) (fun c_17 => ?_)
              · have tc_17 : x_16.toInt ≠ ((-1) : Int32).toInt := fun q => absurd (Int32.toInt_inj.mp q) c_17
                refine lv_aload hx hb dX7_offer_98 (lv_at hl 0 rfl) ?_
                have hx2 : v_14 (29 + 15 * x0.toNatClampNeg) 2 = v (29 + 15 * x0.toNatClampNeg) 2 := by rw [ev_14, upr_n (by omega)]
                have hx1 : v_14 (31 + 15 * x0.toNatClampNeg) 1 = x1 := by rw [ev_14, upr_s, pk_us]
                have hx0 : v_14 (31 + 15 * x0.toNatClampNeg) 0 = v (31 + 15 * x0.toNatClampNeg) 0 := by rw [ev_14, upr_s, pk_un (by decide)]
                refine yw_i (w1 := fun (u : Nat → Nat → Int32) => wl ad kv cy N u) hD hS hA (va_runV (As := []) (rest := []) ⟨hx, hb, hml, hown, hts⟩ (e_X0_endRound l dC dI cy _ ad kv N hN v_14 hv x0.toNatClampNeg hx_7 (by rw [hx2]; omega)) (cwV 0 hts gX7_offer_X0_endRound rfl rfl rfl hd_V_X0_endRound_0 ⟨Nat.le_of_ble_eq_true rfl, Nat.le_of_ble_eq_true rfl⟩) (yw_preV hE hK hP hD (ci := 0) (q := (RX0, TX0, 11)) (q0 := (29 + 15 * x0.toNatClampNeg)) rfl (wl_at (by omega) (ce_9 (kd_c _ hx_7).1.1))) rfl rfl hl.1 rfl (lv_room (Nat.le_of_ble_eq_true rfl)) dX7_offer_100 ⟨Nat.le_of_ble_eq_true rfl, Nat.le_of_ble_eq_true rfl⟩) (fun r_18 v_18 H locs hw_18 hP hD hS => ?_)
                obtain ⟨hv, hw_18⟩ := hw_18
                rw [hx2, hx1, hx0] at hw_18
                rcases Int.lt_or_le x1.toInt (v (31 + 15 * x0.toNatClampNeg) 0).toInt with hlt_19 | hle_19
                · obtain ⟨rfl, hp_19⟩ := hw_18.2 hlt_19
                  refine lv_if_eq (tgt := 110) hx hb dX7_offer_103 (by decide) (fun _ => ?_) (fun c9 => absurd c9 (by decide))
                  refine lv_iconst (v := 2) hx hb dX7_offer_110 (by decide) ?_
                  have hpost : (¬ ((0 ≤ x0.toInt ∧ x0.toInt < (v 13 2).toInt) ∧ 0 ≤ x1.toInt ∧ x1.toInt ≤ 100) → (2 : Int32) = -1 ∧ v_18 = v) ∧ (((0 ≤ x0.toInt ∧ x0.toInt < (v 13 2).toInt) ∧ 0 ≤ x1.toInt ∧ x1.toInt ≤ 100) ∧ (v (29 + 15 * x0.toNatClampNeg) 0).toInt ≠ 0 → (2 : Int32) = -4 ∧ v_18 = v) ∧ (((0 ≤ x0.toInt ∧ x0.toInt < (v 13 2).toInt) ∧ 0 ≤ x1.toInt ∧ x1.toInt ≤ 100) ∧ (v (29 + 15 * x0.toNatClampNeg) 0).toInt = 0 ∧ (v (31 + 15 * x0.toNatClampNeg) 1).toInt ≠ -1 → (2 : Int32) = -3 ∧ v_18 = v) ∧ (((0 ≤ x0.toInt ∧ x0.toInt < (v 13 2).toInt) ∧ 0 ≤ x1.toInt ∧ x1.toInt ≤ 100) ∧ (v (29 + 15 * x0.toNatClampNeg) 0).toInt = 0 ∧ (v (31 + 15 * x0.toNatClampNeg) 1).toInt = -1 ∧ 5 ≤ (v (29 + 15 * x0.toNatClampNeg) 2).toInt → (2 : Int32) = -2 ∧ v_18 = v) ∧ (((0 ≤ x0.toInt ∧ x0.toInt < (v 13 2).toInt) ∧ 0 ≤ x1.toInt ∧ x1.toInt ≤ 100) ∧ (v (29 + 15 * x0.toNatClampNeg) 0).toInt = 0 ∧ (v (31 + 15 * x0.toNatClampNeg) 1).toInt = -1 ∧ (v (29 + 15 * x0.toNatClampNeg) 2).toInt < 5 ∧ (v (31 + 15 * x0.toNatClampNeg) 0).toInt = -1 → (2 : Int32) = 0 ∧ (∀ k j : Nat, v_18 k j = if k = 31 + 15 * x0.toNatClampNeg ∧ j = 1 then x1 else v k j)) ∧ (((0 ≤ x0.toInt ∧ x0.toInt < (v 13 2).toInt) ∧ 0 ≤ x1.toInt ∧ x1.toInt ≤ 100) ∧ (v (29 + 15 * x0.toNatClampNeg) 0).toInt = 0 ∧ (v (31 + 15 * x0.toNatClampNeg) 1).toInt = -1 ∧ (v (29 + 15 * x0.toNatClampNeg) 2).toInt < 5 ∧ (v (31 + 15 * x0.toNatClampNeg) 0).toInt ≠ -1 ∧ x1.toInt < (v (31 + 15 * x0.toNatClampNeg) 0).toInt → (2 : Int32) = 2 ∧ (∀ k j : Nat, v_18 k j = if k = 31 + 15 * x0.toNatClampNeg ∧ j = 1 then -1 else if k = 31 + 15 * x0.toNatClampNeg ∧ j = 0 then -1 else if k = 29 + 15 * x0.toNatClampNeg ∧ j = 2 then v (29 + 15 * x0.toNatClampNeg) 2 + 1 else if k = 33 + 15 * x0.toNatClampNeg + 1 ∧ j = (v (29 + 15 * x0.toNatClampNeg) 2).toNatClampNeg then x1 else if k = 33 + 15 * x0.toNatClampNeg + 0 ∧ j = (v (29 + 15 * x0.toNatClampNeg) 2).toNatClampNeg then v (31 + 15 * x0.toNatClampNeg) 0 else if k = 31 + 15 * x0.toNatClampNeg ∧ j = 1 then x1 else v k j)) ∧ (((0 ≤ x0.toInt ∧ x0.toInt < (v 13 2).toInt) ∧ 0 ≤ x1.toInt ∧ x1.toInt ≤ 100) ∧ (v (29 + 15 * x0.toNatClampNeg) 0).toInt = 0 ∧ (v (31 + 15 * x0.toNatClampNeg) 1).toInt = -1 ∧ (v (29 + 15 * x0.toNatClampNeg) 2).toInt < 5 ∧ (v (31 + 15 * x0.toNatClampNeg) 0).toInt ≠ -1 ∧ (v (31 + 15 * x0.toNatClampNeg) 0).toInt ≤ x1.toInt → (2 : Int32) = 1 ∧ (∀ k j : Nat, v_18 k j = if k = 29 + 15 * x0.toNatClampNeg ∧ j = 1 then (v (31 + 15 * x0.toNatClampNeg) 0 + x1) / 2 else if k = 29 + 15 * x0.toNatClampNeg ∧ j = 0 then 1 else if k = 29 + 15 * x0.toNatClampNeg ∧ j = 2 then v (29 + 15 * x0.toNatClampNeg) 2 + 1 else if k = 33 + 15 * x0.toNatClampNeg + 1 ∧ j = (v (29 + 15 * x0.toNatClampNeg) 2).toNatClampNeg then x1 else if k = 33 + 15 * x0.toNatClampNeg + 0 ∧ j = (v (29 + 15 * x0.toNatClampNeg) 2).toNatClampNeg then v (31 + 15 * x0.toNatClampNeg) 0 else if k = 31 + 15 * x0.toNatClampNeg ∧ j = 1 then x1 else v k j)) := by
                    refine ⟨fun hq => ?_, fun hq => ?_, fun hq => ?_, fun hq => ?_, fun hq => ?_, fun hq => ?_, fun hq => ?_⟩
                    · exfalso; omega
                    · exfalso; omega
                    · exfalso; omega
                    · exfalso; omega
                    · exfalso; omega
                    · exact ⟨rfl, fun k j => by rw [hp_19, ev_14, up2]⟩
                    · exfalso; omega
                  exact W.iret (v := 2) hx hb hr (fun t ht hW => ⟨⟨2, v_18, rfl, ⟨hv, hpost⟩, by rw [ht]; exact hP, hD⟩, hS.F ht⟩) hS.2.2 dX7_offer_111
                · obtain ⟨rfl, hp_19⟩ := hw_18.1 hle_19
                  refine lv_if_eq (tgt := 110) hx hb dX7_offer_103 (by decide) (fun c9 => absurd c9 (by decide)) (fun _ => ?_)
                  refine lv_iconst (v := 1) hx hb dX7_offer_106 (by decide) ?_
                  refine lv_goto (tgt := 111) hx hb dX7_offer_107 (by decide) ?_
                  have hpost : (¬ ((0 ≤ x0.toInt ∧ x0.toInt < (v 13 2).toInt) ∧ 0 ≤ x1.toInt ∧ x1.toInt ≤ 100) → (1 : Int32) = -1 ∧ v_18 = v) ∧ (((0 ≤ x0.toInt ∧ x0.toInt < (v 13 2).toInt) ∧ 0 ≤ x1.toInt ∧ x1.toInt ≤ 100) ∧ (v (29 + 15 * x0.toNatClampNeg) 0).toInt ≠ 0 → (1 : Int32) = -4 ∧ v_18 = v) ∧ (((0 ≤ x0.toInt ∧ x0.toInt < (v 13 2).toInt) ∧ 0 ≤ x1.toInt ∧ x1.toInt ≤ 100) ∧ (v (29 + 15 * x0.toNatClampNeg) 0).toInt = 0 ∧ (v (31 + 15 * x0.toNatClampNeg) 1).toInt ≠ -1 → (1 : Int32) = -3 ∧ v_18 = v) ∧ (((0 ≤ x0.toInt ∧ x0.toInt < (v 13 2).toInt) ∧ 0 ≤ x1.toInt ∧ x1.toInt ≤ 100) ∧ (v (29 + 15 * x0.toNatClampNeg) 0).toInt = 0 ∧ (v (31 + 15 * x0.toNatClampNeg) 1).toInt = -1 ∧ 5 ≤ (v (29 + 15 * x0.toNatClampNeg) 2).toInt → (1 : Int32) = -2 ∧ v_18 = v) ∧ (((0 ≤ x0.toInt ∧ x0.toInt < (v 13 2).toInt) ∧ 0 ≤ x1.toInt ∧ x1.toInt ≤ 100) ∧ (v (29 + 15 * x0.toNatClampNeg) 0).toInt = 0 ∧ (v (31 + 15 * x0.toNatClampNeg) 1).toInt = -1 ∧ (v (29 + 15 * x0.toNatClampNeg) 2).toInt < 5 ∧ (v (31 + 15 * x0.toNatClampNeg) 0).toInt = -1 → (1 : Int32) = 0 ∧ (∀ k j : Nat, v_18 k j = if k = 31 + 15 * x0.toNatClampNeg ∧ j = 1 then x1 else v k j)) ∧ (((0 ≤ x0.toInt ∧ x0.toInt < (v 13 2).toInt) ∧ 0 ≤ x1.toInt ∧ x1.toInt ≤ 100) ∧ (v (29 + 15 * x0.toNatClampNeg) 0).toInt = 0 ∧ (v (31 + 15 * x0.toNatClampNeg) 1).toInt = -1 ∧ (v (29 + 15 * x0.toNatClampNeg) 2).toInt < 5 ∧ (v (31 + 15 * x0.toNatClampNeg) 0).toInt ≠ -1 ∧ x1.toInt < (v (31 + 15 * x0.toNatClampNeg) 0).toInt → (1 : Int32) = 2 ∧ (∀ k j : Nat, v_18 k j = if k = 31 + 15 * x0.toNatClampNeg ∧ j = 1 then -1 else if k = 31 + 15 * x0.toNatClampNeg ∧ j = 0 then -1 else if k = 29 + 15 * x0.toNatClampNeg ∧ j = 2 then v (29 + 15 * x0.toNatClampNeg) 2 + 1 else if k = 33 + 15 * x0.toNatClampNeg + 1 ∧ j = (v (29 + 15 * x0.toNatClampNeg) 2).toNatClampNeg then x1 else if k = 33 + 15 * x0.toNatClampNeg + 0 ∧ j = (v (29 + 15 * x0.toNatClampNeg) 2).toNatClampNeg then v (31 + 15 * x0.toNatClampNeg) 0 else if k = 31 + 15 * x0.toNatClampNeg ∧ j = 1 then x1 else v k j)) ∧ (((0 ≤ x0.toInt ∧ x0.toInt < (v 13 2).toInt) ∧ 0 ≤ x1.toInt ∧ x1.toInt ≤ 100) ∧ (v (29 + 15 * x0.toNatClampNeg) 0).toInt = 0 ∧ (v (31 + 15 * x0.toNatClampNeg) 1).toInt = -1 ∧ (v (29 + 15 * x0.toNatClampNeg) 2).toInt < 5 ∧ (v (31 + 15 * x0.toNatClampNeg) 0).toInt ≠ -1 ∧ (v (31 + 15 * x0.toNatClampNeg) 0).toInt ≤ x1.toInt → (1 : Int32) = 1 ∧ (∀ k j : Nat, v_18 k j = if k = 29 + 15 * x0.toNatClampNeg ∧ j = 1 then (v (31 + 15 * x0.toNatClampNeg) 0 + x1) / 2 else if k = 29 + 15 * x0.toNatClampNeg ∧ j = 0 then 1 else if k = 29 + 15 * x0.toNatClampNeg ∧ j = 2 then v (29 + 15 * x0.toNatClampNeg) 2 + 1 else if k = 33 + 15 * x0.toNatClampNeg + 1 ∧ j = (v (29 + 15 * x0.toNatClampNeg) 2).toNatClampNeg then x1 else if k = 33 + 15 * x0.toNatClampNeg + 0 ∧ j = (v (29 + 15 * x0.toNatClampNeg) 2).toNatClampNeg then v (31 + 15 * x0.toNatClampNeg) 0 else if k = 31 + 15 * x0.toNatClampNeg ∧ j = 1 then x1 else v k j)) := by
                    refine ⟨fun hq => ?_, fun hq => ?_, fun hq => ?_, fun hq => ?_, fun hq => ?_, fun hq => ?_, fun hq => ?_⟩
                    · exfalso; omega
                    · exfalso; omega
                    · exfalso; omega
                    · exfalso; omega
                    · exfalso; omega
                    · exfalso; omega
                    · exact ⟨rfl, fun k j => by rw [hp_19, ev_14, up2]⟩
                  exact W.iret (v := 1) hx hb hr (fun t ht hW => ⟨⟨1, v_18, rfl, ⟨hv, hpost⟩, by rw [ht]; exact hP, hD⟩, hS.F ht⟩) hS.2.2 dX7_offer_111
              · have tc_17 : x_16.toInt = ((-1) : Int32).toInt := by rw [c_17]
                refine lv_iconst (v := 0) hx hb dX7_offer_96 (by decide) ?_
                have hpost : (¬ ((0 ≤ x0.toInt ∧ x0.toInt < (v 13 2).toInt) ∧ 0 ≤ x1.toInt ∧ x1.toInt ≤ 100) → (0 : Int32) = -1 ∧ v_14 = v) ∧ (((0 ≤ x0.toInt ∧ x0.toInt < (v 13 2).toInt) ∧ 0 ≤ x1.toInt ∧ x1.toInt ≤ 100) ∧ (v (29 + 15 * x0.toNatClampNeg) 0).toInt ≠ 0 → (0 : Int32) = -4 ∧ v_14 = v) ∧ (((0 ≤ x0.toInt ∧ x0.toInt < (v 13 2).toInt) ∧ 0 ≤ x1.toInt ∧ x1.toInt ≤ 100) ∧ (v (29 + 15 * x0.toNatClampNeg) 0).toInt = 0 ∧ (v (31 + 15 * x0.toNatClampNeg) 1).toInt ≠ -1 → (0 : Int32) = -3 ∧ v_14 = v) ∧ (((0 ≤ x0.toInt ∧ x0.toInt < (v 13 2).toInt) ∧ 0 ≤ x1.toInt ∧ x1.toInt ≤ 100) ∧ (v (29 + 15 * x0.toNatClampNeg) 0).toInt = 0 ∧ (v (31 + 15 * x0.toNatClampNeg) 1).toInt = -1 ∧ 5 ≤ (v (29 + 15 * x0.toNatClampNeg) 2).toInt → (0 : Int32) = -2 ∧ v_14 = v) ∧ (((0 ≤ x0.toInt ∧ x0.toInt < (v 13 2).toInt) ∧ 0 ≤ x1.toInt ∧ x1.toInt ≤ 100) ∧ (v (29 + 15 * x0.toNatClampNeg) 0).toInt = 0 ∧ (v (31 + 15 * x0.toNatClampNeg) 1).toInt = -1 ∧ (v (29 + 15 * x0.toNatClampNeg) 2).toInt < 5 ∧ (v (31 + 15 * x0.toNatClampNeg) 0).toInt = -1 → (0 : Int32) = 0 ∧ (∀ k j : Nat, v_14 k j = if k = 31 + 15 * x0.toNatClampNeg ∧ j = 1 then x1 else v k j)) ∧ (((0 ≤ x0.toInt ∧ x0.toInt < (v 13 2).toInt) ∧ 0 ≤ x1.toInt ∧ x1.toInt ≤ 100) ∧ (v (29 + 15 * x0.toNatClampNeg) 0).toInt = 0 ∧ (v (31 + 15 * x0.toNatClampNeg) 1).toInt = -1 ∧ (v (29 + 15 * x0.toNatClampNeg) 2).toInt < 5 ∧ (v (31 + 15 * x0.toNatClampNeg) 0).toInt ≠ -1 ∧ x1.toInt < (v (31 + 15 * x0.toNatClampNeg) 0).toInt → (0 : Int32) = 2 ∧ (∀ k j : Nat, v_14 k j = if k = 31 + 15 * x0.toNatClampNeg ∧ j = 1 then -1 else if k = 31 + 15 * x0.toNatClampNeg ∧ j = 0 then -1 else if k = 29 + 15 * x0.toNatClampNeg ∧ j = 2 then v (29 + 15 * x0.toNatClampNeg) 2 + 1 else if k = 33 + 15 * x0.toNatClampNeg + 1 ∧ j = (v (29 + 15 * x0.toNatClampNeg) 2).toNatClampNeg then x1 else if k = 33 + 15 * x0.toNatClampNeg + 0 ∧ j = (v (29 + 15 * x0.toNatClampNeg) 2).toNatClampNeg then v (31 + 15 * x0.toNatClampNeg) 0 else if k = 31 + 15 * x0.toNatClampNeg ∧ j = 1 then x1 else v k j)) ∧ (((0 ≤ x0.toInt ∧ x0.toInt < (v 13 2).toInt) ∧ 0 ≤ x1.toInt ∧ x1.toInt ≤ 100) ∧ (v (29 + 15 * x0.toNatClampNeg) 0).toInt = 0 ∧ (v (31 + 15 * x0.toNatClampNeg) 1).toInt = -1 ∧ (v (29 + 15 * x0.toNatClampNeg) 2).toInt < 5 ∧ (v (31 + 15 * x0.toNatClampNeg) 0).toInt ≠ -1 ∧ (v (31 + 15 * x0.toNatClampNeg) 0).toInt ≤ x1.toInt → (0 : Int32) = 1 ∧ (∀ k j : Nat, v_14 k j = if k = 29 + 15 * x0.toNatClampNeg ∧ j = 1 then (v (31 + 15 * x0.toNatClampNeg) 0 + x1) / 2 else if k = 29 + 15 * x0.toNatClampNeg ∧ j = 0 then 1 else if k = 29 + 15 * x0.toNatClampNeg ∧ j = 2 then v (29 + 15 * x0.toNatClampNeg) 2 + 1 else if k = 33 + 15 * x0.toNatClampNeg + 1 ∧ j = (v (29 + 15 * x0.toNatClampNeg) 2).toNatClampNeg then x1 else if k = 33 + 15 * x0.toNatClampNeg + 0 ∧ j = (v (29 + 15 * x0.toNatClampNeg) 2).toNatClampNeg then v (31 + 15 * x0.toNatClampNeg) 0 else if k = 31 + 15 * x0.toNatClampNeg ∧ j = 1 then x1 else v k j)) := by
                  refine ⟨fun hq => ?_, fun hq => ?_, fun hq => ?_, fun hq => ?_, fun hq => ?_, fun hq => ?_, fun hq => ?_⟩
                  · exfalso; omega
                  · exfalso; omega
                  · exfalso; omega
                  · exfalso; omega
                  · exact ⟨rfl, fun k j => by rw [ev_14, up2]⟩
                  · exfalso; omega
                  · exfalso; omega
                exact W.iret (v := 0) hx hb hr (fun t ht hW => ⟨⟨0, v_14, rfl, ⟨hv, hpost⟩, by rw [ht]; exact hP, hD⟩, hS.F ht⟩) hS.2.2 dX7_offer_97
            · have tc_13 : x_12.toInt ≥ (5 : Int32).toInt := Int32.le_iff_toInt_le.mp (Int32.not_lt.mp c_13)
              refine lv_bipush (v := (-2)) hx hb dX7_offer_72 (by decide) ?_
              have hpost : (¬ ((0 ≤ x0.toInt ∧ x0.toInt < (v 13 2).toInt) ∧ 0 ≤ x1.toInt ∧ x1.toInt ≤ 100) → ((-2) : Int32) = -1 ∧ v = v) ∧ (((0 ≤ x0.toInt ∧ x0.toInt < (v 13 2).toInt) ∧ 0 ≤ x1.toInt ∧ x1.toInt ≤ 100) ∧ (v (29 + 15 * x0.toNatClampNeg) 0).toInt ≠ 0 → ((-2) : Int32) = -4 ∧ v = v) ∧ (((0 ≤ x0.toInt ∧ x0.toInt < (v 13 2).toInt) ∧ 0 ≤ x1.toInt ∧ x1.toInt ≤ 100) ∧ (v (29 + 15 * x0.toNatClampNeg) 0).toInt = 0 ∧ (v (31 + 15 * x0.toNatClampNeg) 1).toInt ≠ -1 → ((-2) : Int32) = -3 ∧ v = v) ∧ (((0 ≤ x0.toInt ∧ x0.toInt < (v 13 2).toInt) ∧ 0 ≤ x1.toInt ∧ x1.toInt ≤ 100) ∧ (v (29 + 15 * x0.toNatClampNeg) 0).toInt = 0 ∧ (v (31 + 15 * x0.toNatClampNeg) 1).toInt = -1 ∧ 5 ≤ (v (29 + 15 * x0.toNatClampNeg) 2).toInt → ((-2) : Int32) = -2 ∧ v = v) ∧ (((0 ≤ x0.toInt ∧ x0.toInt < (v 13 2).toInt) ∧ 0 ≤ x1.toInt ∧ x1.toInt ≤ 100) ∧ (v (29 + 15 * x0.toNatClampNeg) 0).toInt = 0 ∧ (v (31 + 15 * x0.toNatClampNeg) 1).toInt = -1 ∧ (v (29 + 15 * x0.toNatClampNeg) 2).toInt < 5 ∧ (v (31 + 15 * x0.toNatClampNeg) 0).toInt = -1 → ((-2) : Int32) = 0 ∧ (∀ k j : Nat, v k j = if k = 31 + 15 * x0.toNatClampNeg ∧ j = 1 then x1 else v k j)) ∧ (((0 ≤ x0.toInt ∧ x0.toInt < (v 13 2).toInt) ∧ 0 ≤ x1.toInt ∧ x1.toInt ≤ 100) ∧ (v (29 + 15 * x0.toNatClampNeg) 0).toInt = 0 ∧ (v (31 + 15 * x0.toNatClampNeg) 1).toInt = -1 ∧ (v (29 + 15 * x0.toNatClampNeg) 2).toInt < 5 ∧ (v (31 + 15 * x0.toNatClampNeg) 0).toInt ≠ -1 ∧ x1.toInt < (v (31 + 15 * x0.toNatClampNeg) 0).toInt → ((-2) : Int32) = 2 ∧ (∀ k j : Nat, v k j = if k = 31 + 15 * x0.toNatClampNeg ∧ j = 1 then -1 else if k = 31 + 15 * x0.toNatClampNeg ∧ j = 0 then -1 else if k = 29 + 15 * x0.toNatClampNeg ∧ j = 2 then v (29 + 15 * x0.toNatClampNeg) 2 + 1 else if k = 33 + 15 * x0.toNatClampNeg + 1 ∧ j = (v (29 + 15 * x0.toNatClampNeg) 2).toNatClampNeg then x1 else if k = 33 + 15 * x0.toNatClampNeg + 0 ∧ j = (v (29 + 15 * x0.toNatClampNeg) 2).toNatClampNeg then v (31 + 15 * x0.toNatClampNeg) 0 else if k = 31 + 15 * x0.toNatClampNeg ∧ j = 1 then x1 else v k j)) ∧ (((0 ≤ x0.toInt ∧ x0.toInt < (v 13 2).toInt) ∧ 0 ≤ x1.toInt ∧ x1.toInt ≤ 100) ∧ (v (29 + 15 * x0.toNatClampNeg) 0).toInt = 0 ∧ (v (31 + 15 * x0.toNatClampNeg) 1).toInt = -1 ∧ (v (29 + 15 * x0.toNatClampNeg) 2).toInt < 5 ∧ (v (31 + 15 * x0.toNatClampNeg) 0).toInt ≠ -1 ∧ (v (31 + 15 * x0.toNatClampNeg) 0).toInt ≤ x1.toInt → ((-2) : Int32) = 1 ∧ (∀ k j : Nat, v k j = if k = 29 + 15 * x0.toNatClampNeg ∧ j = 1 then (v (31 + 15 * x0.toNatClampNeg) 0 + x1) / 2 else if k = 29 + 15 * x0.toNatClampNeg ∧ j = 0 then 1 else if k = 29 + 15 * x0.toNatClampNeg ∧ j = 2 then v (29 + 15 * x0.toNatClampNeg) 2 + 1 else if k = 33 + 15 * x0.toNatClampNeg + 1 ∧ j = (v (29 + 15 * x0.toNatClampNeg) 2).toNatClampNeg then x1 else if k = 33 + 15 * x0.toNatClampNeg + 0 ∧ j = (v (29 + 15 * x0.toNatClampNeg) 2).toNatClampNeg then v (31 + 15 * x0.toNatClampNeg) 0 else if k = 31 + 15 * x0.toNatClampNeg ∧ j = 1 then x1 else v k j)) := by
                refine ⟨fun hq => ?_, fun hq => ?_, fun hq => ?_, fun hq => ?_, fun hq => ?_, fun hq => ?_, fun hq => ?_⟩
                · exfalso; omega
                · exfalso; omega
                · exfalso; omega
                · exact ⟨rfl, rfl⟩
                · exfalso; omega
                · exfalso; omega
                · exfalso; omega
              exact W.iret (v := (-2)) hx hb hr (fun t ht hW => ⟨⟨(-2), v, rfl, ⟨hv, hpost⟩, by rw [ht]; exact hP, hD⟩, hS.F ht⟩) hS.2.2 dX7_offer_74
          · have tc_11 : x_10.toInt ≠ ((-1) : Int32).toInt := fun q => absurd (Int32.toInt_inj.mp q) c_11
            refine lv_bipush (v := (-3)) hx hb dX7_offer_60 (by decide) ?_
            have hpost : (¬ ((0 ≤ x0.toInt ∧ x0.toInt < (v 13 2).toInt) ∧ 0 ≤ x1.toInt ∧ x1.toInt ≤ 100) → ((-3) : Int32) = -1 ∧ v = v) ∧ (((0 ≤ x0.toInt ∧ x0.toInt < (v 13 2).toInt) ∧ 0 ≤ x1.toInt ∧ x1.toInt ≤ 100) ∧ (v (29 + 15 * x0.toNatClampNeg) 0).toInt ≠ 0 → ((-3) : Int32) = -4 ∧ v = v) ∧ (((0 ≤ x0.toInt ∧ x0.toInt < (v 13 2).toInt) ∧ 0 ≤ x1.toInt ∧ x1.toInt ≤ 100) ∧ (v (29 + 15 * x0.toNatClampNeg) 0).toInt = 0 ∧ (v (31 + 15 * x0.toNatClampNeg) 1).toInt ≠ -1 → ((-3) : Int32) = -3 ∧ v = v) ∧ (((0 ≤ x0.toInt ∧ x0.toInt < (v 13 2).toInt) ∧ 0 ≤ x1.toInt ∧ x1.toInt ≤ 100) ∧ (v (29 + 15 * x0.toNatClampNeg) 0).toInt = 0 ∧ (v (31 + 15 * x0.toNatClampNeg) 1).toInt = -1 ∧ 5 ≤ (v (29 + 15 * x0.toNatClampNeg) 2).toInt → ((-3) : Int32) = -2 ∧ v = v) ∧ (((0 ≤ x0.toInt ∧ x0.toInt < (v 13 2).toInt) ∧ 0 ≤ x1.toInt ∧ x1.toInt ≤ 100) ∧ (v (29 + 15 * x0.toNatClampNeg) 0).toInt = 0 ∧ (v (31 + 15 * x0.toNatClampNeg) 1).toInt = -1 ∧ (v (29 + 15 * x0.toNatClampNeg) 2).toInt < 5 ∧ (v (31 + 15 * x0.toNatClampNeg) 0).toInt = -1 → ((-3) : Int32) = 0 ∧ (∀ k j : Nat, v k j = if k = 31 + 15 * x0.toNatClampNeg ∧ j = 1 then x1 else v k j)) ∧ (((0 ≤ x0.toInt ∧ x0.toInt < (v 13 2).toInt) ∧ 0 ≤ x1.toInt ∧ x1.toInt ≤ 100) ∧ (v (29 + 15 * x0.toNatClampNeg) 0).toInt = 0 ∧ (v (31 + 15 * x0.toNatClampNeg) 1).toInt = -1 ∧ (v (29 + 15 * x0.toNatClampNeg) 2).toInt < 5 ∧ (v (31 + 15 * x0.toNatClampNeg) 0).toInt ≠ -1 ∧ x1.toInt < (v (31 + 15 * x0.toNatClampNeg) 0).toInt → ((-3) : Int32) = 2 ∧ (∀ k j : Nat, v k j = if k = 31 + 15 * x0.toNatClampNeg ∧ j = 1 then -1 else if k = 31 + 15 * x0.toNatClampNeg ∧ j = 0 then -1 else if k = 29 + 15 * x0.toNatClampNeg ∧ j = 2 then v (29 + 15 * x0.toNatClampNeg) 2 + 1 else if k = 33 + 15 * x0.toNatClampNeg + 1 ∧ j = (v (29 + 15 * x0.toNatClampNeg) 2).toNatClampNeg then x1 else if k = 33 + 15 * x0.toNatClampNeg + 0 ∧ j = (v (29 + 15 * x0.toNatClampNeg) 2).toNatClampNeg then v (31 + 15 * x0.toNatClampNeg) 0 else if k = 31 + 15 * x0.toNatClampNeg ∧ j = 1 then x1 else v k j)) ∧ (((0 ≤ x0.toInt ∧ x0.toInt < (v 13 2).toInt) ∧ 0 ≤ x1.toInt ∧ x1.toInt ≤ 100) ∧ (v (29 + 15 * x0.toNatClampNeg) 0).toInt = 0 ∧ (v (31 + 15 * x0.toNatClampNeg) 1).toInt = -1 ∧ (v (29 + 15 * x0.toNatClampNeg) 2).toInt < 5 ∧ (v (31 + 15 * x0.toNatClampNeg) 0).toInt ≠ -1 ∧ (v (31 + 15 * x0.toNatClampNeg) 0).toInt ≤ x1.toInt → ((-3) : Int32) = 1 ∧ (∀ k j : Nat, v k j = if k = 29 + 15 * x0.toNatClampNeg ∧ j = 1 then (v (31 + 15 * x0.toNatClampNeg) 0 + x1) / 2 else if k = 29 + 15 * x0.toNatClampNeg ∧ j = 0 then 1 else if k = 29 + 15 * x0.toNatClampNeg ∧ j = 2 then v (29 + 15 * x0.toNatClampNeg) 2 + 1 else if k = 33 + 15 * x0.toNatClampNeg + 1 ∧ j = (v (29 + 15 * x0.toNatClampNeg) 2).toNatClampNeg then x1 else if k = 33 + 15 * x0.toNatClampNeg + 0 ∧ j = (v (29 + 15 * x0.toNatClampNeg) 2).toNatClampNeg then v (31 + 15 * x0.toNatClampNeg) 0 else if k = 31 + 15 * x0.toNatClampNeg ∧ j = 1 then x1 else v k j)) := by
              refine ⟨fun hq => ?_, fun hq => ?_, fun hq => ?_, fun hq => ?_, fun hq => ?_, fun hq => ?_, fun hq => ?_⟩
              · exfalso; omega
              · exfalso; omega
              · exact ⟨rfl, rfl⟩
              · exfalso; omega
              · exfalso; omega
              · exfalso; omega
              · exfalso; omega
            exact W.iret (v := (-3)) hx hb hr (fun t ht hW => ⟨⟨(-3), v, rfl, ⟨hv, hpost⟩, by rw [ht]; exact hP, hD⟩, hS.F ht⟩) hS.2.2 dX7_offer_62
        · have tc_9 : x_8.toInt ≠ (0 : Int32).toInt := fun q => absurd (Int32.toInt_inj.mp q) c_9
          refine lv_bipush (v := (-4)) hx hb dX7_offer_46 (by decide) ?_
          have hpost : (¬ ((0 ≤ x0.toInt ∧ x0.toInt < (v 13 2).toInt) ∧ 0 ≤ x1.toInt ∧ x1.toInt ≤ 100) → ((-4) : Int32) = -1 ∧ v = v) ∧ (((0 ≤ x0.toInt ∧ x0.toInt < (v 13 2).toInt) ∧ 0 ≤ x1.toInt ∧ x1.toInt ≤ 100) ∧ (v (29 + 15 * x0.toNatClampNeg) 0).toInt ≠ 0 → ((-4) : Int32) = -4 ∧ v = v) ∧ (((0 ≤ x0.toInt ∧ x0.toInt < (v 13 2).toInt) ∧ 0 ≤ x1.toInt ∧ x1.toInt ≤ 100) ∧ (v (29 + 15 * x0.toNatClampNeg) 0).toInt = 0 ∧ (v (31 + 15 * x0.toNatClampNeg) 1).toInt ≠ -1 → ((-4) : Int32) = -3 ∧ v = v) ∧ (((0 ≤ x0.toInt ∧ x0.toInt < (v 13 2).toInt) ∧ 0 ≤ x1.toInt ∧ x1.toInt ≤ 100) ∧ (v (29 + 15 * x0.toNatClampNeg) 0).toInt = 0 ∧ (v (31 + 15 * x0.toNatClampNeg) 1).toInt = -1 ∧ 5 ≤ (v (29 + 15 * x0.toNatClampNeg) 2).toInt → ((-4) : Int32) = -2 ∧ v = v) ∧ (((0 ≤ x0.toInt ∧ x0.toInt < (v 13 2).toInt) ∧ 0 ≤ x1.toInt ∧ x1.toInt ≤ 100) ∧ (v (29 + 15 * x0.toNatClampNeg) 0).toInt = 0 ∧ (v (31 + 15 * x0.toNatClampNeg) 1).toInt = -1 ∧ (v (29 + 15 * x0.toNatClampNeg) 2).toInt < 5 ∧ (v (31 + 15 * x0.toNatClampNeg) 0).toInt = -1 → ((-4) : Int32) = 0 ∧ (∀ k j : Nat, v k j = if k = 31 + 15 * x0.toNatClampNeg ∧ j = 1 then x1 else v k j)) ∧ (((0 ≤ x0.toInt ∧ x0.toInt < (v 13 2).toInt) ∧ 0 ≤ x1.toInt ∧ x1.toInt ≤ 100) ∧ (v (29 + 15 * x0.toNatClampNeg) 0).toInt = 0 ∧ (v (31 + 15 * x0.toNatClampNeg) 1).toInt = -1 ∧ (v (29 + 15 * x0.toNatClampNeg) 2).toInt < 5 ∧ (v (31 + 15 * x0.toNatClampNeg) 0).toInt ≠ -1 ∧ x1.toInt < (v (31 + 15 * x0.toNatClampNeg) 0).toInt → ((-4) : Int32) = 2 ∧ (∀ k j : Nat, v k j = if k = 31 + 15 * x0.toNatClampNeg ∧ j = 1 then -1 else if k = 31 + 15 * x0.toNatClampNeg ∧ j = 0 then -1 else if k = 29 + 15 * x0.toNatClampNeg ∧ j = 2 then v (29 + 15 * x0.toNatClampNeg) 2 + 1 else if k = 33 + 15 * x0.toNatClampNeg + 1 ∧ j = (v (29 + 15 * x0.toNatClampNeg) 2).toNatClampNeg then x1 else if k = 33 + 15 * x0.toNatClampNeg + 0 ∧ j = (v (29 + 15 * x0.toNatClampNeg) 2).toNatClampNeg then v (31 + 15 * x0.toNatClampNeg) 0 else if k = 31 + 15 * x0.toNatClampNeg ∧ j = 1 then x1 else v k j)) ∧ (((0 ≤ x0.toInt ∧ x0.toInt < (v 13 2).toInt) ∧ 0 ≤ x1.toInt ∧ x1.toInt ≤ 100) ∧ (v (29 + 15 * x0.toNatClampNeg) 0).toInt = 0 ∧ (v (31 + 15 * x0.toNatClampNeg) 1).toInt = -1 ∧ (v (29 + 15 * x0.toNatClampNeg) 2).toInt < 5 ∧ (v (31 + 15 * x0.toNatClampNeg) 0).toInt ≠ -1 ∧ (v (31 + 15 * x0.toNatClampNeg) 0).toInt ≤ x1.toInt → ((-4) : Int32) = 1 ∧ (∀ k j : Nat, v k j = if k = 29 + 15 * x0.toNatClampNeg ∧ j = 1 then (v (31 + 15 * x0.toNatClampNeg) 0 + x1) / 2 else if k = 29 + 15 * x0.toNatClampNeg ∧ j = 0 then 1 else if k = 29 + 15 * x0.toNatClampNeg ∧ j = 2 then v (29 + 15 * x0.toNatClampNeg) 2 + 1 else if k = 33 + 15 * x0.toNatClampNeg + 1 ∧ j = (v (29 + 15 * x0.toNatClampNeg) 2).toNatClampNeg then x1 else if k = 33 + 15 * x0.toNatClampNeg + 0 ∧ j = (v (29 + 15 * x0.toNatClampNeg) 2).toNatClampNeg then v (31 + 15 * x0.toNatClampNeg) 0 else if k = 31 + 15 * x0.toNatClampNeg ∧ j = 1 then x1 else v k j)) := by
            refine ⟨fun hq => ?_, fun hq => ?_, fun hq => ?_, fun hq => ?_, fun hq => ?_, fun hq => ?_, fun hq => ?_⟩
            · exfalso; omega
            · exact ⟨rfl, rfl⟩
            · exfalso; omega
            · exfalso; omega
            · exfalso; omega
            · exfalso; omega
            · exfalso; omega
          exact W.iret (v := (-4)) hx hb hr (fun t ht hW => ⟨⟨(-4), v, rfl, ⟨hv, hpost⟩, by rw [ht]; exact hP, hD⟩, hS.F ht⟩) hS.2.2 dX7_offer_48
      · have k_100 : (100 : Int32).toInt = 100 := by decide
        have tc_6 : ¬ ((0 : Int32).toInt ≤ x1.toInt ∧ x1.toInt ≤ (100 : Int32).toInt) := fun q => hc_6 ⟨Int32.le_iff_toInt_le.mpr q.1, Int32.le_iff_toInt_le.mpr q.2⟩
        refine lv_if_ne (tgt := 27) hx hb dX7_offer_22 (by decide) (fun c9 => absurd c9 (by decide)) (fun _ => ?_)
        refine lv_iconst (v := (-1)) hx hb dX7_offer_25 (by decide) ?_
        have hpost : (¬ ((0 ≤ x0.toInt ∧ x0.toInt < (v 13 2).toInt) ∧ 0 ≤ x1.toInt ∧ x1.toInt ≤ 100) → ((-1) : Int32) = -1 ∧ v = v) ∧ (((0 ≤ x0.toInt ∧ x0.toInt < (v 13 2).toInt) ∧ 0 ≤ x1.toInt ∧ x1.toInt ≤ 100) ∧ (v (29 + 15 * x0.toNatClampNeg) 0).toInt ≠ 0 → ((-1) : Int32) = -4 ∧ v = v) ∧ (((0 ≤ x0.toInt ∧ x0.toInt < (v 13 2).toInt) ∧ 0 ≤ x1.toInt ∧ x1.toInt ≤ 100) ∧ (v (29 + 15 * x0.toNatClampNeg) 0).toInt = 0 ∧ (v (31 + 15 * x0.toNatClampNeg) 1).toInt ≠ -1 → ((-1) : Int32) = -3 ∧ v = v) ∧ (((0 ≤ x0.toInt ∧ x0.toInt < (v 13 2).toInt) ∧ 0 ≤ x1.toInt ∧ x1.toInt ≤ 100) ∧ (v (29 + 15 * x0.toNatClampNeg) 0).toInt = 0 ∧ (v (31 + 15 * x0.toNatClampNeg) 1).toInt = -1 ∧ 5 ≤ (v (29 + 15 * x0.toNatClampNeg) 2).toInt → ((-1) : Int32) = -2 ∧ v = v) ∧ (((0 ≤ x0.toInt ∧ x0.toInt < (v 13 2).toInt) ∧ 0 ≤ x1.toInt ∧ x1.toInt ≤ 100) ∧ (v (29 + 15 * x0.toNatClampNeg) 0).toInt = 0 ∧ (v (31 + 15 * x0.toNatClampNeg) 1).toInt = -1 ∧ (v (29 + 15 * x0.toNatClampNeg) 2).toInt < 5 ∧ (v (31 + 15 * x0.toNatClampNeg) 0).toInt = -1 → ((-1) : Int32) = 0 ∧ (∀ k j : Nat, v k j = if k = 31 + 15 * x0.toNatClampNeg ∧ j = 1 then x1 else v k j)) ∧ (((0 ≤ x0.toInt ∧ x0.toInt < (v 13 2).toInt) ∧ 0 ≤ x1.toInt ∧ x1.toInt ≤ 100) ∧ (v (29 + 15 * x0.toNatClampNeg) 0).toInt = 0 ∧ (v (31 + 15 * x0.toNatClampNeg) 1).toInt = -1 ∧ (v (29 + 15 * x0.toNatClampNeg) 2).toInt < 5 ∧ (v (31 + 15 * x0.toNatClampNeg) 0).toInt ≠ -1 ∧ x1.toInt < (v (31 + 15 * x0.toNatClampNeg) 0).toInt → ((-1) : Int32) = 2 ∧ (∀ k j : Nat, v k j = if k = 31 + 15 * x0.toNatClampNeg ∧ j = 1 then -1 else if k = 31 + 15 * x0.toNatClampNeg ∧ j = 0 then -1 else if k = 29 + 15 * x0.toNatClampNeg ∧ j = 2 then v (29 + 15 * x0.toNatClampNeg) 2 + 1 else if k = 33 + 15 * x0.toNatClampNeg + 1 ∧ j = (v (29 + 15 * x0.toNatClampNeg) 2).toNatClampNeg then x1 else if k = 33 + 15 * x0.toNatClampNeg + 0 ∧ j = (v (29 + 15 * x0.toNatClampNeg) 2).toNatClampNeg then v (31 + 15 * x0.toNatClampNeg) 0 else if k = 31 + 15 * x0.toNatClampNeg ∧ j = 1 then x1 else v k j)) ∧ (((0 ≤ x0.toInt ∧ x0.toInt < (v 13 2).toInt) ∧ 0 ≤ x1.toInt ∧ x1.toInt ≤ 100) ∧ (v (29 + 15 * x0.toNatClampNeg) 0).toInt = 0 ∧ (v (31 + 15 * x0.toNatClampNeg) 1).toInt = -1 ∧ (v (29 + 15 * x0.toNatClampNeg) 2).toInt < 5 ∧ (v (31 + 15 * x0.toNatClampNeg) 0).toInt ≠ -1 ∧ (v (31 + 15 * x0.toNatClampNeg) 0).toInt ≤ x1.toInt → ((-1) : Int32) = 1 ∧ (∀ k j : Nat, v k j = if k = 29 + 15 * x0.toNatClampNeg ∧ j = 1 then (v (31 + 15 * x0.toNatClampNeg) 0 + x1) / 2 else if k = 29 + 15 * x0.toNatClampNeg ∧ j = 0 then 1 else if k = 29 + 15 * x0.toNatClampNeg ∧ j = 2 then v (29 + 15 * x0.toNatClampNeg) 2 + 1 else if k = 33 + 15 * x0.toNatClampNeg + 1 ∧ j = (v (29 + 15 * x0.toNatClampNeg) 2).toNatClampNeg then x1 else if k = 33 + 15 * x0.toNatClampNeg + 0 ∧ j = (v (29 + 15 * x0.toNatClampNeg) 2).toNatClampNeg then v (31 + 15 * x0.toNatClampNeg) 0 else if k = 31 + 15 * x0.toNatClampNeg ∧ j = 1 then x1 else v k j)) := by
          refine ⟨fun hq => ?_, fun hq => ?_, fun hq => ?_, fun hq => ?_, fun hq => ?_, fun hq => ?_, fun hq => ?_⟩
          · exact ⟨rfl, rfl⟩
          · exfalso; omega
          · exfalso; omega
          · exfalso; omega
          · exfalso; omega
          · exfalso; omega
          · exfalso; omega
        exact W.iret (v := (-1)) hx hb hr (fun t ht hW => ⟨⟨(-1), v, rfl, ⟨hv, hpost⟩, by rw [ht]; exact hP, hD⟩, hS.F ht⟩) hS.2.2 dX7_offer_26
    · have k_0 : (0 : Int32).toInt = 0 := by decide
      have k_1 : (1 : Int32).toInt = 1 := by decide
      have tc_4 : ¬ ((0 : Int32).toInt ≤ (1 : Int32).toInt ∧ (1 : Int32).toInt ≤ (1 : Int32).toInt) := fun q => hc_4 ⟨Int32.le_iff_toInt_le.mpr q.1, Int32.le_iff_toInt_le.mpr q.2⟩
      refine lv_if_eq (tgt := 25) hx hb dX7_offer_12 (by decide) (fun _ => ?_) (fun c9 => absurd c9 (by decide))
      refine lv_iconst (v := (-1)) hx hb dX7_offer_25 (by decide) ?_
      have hpost : (¬ ((0 ≤ x0.toInt ∧ x0.toInt < (v 13 2).toInt) ∧ 0 ≤ x1.toInt ∧ x1.toInt ≤ 100) → ((-1) : Int32) = -1 ∧ v = v) ∧ (((0 ≤ x0.toInt ∧ x0.toInt < (v 13 2).toInt) ∧ 0 ≤ x1.toInt ∧ x1.toInt ≤ 100) ∧ (v (29 + 15 * x0.toNatClampNeg) 0).toInt ≠ 0 → ((-1) : Int32) = -4 ∧ v = v) ∧ (((0 ≤ x0.toInt ∧ x0.toInt < (v 13 2).toInt) ∧ 0 ≤ x1.toInt ∧ x1.toInt ≤ 100) ∧ (v (29 + 15 * x0.toNatClampNeg) 0).toInt = 0 ∧ (v (31 + 15 * x0.toNatClampNeg) 1).toInt ≠ -1 → ((-1) : Int32) = -3 ∧ v = v) ∧ (((0 ≤ x0.toInt ∧ x0.toInt < (v 13 2).toInt) ∧ 0 ≤ x1.toInt ∧ x1.toInt ≤ 100) ∧ (v (29 + 15 * x0.toNatClampNeg) 0).toInt = 0 ∧ (v (31 + 15 * x0.toNatClampNeg) 1).toInt = -1 ∧ 5 ≤ (v (29 + 15 * x0.toNatClampNeg) 2).toInt → ((-1) : Int32) = -2 ∧ v = v) ∧ (((0 ≤ x0.toInt ∧ x0.toInt < (v 13 2).toInt) ∧ 0 ≤ x1.toInt ∧ x1.toInt ≤ 100) ∧ (v (29 + 15 * x0.toNatClampNeg) 0).toInt = 0 ∧ (v (31 + 15 * x0.toNatClampNeg) 1).toInt = -1 ∧ (v (29 + 15 * x0.toNatClampNeg) 2).toInt < 5 ∧ (v (31 + 15 * x0.toNatClampNeg) 0).toInt = -1 → ((-1) : Int32) = 0 ∧ (∀ k j : Nat, v k j = if k = 31 + 15 * x0.toNatClampNeg ∧ j = 1 then x1 else v k j)) ∧ (((0 ≤ x0.toInt ∧ x0.toInt < (v 13 2).toInt) ∧ 0 ≤ x1.toInt ∧ x1.toInt ≤ 100) ∧ (v (29 + 15 * x0.toNatClampNeg) 0).toInt = 0 ∧ (v (31 + 15 * x0.toNatClampNeg) 1).toInt = -1 ∧ (v (29 + 15 * x0.toNatClampNeg) 2).toInt < 5 ∧ (v (31 + 15 * x0.toNatClampNeg) 0).toInt ≠ -1 ∧ x1.toInt < (v (31 + 15 * x0.toNatClampNeg) 0).toInt → ((-1) : Int32) = 2 ∧ (∀ k j : Nat, v k j = if k = 31 + 15 * x0.toNatClampNeg ∧ j = 1 then -1 else if k = 31 + 15 * x0.toNatClampNeg ∧ j = 0 then -1 else if k = 29 + 15 * x0.toNatClampNeg ∧ j = 2 then v (29 + 15 * x0.toNatClampNeg) 2 + 1 else if k = 33 + 15 * x0.toNatClampNeg + 1 ∧ j = (v (29 + 15 * x0.toNatClampNeg) 2).toNatClampNeg then x1 else if k = 33 + 15 * x0.toNatClampNeg + 0 ∧ j = (v (29 + 15 * x0.toNatClampNeg) 2).toNatClampNeg then v (31 + 15 * x0.toNatClampNeg) 0 else if k = 31 + 15 * x0.toNatClampNeg ∧ j = 1 then x1 else v k j)) ∧ (((0 ≤ x0.toInt ∧ x0.toInt < (v 13 2).toInt) ∧ 0 ≤ x1.toInt ∧ x1.toInt ≤ 100) ∧ (v (29 + 15 * x0.toNatClampNeg) 0).toInt = 0 ∧ (v (31 + 15 * x0.toNatClampNeg) 1).toInt = -1 ∧ (v (29 + 15 * x0.toNatClampNeg) 2).toInt < 5 ∧ (v (31 + 15 * x0.toNatClampNeg) 0).toInt ≠ -1 ∧ (v (31 + 15 * x0.toNatClampNeg) 0).toInt ≤ x1.toInt → ((-1) : Int32) = 1 ∧ (∀ k j : Nat, v k j = if k = 29 + 15 * x0.toNatClampNeg ∧ j = 1 then (v (31 + 15 * x0.toNatClampNeg) 0 + x1) / 2 else if k = 29 + 15 * x0.toNatClampNeg ∧ j = 0 then 1 else if k = 29 + 15 * x0.toNatClampNeg ∧ j = 2 then v (29 + 15 * x0.toNatClampNeg) 2 + 1 else if k = 33 + 15 * x0.toNatClampNeg + 1 ∧ j = (v (29 + 15 * x0.toNatClampNeg) 2).toNatClampNeg then x1 else if k = 33 + 15 * x0.toNatClampNeg + 0 ∧ j = (v (29 + 15 * x0.toNatClampNeg) 2).toNatClampNeg then v (31 + 15 * x0.toNatClampNeg) 0 else if k = 31 + 15 * x0.toNatClampNeg ∧ j = 1 then x1 else v k j)) := by
        refine ⟨fun hq => ?_, fun hq => ?_, fun hq => ?_, fun hq => ?_, fun hq => ?_, fun hq => ?_, fun hq => ?_⟩
        · exact ⟨rfl, rfl⟩
        · exfalso; omega
        · exfalso; omega
        · exfalso; omega
        · exfalso; omega
        · exfalso; omega
        · exfalso; omega
      exact W.iret (v := (-1)) hx hb hr (fun t ht hW => ⟨⟨(-1), v, rfl, ⟨hv, hpost⟩, by rw [ht]; exact hP, hD⟩, hS.F ht⟩) hS.2.2 dX7_offer_26
  · refine lv_if_eq (tgt := 25) hx hb dX7_offer_5 (by decide) (fun _ => ?_) (fun c9 => absurd c9 (by decide))
    refine lv_iconst (v := (-1)) hx hb dX7_offer_25 (by decide) ?_
    have hpost : (¬ ((0 ≤ x0.toInt ∧ x0.toInt < (v 13 2).toInt) ∧ 0 ≤ x1.toInt ∧ x1.toInt ≤ 100) → ((-1) : Int32) = -1 ∧ v = v) ∧ (((0 ≤ x0.toInt ∧ x0.toInt < (v 13 2).toInt) ∧ 0 ≤ x1.toInt ∧ x1.toInt ≤ 100) ∧ (v (29 + 15 * x0.toNatClampNeg) 0).toInt ≠ 0 → ((-1) : Int32) = -4 ∧ v = v) ∧ (((0 ≤ x0.toInt ∧ x0.toInt < (v 13 2).toInt) ∧ 0 ≤ x1.toInt ∧ x1.toInt ≤ 100) ∧ (v (29 + 15 * x0.toNatClampNeg) 0).toInt = 0 ∧ (v (31 + 15 * x0.toNatClampNeg) 1).toInt ≠ -1 → ((-1) : Int32) = -3 ∧ v = v) ∧ (((0 ≤ x0.toInt ∧ x0.toInt < (v 13 2).toInt) ∧ 0 ≤ x1.toInt ∧ x1.toInt ≤ 100) ∧ (v (29 + 15 * x0.toNatClampNeg) 0).toInt = 0 ∧ (v (31 + 15 * x0.toNatClampNeg) 1).toInt = -1 ∧ 5 ≤ (v (29 + 15 * x0.toNatClampNeg) 2).toInt → ((-1) : Int32) = -2 ∧ v = v) ∧ (((0 ≤ x0.toInt ∧ x0.toInt < (v 13 2).toInt) ∧ 0 ≤ x1.toInt ∧ x1.toInt ≤ 100) ∧ (v (29 + 15 * x0.toNatClampNeg) 0).toInt = 0 ∧ (v (31 + 15 * x0.toNatClampNeg) 1).toInt = -1 ∧ (v (29 + 15 * x0.toNatClampNeg) 2).toInt < 5 ∧ (v (31 + 15 * x0.toNatClampNeg) 0).toInt = -1 → ((-1) : Int32) = 0 ∧ (∀ k j : Nat, v k j = if k = 31 + 15 * x0.toNatClampNeg ∧ j = 1 then x1 else v k j)) ∧ (((0 ≤ x0.toInt ∧ x0.toInt < (v 13 2).toInt) ∧ 0 ≤ x1.toInt ∧ x1.toInt ≤ 100) ∧ (v (29 + 15 * x0.toNatClampNeg) 0).toInt = 0 ∧ (v (31 + 15 * x0.toNatClampNeg) 1).toInt = -1 ∧ (v (29 + 15 * x0.toNatClampNeg) 2).toInt < 5 ∧ (v (31 + 15 * x0.toNatClampNeg) 0).toInt ≠ -1 ∧ x1.toInt < (v (31 + 15 * x0.toNatClampNeg) 0).toInt → ((-1) : Int32) = 2 ∧ (∀ k j : Nat, v k j = if k = 31 + 15 * x0.toNatClampNeg ∧ j = 1 then -1 else if k = 31 + 15 * x0.toNatClampNeg ∧ j = 0 then -1 else if k = 29 + 15 * x0.toNatClampNeg ∧ j = 2 then v (29 + 15 * x0.toNatClampNeg) 2 + 1 else if k = 33 + 15 * x0.toNatClampNeg + 1 ∧ j = (v (29 + 15 * x0.toNatClampNeg) 2).toNatClampNeg then x1 else if k = 33 + 15 * x0.toNatClampNeg + 0 ∧ j = (v (29 + 15 * x0.toNatClampNeg) 2).toNatClampNeg then v (31 + 15 * x0.toNatClampNeg) 0 else if k = 31 + 15 * x0.toNatClampNeg ∧ j = 1 then x1 else v k j)) ∧ (((0 ≤ x0.toInt ∧ x0.toInt < (v 13 2).toInt) ∧ 0 ≤ x1.toInt ∧ x1.toInt ≤ 100) ∧ (v (29 + 15 * x0.toNatClampNeg) 0).toInt = 0 ∧ (v (31 + 15 * x0.toNatClampNeg) 1).toInt = -1 ∧ (v (29 + 15 * x0.toNatClampNeg) 2).toInt < 5 ∧ (v (31 + 15 * x0.toNatClampNeg) 0).toInt ≠ -1 ∧ (v (31 + 15 * x0.toNatClampNeg) 0).toInt ≤ x1.toInt → ((-1) : Int32) = 1 ∧ (∀ k j : Nat, v k j = if k = 29 + 15 * x0.toNatClampNeg ∧ j = 1 then (v (31 + 15 * x0.toNatClampNeg) 0 + x1) / 2 else if k = 29 + 15 * x0.toNatClampNeg ∧ j = 0 then 1 else if k = 29 + 15 * x0.toNatClampNeg ∧ j = 2 then v (29 + 15 * x0.toNatClampNeg) 2 + 1 else if k = 33 + 15 * x0.toNatClampNeg + 1 ∧ j = (v (29 + 15 * x0.toNatClampNeg) 2).toNatClampNeg then x1 else if k = 33 + 15 * x0.toNatClampNeg + 0 ∧ j = (v (29 + 15 * x0.toNatClampNeg) 2).toNatClampNeg then v (31 + 15 * x0.toNatClampNeg) 0 else if k = 31 + 15 * x0.toNatClampNeg ∧ j = 1 then x1 else v k j)) := by
      refine ⟨fun hq => ?_, fun hq => ?_, fun hq => ?_, fun hq => ?_, fun hq => ?_, fun hq => ?_, fun hq => ?_⟩
      · exact ⟨rfl, rfl⟩
      · exfalso; omega
      · exfalso; omega
      · exfalso; omega
      · exfalso; omega
      · exfalso; omega
      · exfalso; omega
    exact W.iret (v := (-1)) hx hb hr (fun t ht hW => ⟨⟨(-1), v, rfl, ⟨hv, hpost⟩, by rw [ht]; exact hP, hD⟩, hS.F ht⟩) hS.2.2 dX7_offer_26
set_option maxRecDepth 20000 in
theorem db_X8_open_0 : (decode cX8_open 0 = .ok (.aload_n 0, 1)) ∧ (decode cX8_open 1 = .ok (.iload_n 1, 1)) ∧ (decode cX8_open 2 = .ok (.invokevirtual 43, 3)) ∧ (decode cX8_open 5 = .ok (.ifCond .eq 16, 3)) ∧ (decode cX8_open 8 = .ok (.aload_n 0, 1)) ∧ (decode cX8_open 9 = .ok (.iload_n 2, 1)) ∧ (decode cX8_open 10 = .ok (.invokevirtual 43, 3)) ∧ (decode cX8_open 13 = .ok (.ifCond .eq 8, 3)) := by decide +kernel
theorem dX8_open_0 : decode cX8_open 0 = .ok (.aload_n 0, 1) := db_X8_open_0.1
theorem dX8_open_1 : decode cX8_open 1 = .ok (.iload_n 1, 1) := db_X8_open_0.2.1
set_option maxRecDepth 20000 in
theorem ggX8_open_X8_isParty : GoodIn wsX8_open wsX8_isParty := goodIn_r _ [6, 1, 7, 8, 5, 9, 13, 14, 15, 16, 17, 18, 19, 20, 21, 22, 23] rfl (by decide +kernel)
set_option maxRecDepth 20000 in
theorem gX8_open_X8_isParty : GoodIn wsX8_open (wsV RX8 43 RX8 yX8_isParty wsX8_isParty) := goodIn_app (goodIn_r _ [2, 3, 4, 5] rfl (by decide +kernel)) ggX8_open_X8_isParty
theorem dX8_open_2 : decode cX8_open 2 = .ok (.invokevirtual 43, 3) := db_X8_open_0.2.2.1
theorem dX8_open_5 : decode cX8_open 5 = .ok (.ifCond .eq 16, 3) := db_X8_open_0.2.2.2.1
theorem dX8_open_8 : decode cX8_open 8 = .ok (.aload_n 0, 1) := db_X8_open_0.2.2.2.2.1
theorem dX8_open_9 : decode cX8_open 9 = .ok (.iload_n 2, 1) := db_X8_open_0.2.2.2.2.2.1
theorem dX8_open_10 : decode cX8_open 10 = .ok (.invokevirtual 43, 3) := db_X8_open_0.2.2.2.2.2.2.1
theorem dX8_open_13 : decode cX8_open 13 = .ok (.ifCond .eq 8, 3) := db_X8_open_0.2.2.2.2.2.2.2
set_option maxRecDepth 20000 in
theorem db_X8_open_16 : (decode cX8_open 16 = .ok (.iload_n 1, 1)) ∧ (decode cX8_open 17 = .ok (.iload_n 2, 1)) ∧ (decode cX8_open 18 = .ok (.if_icmp .ne 5, 3)) ∧ (decode cX8_open 23 = .ok (.aload_n 0, 1)) ∧ (decode cX8_open 24 = .ok (.getfield 7, 3)) ∧ (decode cX8_open 27 = .ok (.iconst 2, 1)) ∧ (decode cX8_open 28 = .ok (.iaload, 1)) ∧ (decode cX8_open 29 = .ok (.bipush 6, 2)) := by decide +kernel
theorem dX8_open_16 : decode cX8_open 16 = .ok (.iload_n 1, 1) := db_X8_open_16.1
theorem dX8_open_17 : decode cX8_open 17 = .ok (.iload_n 2, 1) := db_X8_open_16.2.1
theorem dX8_open_18 : decode cX8_open 18 = .ok (.if_icmp .ne 5, 3) := db_X8_open_16.2.2.1
theorem dX8_open_23 : decode cX8_open 23 = .ok (.aload_n 0, 1) := db_X8_open_16.2.2.2.1
theorem dX8_open_24 : decode cX8_open 24 = .ok (.getfield 7, 3) := db_X8_open_16.2.2.2.2.1
theorem dX8_open_27 : decode cX8_open 27 = .ok (.iconst 2, 1) := db_X8_open_16.2.2.2.2.2.1
theorem dX8_open_28 : decode cX8_open 28 = .ok (.iaload, 1) := db_X8_open_16.2.2.2.2.2.2.1
theorem dX8_open_29 : decode cX8_open 29 = .ok (.bipush 6, 2) := db_X8_open_16.2.2.2.2.2.2.2
set_option maxRecDepth 20000 in
theorem db_X8_open_31 : (decode cX8_open 31 = .ok (.if_icmp .ne 6, 3)) ∧ (decode cX8_open 37 = .ok (.aload_n 0, 1)) ∧ (decode cX8_open 38 = .ok (.getfield 7, 3)) ∧ (decode cX8_open 41 = .ok (.iconst 2, 1)) ∧ (decode cX8_open 42 = .ok (.iaload, 1)) ∧ (decode cX8_open 43 = .ok (.istore_n 3, 1)) ∧ (decode cX8_open 44 = .ok (.aload_n 0, 1)) ∧ (decode cX8_open 45 = .ok (.getfield 7, 3)) := by decide +kernel
theorem dX8_open_31 : decode cX8_open 31 = .ok (.if_icmp .ne 6, 3) := db_X8_open_31.1
theorem dX8_open_37 : decode cX8_open 37 = .ok (.aload_n 0, 1) := db_X8_open_31.2.1
theorem dX8_open_38 : decode cX8_open 38 = .ok (.getfield 7, 3) := db_X8_open_31.2.2.1
theorem dX8_open_41 : decode cX8_open 41 = .ok (.iconst 2, 1) := db_X8_open_31.2.2.2.1
theorem dX8_open_42 : decode cX8_open 42 = .ok (.iaload, 1) := db_X8_open_31.2.2.2.2.1
theorem dX8_open_43 : decode cX8_open 43 = .ok (.istore_n 3, 1) := db_X8_open_31.2.2.2.2.2.1
theorem dX8_open_44 : decode cX8_open 44 = .ok (.aload_n 0, 1) := db_X8_open_31.2.2.2.2.2.2.1
theorem dX8_open_45 : decode cX8_open 45 = .ok (.getfield 7, 3) := db_X8_open_31.2.2.2.2.2.2.2
set_option maxRecDepth 20000 in
theorem db_X8_open_48 : (decode cX8_open 48 = .ok (.iload_n 3, 1)) ∧ (decode cX8_open 49 = .ok (.iconst 0, 1)) ∧ (decode cX8_open 50 = .ok (.invokestatic 46, 3)) ∧ (decode cX8_open 53 = .ok (.iload_n 1, 1)) ∧ (decode cX8_open 54 = .ok (.iastore, 1)) ∧ (decode cX8_open 55 = .ok (.aload_n 0, 1)) ∧ (decode cX8_open 56 = .ok (.getfield 7, 3)) ∧ (decode cX8_open 59 = .ok (.iload_n 3, 1)) := by decide +kernel
theorem dX8_open_48 : decode cX8_open 48 = .ok (.iload_n 3, 1) := db_X8_open_48.1
theorem dX8_open_49 : decode cX8_open 49 = .ok (.iconst 0, 1) := db_X8_open_48.2.1
set_option maxRecDepth 20000 in
theorem ggX8_open_X8_at : GoodIn wsX8_open wsX8_at := goodIn_r _ [12] rfl (by decide +kernel)
set_option maxRecDepth 20000 in
theorem gX8_open_X8_at : GoodIn wsX8_open (va_wsS RX8 46 yX8_at wsX8_at) := goodIn_app (goodIn_r _ [10, 11, 5] rfl (by decide +kernel)) ggX8_open_X8_at
theorem dX8_open_50 : decode cX8_open 50 = .ok (.invokestatic 46, 3) := db_X8_open_48.2.2.1
theorem dX8_open_53 : decode cX8_open 53 = .ok (.iload_n 1, 1) := db_X8_open_48.2.2.2.1
theorem dX8_open_54 : decode cX8_open 54 = .ok (.iastore, 1) := db_X8_open_48.2.2.2.2.1
theorem dX8_open_55 : decode cX8_open 55 = .ok (.aload_n 0, 1) := db_X8_open_48.2.2.2.2.2.1
theorem dX8_open_56 : decode cX8_open 56 = .ok (.getfield 7, 3) := db_X8_open_48.2.2.2.2.2.2.1
theorem dX8_open_59 : decode cX8_open 59 = .ok (.iload_n 3, 1) := db_X8_open_48.2.2.2.2.2.2.2
set_option maxRecDepth 20000 in
theorem db_X8_open_60 : (decode cX8_open 60 = .ok (.iconst 1, 1)) ∧ (decode cX8_open 61 = .ok (.invokestatic 46, 3)) ∧ (decode cX8_open 64 = .ok (.iload_n 2, 1)) ∧ (decode cX8_open 65 = .ok (.iastore, 1)) ∧ (decode cX8_open 66 = .ok (.aload_n 0, 1)) ∧ (decode cX8_open 67 = .ok (.getfield 7, 3)) ∧ (decode cX8_open 70 = .ok (.iload_n 3, 1)) ∧ (decode cX8_open 71 = .ok (.iconst 2, 1)) := by decide +kernel
theorem dX8_open_60 : decode cX8_open 60 = .ok (.iconst 1, 1) := db_X8_open_60.1
theorem dX8_open_61 : decode cX8_open 61 = .ok (.invokestatic 46, 3) := db_X8_open_60.2.1
theorem dX8_open_64 : decode cX8_open 64 = .ok (.iload_n 2, 1) := db_X8_open_60.2.2.1
theorem dX8_open_65 : decode cX8_open 65 = .ok (.iastore, 1) := db_X8_open_60.2.2.2.1
theorem dX8_open_66 : decode cX8_open 66 = .ok (.aload_n 0, 1) := db_X8_open_60.2.2.2.2.1
theorem dX8_open_67 : decode cX8_open 67 = .ok (.getfield 7, 3) := db_X8_open_60.2.2.2.2.2.1
theorem dX8_open_70 : decode cX8_open 70 = .ok (.iload_n 3, 1) := db_X8_open_60.2.2.2.2.2.2.1
theorem dX8_open_71 : decode cX8_open 71 = .ok (.iconst 2, 1) := db_X8_open_60.2.2.2.2.2.2.2
set_option maxRecDepth 20000 in
theorem db_X8_open_72 : (decode cX8_open 72 = .ok (.invokestatic 46, 3)) ∧ (decode cX8_open 75 = .ok (.iconst 0, 1)) ∧ (decode cX8_open 76 = .ok (.iastore, 1)) ∧ (decode cX8_open 77 = .ok (.aload_n 0, 1)) ∧ (decode cX8_open 78 = .ok (.getfield 7, 3)) ∧ (decode cX8_open 81 = .ok (.iload_n 3, 1)) ∧ (decode cX8_open 82 = .ok (.iconst 3, 1)) ∧ (decode cX8_open 83 = .ok (.invokestatic 46, 3)) := by decide +kernel
theorem dX8_open_72 : decode cX8_open 72 = .ok (.invokestatic 46, 3) := db_X8_open_72.1
theorem dX8_open_75 : decode cX8_open 75 = .ok (.iconst 0, 1) := db_X8_open_72.2.1
theorem dX8_open_76 : decode cX8_open 76 = .ok (.iastore, 1) := db_X8_open_72.2.2.1
theorem dX8_open_77 : decode cX8_open 77 = .ok (.aload_n 0, 1) := db_X8_open_72.2.2.2.1
theorem dX8_open_78 : decode cX8_open 78 = .ok (.getfield 7, 3) := db_X8_open_72.2.2.2.2.1
theorem dX8_open_81 : decode cX8_open 81 = .ok (.iload_n 3, 1) := db_X8_open_72.2.2.2.2.2.1
theorem dX8_open_82 : decode cX8_open 82 = .ok (.iconst 3, 1) := db_X8_open_72.2.2.2.2.2.2.1
theorem dX8_open_83 : decode cX8_open 83 = .ok (.invokestatic 46, 3) := db_X8_open_72.2.2.2.2.2.2.2
set_option maxRecDepth 20000 in
theorem db_X8_open_86 : (decode cX8_open 86 = .ok (.bipush (-5), 2)) ∧ (decode cX8_open 88 = .ok (.iastore, 1)) ∧ (decode cX8_open 89 = .ok (.aload_n 0, 1)) ∧ (decode cX8_open 90 = .ok (.getfield 7, 3)) ∧ (decode cX8_open 93 = .ok (.iload_n 3, 1)) ∧ (decode cX8_open 94 = .ok (.iconst 4, 1)) ∧ (decode cX8_open 95 = .ok (.invokestatic 46, 3)) ∧ (decode cX8_open 98 = .ok (.iconst 0, 1)) := by decide +kernel
theorem dX8_open_86 : decode cX8_open 86 = .ok (.bipush (-5), 2) := db_X8_open_86.1
theorem dX8_open_88 : decode cX8_open 88 = .ok (.iastore, 1) := db_X8_open_86.2.1
theorem dX8_open_89 : decode cX8_open 89 = .ok (.aload_n 0, 1) := db_X8_open_86.2.2.1
theorem dX8_open_90 : decode cX8_open 90 = .ok (.getfield 7, 3) := db_X8_open_86.2.2.2.1
theorem dX8_open_93 : decode cX8_open 93 = .ok (.iload_n 3, 1) := db_X8_open_86.2.2.2.2.1
theorem dX8_open_94 : decode cX8_open 94 = .ok (.iconst 4, 1) := db_X8_open_86.2.2.2.2.2.1
theorem dX8_open_95 : decode cX8_open 95 = .ok (.invokestatic 46, 3) := db_X8_open_86.2.2.2.2.2.2.1
theorem dX8_open_98 : decode cX8_open 98 = .ok (.iconst 0, 1) := db_X8_open_86.2.2.2.2.2.2.2
set_option maxRecDepth 20000 in
theorem db_X8_open_99 : (decode cX8_open 99 = .ok (.iastore, 1)) ∧ (decode cX8_open 100 = .ok (.aload_n 0, 1)) ∧ (decode cX8_open 101 = .ok (.getfield 7, 3)) ∧ (decode cX8_open 104 = .ok (.iload_n 3, 1)) ∧ (decode cX8_open 105 = .ok (.iconst 5, 1)) ∧ (decode cX8_open 106 = .ok (.invokestatic 46, 3)) ∧ (decode cX8_open 109 = .ok (.iconst 1, 1)) ∧ (decode cX8_open 110 = .ok (.iastore, 1)) := by decide +kernel
theorem dX8_open_99 : decode cX8_open 99 = .ok (.iastore, 1) := db_X8_open_99.1
theorem dX8_open_100 : decode cX8_open 100 = .ok (.aload_n 0, 1) := db_X8_open_99.2.1
theorem dX8_open_101 : decode cX8_open 101 = .ok (.getfield 7, 3) := db_X8_open_99.2.2.1
theorem dX8_open_104 : decode cX8_open 104 = .ok (.iload_n 3, 1) := db_X8_open_99.2.2.2.1
theorem dX8_open_105 : decode cX8_open 105 = .ok (.iconst 5, 1) := db_X8_open_99.2.2.2.2.1
theorem dX8_open_106 : decode cX8_open 106 = .ok (.invokestatic 46, 3) := db_X8_open_99.2.2.2.2.2.1
theorem dX8_open_109 : decode cX8_open 109 = .ok (.iconst 1, 1) := db_X8_open_99.2.2.2.2.2.2.1
theorem dX8_open_110 : decode cX8_open 110 = .ok (.iastore, 1) := db_X8_open_99.2.2.2.2.2.2.2
set_option maxRecDepth 20000 in
theorem db_X8_open_111 : (decode cX8_open 111 = .ok (.aload_n 0, 1)) ∧ (decode cX8_open 112 = .ok (.getfield 7, 3)) ∧ (decode cX8_open 115 = .ok (.iload_n 3, 1)) ∧ (decode cX8_open 116 = .ok (.bipush 6, 2)) ∧ (decode cX8_open 118 = .ok (.invokestatic 46, 3)) ∧ (decode cX8_open 121 = .ok (.iconst 0, 1)) ∧ (decode cX8_open 122 = .ok (.iastore, 1)) ∧ (decode cX8_open 123 = .ok (.aload_n 0, 1)) := by decide +kernel
theorem dX8_open_111 : decode cX8_open 111 = .ok (.aload_n 0, 1) := db_X8_open_111.1
theorem dX8_open_112 : decode cX8_open 112 = .ok (.getfield 7, 3) := db_X8_open_111.2.1
theorem dX8_open_115 : decode cX8_open 115 = .ok (.iload_n 3, 1) := db_X8_open_111.2.2.1
theorem dX8_open_116 : decode cX8_open 116 = .ok (.bipush 6, 2) := db_X8_open_111.2.2.2.1
theorem dX8_open_118 : decode cX8_open 118 = .ok (.invokestatic 46, 3) := db_X8_open_111.2.2.2.2.1
theorem dX8_open_121 : decode cX8_open 121 = .ok (.iconst 0, 1) := db_X8_open_111.2.2.2.2.2.1
theorem dX8_open_122 : decode cX8_open 122 = .ok (.iastore, 1) := db_X8_open_111.2.2.2.2.2.2.1
theorem dX8_open_123 : decode cX8_open 123 = .ok (.aload_n 0, 1) := db_X8_open_111.2.2.2.2.2.2.2
set_option maxRecDepth 20000 in
theorem db_X8_open_124 : (decode cX8_open 124 = .ok (.getfield 7, 3)) ∧ (decode cX8_open 127 = .ok (.bipush 74, 2)) ∧ (decode cX8_open 129 = .ok (.iconst 2, 1)) ∧ (decode cX8_open 130 = .ok (.iload_n 3, 1)) ∧ (decode cX8_open 131 = .ok (.imul, 1)) ∧ (decode cX8_open 132 = .ok (.iadd, 1)) ∧ (decode cX8_open 133 = .ok (.bipush (-5), 2)) ∧ (decode cX8_open 135 = .ok (.iastore, 1)) := by decide +kernel
theorem dX8_open_124 : decode cX8_open 124 = .ok (.getfield 7, 3) := db_X8_open_124.1
theorem dX8_open_127 : decode cX8_open 127 = .ok (.bipush 74, 2) := db_X8_open_124.2.1
theorem dX8_open_129 : decode cX8_open 129 = .ok (.iconst 2, 1) := db_X8_open_124.2.2.1
theorem dX8_open_130 : decode cX8_open 130 = .ok (.iload_n 3, 1) := db_X8_open_124.2.2.2.1
theorem dX8_open_131 : decode cX8_open 131 = .ok (.imul, 1) := db_X8_open_124.2.2.2.2.1
theorem dX8_open_132 : decode cX8_open 132 = .ok (.iadd, 1) := db_X8_open_124.2.2.2.2.2.1
theorem dX8_open_133 : decode cX8_open 133 = .ok (.bipush (-5), 2) := db_X8_open_124.2.2.2.2.2.2.1
theorem dX8_open_135 : decode cX8_open 135 = .ok (.iastore, 1) := db_X8_open_124.2.2.2.2.2.2.2
set_option maxRecDepth 20000 in
theorem db_X8_open_136 : (decode cX8_open 136 = .ok (.aload_n 0, 1)) ∧ (decode cX8_open 137 = .ok (.getfield 7, 3)) ∧ (decode cX8_open 140 = .ok (.bipush 74, 2)) ∧ (decode cX8_open 142 = .ok (.iconst 2, 1)) ∧ (decode cX8_open 143 = .ok (.iload_n 3, 1)) ∧ (decode cX8_open 144 = .ok (.imul, 1)) ∧ (decode cX8_open 145 = .ok (.iadd, 1)) ∧ (decode cX8_open 146 = .ok (.iconst 1, 1)) := by decide +kernel
theorem dX8_open_136 : decode cX8_open 136 = .ok (.aload_n 0, 1) := db_X8_open_136.1
theorem dX8_open_137 : decode cX8_open 137 = .ok (.getfield 7, 3) := db_X8_open_136.2.1
theorem dX8_open_140 : decode cX8_open 140 = .ok (.bipush 74, 2) := db_X8_open_136.2.2.1
theorem dX8_open_142 : decode cX8_open 142 = .ok (.iconst 2, 1) := db_X8_open_136.2.2.2.1
theorem dX8_open_143 : decode cX8_open 143 = .ok (.iload_n 3, 1) := db_X8_open_136.2.2.2.2.1
theorem dX8_open_144 : decode cX8_open 144 = .ok (.imul, 1) := db_X8_open_136.2.2.2.2.2.1
theorem dX8_open_145 : decode cX8_open 145 = .ok (.iadd, 1) := db_X8_open_136.2.2.2.2.2.2.1
theorem dX8_open_146 : decode cX8_open 146 = .ok (.iconst 1, 1) := db_X8_open_136.2.2.2.2.2.2.2
set_option maxRecDepth 20000 in
theorem db_X8_open_147 : (decode cX8_open 147 = .ok (.iadd, 1)) ∧ (decode cX8_open 148 = .ok (.bipush (-5), 2)) ∧ (decode cX8_open 150 = .ok (.iastore, 1)) ∧ (decode cX8_open 151 = .ok (.iconst 0, 1)) ∧ (decode cX8_open 152 = .ok (.istore 4, 2)) ∧ (decode cX8_open 154 = .ok (.iload 4, 2)) ∧ (decode cX8_open 156 = .ok (.bipush 48, 2)) ∧ (decode cX8_open 158 = .ok (.if_icmp .ge 27, 3)) := by decide +kernel
theorem dX8_open_147 : decode cX8_open 147 = .ok (.iadd, 1) := db_X8_open_147.1
theorem dX8_open_148 : decode cX8_open 148 = .ok (.bipush (-5), 2) := db_X8_open_147.2.1
theorem dX8_open_150 : decode cX8_open 150 = .ok (.iastore, 1) := db_X8_open_147.2.2.1
theorem dX8_open_151 : decode cX8_open 151 = .ok (.iconst 0, 1) := db_X8_open_147.2.2.2.1
theorem dX8_open_152 : decode cX8_open 152 = .ok (.istore 4, 2) := db_X8_open_147.2.2.2.2.1
theorem dX8_open_154 : decode cX8_open 154 = .ok (.iload 4, 2) := db_X8_open_147.2.2.2.2.2.1
theorem dX8_open_156 : decode cX8_open 156 = .ok (.bipush 48, 2) := db_X8_open_147.2.2.2.2.2.2.1
theorem dX8_open_158 : decode cX8_open 158 = .ok (.if_icmp .ge 27, 3) := db_X8_open_147.2.2.2.2.2.2.2
set_option maxRecDepth 20000 in
theorem db_X8_open_185 : (decode cX8_open 185 = .ok (.aload_n 0, 1)) ∧ (decode cX8_open 186 = .ok (.getfield 7, 3)) ∧ (decode cX8_open 189 = .ok (.iconst 2, 1)) ∧ (decode cX8_open 190 = .ok (.dup2, 1)) ∧ (decode cX8_open 191 = .ok (.iaload, 1)) ∧ (decode cX8_open 192 = .ok (.iconst 1, 1)) ∧ (decode cX8_open 193 = .ok (.iadd, 1)) ∧ (decode cX8_open 194 = .ok (.iastore, 1)) := by decide +kernel
theorem dX8_open_185 : decode cX8_open 185 = .ok (.aload_n 0, 1) := db_X8_open_185.1
theorem dX8_open_186 : decode cX8_open 186 = .ok (.getfield 7, 3) := db_X8_open_185.2.1
theorem dX8_open_189 : decode cX8_open 189 = .ok (.iconst 2, 1) := db_X8_open_185.2.2.1
theorem dX8_open_190 : decode cX8_open 190 = .ok (.dup2, 1) := db_X8_open_185.2.2.2.1
theorem dX8_open_191 : decode cX8_open 191 = .ok (.iaload, 1) := db_X8_open_185.2.2.2.2.1
theorem dX8_open_192 : decode cX8_open 192 = .ok (.iconst 1, 1) := db_X8_open_185.2.2.2.2.2.1
theorem dX8_open_193 : decode cX8_open 193 = .ok (.iadd, 1) := db_X8_open_185.2.2.2.2.2.2.1
theorem dX8_open_194 : decode cX8_open 194 = .ok (.iastore, 1) := db_X8_open_185.2.2.2.2.2.2.2
set_option maxRecDepth 20000 in
theorem db_X8_open_195 : (decode cX8_open 195 = .ok (.iload_n 3, 1)) ∧ (decode cX8_open 196 = .ok (.ireturn, 1)) ∧ (decode cX8_open 161 = .ok (.aload_n 0, 1)) ∧ (decode cX8_open 162 = .ok (.getfield 7, 3)) ∧ (decode cX8_open 165 = .ok (.sipush 308, 3)) ∧ (decode cX8_open 168 = .ok (.bipush 48, 2)) ∧ (decode cX8_open 170 = .ok (.iload_n 3, 1)) ∧ (decode cX8_open 171 = .ok (.imul, 1)) := by decide +kernel
theorem dX8_open_195 : decode cX8_open 195 = .ok (.iload_n 3, 1) := db_X8_open_195.1
theorem dX8_open_196 : decode cX8_open 196 = .ok (.ireturn, 1) := db_X8_open_195.2.1
theorem dX8_open_161 : decode cX8_open 161 = .ok (.aload_n 0, 1) := db_X8_open_195.2.2.1
theorem dX8_open_162 : decode cX8_open 162 = .ok (.getfield 7, 3) := db_X8_open_195.2.2.2.1
theorem dX8_open_165 : decode cX8_open 165 = .ok (.sipush 308, 3) := db_X8_open_195.2.2.2.2.1
theorem dX8_open_168 : decode cX8_open 168 = .ok (.bipush 48, 2) := db_X8_open_195.2.2.2.2.2.1
theorem dX8_open_170 : decode cX8_open 170 = .ok (.iload_n 3, 1) := db_X8_open_195.2.2.2.2.2.2.1
theorem dX8_open_171 : decode cX8_open 171 = .ok (.imul, 1) := db_X8_open_195.2.2.2.2.2.2.2
set_option maxRecDepth 20000 in
theorem db_X8_open_172 : (decode cX8_open 172 = .ok (.iadd, 1)) ∧ (decode cX8_open 173 = .ok (.iload 4, 2)) ∧ (decode cX8_open 175 = .ok (.iadd, 1)) ∧ (decode cX8_open 176 = .ok (.bipush 7, 2)) ∧ (decode cX8_open 178 = .ok (.iastore, 1)) ∧ (decode cX8_open 179 = .ok (.iinc 4 1, 3)) ∧ (decode cX8_open 182 = .ok (.goto (-28), 3)) ∧ (decode cX8_open 34 = .ok (.bipush (-2), 2)) := by decide +kernel
theorem dX8_open_172 : decode cX8_open 172 = .ok (.iadd, 1) := db_X8_open_172.1
theorem dX8_open_173 : decode cX8_open 173 = .ok (.iload 4, 2) := db_X8_open_172.2.1
theorem dX8_open_175 : decode cX8_open 175 = .ok (.iadd, 1) := db_X8_open_172.2.2.1
theorem dX8_open_176 : decode cX8_open 176 = .ok (.bipush 7, 2) := db_X8_open_172.2.2.2.1
theorem dX8_open_178 : decode cX8_open 178 = .ok (.iastore, 1) := db_X8_open_172.2.2.2.2.1
theorem dX8_open_179 : decode cX8_open 179 = .ok (.iinc 4 1, 3) := db_X8_open_172.2.2.2.2.2.1
theorem dX8_open_182 : decode cX8_open 182 = .ok (.goto (-28), 3) := db_X8_open_172.2.2.2.2.2.2.1
theorem dX8_open_34 : decode cX8_open 34 = .ok (.bipush (-2), 2) := db_X8_open_172.2.2.2.2.2.2.2
set_option maxRecDepth 20000 in
theorem db_X8_open_36 : (decode cX8_open 36 = .ok (.ireturn, 1)) ∧ (decode cX8_open 21 = .ok (.iconst (-1), 1)) ∧ (decode cX8_open 22 = .ok (.ireturn, 1)) := by decide +kernel
theorem dX8_open_36 : decode cX8_open 36 = .ok (.ireturn, 1) := db_X8_open_36.1
theorem dX8_open_21 : decode cX8_open 21 = .ok (.iconst (-1), 1) := db_X8_open_36.2.1
theorem dX8_open_22 : decode cX8_open 22 = .ok (.ireturn, 1) := db_X8_open_36.2.2
set_option maxRecDepth 20000 in
theorem db_X8_party_0 : (decode cX8_party 0 = .ok (.iload_n 1, 1)) ∧ (decode cX8_party 1 = .ok (.iconst 0, 1)) ∧ (decode cX8_party 2 = .ok (.bipush 9, 2)) ∧ (decode cX8_party 4 = .ok (.invokestatic 35, 3)) ∧ (decode cX8_party 7 = .ok (.ifCond .eq 12, 3)) ∧ (decode cX8_party 10 = .ok (.iload_n 2, 1)) ∧ (decode cX8_party 11 = .ok (.iconst 0, 1)) ∧ (decode cX8_party 12 = .ok (.iconst 2, 1)) := by decide +kernel
theorem dX8_party_0 : decode cX8_party 0 = .ok (.iload_n 1, 1) := db_X8_party_0.1
theorem dX8_party_1 : decode cX8_party 1 = .ok (.iconst 0, 1) := db_X8_party_0.2.1
theorem dX8_party_2 : decode cX8_party 2 = .ok (.bipush 9, 2) := db_X8_party_0.2.2.1
set_option maxRecDepth 20000 in
theorem ggX8_party_X8_in : GoodIn wsX8_party wsX8_in := goodIn_r _ [5] rfl (by decide +kernel)
set_option maxRecDepth 20000 in
theorem gX8_party_X8_in : GoodIn wsX8_party (va_wsS RX8 35 yX8_in wsX8_in) := goodIn_app (goodIn_r _ [2, 3, 4] rfl (by decide +kernel)) ggX8_party_X8_in
theorem dX8_party_4 : decode cX8_party 4 = .ok (.invokestatic 35, 3) := db_X8_party_0.2.2.2.1
theorem dX8_party_7 : decode cX8_party 7 = .ok (.ifCond .eq 12, 3) := db_X8_party_0.2.2.2.2.1
theorem dX8_party_10 : decode cX8_party 10 = .ok (.iload_n 2, 1) := db_X8_party_0.2.2.2.2.2.1
theorem dX8_party_11 : decode cX8_party 11 = .ok (.iconst 0, 1) := db_X8_party_0.2.2.2.2.2.2.1
theorem dX8_party_12 : decode cX8_party 12 = .ok (.iconst 2, 1) := db_X8_party_0.2.2.2.2.2.2.2
set_option maxRecDepth 20000 in
theorem db_X8_party_13 : (decode cX8_party 13 = .ok (.invokestatic 35, 3)) ∧ (decode cX8_party 16 = .ok (.ifCond .ne 5, 3)) ∧ (decode cX8_party 21 = .ok (.aload_n 0, 1)) ∧ (decode cX8_party 22 = .ok (.getfield 7, 3)) ∧ (decode cX8_party 25 = .ok (.iconst 0, 1)) ∧ (decode cX8_party 26 = .ok (.iaload, 1)) ∧ (decode cX8_party 27 = .ok (.bipush 8, 2)) ∧ (decode cX8_party 29 = .ok (.if_icmp .ne 6, 3)) := by decide +kernel
theorem dX8_party_13 : decode cX8_party 13 = .ok (.invokestatic 35, 3) := db_X8_party_13.1
theorem dX8_party_16 : decode cX8_party 16 = .ok (.ifCond .ne 5, 3) := db_X8_party_13.2.1
theorem dX8_party_21 : decode cX8_party 21 = .ok (.aload_n 0, 1) := db_X8_party_13.2.2.1
theorem dX8_party_22 : decode cX8_party 22 = .ok (.getfield 7, 3) := db_X8_party_13.2.2.2.1
theorem dX8_party_25 : decode cX8_party 25 = .ok (.iconst 0, 1) := db_X8_party_13.2.2.2.2.1
theorem dX8_party_26 : decode cX8_party 26 = .ok (.iaload, 1) := db_X8_party_13.2.2.2.2.2.1
theorem dX8_party_27 : decode cX8_party 27 = .ok (.bipush 8, 2) := db_X8_party_13.2.2.2.2.2.2.1
theorem dX8_party_29 : decode cX8_party 29 = .ok (.if_icmp .ne 6, 3) := db_X8_party_13.2.2.2.2.2.2.2
set_option maxRecDepth 20000 in
theorem db_X8_party_35 : (decode cX8_party 35 = .ok (.aload_n 0, 1)) ∧ (decode cX8_party 36 = .ok (.getfield 7, 3)) ∧ (decode cX8_party 39 = .ok (.iconst 0, 1)) ∧ (decode cX8_party 40 = .ok (.iaload, 1)) ∧ (decode cX8_party 41 = .ok (.istore_n 3, 1)) ∧ (decode cX8_party 42 = .ok (.aload_n 0, 1)) ∧ (decode cX8_party 43 = .ok (.getfield 7, 3)) ∧ (decode cX8_party 46 = .ok (.iconst 4, 1)) := by decide +kernel
theorem dX8_party_35 : decode cX8_party 35 = .ok (.aload_n 0, 1) := db_X8_party_35.1
theorem dX8_party_36 : decode cX8_party 36 = .ok (.getfield 7, 3) := db_X8_party_35.2.1
theorem dX8_party_39 : decode cX8_party 39 = .ok (.iconst 0, 1) := db_X8_party_35.2.2.1
theorem dX8_party_40 : decode cX8_party 40 = .ok (.iaload, 1) := db_X8_party_35.2.2.2.1
theorem dX8_party_41 : decode cX8_party 41 = .ok (.istore_n 3, 1) := db_X8_party_35.2.2.2.2.1
theorem dX8_party_42 : decode cX8_party 42 = .ok (.aload_n 0, 1) := db_X8_party_35.2.2.2.2.2.1
theorem dX8_party_43 : decode cX8_party 43 = .ok (.getfield 7, 3) := db_X8_party_35.2.2.2.2.2.2.1
theorem dX8_party_46 : decode cX8_party 46 = .ok (.iconst 4, 1) := db_X8_party_35.2.2.2.2.2.2.2
set_option maxRecDepth 20000 in
theorem db_X8_party_47 : (decode cX8_party 47 = .ok (.iconst 2, 1)) ∧ (decode cX8_party 48 = .ok (.iload_n 3, 1)) ∧ (decode cX8_party 49 = .ok (.imul, 1)) ∧ (decode cX8_party 50 = .ok (.iadd, 1)) ∧ (decode cX8_party 51 = .ok (.iload_n 1, 1)) ∧ (decode cX8_party 52 = .ok (.iastore, 1)) ∧ (decode cX8_party 53 = .ok (.aload_n 0, 1)) ∧ (decode cX8_party 54 = .ok (.getfield 7, 3)) := by decide +kernel
theorem dX8_party_47 : decode cX8_party 47 = .ok (.iconst 2, 1) := db_X8_party_47.1
theorem dX8_party_48 : decode cX8_party 48 = .ok (.iload_n 3, 1) := db_X8_party_47.2.1
theorem dX8_party_49 : decode cX8_party 49 = .ok (.imul, 1) := db_X8_party_47.2.2.1
theorem dX8_party_50 : decode cX8_party 50 = .ok (.iadd, 1) := db_X8_party_47.2.2.2.1
theorem dX8_party_51 : decode cX8_party 51 = .ok (.iload_n 1, 1) := db_X8_party_47.2.2.2.2.1
theorem dX8_party_52 : decode cX8_party 52 = .ok (.iastore, 1) := db_X8_party_47.2.2.2.2.2.1
theorem dX8_party_53 : decode cX8_party 53 = .ok (.aload_n 0, 1) := db_X8_party_47.2.2.2.2.2.2.1
theorem dX8_party_54 : decode cX8_party 54 = .ok (.getfield 7, 3) := db_X8_party_47.2.2.2.2.2.2.2
set_option maxRecDepth 20000 in
theorem db_X8_party_57 : (decode cX8_party 57 = .ok (.iconst 4, 1)) ∧ (decode cX8_party 58 = .ok (.iconst 2, 1)) ∧ (decode cX8_party 59 = .ok (.iload_n 3, 1)) ∧ (decode cX8_party 60 = .ok (.imul, 1)) ∧ (decode cX8_party 61 = .ok (.iadd, 1)) ∧ (decode cX8_party 62 = .ok (.iconst 1, 1)) ∧ (decode cX8_party 63 = .ok (.iadd, 1)) ∧ (decode cX8_party 64 = .ok (.iload_n 2, 1)) := by decide +kernel
theorem dX8_party_57 : decode cX8_party 57 = .ok (.iconst 4, 1) := db_X8_party_57.1
theorem dX8_party_58 : decode cX8_party 58 = .ok (.iconst 2, 1) := db_X8_party_57.2.1
theorem dX8_party_59 : decode cX8_party 59 = .ok (.iload_n 3, 1) := db_X8_party_57.2.2.1
theorem dX8_party_60 : decode cX8_party 60 = .ok (.imul, 1) := db_X8_party_57.2.2.2.1
theorem dX8_party_61 : decode cX8_party 61 = .ok (.iadd, 1) := db_X8_party_57.2.2.2.2.1
theorem dX8_party_62 : decode cX8_party 62 = .ok (.iconst 1, 1) := db_X8_party_57.2.2.2.2.2.1
theorem dX8_party_63 : decode cX8_party 63 = .ok (.iadd, 1) := db_X8_party_57.2.2.2.2.2.2.1
theorem dX8_party_64 : decode cX8_party 64 = .ok (.iload_n 2, 1) := db_X8_party_57.2.2.2.2.2.2.2
set_option maxRecDepth 20000 in
theorem db_X8_party_65 : (decode cX8_party 65 = .ok (.iastore, 1)) ∧ (decode cX8_party 66 = .ok (.iconst 0, 1)) ∧ (decode cX8_party 67 = .ok (.istore 4, 2)) ∧ (decode cX8_party 69 = .ok (.iload 4, 2)) ∧ (decode cX8_party 71 = .ok (.iconst 4, 1)) ∧ (decode cX8_party 72 = .ok (.if_icmp .ge 35, 3)) ∧ (decode cX8_party 107 = .ok (.aload_n 0, 1)) ∧ (decode cX8_party 108 = .ok (.getfield 7, 3)) := by decide +kernel
theorem dX8_party_65 : decode cX8_party 65 = .ok (.iastore, 1) := db_X8_party_65.1
theorem dX8_party_66 : decode cX8_party 66 = .ok (.iconst 0, 1) := db_X8_party_65.2.1
theorem dX8_party_67 : decode cX8_party 67 = .ok (.istore 4, 2) := db_X8_party_65.2.2.1
theorem dX8_party_69 : decode cX8_party 69 = .ok (.iload 4, 2) := db_X8_party_65.2.2.2.1
theorem dX8_party_71 : decode cX8_party 71 = .ok (.iconst 4, 1) := db_X8_party_65.2.2.2.2.1
theorem dX8_party_72 : decode cX8_party 72 = .ok (.if_icmp .ge 35, 3) := db_X8_party_65.2.2.2.2.2.1
theorem dX8_party_107 : decode cX8_party 107 = .ok (.aload_n 0, 1) := db_X8_party_65.2.2.2.2.2.2.1
theorem dX8_party_108 : decode cX8_party 108 = .ok (.getfield 7, 3) := db_X8_party_65.2.2.2.2.2.2.2
set_option maxRecDepth 20000 in
theorem db_X8_party_111 : (decode cX8_party 111 = .ok (.iconst 0, 1)) ∧ (decode cX8_party 112 = .ok (.dup2, 1)) ∧ (decode cX8_party 113 = .ok (.iaload, 1)) ∧ (decode cX8_party 114 = .ok (.iconst 1, 1)) ∧ (decode cX8_party 115 = .ok (.iadd, 1)) ∧ (decode cX8_party 116 = .ok (.iastore, 1)) ∧ (decode cX8_party 117 = .ok (.iload_n 3, 1)) ∧ (decode cX8_party 118 = .ok (.ireturn, 1)) := by decide +kernel
theorem dX8_party_111 : decode cX8_party 111 = .ok (.iconst 0, 1) := db_X8_party_111.1
theorem dX8_party_112 : decode cX8_party 112 = .ok (.dup2, 1) := db_X8_party_111.2.1
theorem dX8_party_113 : decode cX8_party 113 = .ok (.iaload, 1) := db_X8_party_111.2.2.1
theorem dX8_party_114 : decode cX8_party 114 = .ok (.iconst 1, 1) := db_X8_party_111.2.2.2.1
theorem dX8_party_115 : decode cX8_party 115 = .ok (.iadd, 1) := db_X8_party_111.2.2.2.2.1
theorem dX8_party_116 : decode cX8_party 116 = .ok (.iastore, 1) := db_X8_party_111.2.2.2.2.2.1
theorem dX8_party_117 : decode cX8_party 117 = .ok (.iload_n 3, 1) := db_X8_party_111.2.2.2.2.2.2.1
theorem dX8_party_118 : decode cX8_party 118 = .ok (.ireturn, 1) := db_X8_party_111.2.2.2.2.2.2.2
set_option maxRecDepth 20000 in
theorem db_X8_party_75 : (decode cX8_party 75 = .ok (.aload_n 0, 1)) ∧ (decode cX8_party 76 = .ok (.getfield 7, 3)) ∧ (decode cX8_party 79 = .ok (.bipush 28, 2)) ∧ (decode cX8_party 81 = .ok (.iload 4, 2)) ∧ (decode cX8_party 83 = .ok (.iadd, 1)) ∧ (decode cX8_party 84 = .ok (.aload_n 0, 1)) ∧ (decode cX8_party 85 = .ok (.getfield 7, 3)) ∧ (decode cX8_party 88 = .ok (.bipush 28, 2)) := by decide +kernel
theorem dX8_party_75 : decode cX8_party 75 = .ok (.aload_n 0, 1) := db_X8_party_75.1
theorem dX8_party_76 : decode cX8_party 76 = .ok (.getfield 7, 3) := db_X8_party_75.2.1
theorem dX8_party_79 : decode cX8_party 79 = .ok (.bipush 28, 2) := db_X8_party_75.2.2.1
theorem dX8_party_81 : decode cX8_party 81 = .ok (.iload 4, 2) := db_X8_party_75.2.2.2.1
theorem dX8_party_83 : decode cX8_party 83 = .ok (.iadd, 1) := db_X8_party_75.2.2.2.2.1
theorem dX8_party_84 : decode cX8_party 84 = .ok (.aload_n 0, 1) := db_X8_party_75.2.2.2.2.2.1
theorem dX8_party_85 : decode cX8_party 85 = .ok (.getfield 7, 3) := db_X8_party_75.2.2.2.2.2.2.1
theorem dX8_party_88 : decode cX8_party 88 = .ok (.bipush 28, 2) := db_X8_party_75.2.2.2.2.2.2.2
set_option maxRecDepth 20000 in
theorem db_X8_party_90 : (decode cX8_party 90 = .ok (.iload 4, 2)) ∧ (decode cX8_party 92 = .ok (.iadd, 1)) ∧ (decode cX8_party 93 = .ok (.iaload, 1)) ∧ (decode cX8_party 94 = .ok (.iconst 1, 1)) ∧ (decode cX8_party 95 = .ok (.iload_n 3, 1)) ∧ (decode cX8_party 96 = .ok (.ishl, 1)) ∧ (decode cX8_party 97 = .ok (.iconst (-1), 1)) ∧ (decode cX8_party 98 = .ok (.ixor, 1)) := by decide +kernel
theorem dX8_party_90 : decode cX8_party 90 = .ok (.iload 4, 2) := db_X8_party_90.1
theorem dX8_party_92 : decode cX8_party 92 = .ok (.iadd, 1) := db_X8_party_90.2.1
theorem dX8_party_93 : decode cX8_party 93 = .ok (.iaload, 1) := db_X8_party_90.2.2.1
theorem dX8_party_94 : decode cX8_party 94 = .ok (.iconst 1, 1) := db_X8_party_90.2.2.2.1
theorem dX8_party_95 : decode cX8_party 95 = .ok (.iload_n 3, 1) := db_X8_party_90.2.2.2.2.1
theorem dX8_party_96 : decode cX8_party 96 = .ok (.ishl, 1) := db_X8_party_90.2.2.2.2.2.1
theorem dX8_party_97 : decode cX8_party 97 = .ok (.iconst (-1), 1) := db_X8_party_90.2.2.2.2.2.2.1
theorem dX8_party_98 : decode cX8_party 98 = .ok (.ixor, 1) := db_X8_party_90.2.2.2.2.2.2.2
set_option maxRecDepth 20000 in
theorem db_X8_party_99 : (decode cX8_party 99 = .ok (.iand, 1)) ∧ (decode cX8_party 100 = .ok (.iastore, 1)) ∧ (decode cX8_party 101 = .ok (.iinc 4 1, 3)) ∧ (decode cX8_party 104 = .ok (.goto (-35), 3)) ∧ (decode cX8_party 32 = .ok (.bipush (-2), 2)) ∧ (decode cX8_party 34 = .ok (.ireturn, 1)) ∧ (decode cX8_party 19 = .ok (.iconst (-1), 1)) ∧ (decode cX8_party 20 = .ok (.ireturn, 1)) := by decide +kernel
theorem dX8_party_99 : decode cX8_party 99 = .ok (.iand, 1) := db_X8_party_99.1
theorem dX8_party_100 : decode cX8_party 100 = .ok (.iastore, 1) := db_X8_party_99.2.1
theorem dX8_party_101 : decode cX8_party 101 = .ok (.iinc 4 1, 3) := db_X8_party_99.2.2.1
theorem dX8_party_104 : decode cX8_party 104 = .ok (.goto (-35), 3) := db_X8_party_99.2.2.2.1
theorem dX8_party_32 : decode cX8_party 32 = .ok (.bipush (-2), 2) := db_X8_party_99.2.2.2.2.1
theorem dX8_party_34 : decode cX8_party 34 = .ok (.ireturn, 1) := db_X8_party_99.2.2.2.2.2.1
theorem dX8_party_19 : decode cX8_party 19 = .ok (.iconst (-1), 1) := db_X8_party_99.2.2.2.2.2.2.1
theorem dX8_party_20 : decode cX8_party 20 = .ok (.ireturn, 1) := db_X8_party_99.2.2.2.2.2.2.2
set_option maxRecDepth 20000 in
theorem db_X8_mark_0 : (decode cX8_mark 0 = .ok (.aload_n 0, 1)) ∧ (decode cX8_mark 1 = .ok (.iload_n 1, 1)) ∧ (decode cX8_mark 2 = .ok (.invokevirtual 50, 3)) ∧ (decode cX8_mark 5 = .ok (.ifCond .eq 16, 3)) ∧ (decode cX8_mark 8 = .ok (.aload_n 0, 1)) ∧ (decode cX8_mark 9 = .ok (.iload_n 2, 1)) ∧ (decode cX8_mark 10 = .ok (.invokevirtual 50, 3)) ∧ (decode cX8_mark 13 = .ok (.ifCond .eq 8, 3)) := by decide +kernel
theorem dX8_mark_0 : decode cX8_mark 0 = .ok (.aload_n 0, 1) := db_X8_mark_0.1
theorem dX8_mark_1 : decode cX8_mark 1 = .ok (.iload_n 1, 1) := db_X8_mark_0.2.1
set_option maxRecDepth 20000 in
theorem ggX8_mark_X8_isCase : GoodIn wsX8_mark wsX8_isCase := goodIn_r _ [6, 1, 7, 8, 5, 9, 10, 11, 12, 13, 14, 15, 16, 17, 18, 19, 20] rfl (by decide +kernel)
set_option maxRecDepth 20000 in
theorem gX8_mark_X8_isCase : GoodIn wsX8_mark (wsV RX8 50 RX8 yX8_isCase wsX8_isCase) := goodIn_app (goodIn_r _ [2, 3, 4, 5] rfl (by decide +kernel)) ggX8_mark_X8_isCase
theorem dX8_mark_2 : decode cX8_mark 2 = .ok (.invokevirtual 50, 3) := db_X8_mark_0.2.2.1
theorem dX8_mark_5 : decode cX8_mark 5 = .ok (.ifCond .eq 16, 3) := db_X8_mark_0.2.2.2.1
theorem dX8_mark_8 : decode cX8_mark 8 = .ok (.aload_n 0, 1) := db_X8_mark_0.2.2.2.2.1
theorem dX8_mark_9 : decode cX8_mark 9 = .ok (.iload_n 2, 1) := db_X8_mark_0.2.2.2.2.2.1
theorem dX8_mark_10 : decode cX8_mark 10 = .ok (.invokevirtual 50, 3) := db_X8_mark_0.2.2.2.2.2.2.1
theorem dX8_mark_13 : decode cX8_mark 13 = .ok (.ifCond .eq 8, 3) := db_X8_mark_0.2.2.2.2.2.2.2
set_option maxRecDepth 20000 in
theorem db_X8_mark_16 : (decode cX8_mark 16 = .ok (.iload_n 1, 1)) ∧ (decode cX8_mark 17 = .ok (.iload_n 2, 1)) ∧ (decode cX8_mark 18 = .ok (.if_icmp .ne 5, 3)) ∧ (decode cX8_mark 23 = .ok (.iconst 0, 1)) ∧ (decode cX8_mark 24 = .ok (.istore_n 3, 1)) ∧ (decode cX8_mark 25 = .ok (.iload_n 3, 1)) ∧ (decode cX8_mark 26 = .ok (.aload_n 0, 1)) ∧ (decode cX8_mark 27 = .ok (.getfield 7, 3)) := by decide +kernel
theorem dX8_mark_16 : decode cX8_mark 16 = .ok (.iload_n 1, 1) := db_X8_mark_16.1
theorem dX8_mark_17 : decode cX8_mark 17 = .ok (.iload_n 2, 1) := db_X8_mark_16.2.1
theorem dX8_mark_18 : decode cX8_mark 18 = .ok (.if_icmp .ne 5, 3) := db_X8_mark_16.2.2.1
theorem dX8_mark_23 : decode cX8_mark 23 = .ok (.iconst 0, 1) := db_X8_mark_16.2.2.2.1
theorem dX8_mark_24 : decode cX8_mark 24 = .ok (.istore_n 3, 1) := db_X8_mark_16.2.2.2.2.1
theorem dX8_mark_25 : decode cX8_mark 25 = .ok (.iload_n 3, 1) := db_X8_mark_16.2.2.2.2.2.1
theorem dX8_mark_26 : decode cX8_mark 26 = .ok (.aload_n 0, 1) := db_X8_mark_16.2.2.2.2.2.2.1
theorem dX8_mark_27 : decode cX8_mark 27 = .ok (.getfield 7, 3) := db_X8_mark_16.2.2.2.2.2.2.2
set_option maxRecDepth 20000 in
theorem db_X8_mark_30 : (decode cX8_mark 30 = .ok (.iconst 3, 1)) ∧ (decode cX8_mark 31 = .ok (.iaload, 1)) ∧ (decode cX8_mark 32 = .ok (.if_icmp .ge 66, 3)) ∧ (decode cX8_mark 98 = .ok (.aload_n 0, 1)) ∧ (decode cX8_mark 99 = .ok (.getfield 7, 3)) ∧ (decode cX8_mark 102 = .ok (.iconst 3, 1)) ∧ (decode cX8_mark 103 = .ok (.iaload, 1)) ∧ (decode cX8_mark 104 = .ok (.bipush 6, 2)) := by decide +kernel
theorem dX8_mark_30 : decode cX8_mark 30 = .ok (.iconst 3, 1) := db_X8_mark_30.1
theorem dX8_mark_31 : decode cX8_mark 31 = .ok (.iaload, 1) := db_X8_mark_30.2.1
theorem dX8_mark_32 : decode cX8_mark 32 = .ok (.if_icmp .ge 66, 3) := db_X8_mark_30.2.2.1
theorem dX8_mark_98 : decode cX8_mark 98 = .ok (.aload_n 0, 1) := db_X8_mark_30.2.2.2.1
theorem dX8_mark_99 : decode cX8_mark 99 = .ok (.getfield 7, 3) := db_X8_mark_30.2.2.2.2.1
theorem dX8_mark_102 : decode cX8_mark 102 = .ok (.iconst 3, 1) := db_X8_mark_30.2.2.2.2.2.1
theorem dX8_mark_103 : decode cX8_mark 103 = .ok (.iaload, 1) := db_X8_mark_30.2.2.2.2.2.2.1
theorem dX8_mark_104 : decode cX8_mark 104 = .ok (.bipush 6, 2) := db_X8_mark_30.2.2.2.2.2.2.2
set_option maxRecDepth 20000 in
theorem db_X8_mark_106 : (decode cX8_mark 106 = .ok (.if_icmp .ne 6, 3)) ∧ (decode cX8_mark 112 = .ok (.aload_n 0, 1)) ∧ (decode cX8_mark 113 = .ok (.getfield 7, 3)) ∧ (decode cX8_mark 116 = .ok (.sipush 146, 3)) ∧ (decode cX8_mark 119 = .ok (.iconst 2, 1)) ∧ (decode cX8_mark 120 = .ok (.aload_n 0, 1)) ∧ (decode cX8_mark 121 = .ok (.getfield 7, 3)) ∧ (decode cX8_mark 124 = .ok (.iconst 3, 1)) := by decide +kernel
theorem dX8_mark_106 : decode cX8_mark 106 = .ok (.if_icmp .ne 6, 3) := db_X8_mark_106.1
theorem dX8_mark_112 : decode cX8_mark 112 = .ok (.aload_n 0, 1) := db_X8_mark_106.2.1
theorem dX8_mark_113 : decode cX8_mark 113 = .ok (.getfield 7, 3) := db_X8_mark_106.2.2.1
theorem dX8_mark_116 : decode cX8_mark 116 = .ok (.sipush 146, 3) := db_X8_mark_106.2.2.2.1
theorem dX8_mark_119 : decode cX8_mark 119 = .ok (.iconst 2, 1) := db_X8_mark_106.2.2.2.2.1
theorem dX8_mark_120 : decode cX8_mark 120 = .ok (.aload_n 0, 1) := db_X8_mark_106.2.2.2.2.2.1
theorem dX8_mark_121 : decode cX8_mark 121 = .ok (.getfield 7, 3) := db_X8_mark_106.2.2.2.2.2.2.1
theorem dX8_mark_124 : decode cX8_mark 124 = .ok (.iconst 3, 1) := db_X8_mark_106.2.2.2.2.2.2.2
set_option maxRecDepth 20000 in
theorem db_X8_mark_125 : (decode cX8_mark 125 = .ok (.iaload, 1)) ∧ (decode cX8_mark 126 = .ok (.imul, 1)) ∧ (decode cX8_mark 127 = .ok (.iadd, 1)) ∧ (decode cX8_mark 128 = .ok (.iload_n 1, 1)) ∧ (decode cX8_mark 129 = .ok (.iastore, 1)) ∧ (decode cX8_mark 130 = .ok (.aload_n 0, 1)) ∧ (decode cX8_mark 131 = .ok (.getfield 7, 3)) ∧ (decode cX8_mark 134 = .ok (.sipush 146, 3)) := by decide +kernel
theorem dX8_mark_125 : decode cX8_mark 125 = .ok (.iaload, 1) := db_X8_mark_125.1
theorem dX8_mark_126 : decode cX8_mark 126 = .ok (.imul, 1) := db_X8_mark_125.2.1
theorem dX8_mark_127 : decode cX8_mark 127 = .ok (.iadd, 1) := db_X8_mark_125.2.2.1
theorem dX8_mark_128 : decode cX8_mark 128 = .ok (.iload_n 1, 1) := db_X8_mark_125.2.2.2.1
theorem dX8_mark_129 : decode cX8_mark 129 = .ok (.iastore, 1) := db_X8_mark_125.2.2.2.2.1
theorem dX8_mark_130 : decode cX8_mark 130 = .ok (.aload_n 0, 1) := db_X8_mark_125.2.2.2.2.2.1
theorem dX8_mark_131 : decode cX8_mark 131 = .ok (.getfield 7, 3) := db_X8_mark_125.2.2.2.2.2.2.1
theorem dX8_mark_134 : decode cX8_mark 134 = .ok (.sipush 146, 3) := db_X8_mark_125.2.2.2.2.2.2.2
set_option maxRecDepth 20000 in
theorem db_X8_mark_137 : (decode cX8_mark 137 = .ok (.iconst 2, 1)) ∧ (decode cX8_mark 138 = .ok (.aload_n 0, 1)) ∧ (decode cX8_mark 139 = .ok (.getfield 7, 3)) ∧ (decode cX8_mark 142 = .ok (.iconst 3, 1)) ∧ (decode cX8_mark 143 = .ok (.iaload, 1)) ∧ (decode cX8_mark 144 = .ok (.imul, 1)) ∧ (decode cX8_mark 145 = .ok (.iadd, 1)) ∧ (decode cX8_mark 146 = .ok (.iconst 1, 1)) := by decide +kernel
theorem dX8_mark_137 : decode cX8_mark 137 = .ok (.iconst 2, 1) := db_X8_mark_137.1
theorem dX8_mark_138 : decode cX8_mark 138 = .ok (.aload_n 0, 1) := db_X8_mark_137.2.1
theorem dX8_mark_139 : decode cX8_mark 139 = .ok (.getfield 7, 3) := db_X8_mark_137.2.2.1
theorem dX8_mark_142 : decode cX8_mark 142 = .ok (.iconst 3, 1) := db_X8_mark_137.2.2.2.1
theorem dX8_mark_143 : decode cX8_mark 143 = .ok (.iaload, 1) := db_X8_mark_137.2.2.2.2.1
theorem dX8_mark_144 : decode cX8_mark 144 = .ok (.imul, 1) := db_X8_mark_137.2.2.2.2.2.1
theorem dX8_mark_145 : decode cX8_mark 145 = .ok (.iadd, 1) := db_X8_mark_137.2.2.2.2.2.2.1
theorem dX8_mark_146 : decode cX8_mark 146 = .ok (.iconst 1, 1) := db_X8_mark_137.2.2.2.2.2.2.2
set_option maxRecDepth 20000 in
theorem db_X8_mark_147 : (decode cX8_mark 147 = .ok (.iadd, 1)) ∧ (decode cX8_mark 148 = .ok (.iload_n 2, 1)) ∧ (decode cX8_mark 149 = .ok (.iastore, 1)) ∧ (decode cX8_mark 150 = .ok (.aload_n 0, 1)) ∧ (decode cX8_mark 151 = .ok (.getfield 7, 3)) ∧ (decode cX8_mark 154 = .ok (.iconst 3, 1)) ∧ (decode cX8_mark 155 = .ok (.dup2, 1)) ∧ (decode cX8_mark 156 = .ok (.iaload, 1)) := by decide +kernel
theorem dX8_mark_147 : decode cX8_mark 147 = .ok (.iadd, 1) := db_X8_mark_147.1
theorem dX8_mark_148 : decode cX8_mark 148 = .ok (.iload_n 2, 1) := db_X8_mark_147.2.1
theorem dX8_mark_149 : decode cX8_mark 149 = .ok (.iastore, 1) := db_X8_mark_147.2.2.1
theorem dX8_mark_150 : decode cX8_mark 150 = .ok (.aload_n 0, 1) := db_X8_mark_147.2.2.2.1
theorem dX8_mark_151 : decode cX8_mark 151 = .ok (.getfield 7, 3) := db_X8_mark_147.2.2.2.2.1
theorem dX8_mark_154 : decode cX8_mark 154 = .ok (.iconst 3, 1) := db_X8_mark_147.2.2.2.2.2.1
theorem dX8_mark_155 : decode cX8_mark 155 = .ok (.dup2, 1) := db_X8_mark_147.2.2.2.2.2.2.1
theorem dX8_mark_156 : decode cX8_mark 156 = .ok (.iaload, 1) := db_X8_mark_147.2.2.2.2.2.2.2
set_option maxRecDepth 20000 in
theorem db_X8_mark_157 : (decode cX8_mark 157 = .ok (.iconst 1, 1)) ∧ (decode cX8_mark 158 = .ok (.iadd, 1)) ∧ (decode cX8_mark 159 = .ok (.iastore, 1)) ∧ (decode cX8_mark 160 = .ok (.aload_n 0, 1)) ∧ (decode cX8_mark 161 = .ok (.getfield 7, 3)) ∧ (decode cX8_mark 164 = .ok (.iconst 3, 1)) ∧ (decode cX8_mark 165 = .ok (.iaload, 1)) ∧ (decode cX8_mark 166 = .ok (.ireturn, 1)) := by decide +kernel
theorem dX8_mark_157 : decode cX8_mark 157 = .ok (.iconst 1, 1) := db_X8_mark_157.1
theorem dX8_mark_158 : decode cX8_mark 158 = .ok (.iadd, 1) := db_X8_mark_157.2.1
theorem dX8_mark_159 : decode cX8_mark 159 = .ok (.iastore, 1) := db_X8_mark_157.2.2.1
theorem dX8_mark_160 : decode cX8_mark 160 = .ok (.aload_n 0, 1) := db_X8_mark_157.2.2.2.1
theorem dX8_mark_161 : decode cX8_mark 161 = .ok (.getfield 7, 3) := db_X8_mark_157.2.2.2.2.1
theorem dX8_mark_164 : decode cX8_mark 164 = .ok (.iconst 3, 1) := db_X8_mark_157.2.2.2.2.2.1
theorem dX8_mark_165 : decode cX8_mark 165 = .ok (.iaload, 1) := db_X8_mark_157.2.2.2.2.2.2.1
theorem dX8_mark_166 : decode cX8_mark 166 = .ok (.ireturn, 1) := db_X8_mark_157.2.2.2.2.2.2.2
set_option maxRecDepth 20000 in
theorem db_X8_mark_109 : (decode cX8_mark 109 = .ok (.bipush (-2), 2)) ∧ (decode cX8_mark 111 = .ok (.ireturn, 1)) ∧ (decode cX8_mark 35 = .ok (.aload_n 0, 1)) ∧ (decode cX8_mark 36 = .ok (.getfield 7, 3)) ∧ (decode cX8_mark 39 = .ok (.sipush 146, 3)) ∧ (decode cX8_mark 42 = .ok (.iconst 2, 1)) ∧ (decode cX8_mark 43 = .ok (.iload_n 3, 1)) ∧ (decode cX8_mark 44 = .ok (.imul, 1)) := by decide +kernel
theorem dX8_mark_109 : decode cX8_mark 109 = .ok (.bipush (-2), 2) := db_X8_mark_109.1
theorem dX8_mark_111 : decode cX8_mark 111 = .ok (.ireturn, 1) := db_X8_mark_109.2.1
theorem dX8_mark_35 : decode cX8_mark 35 = .ok (.aload_n 0, 1) := db_X8_mark_109.2.2.1
theorem dX8_mark_36 : decode cX8_mark 36 = .ok (.getfield 7, 3) := db_X8_mark_109.2.2.2.1
theorem dX8_mark_39 : decode cX8_mark 39 = .ok (.sipush 146, 3) := db_X8_mark_109.2.2.2.2.1
theorem dX8_mark_42 : decode cX8_mark 42 = .ok (.iconst 2, 1) := db_X8_mark_109.2.2.2.2.2.1
theorem dX8_mark_43 : decode cX8_mark 43 = .ok (.iload_n 3, 1) := db_X8_mark_109.2.2.2.2.2.2.1
theorem dX8_mark_44 : decode cX8_mark 44 = .ok (.imul, 1) := db_X8_mark_109.2.2.2.2.2.2.2
set_option maxRecDepth 20000 in
theorem db_X8_mark_45 : (decode cX8_mark 45 = .ok (.iadd, 1)) ∧ (decode cX8_mark 46 = .ok (.iaload, 1)) ∧ (decode cX8_mark 47 = .ok (.istore 4, 2)) ∧ (decode cX8_mark 49 = .ok (.aload_n 0, 1)) ∧ (decode cX8_mark 50 = .ok (.getfield 7, 3)) ∧ (decode cX8_mark 53 = .ok (.sipush 146, 3)) ∧ (decode cX8_mark 56 = .ok (.iconst 2, 1)) ∧ (decode cX8_mark 57 = .ok (.iload_n 3, 1)) := by decide +kernel
theorem dX8_mark_45 : decode cX8_mark 45 = .ok (.iadd, 1) := db_X8_mark_45.1
theorem dX8_mark_46 : decode cX8_mark 46 = .ok (.iaload, 1) := db_X8_mark_45.2.1
theorem dX8_mark_47 : decode cX8_mark 47 = .ok (.istore 4, 2) := db_X8_mark_45.2.2.1
theorem dX8_mark_49 : decode cX8_mark 49 = .ok (.aload_n 0, 1) := db_X8_mark_45.2.2.2.1
theorem dX8_mark_50 : decode cX8_mark 50 = .ok (.getfield 7, 3) := db_X8_mark_45.2.2.2.2.1
theorem dX8_mark_53 : decode cX8_mark 53 = .ok (.sipush 146, 3) := db_X8_mark_45.2.2.2.2.2.1
theorem dX8_mark_56 : decode cX8_mark 56 = .ok (.iconst 2, 1) := db_X8_mark_45.2.2.2.2.2.2.1
theorem dX8_mark_57 : decode cX8_mark 57 = .ok (.iload_n 3, 1) := db_X8_mark_45.2.2.2.2.2.2.2
set_option maxRecDepth 20000 in
theorem db_X8_mark_58 : (decode cX8_mark 58 = .ok (.imul, 1)) ∧ (decode cX8_mark 59 = .ok (.iadd, 1)) ∧ (decode cX8_mark 60 = .ok (.iconst 1, 1)) ∧ (decode cX8_mark 61 = .ok (.iadd, 1)) ∧ (decode cX8_mark 62 = .ok (.iaload, 1)) ∧ (decode cX8_mark 63 = .ok (.istore 5, 2)) ∧ (decode cX8_mark 65 = .ok (.iload 4, 2)) ∧ (decode cX8_mark 67 = .ok (.iload_n 1, 1)) := by decide +kernel
theorem dX8_mark_58 : decode cX8_mark 58 = .ok (.imul, 1) := db_X8_mark_58.1
theorem dX8_mark_59 : decode cX8_mark 59 = .ok (.iadd, 1) := db_X8_mark_58.2.1
theorem dX8_mark_60 : decode cX8_mark 60 = .ok (.iconst 1, 1) := db_X8_mark_58.2.2.1
theorem dX8_mark_61 : decode cX8_mark 61 = .ok (.iadd, 1) := db_X8_mark_58.2.2.2.1
theorem dX8_mark_62 : decode cX8_mark 62 = .ok (.iaload, 1) := db_X8_mark_58.2.2.2.2.1
theorem dX8_mark_63 : decode cX8_mark 63 = .ok (.istore 5, 2) := db_X8_mark_58.2.2.2.2.2.1
theorem dX8_mark_65 : decode cX8_mark 65 = .ok (.iload 4, 2) := db_X8_mark_58.2.2.2.2.2.2.1
theorem dX8_mark_67 : decode cX8_mark 67 = .ok (.iload_n 1, 1) := db_X8_mark_58.2.2.2.2.2.2.2
set_option maxRecDepth 20000 in
theorem db_X8_mark_68 : (decode cX8_mark 68 = .ok (.if_icmp .ne 9, 3)) ∧ (decode cX8_mark 77 = .ok (.iload 4, 2)) ∧ (decode cX8_mark 79 = .ok (.iload_n 2, 1)) ∧ (decode cX8_mark 80 = .ok (.if_icmp .ne 12, 3)) ∧ (decode cX8_mark 92 = .ok (.iinc 3 1, 3)) ∧ (decode cX8_mark 95 = .ok (.goto (-70), 3)) ∧ (decode cX8_mark 83 = .ok (.iload 5, 2)) ∧ (decode cX8_mark 85 = .ok (.iload_n 1, 1)) := by decide +kernel
theorem dX8_mark_68 : decode cX8_mark 68 = .ok (.if_icmp .ne 9, 3) := db_X8_mark_68.1
theorem dX8_mark_77 : decode cX8_mark 77 = .ok (.iload 4, 2) := db_X8_mark_68.2.1
theorem dX8_mark_79 : decode cX8_mark 79 = .ok (.iload_n 2, 1) := db_X8_mark_68.2.2.1
theorem dX8_mark_80 : decode cX8_mark 80 = .ok (.if_icmp .ne 12, 3) := db_X8_mark_68.2.2.2.1
theorem dX8_mark_92 : decode cX8_mark 92 = .ok (.iinc 3 1, 3) := db_X8_mark_68.2.2.2.2.1
theorem dX8_mark_95 : decode cX8_mark 95 = .ok (.goto (-70), 3) := db_X8_mark_68.2.2.2.2.2.1
theorem dX8_mark_83 : decode cX8_mark 83 = .ok (.iload 5, 2) := db_X8_mark_68.2.2.2.2.2.2.1
theorem dX8_mark_85 : decode cX8_mark 85 = .ok (.iload_n 1, 1) := db_X8_mark_68.2.2.2.2.2.2.2
set_option maxRecDepth 20000 in
theorem db_X8_mark_86 : (decode cX8_mark 86 = .ok (.if_icmp .ne 6, 3)) ∧ (decode cX8_mark 89 = .ok (.bipush (-3), 2)) ∧ (decode cX8_mark 91 = .ok (.ireturn, 1)) ∧ (decode cX8_mark 71 = .ok (.iload 5, 2)) ∧ (decode cX8_mark 73 = .ok (.iload_n 2, 1)) ∧ (decode cX8_mark 74 = .ok (.if_icmp .eq 15, 3)) ∧ (decode cX8_mark 21 = .ok (.iconst (-1), 1)) ∧ (decode cX8_mark 22 = .ok (.ireturn, 1)) := by decide +kernel
theorem dX8_mark_86 : decode cX8_mark 86 = .ok (.if_icmp .ne 6, 3) := db_X8_mark_86.1
theorem dX8_mark_89 : decode cX8_mark 89 = .ok (.bipush (-3), 2) := db_X8_mark_86.2.1
theorem dX8_mark_91 : decode cX8_mark 91 = .ok (.ireturn, 1) := db_X8_mark_86.2.2.1
theorem dX8_mark_71 : decode cX8_mark 71 = .ok (.iload 5, 2) := db_X8_mark_86.2.2.2.1
theorem dX8_mark_73 : decode cX8_mark 73 = .ok (.iload_n 2, 1) := db_X8_mark_86.2.2.2.2.1
theorem dX8_mark_74 : decode cX8_mark 74 = .ok (.if_icmp .eq 15, 3) := db_X8_mark_86.2.2.2.2.2.1
theorem dX8_mark_21 : decode cX8_mark 21 = .ok (.iconst (-1), 1) := db_X8_mark_86.2.2.2.2.2.2.1
theorem dX8_mark_22 : decode cX8_mark 22 = .ok (.ireturn, 1) := db_X8_mark_86.2.2.2.2.2.2.2
set_option maxHeartbeats 4000000 in
set_option maxRecDepth 100000 in
theorem e_X8_open (l : Launch) (dC : Nat → ClassId) (dI : Nat → Nat → Nat) (cy : Nat → ClassId) (sz : Nat) (ad : Nat → Nat) (v : Nat → Nat → Int32) (hv : Ir v) (x0 x1 : Int32) : Met l yX8_open wsX8_open ({ frames := 2, cells := 0, slots := 0, locals := 128 }) (va_Pc [.ref (ad 0), .int x0, .int x1] (ex_Pre dC dI cy sz (wm ad cy v))) (va_Qi (fun (r : Int32) (u : Nat → Nat → Int32) => Ir u ∧ (¬ ((0 ≤ x0.toInt ∧ x0.toInt < (v 1 0).toInt) ∧ (0 ≤ x1.toInt ∧ x1.toInt < (v 1 0).toInt) ∧ x0.toInt ≠ x1.toInt) → r = -1 ∧ u = v) ∧ (((0 ≤ x0.toInt ∧ x0.toInt < (v 1 0).toInt) ∧ (0 ≤ x1.toInt ∧ x1.toInt < (v 1 0).toInt) ∧ x0.toInt ≠ x1.toInt) ∧ (v 1 2).toInt = 6 → r = -2 ∧ u = v) ∧ (((0 ≤ x0.toInt ∧ x0.toInt < (v 1 0).toInt) ∧ (0 ≤ x1.toInt ∧ x1.toInt < (v 1 0).toInt) ∧ x0.toInt ≠ x1.toInt) ∧ (v 1 2).toInt ≠ 6 → r = v 1 2 ∧ (∀ n : Nat, u 1 n = if n = 2 then v 1 2 + 1 else if 308 + 48 * (v 1 2).toNatClampNeg ≤ n ∧ (n : Int) < 308 + 48 * ((v 1 2).toNatClampNeg : Int) + 48 then 7 else if n = 75 + 2 * (v 1 2).toNatClampNeg then -5 else if n = 74 + 2 * (v 1 2).toNatClampNeg then -5 else if n = 38 + 7 * (v 1 2).toNatClampNeg then 0 else if n = 37 + 7 * (v 1 2).toNatClampNeg then 1 else if n = 36 + 7 * (v 1 2).toNatClampNeg then 0 else if n = 35 + 7 * (v 1 2).toNatClampNeg then -5 else if n = 34 + 7 * (v 1 2).toNatClampNeg then 0 else if n = 33 + 7 * (v 1 2).toNatClampNeg then x1 else if n = 32 + 7 * (v 1 2).toNatClampNeg then x0 else v 1 n) ∧ (∀ k : Nat, k ≠ 1 → u k = v k))) (fun u t => ex_Pst dC dI (va_A (wm ad cy v) sz) (wm ad cy u) t) (va_A (wm ad cy v) sz)) 0 0 (va_A (wm ad cy v) sz) := by
  refine Met.ofW (cc := cX8_open) (maxL := 5) (ret := (some .int)) (by decide) rfl ?_
  intro p e s m args below meth c s₁ B hml hv
  obtain ⟨rfl, hsz, hE, hP, hK, hD0⟩ := hv
  have hx := B.exec
  have hb := B.bytes
  have hr := B.returns
  have hts := atoms_spec (ws := wsX8_open) B.pre
  have hown : s.vm.findClass RX8 = some m.cls := findClass_of_methodNamed B.named
  have hlocks := B.notSynchronized
  subst hsz
  have hD := hD0.self (sz := s.heap.size)
  generalize hAe : va_A (wm ad cy v) s.heap.size = A at hD ⊢
  have hA : ∀ q : Nat, s.heap.size ≤ q → A q := fun q h => by rw [← hAe]; exact Or.inr h
  have hS : va_S A s.heap s.heap [] := va_S.rf
  have hP : va_P (dC, dI) vwCl (wm ad cy v) s.heap := hP
  have hl := lv_entry ([.ref (ad 0), .int x0, .int x1]) (n := 5) (Nat.le_of_ble_eq_true rfl)
  rw [lg_entry_eq]
  generalize (lg_sl ([.ref (ad 0), .int x0, .int x1]) ++ List.replicate (5 - (lg_sl ([.ref (ad 0), .int x0, .int x1])).length) Slot.unset).toArray = ls at hl ⊢
  have hl : lv_has ls 5 [(0, .ref (ad 0)), (1, .int x0), (2, .int x1)] := hl
  refine lv_aload_n hx hb dX8_open_0 rfl (lv_at hl 0 rfl) ?_
  refine lv_iload_n hx hb dX8_open_1 rfl (lv_at hl 1 rfl) ?_
  refine yw_i (w1 := fun (u : Nat → Nat → Int32) => wm ad cy u) hD hS hA (va_runV (As := [.int x0]) (rest := []) ⟨hx, hb, hml, hown, hts⟩ (q_X8_isParty l dC dI cy _ ad v hv x0) (cwV 1 hts gX8_open_X8_isParty rfl rfl rfl hd_V_X8_isParty_1 ⟨Nat.le_of_ble_eq_true rfl, Nat.le_of_ble_eq_true rfl⟩) (yw_preV hE hK hP hD (ci := 8) (q := (RX8, TX8, 11)) (q0 := 0) rfl (wm_at (by decide) rc_0)) rfl rfl hl.1 rfl (lv_room (Nat.le_of_ble_eq_true rfl)) dX8_open_2 ⟨Nat.le_of_ble_eq_true rfl, Nat.le_of_ble_eq_true rfl⟩) (fun r_1 v_1 H locs hw_1 hP hD hS => ?_)
  obtain ⟨-, hu_1, hw_1⟩ := hw_1
  replace hu_1 := hu_1.symm
  subst hu_1
  rcases hw_1 with ⟨rfl, ha_2⟩ | ⟨rfl, ha_2⟩
  · have hb_2 := hv 1 0 8 (by decide)
    have hj_2 : 0 ≤ x0.toInt ∧ x0.toInt ≤ 7 := ⟨by omega, by omega⟩
    refine lv_if_eq (tgt := 21) hx hb dX8_open_5 (by decide) (fun c9 => absurd c9 (by decide)) (fun _ => ?_)
    refine lv_aload_n hx hb dX8_open_8 rfl (lv_at hl 0 rfl) ?_
    refine lv_iload_n hx hb dX8_open_9 rfl (lv_at hl 2 rfl) ?_
    refine yw_i (w1 := fun (u : Nat → Nat → Int32) => wm ad cy u) hD hS hA (va_runV (As := [.int x1]) (rest := []) ⟨hx, hb, hml, hown, hts⟩ (q_X8_isParty l dC dI cy _ ad v hv x1) (cwV 1 hts gX8_open_X8_isParty rfl rfl rfl hd_V_X8_isParty_1 ⟨Nat.le_of_ble_eq_true rfl, Nat.le_of_ble_eq_true rfl⟩) (yw_preV hE hK hP hD (ci := 8) (q := (RX8, TX8, 11)) (q0 := 0) rfl (wm_at (by decide) rc_0)) rfl rfl hl.1 rfl (lv_room (Nat.le_of_ble_eq_true rfl)) dX8_open_10 ⟨Nat.le_of_ble_eq_true rfl, Nat.le_of_ble_eq_true rfl⟩) (fun r_3 v_3 H locs hw_3 hP hD hS => ?_)
    obtain ⟨-, hu_3, hw_3⟩ := hw_3
    replace hu_3 := hu_3.symm
    subst hu_3
    rcases hw_3 with ⟨rfl, ha_4⟩ | ⟨rfl, ha_4⟩
    · have hb_4 := hv 1 0 8 (by decide)
      have hj_4 : 0 ≤ x1.toInt ∧ x1.toInt ≤ 7 := ⟨by omega, by omega⟩
      refine lv_if_eq (tgt := 21) hx hb dX8_open_13 (by decide) (fun c9 => absurd c9 (by decide)) (fun _ => ?_)
      refine lv_iload_n hx hb dX8_open_16 rfl (lv_at hl 1 rfl) ?_
      refine lv_iload_n hx hb dX8_open_17 rfl (lv_at hl 2 rfl) ?_
      refine lv_icmp_ne (tgt := 23) hx hb dX8_open_18 (by decide) (fun c_5 => ?_) (fun c_5 => ?_)
      · have tc_5 : x0.toInt ≠ x1.toInt := fun q => absurd (Int32.toInt_inj.mp q) c_5
        refine lv_aload_n hx hb dX8_open_23 rfl (lv_at hl 0 rfl) ?_
        refine va_get (D := (dC, dI)) (ci := 8) (v := .ref (ad 1)) (C := RX8) (T := TX8) (N := 11) hx hb hts iwX8_open_X8 hown hK hP (0) (wm_at (by decide) rc_0) rfl 0 (by decide) (hts (.fieldLink RX8 7 "QuietStairsModel" "s" "[I") fwX8_open_1) (fun _ h9 => h9) rfl dX8_open_24 ?_
        refine lv_iconst (v := 2) hx hb dX8_open_27 (by decide) ?_
        have k_2 : (2 : Int32).toInt = 2 := by decide
        refine va_iald hx hb hK hP (1) 0 (wm_at (by decide) rc_1) rfl (by unfold vp_in; decide) dX8_open_28 ?_
        refine lv_topi (fun x_6 ex_6 => ?_)
        have ex_6 : x_6 = v 1 2 := ex_6
        have bzx_6 : 0 ≤ x_6.toInt ∧ x_6.toInt ≤ 6 := by rw [ex_6]; exact hv 1 _ 6 (show bS 2 = some 6 from by decide)
        have qx_6 : x_6.toInt = (v 1 (2)).toInt := congrArg Int32.toInt ex_6
        refine lv_bipush (v := 6) hx hb dX8_open_29 (by decide) ?_
        have k_6 : (6 : Int32).toInt = 6 := by decide
        refine lv_icmp_ne (tgt := 37) hx hb dX8_open_31 (by decide) (fun c_7 => ?_) (fun c_7 => ?_)
        · have tc_7 : x_6.toInt ≠ (6 : Int32).toInt := fun q => absurd (Int32.toInt_inj.mp q) c_7
          refine lv_aload_n hx hb dX8_open_37 rfl (lv_at hl 0 rfl) ?_
          refine va_get (D := (dC, dI)) (ci := 8) (v := .ref (ad 1)) (C := RX8) (T := TX8) (N := 11) hx hb hts iwX8_open_X8 hown hK hP (0) (wm_at (by decide) rc_0) rfl 0 (by decide) (hts (.fieldLink RX8 7 "QuietStairsModel" "s" "[I") fwX8_open_1) (fun _ h9 => h9) rfl dX8_open_38 ?_
          refine lv_iconst (v := 2) hx hb dX8_open_41 (by decide) ?_
          refine va_iald hx hb hK hP (1) 0 (wm_at (by decide) rc_1) rfl (by unfold vp_in; decide) dX8_open_42 ?_
          refine lv_topi (fun x_8 ex_8 => ?_)
          have ex_8 : x_8 = v 1 2 := ex_8
          have bzx_8 : 0 ≤ x_8.toInt ∧ x_8.toInt ≤ 6 := by rw [ex_8]; exact hv 1 _ 6 (show bS 2 = some 6 from by decide)
          obtain rfl : x_6 = x_8 := (ex_8.trans ex_6.symm).symm
          refine lv_istore_n (lv' := [(3, .int x_6), (0, .ref (ad 0)), (1, .int x0), (2, .int x1)]) hx hb dX8_open_43 rfl hl (by decide) rfl (fun ls hl => ?_)
          refine lv_aload_n hx hb dX8_open_44 rfl (lv_at hl 1 rfl) ?_
          refine va_get (D := (dC, dI)) (ci := 8) (v := .ref (ad 1)) (C := RX8) (T := TX8) (N := 11) hx hb hts iwX8_open_X8 hown hK hP (0) (wm_at (by decide) rc_0) rfl 0 (by decide) (hts (.fieldLink RX8 7 "QuietStairsModel" "s" "[I") fwX8_open_1) (fun _ h9 => h9) rfl dX8_open_45 ?_
          refine lv_iload_n hx hb dX8_open_48 rfl (lv_at hl 0 rfl) ?_
          refine lv_iconst (v := 0) hx hb dX8_open_49 (by decide) ?_
          refine yc_p hP hS (va_runS (As := [.int x_6, .int 0]) (rest := [.ref (ad 1)]) ⟨hx, hb, hml, hown, hts⟩ (c_X8_at l x_6 0) (cwS 2 hts gX8_open_X8_at rfl rfl rfl hd_S_X8_at_2 ⟨Nat.le_of_ble_eq_true rfl, Nat.le_of_ble_eq_true rfl⟩) ex_preP rfl rfl hl.1 rfl (lv_room (Nat.le_of_ble_eq_true rfl)) dX8_open_50 ⟨Nat.le_of_ble_eq_true rfl, Nat.le_of_ble_eq_true rfl⟩) (fun r_9 H locs hw_9 hP hS => ?_)
          have k_0 : (0 : Int32).toInt = 0 := by decide
          have tr_9 : r_9.toInt = 32 + 7 * x_6.toInt + (0 : Int32).toInt := t_at hw_9 ⟨by omega, by omega⟩ ⟨by omega, by omega⟩
          refine lv_iload_n hx hb dX8_open_53 rfl (lv_at hl 2 rfl) ?_
          refine va_iast hx hb hK hP hD hS (1) 0 (wm_at (by decide) rc_1) rfl (vp_in_iff.mpr ⟨by omega, by omega⟩) dX8_open_54 (fun H locs hP hD hS => ?_)
          have zn_x_6 : (x_6.toNatClampNeg : Int) = x_6.toInt := t_nn (by omega)
          have nr_9 : r_9.toNatClampNeg = 32 + 7 * x_6.toNatClampNeg := by have z1 := t_nn (x := r_9) (by omega); omega
          obtain ⟨v_10, ev_10⟩ : ∃ u : Nat → Nat → Int32, u = upr v 1 (upd (v 1) (r_9.toNatClampNeg) x0) := ⟨_, rfl⟩
          have hP : va_P (dC, dI) vwCl (wm ad cy v_10) H := by rw [ev_10, ← wm_put (e := _) rc_1]; exact hP
          have hD : va_D A (wm ad cy v_10) := by rw [ev_10, ← wm_put (e := _) rc_1]; exact hD
          have hv : Ir v_10 := by rw [ev_10]; exact hv.put (k := 1) (fun h q => by rw [show br 1 _ = _ from (bx_0 (i := x_6.toInt) (s := 0) (by omega) ⟨by omega, by omega⟩ ⟨by omega, by omega⟩)] at q; cases q; exact ⟨by omega, by omega⟩)
          rw [nr_9] at ev_10
          refine lv_aload_n hx hb dX8_open_55 rfl (lv_at hl 1 rfl) ?_
          refine va_get (D := (dC, dI)) (ci := 8) (v := .ref (ad 1)) (C := RX8) (T := TX8) (N := 11) hx hb hts iwX8_open_X8 hown hK hP (0) (wm_at (by decide) rc_0) rfl 0 (by decide) (hts (.fieldLink RX8 7 "QuietStairsModel" "s" "[I") fwX8_open_1) (fun _ h9 => h9) rfl dX8_open_56 ?_
          refine lv_iload_n hx hb dX8_open_59 rfl (lv_at hl 0 rfl) ?_
          refine lv_iconst (v := 1) hx hb dX8_open_60 (by decide) ?_
          refine yc_p hP hS (va_runS (As := [.int x_6, .int 1]) (rest := [.ref (ad 1)]) ⟨hx, hb, hml, hown, hts⟩ (c_X8_at l x_6 1) (cwS 2 hts gX8_open_X8_at rfl rfl rfl hd_S_X8_at_2 ⟨Nat.le_of_ble_eq_true rfl, Nat.le_of_ble_eq_true rfl⟩) ex_preP rfl rfl hl.1 rfl (lv_room (Nat.le_of_ble_eq_true rfl)) dX8_open_61 ⟨Nat.le_of_ble_eq_true rfl, Nat.le_of_ble_eq_true rfl⟩) (fun r_11 H locs hw_11 hP hS => ?_)
          have k_1 : (1 : Int32).toInt = 1 := by decide
          have tr_11 : r_11.toInt = 32 + 7 * x_6.toInt + (1 : Int32).toInt := t_at hw_11 ⟨by omega, by omega⟩ ⟨by omega, by omega⟩
          refine lv_iload_n hx hb dX8_open_64 rfl (lv_at hl 3 rfl) ?_
          refine va_iast hx hb hK hP hD hS (1) 0 (wm_at (by decide) rc_1) rfl (vp_in_iff.mpr ⟨by omega, by omega⟩) dX8_open_65 (fun H locs hP hD hS => ?_)
          have nr_11 : r_11.toNatClampNeg = 33 + 7 * x_6.toNatClampNeg := by have z1 := t_nn (x := r_11) (by omega); omega
          obtain ⟨v_12, ev_12⟩ : ∃ u : Nat → Nat → Int32, u = upr v_10 1 (upd (v_10 1) (r_11.toNatClampNeg) x1) := ⟨_, rfl⟩
          have hP : va_P (dC, dI) vwCl (wm ad cy v_12) H := by rw [ev_12, ← wm_put (e := _) rc_1]; exact hP
          have hD : va_D A (wm ad cy v_12) := by rw [ev_12, ← wm_put (e := _) rc_1]; exact hD
          have hv : Ir v_12 := by rw [ev_12]; exact hv.put (k := 1) (fun h q => by rw [show br 1 _ = _ from (bx_0 (i := x_6.toInt) (s := 1) (by omega) ⟨by omega, by omega⟩ ⟨by omega, by omega⟩)] at q; cases q; exact ⟨by omega, by omega⟩)
          rw [nr_11] at ev_12
          refine lv_aload_n hx hb dX8_open_66 rfl (lv_at hl 1 rfl) ?_
          refine va_get (D := (dC, dI)) (ci := 8) (v := .ref (ad 1)) (C := RX8) (T := TX8) (N := 11) hx hb hts iwX8_open_X8 hown hK hP (0) (wm_at (by decide) rc_0) rfl 0 (by decide) (hts (.fieldLink RX8 7 "QuietStairsModel" "s" "[I") fwX8_open_1) (fun _ h9 => h9) rfl dX8_open_67 ?_
          refine lv_iload_n hx hb dX8_open_70 rfl (lv_at hl 0 rfl) ?_
          refine lv_iconst (v := 2) hx hb dX8_open_71 (by decide) ?_
          refine yc_p hP hS (va_runS (As := [.int x_6, .int 2]) (rest := [.ref (ad 1)]) ⟨hx, hb, hml, hown, hts⟩ (c_X8_at l x_6 2) (cwS 2 hts gX8_open_X8_at rfl rfl rfl hd_S_X8_at_2 ⟨Nat.le_of_ble_eq_true rfl, Nat.le_of_ble_eq_true rfl⟩) ex_preP rfl rfl hl.1 rfl (lv_room (Nat.le_of_ble_eq_true rfl)) dX8_open_72 ⟨Nat.le_of_ble_eq_true rfl, Nat.le_of_ble_eq_true rfl⟩) (fun r_13 H locs hw_13 hP hS => ?_)
          have tr_13 : r_13.toInt = 32 + 7 * x_6.toInt + (2 : Int32).toInt := t_at hw_13 ⟨by omega, by omega⟩ ⟨by omega, by omega⟩
          refine lv_iconst (v := 0) hx hb dX8_open_75 (by decide) ?_
          refine va_iast hx hb hK hP hD hS (1) 0 (wm_at (by decide) rc_1) rfl (vp_in_iff.mpr ⟨by omega, by omega⟩) dX8_open_76 (fun H locs hP hD hS => ?_)
          have nr_13 : r_13.toNatClampNeg = 34 + 7 * x_6.toNatClampNeg := by have z1 := t_nn (x := r_13) (by omega); omega
          obtain ⟨v_14, ev_14⟩ : ∃ u : Nat → Nat → Int32, u = upr v_12 1 (upd (v_12 1) (r_13.toNatClampNeg) 0) := ⟨_, rfl⟩
          have hP : va_P (dC, dI) vwCl (wm ad cy v_14) H := by rw [ev_14, ← wm_put (e := _) rc_1]; exact hP
          have hD : va_D A (wm ad cy v_14) := by rw [ev_14, ← wm_put (e := _) rc_1]; exact hD
          have hv : Ir v_14 := by rw [ev_14]; exact hv.put (k := 1) (fun h q => by rw [show br 1 _ = _ from (bx_2 (i := x_6.toInt) (s := 2) (by omega) ⟨by omega, by omega⟩ (by omega))] at q; cases q)
          rw [nr_13] at ev_14
          refine lv_aload_n hx hb dX8_open_77 rfl (lv_at hl 1 rfl) ?_
          refine va_get (D := (dC, dI)) (ci := 8) (v := .ref (ad 1)) (C := RX8) (T := TX8) (N := 11) hx hb hts iwX8_open_X8 hown hK hP (0) (wm_at (by decide) rc_0) rfl 0 (by decide) (hts (.fieldLink RX8 7 "QuietStairsModel" "s" "[I") fwX8_open_1) (fun _ h9 => h9) rfl dX8_open_78 ?_
          refine lv_iload_n hx hb dX8_open_81 rfl (lv_at hl 0 rfl) ?_
          refine lv_iconst (v := 3) hx hb dX8_open_82 (by decide) ?_
          refine yc_p hP hS (va_runS (As := [.int x_6, .int 3]) (rest := [.ref (ad 1)]) ⟨hx, hb, hml, hown, hts⟩ (c_X8_at l x_6 3) (cwS 2 hts gX8_open_X8_at rfl rfl rfl hd_S_X8_at_2 ⟨Nat.le_of_ble_eq_true rfl, Nat.le_of_ble_eq_true rfl⟩) ex_preP rfl rfl hl.1 rfl (lv_room (Nat.le_of_ble_eq_true rfl)) dX8_open_83 ⟨Nat.le_of_ble_eq_true rfl, Nat.le_of_ble_eq_true rfl⟩) (fun r_15 H locs hw_15 hP hS => ?_)
          have k_3 : (3 : Int32).toInt = 3 := by decide
          have tr_15 : r_15.toInt = 32 + 7 * x_6.toInt + (3 : Int32).toInt := t_at hw_15 ⟨by omega, by omega⟩ ⟨by omega, by omega⟩
          refine lv_bipush (v := (-5)) hx hb dX8_open_86 (by decide) ?_
          refine va_iast hx hb hK hP hD hS (1) 0 (wm_at (by decide) rc_1) rfl (vp_in_iff.mpr ⟨by omega, by omega⟩) dX8_open_88 (fun H locs hP hD hS => ?_)
          have nr_15 : r_15.toNatClampNeg = 35 + 7 * x_6.toNatClampNeg := by have z1 := t_nn (x := r_15) (by omega); omega
          have k_m5 : ((-5) : Int32).toInt = -5 := by decide
          obtain ⟨v_16, ev_16⟩ : ∃ u : Nat → Nat → Int32, u = upr v_14 1 (upd (v_14 1) (r_15.toNatClampNeg) (-5)) := ⟨_, rfl⟩
          have hP : va_P (dC, dI) vwCl (wm ad cy v_16) H := by rw [ev_16, ← wm_put (e := _) rc_1]; exact hP
          have hD : va_D A (wm ad cy v_16) := by rw [ev_16, ← wm_put (e := _) rc_1]; exact hD
          have hv : Ir v_16 := by rw [ev_16]; exact hv.put (k := 1) (fun h q => by rw [show br 1 _ = _ from (bx_2 (i := x_6.toInt) (s := 3) (by omega) ⟨by omega, by omega⟩ (by omega))] at q; cases q)
          rw [nr_15] at ev_16
          refine lv_aload_n hx hb dX8_open_89 rfl (lv_at hl 1 rfl) ?_
          refine va_get (D := (dC, dI)) (ci := 8) (v := .ref (ad 1)) (C := RX8) (T := TX8) (N := 11) hx hb hts iwX8_open_X8 hown hK hP (0) (wm_at (by decide) rc_0) rfl 0 (by decide) (hts (.fieldLink RX8 7 "QuietStairsModel" "s" "[I") fwX8_open_1) (fun _ h9 => h9) rfl dX8_open_90 ?_
          refine lv_iload_n hx hb dX8_open_93 rfl (lv_at hl 0 rfl) ?_
          refine lv_iconst (v := 4) hx hb dX8_open_94 (by decide) ?_
          refine yc_p hP hS (va_runS (As := [.int x_6, .int 4]) (rest := [.ref (ad 1)]) ⟨hx, hb, hml, hown, hts⟩ (c_X8_at l x_6 4) (cwS 2 hts gX8_open_X8_at rfl rfl rfl hd_S_X8_at_2 ⟨Nat.le_of_ble_eq_true rfl, Nat.le_of_ble_eq_true rfl⟩) ex_preP rfl rfl hl.1 rfl (lv_room (Nat.le_of_ble_eq_true rfl)) dX8_open_95 ⟨Nat.le_of_ble_eq_true rfl, Nat.le_of_ble_eq_true rfl⟩) (fun r_17 H locs hw_17 hP hS => ?_)
          have k_4 : (4 : Int32).toInt = 4 := by decide
          have tr_17 : r_17.toInt = 32 + 7 * x_6.toInt + (4 : Int32).toInt := t_at hw_17 ⟨by omega, by omega⟩ ⟨by omega, by omega⟩
          refine lv_iconst (v := 0) hx hb dX8_open_98 (by decide) ?_
          refine va_iast hx hb hK hP hD hS (1) 0 (wm_at (by decide) rc_1) rfl (vp_in_iff.mpr ⟨by omega, by omega⟩) dX8_open_99 (fun H locs hP hD hS => ?_)
          have nr_17 : r_17.toNatClampNeg = 36 + 7 * x_6.toNatClampNeg := by have z1 := t_nn (x := r_17) (by omega); omega
          obtain ⟨v_18, ev_18⟩ : ∃ u : Nat → Nat → Int32, u = upr v_16 1 (upd (v_16 1) (r_17.toNatClampNeg) 0) := ⟨_, rfl⟩
          have hP : va_P (dC, dI) vwCl (wm ad cy v_18) H := by rw [ev_18, ← wm_put (e := _) rc_1]; exact hP
          have hD : va_D A (wm ad cy v_18) := by rw [ev_18, ← wm_put (e := _) rc_1]; exact hD
          have hv : Ir v_18 := by rw [ev_18]; exact hv.put (k := 1) (fun h q => by rw [show br 1 _ = _ from (bx_4 (i := x_6.toInt) (s := 4) (by omega) ⟨by omega, by omega⟩ (by omega))] at q; cases q; exact ⟨by omega, by omega⟩)
          rw [nr_17] at ev_18
          refine lv_aload_n hx hb dX8_open_100 rfl (lv_at hl 1 rfl) ?_
          refine va_get (D := (dC, dI)) (ci := 8) (v := .ref (ad 1)) (C := RX8) (T := TX8) (N := 11) hx hb hts iwX8_open_X8 hown hK hP (0) (wm_at (by decide) rc_0) rfl 0 (by decide) (hts (.fieldLink RX8 7 "QuietStairsModel" "s" "[I") fwX8_open_1) (fun _ h9 => h9) rfl dX8_open_101 ?_
          refine lv_iload_n hx hb dX8_open_104 rfl (lv_at hl 0 rfl) ?_
          refine lv_iconst (v := 5) hx hb dX8_open_105 (by decide) ?_
          refine yc_p hP hS (va_runS (As := [.int x_6, .int 5]) (rest := [.ref (ad 1)]) ⟨hx, hb, hml, hown, hts⟩ (c_X8_at l x_6 5) (cwS 2 hts gX8_open_X8_at rfl rfl rfl hd_S_X8_at_2 ⟨Nat.le_of_ble_eq_true rfl, Nat.le_of_ble_eq_true rfl⟩) ex_preP rfl rfl hl.1 rfl (lv_room (Nat.le_of_ble_eq_true rfl)) dX8_open_106 ⟨Nat.le_of_ble_eq_true rfl, Nat.le_of_ble_eq_true rfl⟩) (fun r_19 H locs hw_19 hP hS => ?_)
          have k_5 : (5 : Int32).toInt = 5 := by decide
          have tr_19 : r_19.toInt = 32 + 7 * x_6.toInt + (5 : Int32).toInt := t_at hw_19 ⟨by omega, by omega⟩ ⟨by omega, by omega⟩
          refine lv_iconst (v := 1) hx hb dX8_open_109 (by decide) ?_
          refine va_iast hx hb hK hP hD hS (1) 0 (wm_at (by decide) rc_1) rfl (vp_in_iff.mpr ⟨by omega, by omega⟩) dX8_open_110 (fun H locs hP hD hS => ?_)
          have nr_19 : r_19.toNatClampNeg = 37 + 7 * x_6.toNatClampNeg := by have z1 := t_nn (x := r_19) (by omega); omega
          obtain ⟨v_20, ev_20⟩ : ∃ u : Nat → Nat → Int32, u = upr v_18 1 (upd (v_18 1) (r_19.toNatClampNeg) 1) := ⟨_, rfl⟩
          have hP : va_P (dC, dI) vwCl (wm ad cy v_20) H := by rw [ev_20, ← wm_put (e := _) rc_1]; exact hP
          have hD : va_D A (wm ad cy v_20) := by rw [ev_20, ← wm_put (e := _) rc_1]; exact hD
          have hv : Ir v_20 := by rw [ev_20]; exact hv.put (k := 1) (fun h q => by rw [show br 1 _ = _ from (bx_2 (i := x_6.toInt) (s := 5) (by omega) ⟨by omega, by omega⟩ (by omega))] at q; cases q)
          rw [nr_19] at ev_20
          refine lv_aload_n hx hb dX8_open_111 rfl (lv_at hl 1 rfl) ?_
          refine va_get (D := (dC, dI)) (ci := 8) (v := .ref (ad 1)) (C := RX8) (T := TX8) (N := 11) hx hb hts iwX8_open_X8 hown hK hP (0) (wm_at (by decide) rc_0) rfl 0 (by decide) (hts (.fieldLink RX8 7 "QuietStairsModel" "s" "[I") fwX8_open_1) (fun _ h9 => h9) rfl dX8_open_112 ?_
          refine lv_iload_n hx hb dX8_open_115 rfl (lv_at hl 0 rfl) ?_
          refine lv_bipush (v := 6) hx hb dX8_open_116 (by decide) ?_
          refine yc_p hP hS (va_runS (As := [.int x_6, .int 6]) (rest := [.ref (ad 1)]) ⟨hx, hb, hml, hown, hts⟩ (c_X8_at l x_6 6) (cwS 2 hts gX8_open_X8_at rfl rfl rfl hd_S_X8_at_2 ⟨Nat.le_of_ble_eq_true rfl, Nat.le_of_ble_eq_true rfl⟩) ex_preP rfl rfl hl.1 rfl (lv_room (Nat.le_of_ble_eq_true rfl)) dX8_open_118 ⟨Nat.le_of_ble_eq_true rfl, Nat.le_of_ble_eq_true rfl⟩) (fun r_21 H locs hw_21 hP hS => ?_)
          have tr_21 : r_21.toInt = 32 + 7 * x_6.toInt + (6 : Int32).toInt := t_at hw_21 ⟨by omega, by omega⟩ ⟨by omega, by omega⟩
          refine lv_iconst (v := 0) hx hb dX8_open_121 (by decide) ?_
          refine va_iast hx hb hK hP hD hS (1) 0 (wm_at (by decide) rc_1) rfl (vp_in_iff.mpr ⟨by omega, by omega⟩) dX8_open_122 (fun H locs hP hD hS => ?_)
          have nr_21 : r_21.toNatClampNeg = 38 + 7 * x_6.toNatClampNeg := by have z1 := t_nn (x := r_21) (by omega); omega
          obtain ⟨v_22, ev_22⟩ : ∃ u : Nat → Nat → Int32, u = upr v_20 1 (upd (v_20 1) (r_21.toNatClampNeg) 0) := ⟨_, rfl⟩
          have hP : va_P (dC, dI) vwCl (wm ad cy v_22) H := by rw [ev_22, ← wm_put (e := _) rc_1]; exact hP
          have hD : va_D A (wm ad cy v_22) := by rw [ev_22, ← wm_put (e := _) rc_1]; exact hD
          have hv : Ir v_22 := by rw [ev_22]; exact hv.put (k := 1) (fun h q => by rw [show br 1 _ = _ from (bx_4 (i := x_6.toInt) (s := 6) (by omega) ⟨by omega, by omega⟩ (by omega))] at q; cases q; exact ⟨by omega, by omega⟩)
          rw [nr_21] at ev_22
          refine lv_aload_n hx hb dX8_open_123 rfl (lv_at hl 1 rfl) ?_
          refine va_get (D := (dC, dI)) (ci := 8) (v := .ref (ad 1)) (C := RX8) (T := TX8) (N := 11) hx hb hts iwX8_open_X8 hown hK hP (0) (wm_at (by decide) rc_0) rfl 0 (by decide) (hts (.fieldLink RX8 7 "QuietStairsModel" "s" "[I") fwX8_open_1) (fun _ h9 => h9) rfl dX8_open_124 ?_
          refine lv_bipush (v := 74) hx hb dX8_open_127 (by decide) ?_
          refine lv_iconst (v := 2) hx hb dX8_open_129 (by decide) ?_
          refine lv_iload_n hx hb dX8_open_130 rfl (lv_at hl 0 rfl) ?_
          refine lv_imul hx hb dX8_open_131 ?_
          refine lv_topi (fun x_23 ex_23 => ?_)
          have tx_23 : x_23.toInt = 2 * x_6.toInt := by rw [ex_23, t_mul (by rw [k_2]; omega), k_2]
          refine lv_iadd hx hb dX8_open_132 ?_
          refine lv_topi (fun x_24 ex_24 => ?_)
          have k_74 : (74 : Int32).toInt = 74 := by decide
          have tx_24 : x_24.toInt = (74 : Int32).toInt + x_23.toInt := by rw [ex_24]; exact t_add ⟨by omega, by omega⟩
          refine lv_bipush (v := (-5)) hx hb dX8_open_133 (by decide) ?_
          refine va_iast hx hb hK hP hD hS (1) 0 (wm_at (by decide) rc_1) rfl (vp_in_iff.mpr ⟨by omega, by omega⟩) dX8_open_135 (fun H locs hP hD hS => ?_)
          have nx_24 : x_24.toNatClampNeg = 74 + 2 * x_6.toNatClampNeg := by have z1 := t_nn (x := x_24) (by omega); omega
          obtain ⟨v_25, ev_25⟩ : ∃ u : Nat → Nat → Int32, u = upr v_22 1 (upd (v_22 1) (x_24.toNatClampNeg) (-5)) := ⟨_, rfl⟩
          have hP : va_P (dC, dI) vwCl (wm ad cy v_25) H := by rw [ev_25, ← wm_put (e := _) rc_1]; exact hP
          have hD : va_D A (wm ad cy v_25) := by rw [ev_25, ← wm_put (e := _) rc_1]; exact hD
          have hv : Ir v_25 := by rw [ev_25]; exact hv.put (k := 1) (fun h q => by rw [show br 1 _ = _ from (bx_n (by omega))] at q; cases q)
          rw [nx_24] at ev_25
          refine lv_aload_n hx hb dX8_open_136 rfl (lv_at hl 1 rfl) ?_
          refine va_get (D := (dC, dI)) (ci := 8) (v := .ref (ad 1)) (C := RX8) (T := TX8) (N := 11) hx hb hts iwX8_open_X8 hown hK hP (0) (wm_at (by decide) rc_0) rfl 0 (by decide) (hts (.fieldLink RX8 7 "QuietStairsModel" "s" "[I") fwX8_open_1) (fun _ h9 => h9) rfl dX8_open_137 ?_
          refine lv_bipush (v := 74) hx hb dX8_open_140 (by decide) ?_
          refine lv_iconst (v := 2) hx hb dX8_open_142 (by decide) ?_
          refine lv_iload_n hx hb dX8_open_143 rfl (lv_at hl 0 rfl) ?_
          refine lv_imul hx hb dX8_open_144 ?_
          refine lv_topi (fun x_26 ex_26 => ?_)
          obtain rfl : x_23 = x_26 := ex_23.trans ex_26.symm
          refine lv_iadd hx hb dX8_open_145 ?_
          refine lv_topi (fun x_27 ex_27 => ?_)
          obtain rfl : x_24 = x_27 := ex_24.trans ex_27.symm
          refine lv_iconst (v := 1) hx hb dX8_open_146 (by decide) ?_
          refine lv_iadd hx hb dX8_open_147 ?_
          refine lv_topi (fun x_28 ex_28 => ?_)
          have tx_28 : x_28.toInt = x_24.toInt + (1 : Int32).toInt := by rw [ex_28]; exact t_add ⟨by omega, by omega⟩
          refine lv_bipush (v := (-5)) hx hb dX8_open_148 (by decide) ?_
          refine va_iast hx hb hK hP hD hS (1) 0 (wm_at (by decide) rc_1) rfl (vp_in_iff.mpr ⟨by omega, by omega⟩) dX8_open_150 (fun H locs hP hD hS => ?_)
          have nx_28 : x_28.toNatClampNeg = 75 + 2 * x_6.toNatClampNeg := by have z1 := t_nn (x := x_28) (by omega); omega
          obtain ⟨v_29, ev_29⟩ : ∃ u : Nat → Nat → Int32, u = upr v_25 1 (upd (v_25 1) (x_28.toNatClampNeg) (-5)) := ⟨_, rfl⟩
          have hP : va_P (dC, dI) vwCl (wm ad cy v_29) H := by rw [ev_29, ← wm_put (e := _) rc_1]; exact hP
          have hD : va_D A (wm ad cy v_29) := by rw [ev_29, ← wm_put (e := _) rc_1]; exact hD
          have hv : Ir v_29 := by rw [ev_29]; exact hv.put (k := 1) (fun h q => by rw [show br 1 _ = _ from (bx_n (by omega))] at q; cases q)
          rw [nx_28] at ev_29
          refine lv_iconst (v := 0) hx hb dX8_open_151 (by decide) ?_
          refine lv_istore (lv' := [(4, .int 0), (3, .int x_6), (0, .ref (ad 0)), (1, .int x0), (2, .int x1)]) hx hb dX8_open_152 hl (by decide) rfl (fun ls hl => ?_)
          have hc_30 : ∀ (n : Nat) (y30_4 : Int32) (u30 : Nat → Nat → Int32) (H : Heap) (locs : List Loc), 0 ≤ y30_4.toInt → y30_4.toInt ≤ 48 → (∀ n : Nat, u30 1 n = if 308 + 48 * x_6.toNatClampNeg ≤ n ∧ (n : Int) < 308 + 48 * (x_6.toNatClampNeg : Int) + y30_4.toInt then 7 else v_29 1 n) → (∀ k : Nat, k ≠ 1 → u30 k = v_29 k) → (u30 1 2 = v_29 1 2) → (48 - y30_4.toInt).toNat < n → Ir u30 → va_P (dC, dI) vwCl (wm ad cy u30) H → va_D A (wm ad cy u30) → va_S A s.heap H locs → ∀ ls : Array Slot, lv_has ls 5 [(4, .int y30_4), (3, .int x_6), (0, .ref (ad 0)), (1, .int x0), (2, .int x1)] → W p l e (headSpec wsX8_open ({ frames := 2, cells := 0, slots := 0, locals := 128 })).room s m [Value.ref (ad 0), Value.int x0, Value.int x1].toArray below meth c H locs 0 0 (MQ below (va_Qi (fun (r : Int32) (u : Nat → Nat → Int32) => Ir u ∧ (¬ ((0 ≤ x0.toInt ∧ x0.toInt < (v 1 0).toInt) ∧ (0 ≤ x1.toInt ∧ x1.toInt < (v 1 0).toInt) ∧ x0.toInt ≠ x1.toInt) → r = -1 ∧ u = v) ∧ (((0 ≤ x0.toInt ∧ x0.toInt < (v 1 0).toInt) ∧ (0 ≤ x1.toInt ∧ x1.toInt < (v 1 0).toInt) ∧ x0.toInt ≠ x1.toInt) ∧ (v 1 2).toInt = 6 → r = -2 ∧ u = v) ∧ (((0 ≤ x0.toInt ∧ x0.toInt < (v 1 0).toInt) ∧ (0 ≤ x1.toInt ∧ x1.toInt < (v 1 0).toInt) ∧ x0.toInt ≠ x1.toInt) ∧ (v 1 2).toInt ≠ 6 → r = v 1 2 ∧ (∀ n : Nat, u 1 n = if n = 2 then v 1 2 + 1 else if 308 + 48 * (v 1 2).toNatClampNeg ≤ n ∧ (n : Int) < 308 + 48 * ((v 1 2).toNatClampNeg : Int) + 48 then 7 else if n = 75 + 2 * (v 1 2).toNatClampNeg then -5 else if n = 74 + 2 * (v 1 2).toNatClampNeg then -5 else if n = 38 + 7 * (v 1 2).toNatClampNeg then 0 else if n = 37 + 7 * (v 1 2).toNatClampNeg then 1 else if n = 36 + 7 * (v 1 2).toNatClampNeg then 0 else if n = 35 + 7 * (v 1 2).toNatClampNeg then -5 else if n = 34 + 7 * (v 1 2).toNatClampNeg then 0 else if n = 33 + 7 * (v 1 2).toNatClampNeg then x1 else if n = 32 + 7 * (v 1 2).toNatClampNeg then x0 else v 1 n) ∧ (∀ k : Nat, k ≠ 1 → u k = v k))) (fun u t => ex_Pst dC dI A (wm ad cy u) t) A) [Value.ref (ad 0), Value.int x0, Value.int x1].toArray s 0 0 A) (F0 m 154 ls []) := by
            intro n
            induction n with
            | zero =>
              intro y30_4 u30 H locs ay30_4 by30_4 hi30_0 hi30_1 hi30_2 hm_30 hv hP hD hS ls hl
              exact absurd hm_30 (by omega)
            | succ n ih_30 =>
              intro y30_4 u30 H locs ay30_4 by30_4 hi30_0 hi30_1 hi30_2 hm_30 hv hP hD hS ls hl
              refine lv_iload hx hb dX8_open_154 (lv_at hl 0 rfl) ?_
              refine lv_bipush (v := 48) hx hb dX8_open_156 (by decide) ?_
              have k_48 : (48 : Int32).toInt = 48 := by decide
              refine lv_icmp_ge (tgt := 185) hx hb dX8_open_158 (by decide) (fun c_31 => ?_) (fun c_31 => ?_)
              · have tc_31 : y30_4.toInt ≥ (48 : Int32).toInt := Int32.le_iff_toInt_le.mp c_31
                have hy : y30_4.toInt = 48 := by omega
                refine lv_aload_n hx hb dX8_open_185 rfl (lv_at hl 2 rfl) ?_
                refine va_get (D := (dC, dI)) (ci := 8) (v := .ref (ad 1)) (C := RX8) (T := TX8) (N := 11) hx hb hts iwX8_open_X8 hown hK hP (0) (wm_at (by decide) rc_0) rfl 0 (by decide) (hts (.fieldLink RX8 7 "QuietStairsModel" "s" "[I") fwX8_open_1) (fun _ h9 => h9) rfl dX8_open_186 ?_
                refine lv_iconst (v := 2) hx hb dX8_open_189 (by decide) ?_
                refine lv_dup2_11 hx hb dX8_open_190 rfl rfl ?_
                refine va_iald hx hb hK hP (1) 0 (wm_at (by decide) rc_1) rfl (by unfold vp_in; decide) dX8_open_191 ?_
                refine lv_topi (fun x_32 ex_32 => ?_)
                have ex_32 : x_32 = u30 1 2 := ex_32
                have bzx_32 : 0 ≤ x_32.toInt ∧ x_32.toInt ≤ 6 := by rw [ex_32]; exact hv 1 _ 6 (show bS 2 = some 6 from by decide)
                rw [hi30_2, ev_29, upr_s, pk_un (by omega), ev_25, upr_s, pk_un (by omega), ev_22, upr_s, pk_un (by omega), ev_20, upr_s, pk_un (by omega), ev_18, upr_s, pk_un (by omega), ev_16, upr_s, pk_un (by omega), ev_14, upr_s, pk_un (by omega), ev_12, upr_s, pk_un (by omega), ev_10, upr_s, pk_un (by omega)] at ex_32
                obtain rfl : x_6 = x_32 := (ex_32.trans ex_6.symm).symm
                refine lv_iconst (v := 1) hx hb dX8_open_192 (by decide) ?_
                refine lv_iadd hx hb dX8_open_193 ?_
                refine lv_topi (fun x_33 ex_33 => ?_)
                have tx_33 : x_33.toInt = x_6.toInt + (1 : Int32).toInt := by rw [ex_33]; exact t_add ⟨by omega, by omega⟩
                refine va_iast hx hb hK hP hD hS (1) 0 (wm_at (by decide) rc_1) rfl (by unfold vp_in; decide) dX8_open_194 (fun H locs hP hD hS => ?_)
                obtain ⟨v_34, ev_34⟩ : ∃ u : Nat → Nat → Int32, u = upr u30 1 (upd (u30 1) 2 x_33) := ⟨_, rfl⟩
                have hP : va_P (dC, dI) vwCl (wm ad cy v_34) H := by rw [ev_34, ← wm_put (e := _) rc_1]; exact hP
                have hD : va_D A (wm ad cy v_34) := by rw [ev_34, ← wm_put (e := _) rc_1]; exact hD
                have hv : Ir v_34 := by rw [ev_34]; exact hv.put (k := 1) (fun h q => by rw [show br 1 _ = _ from (show bS 2 = some 6 from by decide)] at q; cases q; exact ⟨by omega, by omega⟩)
                refine lv_iload_n hx hb dX8_open_195 rfl (lv_at hl 1 rfl) ?_
                have hpost : (¬ ((0 ≤ x0.toInt ∧ x0.toInt < (v 1 0).toInt) ∧ (0 ≤ x1.toInt ∧ x1.toInt < (v 1 0).toInt) ∧ x0.toInt ≠ x1.toInt) → x_6 = -1 ∧ v_34 = v) ∧ (((0 ≤ x0.toInt ∧ x0.toInt < (v 1 0).toInt) ∧ (0 ≤ x1.toInt ∧ x1.toInt < (v 1 0).toInt) ∧ x0.toInt ≠ x1.toInt) ∧ (v 1 2).toInt = 6 → x_6 = -2 ∧ v_34 = v) ∧ (((0 ≤ x0.toInt ∧ x0.toInt < (v 1 0).toInt) ∧ (0 ≤ x1.toInt ∧ x1.toInt < (v 1 0).toInt) ∧ x0.toInt ≠ x1.toInt) ∧ (v 1 2).toInt ≠ 6 → x_6 = v 1 2 ∧ (∀ n : Nat, v_34 1 n = if n = 2 then v 1 2 + 1 else if 308 + 48 * (v 1 2).toNatClampNeg ≤ n ∧ (n : Int) < 308 + 48 * ((v 1 2).toNatClampNeg : Int) + 48 then 7 else if n = 75 + 2 * (v 1 2).toNatClampNeg then -5 else if n = 74 + 2 * (v 1 2).toNatClampNeg then -5 else if n = 38 + 7 * (v 1 2).toNatClampNeg then 0 else if n = 37 + 7 * (v 1 2).toNatClampNeg then 1 else if n = 36 + 7 * (v 1 2).toNatClampNeg then 0 else if n = 35 + 7 * (v 1 2).toNatClampNeg then -5 else if n = 34 + 7 * (v 1 2).toNatClampNeg then 0 else if n = 33 + 7 * (v 1 2).toNatClampNeg then x1 else if n = 32 + 7 * (v 1 2).toNatClampNeg then x0 else v 1 n) ∧ (∀ k : Nat, k ≠ 1 → v_34 k = v k)) := by
                  refine ⟨fun hq => ?_, fun hq => ?_, fun hq => ?_⟩
                  · exfalso; omega
                  · exfalso; omega
                  · exact ⟨by rw [ex_6], fun n => by rw [ev_34, up1, hi30_0 n, hy, ev_29, up1, ev_25, up1, ev_22, up1, ev_20, up1, ev_18, up1, ev_16, up1, ev_14, up1, ev_12, up1, ev_10, up1, ex_33, ex_6], fun k hk => by rw [ev_34, upr_n hk, hi30_1 k hk, ev_29, upr_n hk, ev_25, upr_n hk, ev_22, upr_n hk, ev_20, upr_n hk, ev_18, upr_n hk, ev_16, upr_n hk, ev_14, upr_n hk, ev_12, upr_n hk, ev_10, upr_n hk]⟩
                exact W.iret (v := x_6) hx hb hr (fun t ht hW => ⟨⟨x_6, v_34, rfl, ⟨hv, hpost⟩, by rw [ht]; exact hP, hD⟩, hS.F ht⟩) hS.2.2 dX8_open_196
              · have tc_31 : y30_4.toInt < (48 : Int32).toInt := Int32.lt_iff_toInt_lt.mp (Int32.not_le.mp c_31)
                refine lv_aload_n hx hb dX8_open_161 rfl (lv_at hl 2 rfl) ?_
                refine va_get (D := (dC, dI)) (ci := 8) (v := .ref (ad 1)) (C := RX8) (T := TX8) (N := 11) hx hb hts iwX8_open_X8 hown hK hP (0) (wm_at (by decide) rc_0) rfl 0 (by decide) (hts (.fieldLink RX8 7 "QuietStairsModel" "s" "[I") fwX8_open_1) (fun _ h9 => h9) rfl dX8_open_162 ?_
                refine lv_sipush (v := 308) hx hb dX8_open_165 (by decide) ?_
                refine lv_bipush (v := 48) hx hb dX8_open_168 (by decide) ?_
                refine lv_iload_n hx hb dX8_open_170 rfl (lv_at hl 1 rfl) ?_
                refine lv_imul hx hb dX8_open_171 ?_
                refine lv_topi (fun x_32 ex_32 => ?_)
                have tx_32 : x_32.toInt = 48 * x_6.toInt := by rw [ex_32, t_mul (by rw [k_48]; omega), k_48]
                refine lv_iadd hx hb dX8_open_172 ?_
                refine lv_topi (fun x_33 ex_33 => ?_)
                have k_308 : (308 : Int32).toInt = 308 := by decide
                have tx_33 : x_33.toInt = (308 : Int32).toInt + x_32.toInt := by rw [ex_33]; exact t_add ⟨by omega, by omega⟩
                refine lv_iload hx hb dX8_open_173 (lv_at hl 0 rfl) ?_
                refine lv_iadd hx hb dX8_open_175 ?_
                refine lv_topi (fun x_34 ex_34 => ?_)
                have tx_34 : x_34.toInt = x_33.toInt + y30_4.toInt := by rw [ex_34]; exact t_add ⟨by omega, by omega⟩
                refine lv_bipush (v := 7) hx hb dX8_open_176 (by decide) ?_
                refine va_iast hx hb hK hP hD hS (1) 0 (wm_at (by decide) rc_1) rfl (vp_in_iff.mpr ⟨by omega, by omega⟩) dX8_open_178 (fun H locs hP hD hS => ?_)
                have zn_y30_4 : (y30_4.toNatClampNeg : Int) = y30_4.toInt := t_nn (by omega)
                have nx_34 : x_34.toNatClampNeg = 308 + 48 * x_6.toNatClampNeg + y30_4.toNatClampNeg := by have z1 := t_nn (x := x_34) (by omega); omega
                have k_7 : (7 : Int32).toInt = 7 := by decide
                obtain ⟨v_35, ev_35⟩ : ∃ u : Nat → Nat → Int32, u = upr u30 1 (upd (u30 1) (x_34.toNatClampNeg) 7) := ⟨_, rfl⟩
                have hP : va_P (dC, dI) vwCl (wm ad cy v_35) H := by rw [ev_35, ← wm_put (e := _) rc_1]; exact hP
                have hD : va_D A (wm ad cy v_35) := by rw [ev_35, ← wm_put (e := _) rc_1]; exact hD
                have hv : Ir v_35 := by rw [ev_35]; exact hv.put (k := 1) (fun h q => by rw [show br 1 _ = _ from (bx_n (by omega))] at q; cases q)
                rw [nx_34] at ev_35
                obtain ⟨x_36, ex_36⟩ : ∃ y : Int32, y = y30_4 + 1 := ⟨_, rfl⟩
                refine lv_iinc (v := x_36) (lv' := [(4, .int x_36), (3, .int x_6), (0, .ref (ad 0)), (1, .int x0), (2, .int x1)]) hx hb dX8_open_179 hl (k := 0) rfl (by rw [ex_36]; rfl) (by decide) rfl (fun ls hl => ?_)
                have tx_36 : x_36.toInt = y30_4.toInt + (1 : Int32).toInt := by rw [ex_36]; exact t_add ⟨by omega, by omega⟩
                refine lv_goto (tgt := 154) hx hb dX8_open_182 (by decide) ?_
                exact ih_30 x_36 v_35 _ _ (by omega) (by omega) (fun n => by rw [ev_35, up1, hi30_0 n]; (repeat' split); all_goals first | rfl | (exfalso; omega)) (fun k hk => by rw [ev_35, upr_n hk]; exact hi30_1 k hk) (by rw [ev_35, upr_s, pk_un (by omega)]; exact hi30_2) (by omega) hv hP hD hS ls (lv_sub hl [0, 1, 2, 3, 4] rfl)
          exact hc_30 ((48 - (0 : Int32).toInt).toNat + 1) 0 v_29 _ _ (by omega) (by omega) (fun n => by rw [if_neg (by omega)]) (fun _ _ => rfl) (rfl) (by omega) hv hP hD hS ls (lv_sub hl [0, 1, 2, 3, 4] rfl)
        · have tc_7 : x_6.toInt = (6 : Int32).toInt := by rw [c_7]
          refine lv_bipush (v := (-2)) hx hb dX8_open_34 (by decide) ?_
          have hpost : (¬ ((0 ≤ x0.toInt ∧ x0.toInt < (v 1 0).toInt) ∧ (0 ≤ x1.toInt ∧ x1.toInt < (v 1 0).toInt) ∧ x0.toInt ≠ x1.toInt) → ((-2) : Int32) = -1 ∧ v = v) ∧ (((0 ≤ x0.toInt ∧ x0.toInt < (v 1 0).toInt) ∧ (0 ≤ x1.toInt ∧ x1.toInt < (v 1 0).toInt) ∧ x0.toInt ≠ x1.toInt) ∧ (v 1 2).toInt = 6 → ((-2) : Int32) = -2 ∧ v = v) ∧ (((0 ≤ x0.toInt ∧ x0.toInt < (v 1 0).toInt) ∧ (0 ≤ x1.toInt ∧ x1.toInt < (v 1 0).toInt) ∧ x0.toInt ≠ x1.toInt) ∧ (v 1 2).toInt ≠ 6 → ((-2) : Int32) = v 1 2 ∧ (∀ n : Nat, v 1 n = if n = 2 then v 1 2 + 1 else if 308 + 48 * (v 1 2).toNatClampNeg ≤ n ∧ (n : Int) < 308 + 48 * ((v 1 2).toNatClampNeg : Int) + 48 then 7 else if n = 75 + 2 * (v 1 2).toNatClampNeg then -5 else if n = 74 + 2 * (v 1 2).toNatClampNeg then -5 else if n = 38 + 7 * (v 1 2).toNatClampNeg then 0 else if n = 37 + 7 * (v 1 2).toNatClampNeg then 1 else if n = 36 + 7 * (v 1 2).toNatClampNeg then 0 else if n = 35 + 7 * (v 1 2).toNatClampNeg then -5 else if n = 34 + 7 * (v 1 2).toNatClampNeg then 0 else if n = 33 + 7 * (v 1 2).toNatClampNeg then x1 else if n = 32 + 7 * (v 1 2).toNatClampNeg then x0 else v 1 n) ∧ (∀ k : Nat, k ≠ 1 → v k = v k)) := by
            refine ⟨fun hq => ?_, fun hq => ?_, fun hq => ?_⟩
            · exfalso; omega
            · exact ⟨rfl, rfl⟩
            · exfalso; omega
          exact W.iret (v := (-2)) hx hb hr (fun t ht hW => ⟨⟨(-2), v, rfl, ⟨hv, hpost⟩, by rw [ht]; exact hP, hD⟩, hS.F ht⟩) hS.2.2 dX8_open_36
      · have tc_5 : x0.toInt = x1.toInt := by rw [c_5]
        refine lv_iconst (v := (-1)) hx hb dX8_open_21 (by decide) ?_
        have hpost : (¬ ((0 ≤ x0.toInt ∧ x0.toInt < (v 1 0).toInt) ∧ (0 ≤ x1.toInt ∧ x1.toInt < (v 1 0).toInt) ∧ x0.toInt ≠ x1.toInt) → ((-1) : Int32) = -1 ∧ v = v) ∧ (((0 ≤ x0.toInt ∧ x0.toInt < (v 1 0).toInt) ∧ (0 ≤ x1.toInt ∧ x1.toInt < (v 1 0).toInt) ∧ x0.toInt ≠ x1.toInt) ∧ (v 1 2).toInt = 6 → ((-1) : Int32) = -2 ∧ v = v) ∧ (((0 ≤ x0.toInt ∧ x0.toInt < (v 1 0).toInt) ∧ (0 ≤ x1.toInt ∧ x1.toInt < (v 1 0).toInt) ∧ x0.toInt ≠ x1.toInt) ∧ (v 1 2).toInt ≠ 6 → ((-1) : Int32) = v 1 2 ∧ (∀ n : Nat, v 1 n = if n = 2 then v 1 2 + 1 else if 308 + 48 * (v 1 2).toNatClampNeg ≤ n ∧ (n : Int) < 308 + 48 * ((v 1 2).toNatClampNeg : Int) + 48 then 7 else if n = 75 + 2 * (v 1 2).toNatClampNeg then -5 else if n = 74 + 2 * (v 1 2).toNatClampNeg then -5 else if n = 38 + 7 * (v 1 2).toNatClampNeg then 0 else if n = 37 + 7 * (v 1 2).toNatClampNeg then 1 else if n = 36 + 7 * (v 1 2).toNatClampNeg then 0 else if n = 35 + 7 * (v 1 2).toNatClampNeg then -5 else if n = 34 + 7 * (v 1 2).toNatClampNeg then 0 else if n = 33 + 7 * (v 1 2).toNatClampNeg then x1 else if n = 32 + 7 * (v 1 2).toNatClampNeg then x0 else v 1 n) ∧ (∀ k : Nat, k ≠ 1 → v k = v k)) := by
          refine ⟨fun hq => ?_, fun hq => ?_, fun hq => ?_⟩
          · exact ⟨rfl, rfl⟩
          · exfalso; omega
          · exfalso; omega
        exact W.iret (v := (-1)) hx hb hr (fun t ht hW => ⟨⟨(-1), v, rfl, ⟨hv, hpost⟩, by rw [ht]; exact hP, hD⟩, hS.F ht⟩) hS.2.2 dX8_open_22
    · refine lv_if_eq (tgt := 21) hx hb dX8_open_13 (by decide) (fun _ => ?_) (fun c9 => absurd c9 (by decide))
      refine lv_iconst (v := (-1)) hx hb dX8_open_21 (by decide) ?_
      have hpost : (¬ ((0 ≤ x0.toInt ∧ x0.toInt < (v 1 0).toInt) ∧ (0 ≤ x1.toInt ∧ x1.toInt < (v 1 0).toInt) ∧ x0.toInt ≠ x1.toInt) → ((-1) : Int32) = -1 ∧ v = v) ∧ (((0 ≤ x0.toInt ∧ x0.toInt < (v 1 0).toInt) ∧ (0 ≤ x1.toInt ∧ x1.toInt < (v 1 0).toInt) ∧ x0.toInt ≠ x1.toInt) ∧ (v 1 2).toInt = 6 → ((-1) : Int32) = -2 ∧ v = v) ∧ (((0 ≤ x0.toInt ∧ x0.toInt < (v 1 0).toInt) ∧ (0 ≤ x1.toInt ∧ x1.toInt < (v 1 0).toInt) ∧ x0.toInt ≠ x1.toInt) ∧ (v 1 2).toInt ≠ 6 → ((-1) : Int32) = v 1 2 ∧ (∀ n : Nat, v 1 n = if n = 2 then v 1 2 + 1 else if 308 + 48 * (v 1 2).toNatClampNeg ≤ n ∧ (n : Int) < 308 + 48 * ((v 1 2).toNatClampNeg : Int) + 48 then 7 else if n = 75 + 2 * (v 1 2).toNatClampNeg then -5 else if n = 74 + 2 * (v 1 2).toNatClampNeg then -5 else if n = 38 + 7 * (v 1 2).toNatClampNeg then 0 else if n = 37 + 7 * (v 1 2).toNatClampNeg then 1 else if n = 36 + 7 * (v 1 2).toNatClampNeg then 0 else if n = 35 + 7 * (v 1 2).toNatClampNeg then -5 else if n = 34 + 7 * (v 1 2).toNatClampNeg then 0 else if n = 33 + 7 * (v 1 2).toNatClampNeg then x1 else if n = 32 + 7 * (v 1 2).toNatClampNeg then x0 else v 1 n) ∧ (∀ k : Nat, k ≠ 1 → v k = v k)) := by
        refine ⟨fun hq => ?_, fun hq => ?_, fun hq => ?_⟩
        · exact ⟨rfl, rfl⟩
        · exfalso; omega
        · exfalso; omega
      exact W.iret (v := (-1)) hx hb hr (fun t ht hW => ⟨⟨(-1), v, rfl, ⟨hv, hpost⟩, by rw [ht]; exact hP, hD⟩, hS.F ht⟩) hS.2.2 dX8_open_22
  · refine lv_if_eq (tgt := 21) hx hb dX8_open_5 (by decide) (fun _ => ?_) (fun c9 => absurd c9 (by decide))
    refine lv_iconst (v := (-1)) hx hb dX8_open_21 (by decide) ?_
    have hpost : (¬ ((0 ≤ x0.toInt ∧ x0.toInt < (v 1 0).toInt) ∧ (0 ≤ x1.toInt ∧ x1.toInt < (v 1 0).toInt) ∧ x0.toInt ≠ x1.toInt) → ((-1) : Int32) = -1 ∧ v = v) ∧ (((0 ≤ x0.toInt ∧ x0.toInt < (v 1 0).toInt) ∧ (0 ≤ x1.toInt ∧ x1.toInt < (v 1 0).toInt) ∧ x0.toInt ≠ x1.toInt) ∧ (v 1 2).toInt = 6 → ((-1) : Int32) = -2 ∧ v = v) ∧ (((0 ≤ x0.toInt ∧ x0.toInt < (v 1 0).toInt) ∧ (0 ≤ x1.toInt ∧ x1.toInt < (v 1 0).toInt) ∧ x0.toInt ≠ x1.toInt) ∧ (v 1 2).toInt ≠ 6 → ((-1) : Int32) = v 1 2 ∧ (∀ n : Nat, v 1 n = if n = 2 then v 1 2 + 1 else if 308 + 48 * (v 1 2).toNatClampNeg ≤ n ∧ (n : Int) < 308 + 48 * ((v 1 2).toNatClampNeg : Int) + 48 then 7 else if n = 75 + 2 * (v 1 2).toNatClampNeg then -5 else if n = 74 + 2 * (v 1 2).toNatClampNeg then -5 else if n = 38 + 7 * (v 1 2).toNatClampNeg then 0 else if n = 37 + 7 * (v 1 2).toNatClampNeg then 1 else if n = 36 + 7 * (v 1 2).toNatClampNeg then 0 else if n = 35 + 7 * (v 1 2).toNatClampNeg then -5 else if n = 34 + 7 * (v 1 2).toNatClampNeg then 0 else if n = 33 + 7 * (v 1 2).toNatClampNeg then x1 else if n = 32 + 7 * (v 1 2).toNatClampNeg then x0 else v 1 n) ∧ (∀ k : Nat, k ≠ 1 → v k = v k)) := by
      refine ⟨fun hq => ?_, fun hq => ?_, fun hq => ?_⟩
      · exact ⟨rfl, rfl⟩
      · exfalso; omega
      · exfalso; omega
    exact W.iret (v := (-1)) hx hb hr (fun t ht hW => ⟨⟨(-1), v, rfl, ⟨hv, hpost⟩, by rw [ht]; exact hP, hD⟩, hS.F ht⟩) hS.2.2 dX8_open_22

set_option maxHeartbeats 4000000 in
set_option maxRecDepth 100000 in
theorem e_X8_party (l : Launch) (dC : Nat → ClassId) (dI : Nat → Nat → Nat) (cy : Nat → ClassId) (sz : Nat) (ad : Nat → Nat) (v : Nat → Nat → Int32) (hv : Ir v) (x0 x1 : Int32) : Met l yX8_party wsX8_party ({ frames := 1, cells := 0, slots := 0, locals := 64 }) (va_Pc [.ref (ad 0), .int x0, .int x1] (ex_Pre dC dI cy sz (wm ad cy v))) (va_Qi (fun (r : Int32) (u : Nat → Nat → Int32) => Ir u ∧ (¬ ((0 ≤ x0.toInt ∧ x0.toInt ≤ 9) ∧ 0 ≤ x1.toInt ∧ x1.toInt ≤ 2) → r = -1 ∧ u = v) ∧ (((0 ≤ x0.toInt ∧ x0.toInt ≤ 9) ∧ 0 ≤ x1.toInt ∧ x1.toInt ≤ 2) ∧ (v 1 0).toInt = 8 → r = -2 ∧ u = v) ∧ (((0 ≤ x0.toInt ∧ x0.toInt ≤ 9) ∧ 0 ≤ x1.toInt ∧ x1.toInt ≤ 2) ∧ (v 1 0).toInt ≠ 8 → r = v 1 0 ∧ (∀ n : Nat, u 1 n = if n = 0 then v 1 0 + 1 else if 28 ≤ n ∧ (n : Int) < 28 + 4 then (if n = 5 + 2 * (v 1 0).toNatClampNeg then x1 else if n = 4 + 2 * (v 1 0).toNatClampNeg then x0 else v 1 n) &&& ((1 <<< (v 1 0 &&& 31)) ^^^ -1) else if n = 5 + 2 * (v 1 0).toNatClampNeg then x1 else if n = 4 + 2 * (v 1 0).toNatClampNeg then x0 else v 1 n) ∧ (∀ k : Nat, k ≠ 1 → u k = v k))) (fun u t => ex_Pst dC dI (va_A (wm ad cy v) sz) (wm ad cy u) t) (va_A (wm ad cy v) sz)) 0 0 (va_A (wm ad cy v) sz) := by
  refine Met.ofW (cc := cX8_party) (maxL := 5) (ret := (some .int)) (by decide) rfl ?_
  intro p e s m args below meth c s₁ B hml hv
  obtain ⟨rfl, hsz, hE, hP, hK, hD0⟩ := hv
  have hx := B.exec
  have hb := B.bytes
  have hr := B.returns
  have hts := atoms_spec (ws := wsX8_party) B.pre
  have hown : s.vm.findClass RX8 = some m.cls := findClass_of_methodNamed B.named
  have hlocks := B.notSynchronized
  subst hsz
  have hD := hD0.self (sz := s.heap.size)
  generalize hAe : va_A (wm ad cy v) s.heap.size = A at hD ⊢
  have hA : ∀ q : Nat, s.heap.size ≤ q → A q := fun q h => by rw [← hAe]; exact Or.inr h
  have hS : va_S A s.heap s.heap [] := va_S.rf
  have hP : va_P (dC, dI) vwCl (wm ad cy v) s.heap := hP
  have hl := lv_entry ([.ref (ad 0), .int x0, .int x1]) (n := 5) (Nat.le_of_ble_eq_true rfl)
  rw [lg_entry_eq]
  generalize (lg_sl ([.ref (ad 0), .int x0, .int x1]) ++ List.replicate (5 - (lg_sl ([.ref (ad 0), .int x0, .int x1])).length) Slot.unset).toArray = ls at hl ⊢
  have hl : lv_has ls 5 [(0, .ref (ad 0)), (1, .int x0), (2, .int x1)] := hl
  refine lv_iload_n hx hb dX8_party_0 rfl (lv_at hl 1 rfl) ?_
  refine lv_iconst (v := 0) hx hb dX8_party_1 (by decide) ?_
  refine lv_bipush (v := 9) hx hb dX8_party_2 (by decide) ?_
  refine yc_p hP hS (va_runS (As := [.int x0, .int 0, .int 9]) (rest := []) ⟨hx, hb, hml, hown, hts⟩ (c_X8_in l x0 0 9) (cwS 3 hts gX8_party_X8_in rfl rfl rfl hd_S_X8_in_3 ⟨Nat.le_of_ble_eq_true rfl, Nat.le_of_ble_eq_true rfl⟩) ex_preP rfl rfl hl.1 rfl (lv_room (Nat.le_of_ble_eq_true rfl)) dX8_party_4 ⟨Nat.le_of_ble_eq_true rfl, Nat.le_of_ble_eq_true rfl⟩) (fun r_1 H locs hw_1 hP hS => ?_)
  rcases wi_ca hw_1 with ⟨rfl, hc_2⟩ | ⟨rfl, hc_2⟩
  · have k_0 : (0 : Int32).toInt = 0 := by decide
    have k_9 : (9 : Int32).toInt = 9 := by decide
    have tc_2 := wi_tl hc_2
    refine lv_if_eq (tgt := 19) hx hb dX8_party_7 (by decide) (fun c9 => absurd c9 (by decide)) (fun _ => ?_)
    refine lv_iload_n hx hb dX8_party_10 rfl (lv_at hl 2 rfl) ?_
    refine lv_iconst (v := 0) hx hb dX8_party_11 (by decide) ?_
    refine lv_iconst (v := 2) hx hb dX8_party_12 (by decide) ?_
    refine yc_p hP hS (va_runS (As := [.int x1, .int 0, .int 2]) (rest := []) ⟨hx, hb, hml, hown, hts⟩ (c_X8_in l x1 0 2) (cwS 3 hts gX8_party_X8_in rfl rfl rfl hd_S_X8_in_3 ⟨Nat.le_of_ble_eq_true rfl, Nat.le_of_ble_eq_true rfl⟩) ex_preP rfl rfl hl.1 rfl (lv_room (Nat.le_of_ble_eq_true rfl)) dX8_party_13 ⟨Nat.le_of_ble_eq_true rfl, Nat.le_of_ble_eq_true rfl⟩) (fun r_3 H locs hw_3 hP hS => ?_)
    rcases wi_ca hw_3 with ⟨rfl, hc_4⟩ | ⟨rfl, hc_4⟩
    · have k_2 : (2 : Int32).toInt = 2 := by decide
      have tc_4 := wi_tl hc_4
      refine lv_if_ne (tgt := 21) hx hb dX8_party_16 (by decide) (fun _ => ?_) (fun c9 => absurd c9 (by decide))
      refine lv_aload_n hx hb dX8_party_21 rfl (lv_at hl 0 rfl) ?_
      refine va_get (D := (dC, dI)) (ci := 8) (v := .ref (ad 1)) (C := RX8) (T := TX8) (N := 11) hx hb hts iwX8_party_X8 hown hK hP (0) (wm_at (by decide) rc_0) rfl 0 (by decide) (hts (.fieldLink RX8 7 "QuietStairsModel" "s" "[I") fwX8_party_1) (fun _ h9 => h9) rfl dX8_party_22 ?_
      refine lv_iconst (v := 0) hx hb dX8_party_25 (by decide) ?_
      refine va_iald hx hb hK hP (1) 0 (wm_at (by decide) rc_1) rfl (by unfold vp_in; decide) dX8_party_26 ?_
      refine lv_topi (fun x_5 ex_5 => ?_)
      have ex_5 : x_5 = v 1 0 := ex_5
      have bzx_5 : 0 ≤ x_5.toInt ∧ x_5.toInt ≤ 8 := by rw [ex_5]; exact hv 1 _ 8 (show bS 0 = some 8 from by decide)
      have qx_5 : x_5.toInt = (v 1 (0)).toInt := congrArg Int32.toInt ex_5
      refine lv_bipush (v := 8) hx hb dX8_party_27 (by decide) ?_
      have k_8 : (8 : Int32).toInt = 8 := by decide
      refine lv_icmp_ne (tgt := 35) hx hb dX8_party_29 (by decide) (fun c_6 => ?_) (fun c_6 => ?_)
      · have tc_6 : x_5.toInt ≠ (8 : Int32).toInt := fun q => absurd (Int32.toInt_inj.mp q) c_6
        refine lv_aload_n hx hb dX8_party_35 rfl (lv_at hl 0 rfl) ?_
        refine va_get (D := (dC, dI)) (ci := 8) (v := .ref (ad 1)) (C := RX8) (T := TX8) (N := 11) hx hb hts iwX8_party_X8 hown hK hP (0) (wm_at (by decide) rc_0) rfl 0 (by decide) (hts (.fieldLink RX8 7 "QuietStairsModel" "s" "[I") fwX8_party_1) (fun _ h9 => h9) rfl dX8_party_36 ?_
        refine lv_iconst (v := 0) hx hb dX8_party_39 (by decide) ?_
        refine va_iald hx hb hK hP (1) 0 (wm_at (by decide) rc_1) rfl (by unfold vp_in; decide) dX8_party_40 ?_
        refine lv_topi (fun x_7 ex_7 => ?_)
        have ex_7 : x_7 = v 1 0 := ex_7
        have bzx_7 : 0 ≤ x_7.toInt ∧ x_7.toInt ≤ 8 := by rw [ex_7]; exact hv 1 _ 8 (show bS 0 = some 8 from by decide)
        obtain rfl : x_5 = x_7 := (ex_7.trans ex_5.symm).symm
        refine lv_istore_n (lv' := [(3, .int x_5), (0, .ref (ad 0)), (1, .int x0), (2, .int x1)]) hx hb dX8_party_41 rfl hl (by decide) rfl (fun ls hl => ?_)
        refine lv_aload_n hx hb dX8_party_42 rfl (lv_at hl 1 rfl) ?_
        refine va_get (D := (dC, dI)) (ci := 8) (v := .ref (ad 1)) (C := RX8) (T := TX8) (N := 11) hx hb hts iwX8_party_X8 hown hK hP (0) (wm_at (by decide) rc_0) rfl 0 (by decide) (hts (.fieldLink RX8 7 "QuietStairsModel" "s" "[I") fwX8_party_1) (fun _ h9 => h9) rfl dX8_party_43 ?_
        refine lv_iconst (v := 4) hx hb dX8_party_46 (by decide) ?_
        refine lv_iconst (v := 2) hx hb dX8_party_47 (by decide) ?_
        refine lv_iload_n hx hb dX8_party_48 rfl (lv_at hl 0 rfl) ?_
        refine lv_imul hx hb dX8_party_49 ?_
        refine lv_topi (fun x_8 ex_8 => ?_)
        have tx_8 : x_8.toInt = 2 * x_5.toInt := by rw [ex_8, t_mul (by rw [k_2]; omega), k_2]
        refine lv_iadd hx hb dX8_party_50 ?_
        refine lv_topi (fun x_9 ex_9 => ?_)
        have k_4 : (4 : Int32).toInt = 4 := by decide
        have tx_9 : x_9.toInt = (4 : Int32).toInt + x_8.toInt := by rw [ex_9]; exact t_add ⟨by omega, by omega⟩
        refine lv_iload_n hx hb dX8_party_51 rfl (lv_at hl 2 rfl) ?_
        refine va_iast hx hb hK hP hD hS (1) 0 (wm_at (by decide) rc_1) rfl (vp_in_iff.mpr ⟨by omega, by omega⟩) dX8_party_52 (fun H locs hP hD hS => ?_)
        have zn_x_5 : (x_5.toNatClampNeg : Int) = x_5.toInt := t_nn (by omega)
        have nx_9 : x_9.toNatClampNeg = 4 + 2 * x_5.toNatClampNeg := by have z1 := t_nn (x := x_9) (by omega); omega
        obtain ⟨v_10, ev_10⟩ : ∃ u : Nat → Nat → Int32, u = upr v 1 (upd (v 1) (x_9.toNatClampNeg) x0) := ⟨_, rfl⟩
        have hP : va_P (dC, dI) vwCl (wm ad cy v_10) H := by rw [ev_10, ← wm_put (e := _) rc_1]; exact hP
        have hD : va_D A (wm ad cy v_10) := by rw [ev_10, ← wm_put (e := _) rc_1]; exact hD
        have hv : Ir v_10 := by rw [ev_10]; exact hv.put (k := 1) (fun h q => by rw [show br 1 _ = _ from (bx_n (by omega))] at q; cases q)
        rw [nx_9] at ev_10
        refine lv_aload_n hx hb dX8_party_53 rfl (lv_at hl 1 rfl) ?_
        refine va_get (D := (dC, dI)) (ci := 8) (v := .ref (ad 1)) (C := RX8) (T := TX8) (N := 11) hx hb hts iwX8_party_X8 hown hK hP (0) (wm_at (by decide) rc_0) rfl 0 (by decide) (hts (.fieldLink RX8 7 "QuietStairsModel" "s" "[I") fwX8_party_1) (fun _ h9 => h9) rfl dX8_party_54 ?_
        refine lv_iconst (v := 4) hx hb dX8_party_57 (by decide) ?_
        refine lv_iconst (v := 2) hx hb dX8_party_58 (by decide) ?_
        refine lv_iload_n hx hb dX8_party_59 rfl (lv_at hl 0 rfl) ?_
        refine lv_imul hx hb dX8_party_60 ?_
        refine lv_topi (fun x_11 ex_11 => ?_)
        obtain rfl : x_8 = x_11 := ex_8.trans ex_11.symm
        refine lv_iadd hx hb dX8_party_61 ?_
        refine lv_topi (fun x_12 ex_12 => ?_)
        obtain rfl : x_9 = x_12 := ex_9.trans ex_12.symm
        refine lv_iconst (v := 1) hx hb dX8_party_62 (by decide) ?_
        refine lv_iadd hx hb dX8_party_63 ?_
        refine lv_topi (fun x_13 ex_13 => ?_)
        have k_1 : (1 : Int32).toInt = 1 := by decide
        have tx_13 : x_13.toInt = x_9.toInt + (1 : Int32).toInt := by rw [ex_13]; exact t_add ⟨by omega, by omega⟩
        refine lv_iload_n hx hb dX8_party_64 rfl (lv_at hl 3 rfl) ?_
        refine va_iast hx hb hK hP hD hS (1) 0 (wm_at (by decide) rc_1) rfl (vp_in_iff.mpr ⟨by omega, by omega⟩) dX8_party_65 (fun H locs hP hD hS => ?_)
        have nx_13 : x_13.toNatClampNeg = 5 + 2 * x_5.toNatClampNeg := by have z1 := t_nn (x := x_13) (by omega); omega
        obtain ⟨v_14, ev_14⟩ : ∃ u : Nat → Nat → Int32, u = upr v_10 1 (upd (v_10 1) (x_13.toNatClampNeg) x1) := ⟨_, rfl⟩
        have hP : va_P (dC, dI) vwCl (wm ad cy v_14) H := by rw [ev_14, ← wm_put (e := _) rc_1]; exact hP
        have hD : va_D A (wm ad cy v_14) := by rw [ev_14, ← wm_put (e := _) rc_1]; exact hD
        have hv : Ir v_14 := by rw [ev_14]; exact hv.put (k := 1) (fun h q => by rw [show br 1 _ = _ from (bx_n (by omega))] at q; cases q)
        rw [nx_13] at ev_14
        refine lv_iconst (v := 0) hx hb dX8_party_66 (by decide) ?_
        refine lv_istore (lv' := [(4, .int 0), (3, .int x_5), (0, .ref (ad 0)), (1, .int x0), (2, .int x1)]) hx hb dX8_party_67 hl (by decide) rfl (fun ls hl => ?_)
        have hc_15 : ∀ (n : Nat) (y15_4 : Int32) (u15 : Nat → Nat → Int32) (H : Heap) (locs : List Loc), 0 ≤ y15_4.toInt → y15_4.toInt ≤ 4 → (∀ n : Nat, u15 1 n = if 28 ≤ n ∧ (n : Int) < 28 + y15_4.toInt then v_14 1 n &&& ((1 <<< (x_5 &&& 31)) ^^^ -1) else v_14 1 n) → (∀ k : Nat, k ≠ 1 → u15 k = v_14 k) → (u15 1 0 = v_14 1 0) → (4 - y15_4.toInt).toNat < n → Ir u15 → va_P (dC, dI) vwCl (wm ad cy u15) H → va_D A (wm ad cy u15) → va_S A s.heap H locs → ∀ ls : Array Slot, lv_has ls 5 [(4, .int y15_4), (3, .int x_5), (0, .ref (ad 0)), (1, .int x0), (2, .int x1)] → W p l e (headSpec wsX8_party ({ frames := 1, cells := 0, slots := 0, locals := 64 })).room s m [Value.ref (ad 0), Value.int x0, Value.int x1].toArray below meth c H locs 0 0 (MQ below (va_Qi (fun (r : Int32) (u : Nat → Nat → Int32) => Ir u ∧ (¬ ((0 ≤ x0.toInt ∧ x0.toInt ≤ 9) ∧ 0 ≤ x1.toInt ∧ x1.toInt ≤ 2) → r = -1 ∧ u = v) ∧ (((0 ≤ x0.toInt ∧ x0.toInt ≤ 9) ∧ 0 ≤ x1.toInt ∧ x1.toInt ≤ 2) ∧ (v 1 0).toInt = 8 → r = -2 ∧ u = v) ∧ (((0 ≤ x0.toInt ∧ x0.toInt ≤ 9) ∧ 0 ≤ x1.toInt ∧ x1.toInt ≤ 2) ∧ (v 1 0).toInt ≠ 8 → r = v 1 0 ∧ (∀ n : Nat, u 1 n = if n = 0 then v 1 0 + 1 else if 28 ≤ n ∧ (n : Int) < 28 + 4 then (if n = 5 + 2 * (v 1 0).toNatClampNeg then x1 else if n = 4 + 2 * (v 1 0).toNatClampNeg then x0 else v 1 n) &&& ((1 <<< (v 1 0 &&& 31)) ^^^ -1) else if n = 5 + 2 * (v 1 0).toNatClampNeg then x1 else if n = 4 + 2 * (v 1 0).toNatClampNeg then x0 else v 1 n) ∧ (∀ k : Nat, k ≠ 1 → u k = v k))) (fun u t => ex_Pst dC dI A (wm ad cy u) t) A) [Value.ref (ad 0), Value.int x0, Value.int x1].toArray s 0 0 A) (F0 m 69 ls []) := by
          intro n
          induction n with
          | zero =>
            intro y15_4 u15 H locs ay15_4 by15_4 hi15_0 hi15_1 hi15_2 hm_15 hv hP hD hS ls hl
            exact absurd hm_15 (by omega)
          | succ n ih_15 =>
            intro y15_4 u15 H locs ay15_4 by15_4 hi15_0 hi15_1 hi15_2 hm_15 hv hP hD hS ls hl
            refine lv_iload hx hb dX8_party_69 (lv_at hl 0 rfl) ?_
            refine lv_iconst (v := 4) hx hb dX8_party_71 (by decide) ?_
            refine lv_icmp_ge (tgt := 107) hx hb dX8_party_72 (by decide) (fun c_16 => ?_) (fun c_16 => ?_)
            · have tc_16 : y15_4.toInt ≥ (4 : Int32).toInt := Int32.le_iff_toInt_le.mp c_16
              have hy : y15_4.toInt = 4 := by omega
              refine lv_aload_n hx hb dX8_party_107 rfl (lv_at hl 2 rfl) ?_
              refine va_get (D := (dC, dI)) (ci := 8) (v := .ref (ad 1)) (C := RX8) (T := TX8) (N := 11) hx hb hts iwX8_party_X8 hown hK hP (0) (wm_at (by decide) rc_0) rfl 0 (by decide) (hts (.fieldLink RX8 7 "QuietStairsModel" "s" "[I") fwX8_party_1) (fun _ h9 => h9) rfl dX8_party_108 ?_
              refine lv_iconst (v := 0) hx hb dX8_party_111 (by decide) ?_
              refine lv_dup2_11 hx hb dX8_party_112 rfl rfl ?_
              refine va_iald hx hb hK hP (1) 0 (wm_at (by decide) rc_1) rfl (by unfold vp_in; decide) dX8_party_113 ?_
              refine lv_topi (fun x_17 ex_17 => ?_)
              have ex_17 : x_17 = u15 1 0 := ex_17
              have bzx_17 : 0 ≤ x_17.toInt ∧ x_17.toInt ≤ 8 := by rw [ex_17]; exact hv 1 _ 8 (show bS 0 = some 8 from by decide)
              rw [hi15_2, ev_14, upr_s, pk_un (by omega), ev_10, upr_s, pk_un (by omega)] at ex_17
              obtain rfl : x_5 = x_17 := (ex_17.trans ex_5.symm).symm
              refine lv_iconst (v := 1) hx hb dX8_party_114 (by decide) ?_
              refine lv_iadd hx hb dX8_party_115 ?_
              refine lv_topi (fun x_18 ex_18 => ?_)
              have tx_18 : x_18.toInt = x_5.toInt + (1 : Int32).toInt := by rw [ex_18]; exact t_add ⟨by omega, by omega⟩
              refine va_iast hx hb hK hP hD hS (1) 0 (wm_at (by decide) rc_1) rfl (by unfold vp_in; decide) dX8_party_116 (fun H locs hP hD hS => ?_)
              obtain ⟨v_19, ev_19⟩ : ∃ u : Nat → Nat → Int32, u = upr u15 1 (upd (u15 1) 0 x_18) := ⟨_, rfl⟩
              have hP : va_P (dC, dI) vwCl (wm ad cy v_19) H := by rw [ev_19, ← wm_put (e := _) rc_1]; exact hP
              have hD : va_D A (wm ad cy v_19) := by rw [ev_19, ← wm_put (e := _) rc_1]; exact hD
              have hv : Ir v_19 := by rw [ev_19]; exact hv.put (k := 1) (fun h q => by rw [show br 1 _ = _ from (show bS 0 = some 8 from by decide)] at q; cases q; exact ⟨by omega, by omega⟩)
              refine lv_iload_n hx hb dX8_party_117 rfl (lv_at hl 1 rfl) ?_
              have hpost : (¬ ((0 ≤ x0.toInt ∧ x0.toInt ≤ 9) ∧ 0 ≤ x1.toInt ∧ x1.toInt ≤ 2) → x_5 = -1 ∧ v_19 = v) ∧ (((0 ≤ x0.toInt ∧ x0.toInt ≤ 9) ∧ 0 ≤ x1.toInt ∧ x1.toInt ≤ 2) ∧ (v 1 0).toInt = 8 → x_5 = -2 ∧ v_19 = v) ∧ (((0 ≤ x0.toInt ∧ x0.toInt ≤ 9) ∧ 0 ≤ x1.toInt ∧ x1.toInt ≤ 2) ∧ (v 1 0).toInt ≠ 8 → x_5 = v 1 0 ∧ (∀ n : Nat, v_19 1 n = if n = 0 then v 1 0 + 1 else if 28 ≤ n ∧ (n : Int) < 28 + 4 then (if n = 5 + 2 * (v 1 0).toNatClampNeg then x1 else if n = 4 + 2 * (v 1 0).toNatClampNeg then x0 else v 1 n) &&& ((1 <<< (v 1 0 &&& 31)) ^^^ -1) else if n = 5 + 2 * (v 1 0).toNatClampNeg then x1 else if n = 4 + 2 * (v 1 0).toNatClampNeg then x0 else v 1 n) ∧ (∀ k : Nat, k ≠ 1 → v_19 k = v k)) := by
                refine ⟨fun hq => ?_, fun hq => ?_, fun hq => ?_⟩
                · exfalso; omega
                · exfalso; omega
                · exact ⟨by rw [ex_5], fun n => by rw [ev_19, up1, hi15_0 n, hy, ev_14, up1, ev_10, up1, ex_18, ex_5], fun k hk => by rw [ev_19, upr_n hk, hi15_1 k hk, ev_14, upr_n hk, ev_10, upr_n hk]⟩
              exact W.iret (v := x_5) hx hb hr (fun t ht hW => ⟨⟨x_5, v_19, rfl, ⟨hv, hpost⟩, by rw [ht]; exact hP, hD⟩, hS.F ht⟩) hS.2.2 dX8_party_118
            · have tc_16 : y15_4.toInt < (4 : Int32).toInt := Int32.lt_iff_toInt_lt.mp (Int32.not_le.mp c_16)
              refine lv_aload_n hx hb dX8_party_75 rfl (lv_at hl 2 rfl) ?_
              refine va_get (D := (dC, dI)) (ci := 8) (v := .ref (ad 1)) (C := RX8) (T := TX8) (N := 11) hx hb hts iwX8_party_X8 hown hK hP (0) (wm_at (by decide) rc_0) rfl 0 (by decide) (hts (.fieldLink RX8 7 "QuietStairsModel" "s" "[I") fwX8_party_1) (fun _ h9 => h9) rfl dX8_party_76 ?_
              refine lv_bipush (v := 28) hx hb dX8_party_79 (by decide) ?_
              refine lv_iload hx hb dX8_party_81 (lv_at hl 0 rfl) ?_
              refine lv_iadd hx hb dX8_party_83 ?_
              refine lv_topi (fun x_17 ex_17 => ?_)
              have k_28 : (28 : Int32).toInt = 28 := by decide
              have tx_17 : x_17.toInt = (28 : Int32).toInt + y15_4.toInt := by rw [ex_17]; exact t_add ⟨by omega, by omega⟩
              refine lv_aload_n hx hb dX8_party_84 rfl (lv_at hl 2 rfl) ?_
              refine va_get (D := (dC, dI)) (ci := 8) (v := .ref (ad 1)) (C := RX8) (T := TX8) (N := 11) hx hb hts iwX8_party_X8 hown hK hP (0) (wm_at (by decide) rc_0) rfl 0 (by decide) (hts (.fieldLink RX8 7 "QuietStairsModel" "s" "[I") fwX8_party_1) (fun _ h9 => h9) rfl dX8_party_85 ?_
              refine lv_bipush (v := 28) hx hb dX8_party_88 (by decide) ?_
              refine lv_iload hx hb dX8_party_90 (lv_at hl 0 rfl) ?_
              refine lv_iadd hx hb dX8_party_92 ?_
              refine lv_topi (fun x_18 ex_18 => ?_)
              obtain rfl : x_17 = x_18 := ex_17.trans ex_18.symm
              have zn_y15_4 : (y15_4.toNatClampNeg : Int) = y15_4.toInt := t_nn (by omega)
              have nx_17 : x_17.toNatClampNeg = 28 + y15_4.toNatClampNeg := by have z1 := t_nn (x := x_17) (by omega); omega
              refine va_iald hx hb hK hP (1) 0 (wm_at (by decide) rc_1) rfl (vp_in_iff.mpr ⟨by omega, by omega⟩) dX8_party_93 ?_
              refine lv_topi (fun x_19 ex_19 => ?_)
              rw [nx_17] at ex_19
              have qx_19 : x_19.toInt = (u15 1 (28 + y15_4.toNatClampNeg)).toInt := congrArg Int32.toInt ex_19
              refine lv_iconst (v := 1) hx hb dX8_party_94 (by decide) ?_
              refine lv_iload_n hx hb dX8_party_95 rfl (lv_at hl 1 rfl) ?_
              refine lv_ishl hx hb dX8_party_96 ?_
              refine lv_topi (fun x_20 ex_20 => ?_)
              refine lv_iconst (v := (-1)) hx hb dX8_party_97 (by decide) ?_
              refine lv_ixor hx hb dX8_party_98 ?_
              refine lv_topi (fun x_21 ex_21 => ?_)
              refine lv_iand hx hb dX8_party_99 ?_
              refine lv_topi (fun x_22 ex_22 => ?_)
              refine va_iast hx hb hK hP hD hS (1) 0 (wm_at (by decide) rc_1) rfl (vp_in_iff.mpr ⟨by omega, by omega⟩) dX8_party_100 (fun H locs hP hD hS => ?_)
              obtain ⟨v_23, ev_23⟩ : ∃ u : Nat → Nat → Int32, u = upr u15 1 (upd (u15 1) (x_17.toNatClampNeg) x_22) := ⟨_, rfl⟩
              have hP : va_P (dC, dI) vwCl (wm ad cy v_23) H := by rw [ev_23, ← wm_put (e := _) rc_1]; exact hP
              have hD : va_D A (wm ad cy v_23) := by rw [ev_23, ← wm_put (e := _) rc_1]; exact hD
              have hv : Ir v_23 := by rw [ev_23]; exact hv.put (k := 1) (fun h q => by rw [show br 1 _ = _ from (bx_n (by omega))] at q; cases q)
              rw [nx_17] at ev_23
              obtain ⟨x_24, ex_24⟩ : ∃ y : Int32, y = y15_4 + 1 := ⟨_, rfl⟩
              refine lv_iinc (v := x_24) (lv' := [(4, .int x_24), (3, .int x_5), (0, .ref (ad 0)), (1, .int x0), (2, .int x1)]) hx hb dX8_party_101 hl (k := 0) rfl (by rw [ex_24]; rfl) (by decide) rfl (fun ls hl => ?_)
              have tx_24 : x_24.toInt = y15_4.toInt + (1 : Int32).toInt := by rw [ex_24]; exact t_add ⟨by omega, by omega⟩
              refine lv_goto (tgt := 69) hx hb dX8_party_104 (by decide) ?_
              have hld : x_19 = v_14 1 (28 + y15_4.toNatClampNeg) := by rw [ex_19, hi15_0, if_neg (by omega)]
              exact ih_15 x_24 v_23 _ _ (by omega) (by omega) (fun n => by rw [ev_23, up1, hi15_0 n]; by_cases hn : n = 28 + y15_4.toNatClampNeg; rw [if_pos hn, if_pos (by omega), ex_22, ex_21, ex_20, hld, hn]; rw [if_neg hn]; (repeat' split); all_goals first | rfl | (exfalso; omega)) (fun k hk => by rw [ev_23, upr_n hk]; exact hi15_1 k hk) (by rw [ev_23, upr_s, pk_un (by omega)]; exact hi15_2) (by omega) hv hP hD hS ls (lv_sub hl [0, 1, 2, 3, 4] rfl)
        exact hc_15 ((4 - (0 : Int32).toInt).toNat + 1) 0 v_14 _ _ (by omega) (by omega) (fun n => by rw [if_neg (by omega)]) (fun _ _ => rfl) (rfl) (by omega) hv hP hD hS ls (lv_sub hl [0, 1, 2, 3, 4] rfl)
      · have tc_6 : x_5.toInt = (8 : Int32).toInt := by rw [c_6]
        refine lv_bipush (v := (-2)) hx hb dX8_party_32 (by decide) ?_
        have hpost : (¬ ((0 ≤ x0.toInt ∧ x0.toInt ≤ 9) ∧ 0 ≤ x1.toInt ∧ x1.toInt ≤ 2) → ((-2) : Int32) = -1 ∧ v = v) ∧ (((0 ≤ x0.toInt ∧ x0.toInt ≤ 9) ∧ 0 ≤ x1.toInt ∧ x1.toInt ≤ 2) ∧ (v 1 0).toInt = 8 → ((-2) : Int32) = -2 ∧ v = v) ∧ (((0 ≤ x0.toInt ∧ x0.toInt ≤ 9) ∧ 0 ≤ x1.toInt ∧ x1.toInt ≤ 2) ∧ (v 1 0).toInt ≠ 8 → ((-2) : Int32) = v 1 0 ∧ (∀ n : Nat, v 1 n = if n = 0 then v 1 0 + 1 else if 28 ≤ n ∧ (n : Int) < 28 + 4 then (if n = 5 + 2 * (v 1 0).toNatClampNeg then x1 else if n = 4 + 2 * (v 1 0).toNatClampNeg then x0 else v 1 n) &&& ((1 <<< (v 1 0 &&& 31)) ^^^ -1) else if n = 5 + 2 * (v 1 0).toNatClampNeg then x1 else if n = 4 + 2 * (v 1 0).toNatClampNeg then x0 else v 1 n) ∧ (∀ k : Nat, k ≠ 1 → v k = v k)) := by
          refine ⟨fun hq => ?_, fun hq => ?_, fun hq => ?_⟩
          · exfalso; omega
          · exact ⟨rfl, rfl⟩
          · exfalso; omega
        exact W.iret (v := (-2)) hx hb hr (fun t ht hW => ⟨⟨(-2), v, rfl, ⟨hv, hpost⟩, by rw [ht]; exact hP, hD⟩, hS.F ht⟩) hS.2.2 dX8_party_34
    · have k_2 : (2 : Int32).toInt = 2 := by decide
      have tc_4 : ¬ ((0 : Int32).toInt ≤ x1.toInt ∧ x1.toInt ≤ (2 : Int32).toInt) := fun q => hc_4 ⟨Int32.le_iff_toInt_le.mpr q.1, Int32.le_iff_toInt_le.mpr q.2⟩
      refine lv_if_ne (tgt := 21) hx hb dX8_party_16 (by decide) (fun c9 => absurd c9 (by decide)) (fun _ => ?_)
      refine lv_iconst (v := (-1)) hx hb dX8_party_19 (by decide) ?_
      have hpost : (¬ ((0 ≤ x0.toInt ∧ x0.toInt ≤ 9) ∧ 0 ≤ x1.toInt ∧ x1.toInt ≤ 2) → ((-1) : Int32) = -1 ∧ v = v) ∧ (((0 ≤ x0.toInt ∧ x0.toInt ≤ 9) ∧ 0 ≤ x1.toInt ∧ x1.toInt ≤ 2) ∧ (v 1 0).toInt = 8 → ((-1) : Int32) = -2 ∧ v = v) ∧ (((0 ≤ x0.toInt ∧ x0.toInt ≤ 9) ∧ 0 ≤ x1.toInt ∧ x1.toInt ≤ 2) ∧ (v 1 0).toInt ≠ 8 → ((-1) : Int32) = v 1 0 ∧ (∀ n : Nat, v 1 n = if n = 0 then v 1 0 + 1 else if 28 ≤ n ∧ (n : Int) < 28 + 4 then (if n = 5 + 2 * (v 1 0).toNatClampNeg then x1 else if n = 4 + 2 * (v 1 0).toNatClampNeg then x0 else v 1 n) &&& ((1 <<< (v 1 0 &&& 31)) ^^^ -1) else if n = 5 + 2 * (v 1 0).toNatClampNeg then x1 else if n = 4 + 2 * (v 1 0).toNatClampNeg then x0 else v 1 n) ∧ (∀ k : Nat, k ≠ 1 → v k = v k)) := by
        refine ⟨fun hq => ?_, fun hq => ?_, fun hq => ?_⟩
        · exact ⟨rfl, rfl⟩
        · exfalso; omega
        · exfalso; omega
      exact W.iret (v := (-1)) hx hb hr (fun t ht hW => ⟨⟨(-1), v, rfl, ⟨hv, hpost⟩, by rw [ht]; exact hP, hD⟩, hS.F ht⟩) hS.2.2 dX8_party_20
  · have k_0 : (0 : Int32).toInt = 0 := by decide
    have k_9 : (9 : Int32).toInt = 9 := by decide
    have tc_2 : ¬ ((0 : Int32).toInt ≤ x0.toInt ∧ x0.toInt ≤ (9 : Int32).toInt) := fun q => hc_2 ⟨Int32.le_iff_toInt_le.mpr q.1, Int32.le_iff_toInt_le.mpr q.2⟩
    refine lv_if_eq (tgt := 19) hx hb dX8_party_7 (by decide) (fun _ => ?_) (fun c9 => absurd c9 (by decide))
    refine lv_iconst (v := (-1)) hx hb dX8_party_19 (by decide) ?_
    have hpost : (¬ ((0 ≤ x0.toInt ∧ x0.toInt ≤ 9) ∧ 0 ≤ x1.toInt ∧ x1.toInt ≤ 2) → ((-1) : Int32) = -1 ∧ v = v) ∧ (((0 ≤ x0.toInt ∧ x0.toInt ≤ 9) ∧ 0 ≤ x1.toInt ∧ x1.toInt ≤ 2) ∧ (v 1 0).toInt = 8 → ((-1) : Int32) = -2 ∧ v = v) ∧ (((0 ≤ x0.toInt ∧ x0.toInt ≤ 9) ∧ 0 ≤ x1.toInt ∧ x1.toInt ≤ 2) ∧ (v 1 0).toInt ≠ 8 → ((-1) : Int32) = v 1 0 ∧ (∀ n : Nat, v 1 n = if n = 0 then v 1 0 + 1 else if 28 ≤ n ∧ (n : Int) < 28 + 4 then (if n = 5 + 2 * (v 1 0).toNatClampNeg then x1 else if n = 4 + 2 * (v 1 0).toNatClampNeg then x0 else v 1 n) &&& ((1 <<< (v 1 0 &&& 31)) ^^^ -1) else if n = 5 + 2 * (v 1 0).toNatClampNeg then x1 else if n = 4 + 2 * (v 1 0).toNatClampNeg then x0 else v 1 n) ∧ (∀ k : Nat, k ≠ 1 → v k = v k)) := by
      refine ⟨fun hq => ?_, fun hq => ?_, fun hq => ?_⟩
      · exact ⟨rfl, rfl⟩
      · exfalso; omega
      · exfalso; omega
    exact W.iret (v := (-1)) hx hb hr (fun t ht hW => ⟨⟨(-1), v, rfl, ⟨hv, hpost⟩, by rw [ht]; exact hP, hD⟩, hS.F ht⟩) hS.2.2 dX8_party_20

/-- mark k of the list joins a and b -/
def mk (s : Nat → Int32) (k : Nat) (a b : Int32) : Prop := ((s (146 + 2 * k)).toInt = a.toInt ∧ (s (147 + 2 * k)).toInt = b.toInt) ∨ ((s (146 + 2 * k)).toInt = b.toInt ∧ (s (147 + 2 * k)).toInt = a.toInt)

set_option maxHeartbeats 4000000 in
set_option maxRecDepth 100000 in
theorem e_X8_mark (l : Launch) (dC : Nat → ClassId) (dI : Nat → Nat → Nat) (cy : Nat → ClassId) (sz : Nat) (ad : Nat → Nat) (v : Nat → Nat → Int32) (hv : Ir v) (x0 x1 : Int32) : Met l yX8_mark wsX8_mark ({ frames := 2, cells := 0, slots := 0, locals := 128 }) (va_Pc [.ref (ad 0), .int x0, .int x1] (ex_Pre dC dI cy sz (wm ad cy v))) (va_Qi (fun (r : Int32) (u : Nat → Nat → Int32) => Ir u ∧ (¬ ((0 ≤ x0.toInt ∧ x0.toInt < (v 1 2).toInt) ∧ (0 ≤ x1.toInt ∧ x1.toInt < (v 1 2).toInt) ∧ x0.toInt ≠ x1.toInt) → r = -1 ∧ u = v) ∧ (((0 ≤ x0.toInt ∧ x0.toInt < (v 1 2).toInt) ∧ (0 ≤ x1.toInt ∧ x1.toInt < (v 1 2).toInt) ∧ x0.toInt ≠ x1.toInt) ∧ (∃ k : Nat, (k : Int) < (v 1 3).toInt ∧ mk (v 1) k x0 x1) → r = -3 ∧ u = v) ∧ (((0 ≤ x0.toInt ∧ x0.toInt < (v 1 2).toInt) ∧ (0 ≤ x1.toInt ∧ x1.toInt < (v 1 2).toInt) ∧ x0.toInt ≠ x1.toInt) ∧ ¬ (∃ k : Nat, (k : Int) < (v 1 3).toInt ∧ mk (v 1) k x0 x1) ∧ (v 1 3).toInt = 6 → r = -2 ∧ u = v) ∧ (((0 ≤ x0.toInt ∧ x0.toInt < (v 1 2).toInt) ∧ (0 ≤ x1.toInt ∧ x1.toInt < (v 1 2).toInt) ∧ x0.toInt ≠ x1.toInt) ∧ ¬ (∃ k : Nat, (k : Int) < (v 1 3).toInt ∧ mk (v 1) k x0 x1) ∧ (v 1 3).toInt ≠ 6 → r = v 1 3 + 1 ∧ (∀ n : Nat, u 1 n = if n = 3 then v 1 3 + 1 else if n = 147 + 2 * (v 1 3).toNatClampNeg then x1 else if n = 146 + 2 * (v 1 3).toNatClampNeg then x0 else v 1 n) ∧ (∀ k : Nat, k ≠ 1 → u k = v k))) (fun u t => ex_Pst dC dI (va_A (wm ad cy v) sz) (wm ad cy u) t) (va_A (wm ad cy v) sz)) 0 0 (va_A (wm ad cy v) sz) := by
  refine Met.ofW (cc := cX8_mark) (maxL := 6) (ret := (some .int)) (by decide) rfl ?_
  intro p e s m args below meth c s₁ B hml hv
  obtain ⟨rfl, hsz, hE, hP, hK, hD0⟩ := hv
  have hx := B.exec
  have hb := B.bytes
  have hr := B.returns
  have hts := atoms_spec (ws := wsX8_mark) B.pre
  have hown : s.vm.findClass RX8 = some m.cls := findClass_of_methodNamed B.named
  have hlocks := B.notSynchronized
  subst hsz
  have hD := hD0.self (sz := s.heap.size)
  generalize hAe : va_A (wm ad cy v) s.heap.size = A at hD ⊢
  have hA : ∀ q : Nat, s.heap.size ≤ q → A q := fun q h => by rw [← hAe]; exact Or.inr h
  have hS : va_S A s.heap s.heap [] := va_S.rf
  have hP : va_P (dC, dI) vwCl (wm ad cy v) s.heap := hP
  have hl := lv_entry ([.ref (ad 0), .int x0, .int x1]) (n := 6) (Nat.le_of_ble_eq_true rfl)
  rw [lg_entry_eq]
  generalize (lg_sl ([.ref (ad 0), .int x0, .int x1]) ++ List.replicate (6 - (lg_sl ([.ref (ad 0), .int x0, .int x1])).length) Slot.unset).toArray = ls at hl ⊢
  have hl : lv_has ls 6 [(0, .ref (ad 0)), (1, .int x0), (2, .int x1)] := hl
  refine lv_aload_n hx hb dX8_mark_0 rfl (lv_at hl 0 rfl) ?_
  refine lv_iload_n hx hb dX8_mark_1 rfl (lv_at hl 1 rfl) ?_
  refine yw_i (w1 := fun (u : Nat → Nat → Int32) => wm ad cy u) hD hS hA (va_runV (As := [.int x0]) (rest := []) ⟨hx, hb, hml, hown, hts⟩ (q_X8_isCase l dC dI cy _ ad v hv x0) (cwV 1 hts gX8_mark_X8_isCase rfl rfl rfl hd_V_X8_isCase_1 ⟨Nat.le_of_ble_eq_true rfl, Nat.le_of_ble_eq_true rfl⟩) (yw_preV hE hK hP hD (ci := 8) (q := (RX8, TX8, 11)) (q0 := 0) rfl (wm_at (by decide) rc_0)) rfl rfl hl.1 rfl (lv_room (Nat.le_of_ble_eq_true rfl)) dX8_mark_2 ⟨Nat.le_of_ble_eq_true rfl, Nat.le_of_ble_eq_true rfl⟩) (fun r_1 v_1 H locs hw_1 hP hD hS => ?_)
  obtain ⟨-, hu_1, hw_1⟩ := hw_1
  replace hu_1 := hu_1.symm
  subst hu_1
  rcases hw_1 with ⟨rfl, ha_2⟩ | ⟨rfl, ha_2⟩
  · have hb_2 := hv 1 2 6 (by decide)
    have hj_2 : 0 ≤ x0.toInt ∧ x0.toInt ≤ 5 := ⟨by omega, by omega⟩
    refine lv_if_eq (tgt := 21) hx hb dX8_mark_5 (by decide) (fun c9 => absurd c9 (by decide)) (fun _ => ?_)
    refine lv_aload_n hx hb dX8_mark_8 rfl (lv_at hl 0 rfl) ?_
    refine lv_iload_n hx hb dX8_mark_9 rfl (lv_at hl 2 rfl) ?_
    refine yw_i (w1 := fun (u : Nat → Nat → Int32) => wm ad cy u) hD hS hA (va_runV (As := [.int x1]) (rest := []) ⟨hx, hb, hml, hown, hts⟩ (q_X8_isCase l dC dI cy _ ad v hv x1) (cwV 1 hts gX8_mark_X8_isCase rfl rfl rfl hd_V_X8_isCase_1 ⟨Nat.le_of_ble_eq_true rfl, Nat.le_of_ble_eq_true rfl⟩) (yw_preV hE hK hP hD (ci := 8) (q := (RX8, TX8, 11)) (q0 := 0) rfl (wm_at (by decide) rc_0)) rfl rfl hl.1 rfl (lv_room (Nat.le_of_ble_eq_true rfl)) dX8_mark_10 ⟨Nat.le_of_ble_eq_true rfl, Nat.le_of_ble_eq_true rfl⟩) (fun r_3 v_3 H locs hw_3 hP hD hS => ?_)
    obtain ⟨-, hu_3, hw_3⟩ := hw_3
    replace hu_3 := hu_3.symm
    subst hu_3
    rcases hw_3 with ⟨rfl, ha_4⟩ | ⟨rfl, ha_4⟩
    · have hb_4 := hv 1 2 6 (by decide)
      have hj_4 : 0 ≤ x1.toInt ∧ x1.toInt ≤ 5 := ⟨by omega, by omega⟩
      refine lv_if_eq (tgt := 21) hx hb dX8_mark_13 (by decide) (fun c9 => absurd c9 (by decide)) (fun _ => ?_)
      refine lv_iload_n hx hb dX8_mark_16 rfl (lv_at hl 1 rfl) ?_
      refine lv_iload_n hx hb dX8_mark_17 rfl (lv_at hl 2 rfl) ?_
      refine lv_icmp_ne (tgt := 23) hx hb dX8_mark_18 (by decide) (fun c_5 => ?_) (fun c_5 => ?_)
      · have tc_5 : x0.toInt ≠ x1.toInt := fun q => absurd (Int32.toInt_inj.mp q) c_5
        refine lv_iconst (v := 0) hx hb dX8_mark_23 (by decide) ?_
        refine lv_istore_n (lv' := [(3, .int 0), (0, .ref (ad 0)), (1, .int x0), (2, .int x1)]) hx hb dX8_mark_24 rfl hl (by decide) rfl (fun ls hl => ?_)
        have hc_6 : ∀ (n : Nat) (y6_3 : Int32) (H : Heap) (locs : List Loc), 0 ≤ y6_3.toInt → y6_3.toInt ≤ 6 → (∀ k : Nat, (k : Int) < y6_3.toInt → ¬ mk (v 1) k x0 x1) → (6 - y6_3.toInt).toNat < n → va_P (dC, dI) vwCl (wm ad cy v) H → va_D A (wm ad cy v) → va_S A s.heap H locs → ∀ ls : Array Slot, lv_has ls 6 [(3, .int y6_3), (0, .ref (ad 0)), (1, .int x0), (2, .int x1)] → W p l e (headSpec wsX8_mark ({ frames := 2, cells := 0, slots := 0, locals := 128 })).room s m [Value.ref (ad 0), Value.int x0, Value.int x1].toArray below meth c H locs 0 0 (MQ below (va_Qi (fun (r : Int32) (u : Nat → Nat → Int32) => Ir u ∧ (¬ ((0 ≤ x0.toInt ∧ x0.toInt < (v 1 2).toInt) ∧ (0 ≤ x1.toInt ∧ x1.toInt < (v 1 2).toInt) ∧ x0.toInt ≠ x1.toInt) → r = -1 ∧ u = v) ∧ (((0 ≤ x0.toInt ∧ x0.toInt < (v 1 2).toInt) ∧ (0 ≤ x1.toInt ∧ x1.toInt < (v 1 2).toInt) ∧ x0.toInt ≠ x1.toInt) ∧ (∃ k : Nat, (k : Int) < (v 1 3).toInt ∧ mk (v 1) k x0 x1) → r = -3 ∧ u = v) ∧ (((0 ≤ x0.toInt ∧ x0.toInt < (v 1 2).toInt) ∧ (0 ≤ x1.toInt ∧ x1.toInt < (v 1 2).toInt) ∧ x0.toInt ≠ x1.toInt) ∧ ¬ (∃ k : Nat, (k : Int) < (v 1 3).toInt ∧ mk (v 1) k x0 x1) ∧ (v 1 3).toInt = 6 → r = -2 ∧ u = v) ∧ (((0 ≤ x0.toInt ∧ x0.toInt < (v 1 2).toInt) ∧ (0 ≤ x1.toInt ∧ x1.toInt < (v 1 2).toInt) ∧ x0.toInt ≠ x1.toInt) ∧ ¬ (∃ k : Nat, (k : Int) < (v 1 3).toInt ∧ mk (v 1) k x0 x1) ∧ (v 1 3).toInt ≠ 6 → r = v 1 3 + 1 ∧ (∀ n : Nat, u 1 n = if n = 3 then v 1 3 + 1 else if n = 147 + 2 * (v 1 3).toNatClampNeg then x1 else if n = 146 + 2 * (v 1 3).toNatClampNeg then x0 else v 1 n) ∧ (∀ k : Nat, k ≠ 1 → u k = v k))) (fun u t => ex_Pst dC dI A (wm ad cy u) t) A) [Value.ref (ad 0), Value.int x0, Value.int x1].toArray s 0 0 A) (F0 m 25 ls []) := by
          intro n
          induction n with
          | zero =>
            intro y6_3 H locs ay6_3 by6_3 hi6_0 hm_6 hP hD hS ls hl
            exact absurd hm_6 (by omega)
          | succ n ih_6 =>
            intro y6_3 H locs ay6_3 by6_3 hi6_0 hm_6 hP hD hS ls hl
            refine lv_iload_n hx hb dX8_mark_25 rfl (lv_at hl 0 rfl) ?_
            refine lv_aload_n hx hb dX8_mark_26 rfl (lv_at hl 1 rfl) ?_
            refine va_get (D := (dC, dI)) (ci := 8) (v := .ref (ad 1)) (C := RX8) (T := TX8) (N := 11) hx hb hts iwX8_mark_X8 hown hK hP (0) (wm_at (by decide) rc_0) rfl 0 (by decide) (hts (.fieldLink RX8 7 "QuietStairsModel" "s" "[I") fwX8_mark_1) (fun _ h9 => h9) rfl dX8_mark_27 ?_
            refine lv_iconst (v := 3) hx hb dX8_mark_30 (by decide) ?_
            have k_3 : (3 : Int32).toInt = 3 := by decide
            refine va_iald hx hb hK hP (1) 0 (wm_at (by decide) rc_1) rfl (by unfold vp_in; decide) dX8_mark_31 ?_
            refine lv_topi (fun x_7 ex_7 => ?_)
            have ex_7 : x_7 = v 1 3 := ex_7
            have bzx_7 : 0 ≤ x_7.toInt ∧ x_7.toInt ≤ 6 := by rw [ex_7]; exact hv 1 _ 6 (show bS 3 = some 6 from by decide)
            have qx_7 : x_7.toInt = (v 1 (3)).toInt := congrArg Int32.toInt ex_7
            refine lv_icmp_ge (tgt := 98) hx hb dX8_mark_32 (by decide) (fun c_8 => ?_) (fun c_8 => ?_)
            · have tc_8 : y6_3.toInt ≥ x_7.toInt := Int32.le_iff_toInt_le.mp c_8
              refine lv_aload_n hx hb dX8_mark_98 rfl (lv_at hl 1 rfl) ?_
              refine va_get (D := (dC, dI)) (ci := 8) (v := .ref (ad 1)) (C := RX8) (T := TX8) (N := 11) hx hb hts iwX8_mark_X8 hown hK hP (0) (wm_at (by decide) rc_0) rfl 0 (by decide) (hts (.fieldLink RX8 7 "QuietStairsModel" "s" "[I") fwX8_mark_1) (fun _ h9 => h9) rfl dX8_mark_99 ?_
              refine lv_iconst (v := 3) hx hb dX8_mark_102 (by decide) ?_
              refine va_iald hx hb hK hP (1) 0 (wm_at (by decide) rc_1) rfl (by unfold vp_in; decide) dX8_mark_103 ?_
              refine lv_topi (fun x_9 ex_9 => ?_)
              have ex_9 : x_9 = v 1 3 := ex_9
              have bzx_9 : 0 ≤ x_9.toInt ∧ x_9.toInt ≤ 6 := by rw [ex_9]; exact hv 1 _ 6 (show bS 3 = some 6 from by decide)
              obtain rfl : x_7 = x_9 := (ex_9.trans ex_7.symm).symm
              refine lv_bipush (v := 6) hx hb dX8_mark_104 (by decide) ?_
              have k_6 : (6 : Int32).toInt = 6 := by decide
              refine lv_icmp_ne (tgt := 112) hx hb dX8_mark_106 (by decide) (fun c_10 => ?_) (fun c_10 => ?_)
              · have tc_10 : x_7.toInt ≠ (6 : Int32).toInt := fun q => absurd (Int32.toInt_inj.mp q) c_10
                refine lv_aload_n hx hb dX8_mark_112 rfl (lv_at hl 1 rfl) ?_
                refine va_get (D := (dC, dI)) (ci := 8) (v := .ref (ad 1)) (C := RX8) (T := TX8) (N := 11) hx hb hts iwX8_mark_X8 hown hK hP (0) (wm_at (by decide) rc_0) rfl 0 (by decide) (hts (.fieldLink RX8 7 "QuietStairsModel" "s" "[I") fwX8_mark_1) (fun _ h9 => h9) rfl dX8_mark_113 ?_
                refine lv_sipush (v := 146) hx hb dX8_mark_116 (by decide) ?_
                refine lv_iconst (v := 2) hx hb dX8_mark_119 (by decide) ?_
                refine lv_aload_n hx hb dX8_mark_120 rfl (lv_at hl 1 rfl) ?_
                refine va_get (D := (dC, dI)) (ci := 8) (v := .ref (ad 1)) (C := RX8) (T := TX8) (N := 11) hx hb hts iwX8_mark_X8 hown hK hP (0) (wm_at (by decide) rc_0) rfl 0 (by decide) (hts (.fieldLink RX8 7 "QuietStairsModel" "s" "[I") fwX8_mark_1) (fun _ h9 => h9) rfl dX8_mark_121 ?_
                refine lv_iconst (v := 3) hx hb dX8_mark_124 (by decide) ?_
                refine va_iald hx hb hK hP (1) 0 (wm_at (by decide) rc_1) rfl (by unfold vp_in; decide) dX8_mark_125 ?_
                refine lv_topi (fun x_11 ex_11 => ?_)
                have ex_11 : x_11 = v 1 3 := ex_11
                have bzx_11 : 0 ≤ x_11.toInt ∧ x_11.toInt ≤ 6 := by rw [ex_11]; exact hv 1 _ 6 (show bS 3 = some 6 from by decide)
                obtain rfl : x_7 = x_11 := (ex_11.trans ex_7.symm).symm
                refine lv_imul hx hb dX8_mark_126 ?_
                refine lv_topi (fun x_12 ex_12 => ?_)
                have k_2 : (2 : Int32).toInt = 2 := by decide
                have tx_12 : x_12.toInt = 2 * x_7.toInt := by rw [ex_12, t_mul (by rw [k_2]; omega), k_2]
                refine lv_iadd hx hb dX8_mark_127 ?_
                refine lv_topi (fun x_13 ex_13 => ?_)
                have k_146 : (146 : Int32).toInt = 146 := by decide
                have tx_13 : x_13.toInt = (146 : Int32).toInt + x_12.toInt := by rw [ex_13]; exact t_add ⟨by omega, by omega⟩
                refine lv_iload_n hx hb dX8_mark_128 rfl (lv_at hl 2 rfl) ?_
                refine va_iast hx hb hK hP hD hS (1) 0 (wm_at (by decide) rc_1) rfl (vp_in_iff.mpr ⟨by omega, by omega⟩) dX8_mark_129 (fun H locs hP hD hS => ?_)
                have zn_x_7 : (x_7.toNatClampNeg : Int) = x_7.toInt := t_nn (by omega)
                have nx_13 : x_13.toNatClampNeg = 146 + 2 * x_7.toNatClampNeg := by have z1 := t_nn (x := x_13) (by omega); omega
                obtain ⟨v_14, ev_14⟩ : ∃ u : Nat → Nat → Int32, u = upr v 1 (upd (v 1) (x_13.toNatClampNeg) x0) := ⟨_, rfl⟩
                have hP : va_P (dC, dI) vwCl (wm ad cy v_14) H := by rw [ev_14, ← wm_put (e := _) rc_1]; exact hP
                have hD : va_D A (wm ad cy v_14) := by rw [ev_14, ← wm_put (e := _) rc_1]; exact hD
                have hv : Ir v_14 := by rw [ev_14]; exact hv.put (k := 1) (fun h q => by rw [show br 1 _ = _ from (bx_m ⟨by omega, by omega⟩)] at q; cases q; exact ⟨by omega, by omega⟩)
                rw [nx_13] at ev_14
                refine lv_aload_n hx hb dX8_mark_130 rfl (lv_at hl 1 rfl) ?_
                refine va_get (D := (dC, dI)) (ci := 8) (v := .ref (ad 1)) (C := RX8) (T := TX8) (N := 11) hx hb hts iwX8_mark_X8 hown hK hP (0) (wm_at (by decide) rc_0) rfl 0 (by decide) (hts (.fieldLink RX8 7 "QuietStairsModel" "s" "[I") fwX8_mark_1) (fun _ h9 => h9) rfl dX8_mark_131 ?_
                refine lv_sipush (v := 146) hx hb dX8_mark_134 (by decide) ?_
                refine lv_iconst (v := 2) hx hb dX8_mark_137 (by decide) ?_
                refine lv_aload_n hx hb dX8_mark_138 rfl (lv_at hl 1 rfl) ?_
                refine va_get (D := (dC, dI)) (ci := 8) (v := .ref (ad 1)) (C := RX8) (T := TX8) (N := 11) hx hb hts iwX8_mark_X8 hown hK hP (0) (wm_at (by decide) rc_0) rfl 0 (by decide) (hts (.fieldLink RX8 7 "QuietStairsModel" "s" "[I") fwX8_mark_1) (fun _ h9 => h9) rfl dX8_mark_139 ?_
                refine lv_iconst (v := 3) hx hb dX8_mark_142 (by decide) ?_
                refine va_iald hx hb hK hP (1) 0 (wm_at (by decide) rc_1) rfl (by unfold vp_in; decide) dX8_mark_143 ?_
                refine lv_topi (fun x_15 ex_15 => ?_)
                have ex_15 : x_15 = v_14 1 3 := ex_15
                have bzx_15 : 0 ≤ x_15.toInt ∧ x_15.toInt ≤ 6 := by rw [ex_15]; exact hv 1 _ 6 (show bS 3 = some 6 from by decide)
                rw [ev_14, upr_s, pk_un (by omega)] at ex_15
                obtain rfl : x_7 = x_15 := (ex_15.trans ex_7.symm).symm
                refine lv_imul hx hb dX8_mark_144 ?_
                refine lv_topi (fun x_16 ex_16 => ?_)
                obtain rfl : x_12 = x_16 := ex_12.trans ex_16.symm
                refine lv_iadd hx hb dX8_mark_145 ?_
                refine lv_topi (fun x_17 ex_17 => ?_)
                obtain rfl : x_13 = x_17 := ex_13.trans ex_17.symm
                refine lv_iconst (v := 1) hx hb dX8_mark_146 (by decide) ?_
                refine lv_iadd hx hb dX8_mark_147 ?_
                refine lv_topi (fun x_18 ex_18 => ?_)
                have k_1 : (1 : Int32).toInt = 1 := by decide
                have tx_18 : x_18.toInt = x_13.toInt + (1 : Int32).toInt := by rw [ex_18]; exact t_add ⟨by omega, by omega⟩
                refine lv_iload_n hx hb dX8_mark_148 rfl (lv_at hl 3 rfl) ?_
                refine va_iast hx hb hK hP hD hS (1) 0 (wm_at (by decide) rc_1) rfl (vp_in_iff.mpr ⟨by omega, by omega⟩) dX8_mark_149 (fun H locs hP hD hS => ?_)
                have nx_18 : x_18.toNatClampNeg = 147 + 2 * x_7.toNatClampNeg := by have z1 := t_nn (x := x_18) (by omega); omega
                obtain ⟨v_19, ev_19⟩ : ∃ u : Nat → Nat → Int32, u = upr v_14 1 (upd (v_14 1) (x_18.toNatClampNeg) x1) := ⟨_, rfl⟩
                have hP : va_P (dC, dI) vwCl (wm ad cy v_19) H := by rw [ev_19, ← wm_put (e := _) rc_1]; exact hP
                have hD : va_D A (wm ad cy v_19) := by rw [ev_19, ← wm_put (e := _) rc_1]; exact hD
                have hv : Ir v_19 := by rw [ev_19]; exact hv.put (k := 1) (fun h q => by rw [show br 1 _ = _ from (bx_m ⟨by omega, by omega⟩)] at q; cases q; exact ⟨by omega, by omega⟩)
                rw [nx_18] at ev_19
                refine lv_aload_n hx hb dX8_mark_150 rfl (lv_at hl 1 rfl) ?_
                refine va_get (D := (dC, dI)) (ci := 8) (v := .ref (ad 1)) (C := RX8) (T := TX8) (N := 11) hx hb hts iwX8_mark_X8 hown hK hP (0) (wm_at (by decide) rc_0) rfl 0 (by decide) (hts (.fieldLink RX8 7 "QuietStairsModel" "s" "[I") fwX8_mark_1) (fun _ h9 => h9) rfl dX8_mark_151 ?_
                refine lv_iconst (v := 3) hx hb dX8_mark_154 (by decide) ?_
                refine lv_dup2_11 hx hb dX8_mark_155 rfl rfl ?_
                refine va_iald hx hb hK hP (1) 0 (wm_at (by decide) rc_1) rfl (by unfold vp_in; decide) dX8_mark_156 ?_
                refine lv_topi (fun x_20 ex_20 => ?_)
                have ex_20 : x_20 = v_19 1 3 := ex_20
                have bzx_20 : 0 ≤ x_20.toInt ∧ x_20.toInt ≤ 6 := by rw [ex_20]; exact hv 1 _ 6 (show bS 3 = some 6 from by decide)
                rw [ev_19, upr_s, pk_un (by omega), ev_14, upr_s, pk_un (by omega)] at ex_20
                obtain rfl : x_7 = x_20 := (ex_20.trans ex_7.symm).symm
                refine lv_iconst (v := 1) hx hb dX8_mark_157 (by decide) ?_
                refine lv_iadd hx hb dX8_mark_158 ?_
                refine lv_topi (fun x_21 ex_21 => ?_)
                have tx_21 : x_21.toInt = x_7.toInt + (1 : Int32).toInt := by rw [ex_21]; exact t_add ⟨by omega, by omega⟩
                refine va_iast hx hb hK hP hD hS (1) 0 (wm_at (by decide) rc_1) rfl (by unfold vp_in; decide) dX8_mark_159 (fun H locs hP hD hS => ?_)
                obtain ⟨v_22, ev_22⟩ : ∃ u : Nat → Nat → Int32, u = upr v_19 1 (upd (v_19 1) 3 x_21) := ⟨_, rfl⟩
                have hP : va_P (dC, dI) vwCl (wm ad cy v_22) H := by rw [ev_22, ← wm_put (e := _) rc_1]; exact hP
                have hD : va_D A (wm ad cy v_22) := by rw [ev_22, ← wm_put (e := _) rc_1]; exact hD
                have hv : Ir v_22 := by rw [ev_22]; exact hv.put (k := 1) (fun h q => by rw [show br 1 _ = _ from (show bS 3 = some 6 from by decide)] at q; cases q; exact ⟨by omega, by omega⟩)
                refine lv_aload_n hx hb dX8_mark_160 rfl (lv_at hl 1 rfl) ?_
                refine va_get (D := (dC, dI)) (ci := 8) (v := .ref (ad 1)) (C := RX8) (T := TX8) (N := 11) hx hb hts iwX8_mark_X8 hown hK hP (0) (wm_at (by decide) rc_0) rfl 0 (by decide) (hts (.fieldLink RX8 7 "QuietStairsModel" "s" "[I") fwX8_mark_1) (fun _ h9 => h9) rfl dX8_mark_161 ?_
                refine lv_iconst (v := 3) hx hb dX8_mark_164 (by decide) ?_
                refine va_iald hx hb hK hP (1) 0 (wm_at (by decide) rc_1) rfl (by unfold vp_in; decide) dX8_mark_165 ?_
                refine lv_topi (fun x_23 ex_23 => ?_)
                have ex_23 : x_23 = v_22 1 3 := ex_23
                have bzx_23 : 0 ≤ x_23.toInt ∧ x_23.toInt ≤ 6 := by rw [ex_23]; exact hv 1 _ 6 (show bS 3 = some 6 from by decide)
                rw [ev_22, upr_s, pk_us] at ex_23
                obtain rfl : x_21 = x_23 := ex_23.symm
                have hNT : ¬ (∃ k : Nat, (k : Int) < (v 1 3).toInt ∧ mk (v 1) k x0 x1) := fun ⟨k, h1, h2⟩ => hi6_0 k (by omega) h2
                have hpost : (¬ ((0 ≤ x0.toInt ∧ x0.toInt < (v 1 2).toInt) ∧ (0 ≤ x1.toInt ∧ x1.toInt < (v 1 2).toInt) ∧ x0.toInt ≠ x1.toInt) → x_21 = -1 ∧ v_22 = v) ∧ (((0 ≤ x0.toInt ∧ x0.toInt < (v 1 2).toInt) ∧ (0 ≤ x1.toInt ∧ x1.toInt < (v 1 2).toInt) ∧ x0.toInt ≠ x1.toInt) ∧ (∃ k : Nat, (k : Int) < (v 1 3).toInt ∧ mk (v 1) k x0 x1) → x_21 = -3 ∧ v_22 = v) ∧ (((0 ≤ x0.toInt ∧ x0.toInt < (v 1 2).toInt) ∧ (0 ≤ x1.toInt ∧ x1.toInt < (v 1 2).toInt) ∧ x0.toInt ≠ x1.toInt) ∧ ¬ (∃ k : Nat, (k : Int) < (v 1 3).toInt ∧ mk (v 1) k x0 x1) ∧ (v 1 3).toInt = 6 → x_21 = -2 ∧ v_22 = v) ∧ (((0 ≤ x0.toInt ∧ x0.toInt < (v 1 2).toInt) ∧ (0 ≤ x1.toInt ∧ x1.toInt < (v 1 2).toInt) ∧ x0.toInt ≠ x1.toInt) ∧ ¬ (∃ k : Nat, (k : Int) < (v 1 3).toInt ∧ mk (v 1) k x0 x1) ∧ (v 1 3).toInt ≠ 6 → x_21 = v 1 3 + 1 ∧ (∀ n : Nat, v_22 1 n = if n = 3 then v 1 3 + 1 else if n = 147 + 2 * (v 1 3).toNatClampNeg then x1 else if n = 146 + 2 * (v 1 3).toNatClampNeg then x0 else v 1 n) ∧ (∀ k : Nat, k ≠ 1 → v_22 k = v k)) := by
                  refine ⟨fun hq => ?_, fun hq => ?_, fun hq => ?_, fun hq => ?_⟩
                  · exfalso; omega
                  · exact absurd hq.2 hNT
                  · exfalso; omega
                  · exact ⟨by rw [ex_21, ex_7], fun n => by rw [ev_22, up1, ev_19, up1, ev_14, up1, ex_21, ex_7], fun k hk => by rw [ev_22, upr_n hk, ev_19, upr_n hk, ev_14, upr_n hk]⟩
                exact W.iret (v := x_21) hx hb hr (fun t ht hW => ⟨⟨x_21, v_22, rfl, ⟨hv, hpost⟩, by rw [ht]; exact hP, hD⟩, hS.F ht⟩) hS.2.2 dX8_mark_166
              · have tc_10 : x_7.toInt = (6 : Int32).toInt := by rw [c_10]
                refine lv_bipush (v := (-2)) hx hb dX8_mark_109 (by decide) ?_
                have hNT : ¬ (∃ k : Nat, (k : Int) < (v 1 3).toInt ∧ mk (v 1) k x0 x1) := fun ⟨k, h1, h2⟩ => hi6_0 k (by omega) h2
                have hpost : (¬ ((0 ≤ x0.toInt ∧ x0.toInt < (v 1 2).toInt) ∧ (0 ≤ x1.toInt ∧ x1.toInt < (v 1 2).toInt) ∧ x0.toInt ≠ x1.toInt) → ((-2) : Int32) = -1 ∧ v = v) ∧ (((0 ≤ x0.toInt ∧ x0.toInt < (v 1 2).toInt) ∧ (0 ≤ x1.toInt ∧ x1.toInt < (v 1 2).toInt) ∧ x0.toInt ≠ x1.toInt) ∧ (∃ k : Nat, (k : Int) < (v 1 3).toInt ∧ mk (v 1) k x0 x1) → ((-2) : Int32) = -3 ∧ v = v) ∧ (((0 ≤ x0.toInt ∧ x0.toInt < (v 1 2).toInt) ∧ (0 ≤ x1.toInt ∧ x1.toInt < (v 1 2).toInt) ∧ x0.toInt ≠ x1.toInt) ∧ ¬ (∃ k : Nat, (k : Int) < (v 1 3).toInt ∧ mk (v 1) k x0 x1) ∧ (v 1 3).toInt = 6 → ((-2) : Int32) = -2 ∧ v = v) ∧ (((0 ≤ x0.toInt ∧ x0.toInt < (v 1 2).toInt) ∧ (0 ≤ x1.toInt ∧ x1.toInt < (v 1 2).toInt) ∧ x0.toInt ≠ x1.toInt) ∧ ¬ (∃ k : Nat, (k : Int) < (v 1 3).toInt ∧ mk (v 1) k x0 x1) ∧ (v 1 3).toInt ≠ 6 → ((-2) : Int32) = v 1 3 + 1 ∧ (∀ n : Nat, v 1 n = if n = 3 then v 1 3 + 1 else if n = 147 + 2 * (v 1 3).toNatClampNeg then x1 else if n = 146 + 2 * (v 1 3).toNatClampNeg then x0 else v 1 n) ∧ (∀ k : Nat, k ≠ 1 → v k = v k)) := by
                  refine ⟨fun hq => ?_, fun hq => ?_, fun hq => ?_, fun hq => ?_⟩
                  · exfalso; omega
                  · exact absurd hq.2 hNT
                  · exact ⟨rfl, rfl⟩
                  · exfalso; omega
                exact W.iret (v := (-2)) hx hb hr (fun t ht hW => ⟨⟨(-2), v, rfl, ⟨hv, hpost⟩, by rw [ht]; exact hP, hD⟩, hS.F ht⟩) hS.2.2 dX8_mark_111
            · have tc_8 : y6_3.toInt < x_7.toInt := Int32.lt_iff_toInt_lt.mp (Int32.not_le.mp c_8)
              refine lv_aload_n hx hb dX8_mark_35 rfl (lv_at hl 1 rfl) ?_
              refine va_get (D := (dC, dI)) (ci := 8) (v := .ref (ad 1)) (C := RX8) (T := TX8) (N := 11) hx hb hts iwX8_mark_X8 hown hK hP (0) (wm_at (by decide) rc_0) rfl 0 (by decide) (hts (.fieldLink RX8 7 "QuietStairsModel" "s" "[I") fwX8_mark_1) (fun _ h9 => h9) rfl dX8_mark_36 ?_
              refine lv_sipush (v := 146) hx hb dX8_mark_39 (by decide) ?_
              refine lv_iconst (v := 2) hx hb dX8_mark_42 (by decide) ?_
              refine lv_iload_n hx hb dX8_mark_43 rfl (lv_at hl 0 rfl) ?_
              refine lv_imul hx hb dX8_mark_44 ?_
              refine lv_topi (fun x_9 ex_9 => ?_)
              have k_2 : (2 : Int32).toInt = 2 := by decide
              have tx_9 : x_9.toInt = 2 * y6_3.toInt := by rw [ex_9, t_mul (by rw [k_2]; omega), k_2]
              refine lv_iadd hx hb dX8_mark_45 ?_
              refine lv_topi (fun x_10 ex_10 => ?_)
              have k_146 : (146 : Int32).toInt = 146 := by decide
              have tx_10 : x_10.toInt = (146 : Int32).toInt + x_9.toInt := by rw [ex_10]; exact t_add ⟨by omega, by omega⟩
              have zn_y6_3 : (y6_3.toNatClampNeg : Int) = y6_3.toInt := t_nn (by omega)
              have nx_10 : x_10.toNatClampNeg = 146 + 2 * y6_3.toNatClampNeg := by have z1 := t_nn (x := x_10) (by omega); omega
              refine va_iald hx hb hK hP (1) 0 (wm_at (by decide) rc_1) rfl (vp_in_iff.mpr ⟨by omega, by omega⟩) dX8_mark_46 ?_
              refine lv_topi (fun x_11 ex_11 => ?_)
              have bzx_11 : 0 ≤ x_11.toInt ∧ x_11.toInt ≤ 5 := by rw [ex_11]; exact hv 1 _ 5 (bx_m ⟨by omega, by omega⟩)
              rw [nx_10] at ex_11
              have qx_11 : x_11.toInt = (v 1 (146 + 2 * y6_3.toNatClampNeg)).toInt := congrArg Int32.toInt ex_11
              refine lv_istore (lv' := [(4, .int x_11), (3, .int y6_3), (0, .ref (ad 0)), (1, .int x0), (2, .int x1)]) hx hb dX8_mark_47 hl (by decide) rfl (fun ls hl => ?_)
              refine lv_aload_n hx hb dX8_mark_49 rfl (lv_at hl 2 rfl) ?_
              refine va_get (D := (dC, dI)) (ci := 8) (v := .ref (ad 1)) (C := RX8) (T := TX8) (N := 11) hx hb hts iwX8_mark_X8 hown hK hP (0) (wm_at (by decide) rc_0) rfl 0 (by decide) (hts (.fieldLink RX8 7 "QuietStairsModel" "s" "[I") fwX8_mark_1) (fun _ h9 => h9) rfl dX8_mark_50 ?_
              refine lv_sipush (v := 146) hx hb dX8_mark_53 (by decide) ?_
              refine lv_iconst (v := 2) hx hb dX8_mark_56 (by decide) ?_
              refine lv_iload_n hx hb dX8_mark_57 rfl (lv_at hl 1 rfl) ?_
              refine lv_imul hx hb dX8_mark_58 ?_
              refine lv_topi (fun x_12 ex_12 => ?_)
              obtain rfl : x_9 = x_12 := ex_9.trans ex_12.symm
              refine lv_iadd hx hb dX8_mark_59 ?_
              refine lv_topi (fun x_13 ex_13 => ?_)
              obtain rfl : x_10 = x_13 := ex_10.trans ex_13.symm
              refine lv_iconst (v := 1) hx hb dX8_mark_60 (by decide) ?_
              refine lv_iadd hx hb dX8_mark_61 ?_
              refine lv_topi (fun x_14 ex_14 => ?_)
              have k_1 : (1 : Int32).toInt = 1 := by decide
              have tx_14 : x_14.toInt = x_10.toInt + (1 : Int32).toInt := by rw [ex_14]; exact t_add ⟨by omega, by omega⟩
              have nx_14 : x_14.toNatClampNeg = 147 + 2 * y6_3.toNatClampNeg := by have z1 := t_nn (x := x_14) (by omega); omega
              refine va_iald hx hb hK hP (1) 0 (wm_at (by decide) rc_1) rfl (vp_in_iff.mpr ⟨by omega, by omega⟩) dX8_mark_62 ?_
              refine lv_topi (fun x_15 ex_15 => ?_)
              have bzx_15 : 0 ≤ x_15.toInt ∧ x_15.toInt ≤ 5 := by rw [ex_15]; exact hv 1 _ 5 (bx_m ⟨by omega, by omega⟩)
              rw [nx_14] at ex_15
              have qx_15 : x_15.toInt = (v 1 (147 + 2 * y6_3.toNatClampNeg)).toInt := congrArg Int32.toInt ex_15
              refine lv_istore (lv' := [(5, .int x_15), (4, .int x_11), (3, .int y6_3), (0, .ref (ad 0)), (1, .int x0), (2, .int x1)]) hx hb dX8_mark_63 hl (by decide) rfl (fun ls hl => ?_)
              refine lv_iload hx hb dX8_mark_65 (lv_at hl 1 rfl) ?_
              refine lv_iload_n hx hb dX8_mark_67 rfl (lv_at hl 4 rfl) ?_
              refine lv_icmp_ne (tgt := 77) hx hb dX8_mark_68 (by decide) (fun c_16 => ?_) (fun c_16 => ?_)
              · have tc_16 : x_11.toInt ≠ x0.toInt := fun q => absurd (Int32.toInt_inj.mp q) c_16
                refine lv_iload hx hb dX8_mark_77 (lv_at hl 1 rfl) ?_
                refine lv_iload_n hx hb dX8_mark_79 rfl (lv_at hl 5 rfl) ?_
                refine lv_icmp_ne (tgt := 92) hx hb dX8_mark_80 (by decide) (fun c_17 => ?_) (fun c_17 => ?_)
                · have tc_17 : x_11.toInt ≠ x1.toInt := fun q => absurd (Int32.toInt_inj.mp q) c_17
                  obtain ⟨x_18, ex_18⟩ : ∃ y : Int32, y = y6_3 + 1 := ⟨_, rfl⟩
                  refine lv_iinc (v := x_18) (lv' := [(3, .int x_18), (5, .int x_15), (4, .int x_11), (0, .ref (ad 0)), (1, .int x0), (2, .int x1)]) hx hb dX8_mark_92 hl (k := 2) rfl (by rw [ex_18]; rfl) (by decide) rfl (fun ls hl => ?_)
                  have tx_18 : x_18.toInt = y6_3.toInt + (1 : Int32).toInt := by rw [ex_18]; exact t_add ⟨by omega, by omega⟩
                  refine lv_goto (tgt := 25) hx hb dX8_mark_95 (by decide) ?_
                  exact ih_6 x_18 _ _ (by omega) (by omega) (fun k hk => by by_cases hq : (k : Int) < y6_3.toInt; exact hi6_0 k hq; rw [show k = y6_3.toNatClampNeg from by omega]; unfold mk; omega) (by omega) hP hD hS ls (lv_sub hl [0, 3, 4, 5] rfl)
                · have tc_17 : x_11.toInt = x1.toInt := by rw [c_17]
                  refine lv_iload hx hb dX8_mark_83 (lv_at hl 0 rfl) ?_
                  refine lv_iload_n hx hb dX8_mark_85 rfl (lv_at hl 4 rfl) ?_
                  refine lv_icmp_ne (tgt := 92) hx hb dX8_mark_86 (by decide) (fun c_18 => ?_) (fun c_18 => ?_)
                  · have tc_18 : x_15.toInt ≠ x0.toInt := fun q => absurd (Int32.toInt_inj.mp q) c_18
                    obtain ⟨x_19, ex_19⟩ : ∃ y : Int32, y = y6_3 + 1 := ⟨_, rfl⟩
                    refine lv_iinc (v := x_19) (lv' := [(3, .int x_19), (5, .int x_15), (4, .int x_11), (0, .ref (ad 0)), (1, .int x0), (2, .int x1)]) hx hb dX8_mark_92 hl (k := 2) rfl (by rw [ex_19]; rfl) (by decide) rfl (fun ls hl => ?_)
                    have tx_19 : x_19.toInt = y6_3.toInt + (1 : Int32).toInt := by rw [ex_19]; exact t_add ⟨by omega, by omega⟩
                    refine lv_goto (tgt := 25) hx hb dX8_mark_95 (by decide) ?_
                    exact ih_6 x_19 _ _ (by omega) (by omega) (fun k hk => by by_cases hq : (k : Int) < y6_3.toInt; exact hi6_0 k hq; rw [show k = y6_3.toNatClampNeg from by omega]; unfold mk; omega) (by omega) hP hD hS ls (lv_sub hl [0, 3, 4, 5] rfl)
                  · have tc_18 : x_15.toInt = x0.toInt := by rw [c_18]
                    refine lv_bipush (v := (-3)) hx hb dX8_mark_89 (by decide) ?_
                    have hTW : (∃ k : Nat, (k : Int) < (v 1 3).toInt ∧ mk (v 1) k x0 x1) := ⟨y6_3.toNatClampNeg, by omega, by unfold mk; omega⟩
                    have hpost : (¬ ((0 ≤ x0.toInt ∧ x0.toInt < (v 1 2).toInt) ∧ (0 ≤ x1.toInt ∧ x1.toInt < (v 1 2).toInt) ∧ x0.toInt ≠ x1.toInt) → ((-3) : Int32) = -1 ∧ v = v) ∧ (((0 ≤ x0.toInt ∧ x0.toInt < (v 1 2).toInt) ∧ (0 ≤ x1.toInt ∧ x1.toInt < (v 1 2).toInt) ∧ x0.toInt ≠ x1.toInt) ∧ (∃ k : Nat, (k : Int) < (v 1 3).toInt ∧ mk (v 1) k x0 x1) → ((-3) : Int32) = -3 ∧ v = v) ∧ (((0 ≤ x0.toInt ∧ x0.toInt < (v 1 2).toInt) ∧ (0 ≤ x1.toInt ∧ x1.toInt < (v 1 2).toInt) ∧ x0.toInt ≠ x1.toInt) ∧ ¬ (∃ k : Nat, (k : Int) < (v 1 3).toInt ∧ mk (v 1) k x0 x1) ∧ (v 1 3).toInt = 6 → ((-3) : Int32) = -2 ∧ v = v) ∧ (((0 ≤ x0.toInt ∧ x0.toInt < (v 1 2).toInt) ∧ (0 ≤ x1.toInt ∧ x1.toInt < (v 1 2).toInt) ∧ x0.toInt ≠ x1.toInt) ∧ ¬ (∃ k : Nat, (k : Int) < (v 1 3).toInt ∧ mk (v 1) k x0 x1) ∧ (v 1 3).toInt ≠ 6 → ((-3) : Int32) = v 1 3 + 1 ∧ (∀ n : Nat, v 1 n = if n = 3 then v 1 3 + 1 else if n = 147 + 2 * (v 1 3).toNatClampNeg then x1 else if n = 146 + 2 * (v 1 3).toNatClampNeg then x0 else v 1 n) ∧ (∀ k : Nat, k ≠ 1 → v k = v k)) := by
                      refine ⟨fun hq => ?_, fun hq => ?_, fun hq => ?_, fun hq => ?_⟩
                      · exfalso; omega
                      · exact ⟨rfl, rfl⟩
                      · exact absurd hTW hq.2.1
                      · exact absurd hTW hq.2.1
                    exact W.iret (v := (-3)) hx hb hr (fun t ht hW => ⟨⟨(-3), v, rfl, ⟨hv, hpost⟩, by rw [ht]; exact hP, hD⟩, hS.F ht⟩) hS.2.2 dX8_mark_91
              · have tc_16 : x_11.toInt = x0.toInt := by rw [c_16]
                refine lv_iload hx hb dX8_mark_71 (lv_at hl 0 rfl) ?_
                refine lv_iload_n hx hb dX8_mark_73 rfl (lv_at hl 5 rfl) ?_
                refine lv_icmp_eq (tgt := 89) hx hb dX8_mark_74 (by decide) (fun c_17 => ?_) (fun c_17 => ?_)
                · have tc_17 : x_15.toInt = x1.toInt := by rw [c_17]
                  refine lv_bipush (v := (-3)) hx hb dX8_mark_89 (by decide) ?_
                  have hTW : (∃ k : Nat, (k : Int) < (v 1 3).toInt ∧ mk (v 1) k x0 x1) := ⟨y6_3.toNatClampNeg, by omega, by unfold mk; omega⟩
                  have hpost : (¬ ((0 ≤ x0.toInt ∧ x0.toInt < (v 1 2).toInt) ∧ (0 ≤ x1.toInt ∧ x1.toInt < (v 1 2).toInt) ∧ x0.toInt ≠ x1.toInt) → ((-3) : Int32) = -1 ∧ v = v) ∧ (((0 ≤ x0.toInt ∧ x0.toInt < (v 1 2).toInt) ∧ (0 ≤ x1.toInt ∧ x1.toInt < (v 1 2).toInt) ∧ x0.toInt ≠ x1.toInt) ∧ (∃ k : Nat, (k : Int) < (v 1 3).toInt ∧ mk (v 1) k x0 x1) → ((-3) : Int32) = -3 ∧ v = v) ∧ (((0 ≤ x0.toInt ∧ x0.toInt < (v 1 2).toInt) ∧ (0 ≤ x1.toInt ∧ x1.toInt < (v 1 2).toInt) ∧ x0.toInt ≠ x1.toInt) ∧ ¬ (∃ k : Nat, (k : Int) < (v 1 3).toInt ∧ mk (v 1) k x0 x1) ∧ (v 1 3).toInt = 6 → ((-3) : Int32) = -2 ∧ v = v) ∧ (((0 ≤ x0.toInt ∧ x0.toInt < (v 1 2).toInt) ∧ (0 ≤ x1.toInt ∧ x1.toInt < (v 1 2).toInt) ∧ x0.toInt ≠ x1.toInt) ∧ ¬ (∃ k : Nat, (k : Int) < (v 1 3).toInt ∧ mk (v 1) k x0 x1) ∧ (v 1 3).toInt ≠ 6 → ((-3) : Int32) = v 1 3 + 1 ∧ (∀ n : Nat, v 1 n = if n = 3 then v 1 3 + 1 else if n = 147 + 2 * (v 1 3).toNatClampNeg then x1 else if n = 146 + 2 * (v 1 3).toNatClampNeg then x0 else v 1 n) ∧ (∀ k : Nat, k ≠ 1 → v k = v k)) := by
                    refine ⟨fun hq => ?_, fun hq => ?_, fun hq => ?_, fun hq => ?_⟩
                    · exfalso; omega
                    · exact ⟨rfl, rfl⟩
                    · exact absurd hTW hq.2.1
                    · exact absurd hTW hq.2.1
                  exact W.iret (v := (-3)) hx hb hr (fun t ht hW => ⟨⟨(-3), v, rfl, ⟨hv, hpost⟩, by rw [ht]; exact hP, hD⟩, hS.F ht⟩) hS.2.2 dX8_mark_91
                · have tc_17 : x_15.toInt ≠ x1.toInt := fun q => absurd (Int32.toInt_inj.mp q) c_17
                  refine lv_iload hx hb dX8_mark_77 (lv_at hl 1 rfl) ?_
                  refine lv_iload_n hx hb dX8_mark_79 rfl (lv_at hl 5 rfl) ?_
                  refine lv_icmp_ne (tgt := 92) hx hb dX8_mark_80 (by decide) (fun c_18 => ?_) (fun c_18 => ?_)
                  · have tc_18 : x_11.toInt ≠ x1.toInt := fun q => absurd (Int32.toInt_inj.mp q) c_18
                    obtain ⟨x_19, ex_19⟩ : ∃ y : Int32, y = y6_3 + 1 := ⟨_, rfl⟩
                    refine lv_iinc (v := x_19) (lv' := [(3, .int x_19), (5, .int x_15), (4, .int x_11), (0, .ref (ad 0)), (1, .int x0), (2, .int x1)]) hx hb dX8_mark_92 hl (k := 2) rfl (by rw [ex_19]; rfl) (by decide) rfl (fun ls hl => ?_)
                    have tx_19 : x_19.toInt = y6_3.toInt + (1 : Int32).toInt := by rw [ex_19]; exact t_add ⟨by omega, by omega⟩
                    refine lv_goto (tgt := 25) hx hb dX8_mark_95 (by decide) ?_
                    exact ih_6 x_19 _ _ (by omega) (by omega) (fun k hk => by by_cases hq : (k : Int) < y6_3.toInt; exact hi6_0 k hq; rw [show k = y6_3.toNatClampNeg from by omega]; unfold mk; omega) (by omega) hP hD hS ls (lv_sub hl [0, 3, 4, 5] rfl)
                  · have tc_18 : x_11.toInt = x1.toInt := by rw [c_18]
                    refine lv_iload hx hb dX8_mark_83 (lv_at hl 0 rfl) ?_
                    refine lv_iload_n hx hb dX8_mark_85 rfl (lv_at hl 4 rfl) ?_
                    refine lv_icmp_ne (tgt := 92) hx hb dX8_mark_86 (by decide) (fun c_19 => ?_) (fun c_19 => ?_)
                    · have tc_19 : x_15.toInt ≠ x0.toInt := fun q => absurd (Int32.toInt_inj.mp q) c_19
                      obtain ⟨x_20, ex_20⟩ : ∃ y : Int32, y = y6_3 + 1 := ⟨_, rfl⟩
                      refine lv_iinc (v := x_20) (lv' := [(3, .int x_20), (5, .int x_15), (4, .int x_11), (0, .ref (ad 0)), (1, .int x0), (2, .int x1)]) hx hb dX8_mark_92 hl (k := 2) rfl (by rw [ex_20]; rfl) (by decide) rfl (fun ls hl => ?_)
                      have tx_20 : x_20.toInt = y6_3.toInt + (1 : Int32).toInt := by rw [ex_20]; exact t_add ⟨by omega, by omega⟩
                      refine lv_goto (tgt := 25) hx hb dX8_mark_95 (by decide) ?_
                      exact ih_6 x_20 _ _ (by omega) (by omega) (fun k hk => by by_cases hq : (k : Int) < y6_3.toInt; exact hi6_0 k hq; rw [show k = y6_3.toNatClampNeg from by omega]; unfold mk; omega) (by omega) hP hD hS ls (lv_sub hl [0, 3, 4, 5] rfl)
                    · have tc_19 : x_15.toInt = x0.toInt := by rw [c_19]
                      refine lv_bipush (v := (-3)) hx hb dX8_mark_89 (by decide) ?_
                      have hTW : (∃ k : Nat, (k : Int) < (v 1 3).toInt ∧ mk (v 1) k x0 x1) := ⟨y6_3.toNatClampNeg, by omega, by unfold mk; omega⟩
                      have hpost : (¬ ((0 ≤ x0.toInt ∧ x0.toInt < (v 1 2).toInt) ∧ (0 ≤ x1.toInt ∧ x1.toInt < (v 1 2).toInt) ∧ x0.toInt ≠ x1.toInt) → ((-3) : Int32) = -1 ∧ v = v) ∧ (((0 ≤ x0.toInt ∧ x0.toInt < (v 1 2).toInt) ∧ (0 ≤ x1.toInt ∧ x1.toInt < (v 1 2).toInt) ∧ x0.toInt ≠ x1.toInt) ∧ (∃ k : Nat, (k : Int) < (v 1 3).toInt ∧ mk (v 1) k x0 x1) → ((-3) : Int32) = -3 ∧ v = v) ∧ (((0 ≤ x0.toInt ∧ x0.toInt < (v 1 2).toInt) ∧ (0 ≤ x1.toInt ∧ x1.toInt < (v 1 2).toInt) ∧ x0.toInt ≠ x1.toInt) ∧ ¬ (∃ k : Nat, (k : Int) < (v 1 3).toInt ∧ mk (v 1) k x0 x1) ∧ (v 1 3).toInt = 6 → ((-3) : Int32) = -2 ∧ v = v) ∧ (((0 ≤ x0.toInt ∧ x0.toInt < (v 1 2).toInt) ∧ (0 ≤ x1.toInt ∧ x1.toInt < (v 1 2).toInt) ∧ x0.toInt ≠ x1.toInt) ∧ ¬ (∃ k : Nat, (k : Int) < (v 1 3).toInt ∧ mk (v 1) k x0 x1) ∧ (v 1 3).toInt ≠ 6 → ((-3) : Int32) = v 1 3 + 1 ∧ (∀ n : Nat, v 1 n = if n = 3 then v 1 3 + 1 else if n = 147 + 2 * (v 1 3).toNatClampNeg then x1 else if n = 146 + 2 * (v 1 3).toNatClampNeg then x0 else v 1 n) ∧ (∀ k : Nat, k ≠ 1 → v k = v k)) := by
                        refine ⟨fun hq => ?_, fun hq => ?_, fun hq => ?_, fun hq => ?_⟩
                        · exfalso; omega
                        · exact ⟨rfl, rfl⟩
                        · exact absurd hTW hq.2.1
                        · exact absurd hTW hq.2.1
                      exact W.iret (v := (-3)) hx hb hr (fun t ht hW => ⟨⟨(-3), v, rfl, ⟨hv, hpost⟩, by rw [ht]; exact hP, hD⟩, hS.F ht⟩) hS.2.2 dX8_mark_91
        have k_0 : (0 : Int32).toInt = 0 := by decide
        exact hc_6 ((6 - (0 : Int32).toInt).toNat + 1) 0 _ _ (by omega) (by omega) (fun k hk => absurd hk (by omega)) (by omega) hP hD hS ls (lv_sub hl [0, 1, 2, 3] rfl)
      · have tc_5 : x0.toInt = x1.toInt := by rw [c_5]
        refine lv_iconst (v := (-1)) hx hb dX8_mark_21 (by decide) ?_
        have hpost : (¬ ((0 ≤ x0.toInt ∧ x0.toInt < (v 1 2).toInt) ∧ (0 ≤ x1.toInt ∧ x1.toInt < (v 1 2).toInt) ∧ x0.toInt ≠ x1.toInt) → ((-1) : Int32) = -1 ∧ v = v) ∧ (((0 ≤ x0.toInt ∧ x0.toInt < (v 1 2).toInt) ∧ (0 ≤ x1.toInt ∧ x1.toInt < (v 1 2).toInt) ∧ x0.toInt ≠ x1.toInt) ∧ (∃ k : Nat, (k : Int) < (v 1 3).toInt ∧ mk (v 1) k x0 x1) → ((-1) : Int32) = -3 ∧ v = v) ∧ (((0 ≤ x0.toInt ∧ x0.toInt < (v 1 2).toInt) ∧ (0 ≤ x1.toInt ∧ x1.toInt < (v 1 2).toInt) ∧ x0.toInt ≠ x1.toInt) ∧ ¬ (∃ k : Nat, (k : Int) < (v 1 3).toInt ∧ mk (v 1) k x0 x1) ∧ (v 1 3).toInt = 6 → ((-1) : Int32) = -2 ∧ v = v) ∧ (((0 ≤ x0.toInt ∧ x0.toInt < (v 1 2).toInt) ∧ (0 ≤ x1.toInt ∧ x1.toInt < (v 1 2).toInt) ∧ x0.toInt ≠ x1.toInt) ∧ ¬ (∃ k : Nat, (k : Int) < (v 1 3).toInt ∧ mk (v 1) k x0 x1) ∧ (v 1 3).toInt ≠ 6 → ((-1) : Int32) = v 1 3 + 1 ∧ (∀ n : Nat, v 1 n = if n = 3 then v 1 3 + 1 else if n = 147 + 2 * (v 1 3).toNatClampNeg then x1 else if n = 146 + 2 * (v 1 3).toNatClampNeg then x0 else v 1 n) ∧ (∀ k : Nat, k ≠ 1 → v k = v k)) := by
          refine ⟨fun hq => ?_, fun hq => ?_, fun hq => ?_, fun hq => ?_⟩
          · exact ⟨rfl, rfl⟩
          · exfalso; omega
          · exfalso; omega
          · exfalso; omega
        exact W.iret (v := (-1)) hx hb hr (fun t ht hW => ⟨⟨(-1), v, rfl, ⟨hv, hpost⟩, by rw [ht]; exact hP, hD⟩, hS.F ht⟩) hS.2.2 dX8_mark_22
    · refine lv_if_eq (tgt := 21) hx hb dX8_mark_13 (by decide) (fun _ => ?_) (fun c9 => absurd c9 (by decide))
      refine lv_iconst (v := (-1)) hx hb dX8_mark_21 (by decide) ?_
      have hpost : (¬ ((0 ≤ x0.toInt ∧ x0.toInt < (v 1 2).toInt) ∧ (0 ≤ x1.toInt ∧ x1.toInt < (v 1 2).toInt) ∧ x0.toInt ≠ x1.toInt) → ((-1) : Int32) = -1 ∧ v = v) ∧ (((0 ≤ x0.toInt ∧ x0.toInt < (v 1 2).toInt) ∧ (0 ≤ x1.toInt ∧ x1.toInt < (v 1 2).toInt) ∧ x0.toInt ≠ x1.toInt) ∧ (∃ k : Nat, (k : Int) < (v 1 3).toInt ∧ mk (v 1) k x0 x1) → ((-1) : Int32) = -3 ∧ v = v) ∧ (((0 ≤ x0.toInt ∧ x0.toInt < (v 1 2).toInt) ∧ (0 ≤ x1.toInt ∧ x1.toInt < (v 1 2).toInt) ∧ x0.toInt ≠ x1.toInt) ∧ ¬ (∃ k : Nat, (k : Int) < (v 1 3).toInt ∧ mk (v 1) k x0 x1) ∧ (v 1 3).toInt = 6 → ((-1) : Int32) = -2 ∧ v = v) ∧ (((0 ≤ x0.toInt ∧ x0.toInt < (v 1 2).toInt) ∧ (0 ≤ x1.toInt ∧ x1.toInt < (v 1 2).toInt) ∧ x0.toInt ≠ x1.toInt) ∧ ¬ (∃ k : Nat, (k : Int) < (v 1 3).toInt ∧ mk (v 1) k x0 x1) ∧ (v 1 3).toInt ≠ 6 → ((-1) : Int32) = v 1 3 + 1 ∧ (∀ n : Nat, v 1 n = if n = 3 then v 1 3 + 1 else if n = 147 + 2 * (v 1 3).toNatClampNeg then x1 else if n = 146 + 2 * (v 1 3).toNatClampNeg then x0 else v 1 n) ∧ (∀ k : Nat, k ≠ 1 → v k = v k)) := by
        refine ⟨fun hq => ?_, fun hq => ?_, fun hq => ?_, fun hq => ?_⟩
        · exact ⟨rfl, rfl⟩
        · exfalso; omega
        · exfalso; omega
        · exfalso; omega
      exact W.iret (v := (-1)) hx hb hr (fun t ht hW => ⟨⟨(-1), v, rfl, ⟨hv, hpost⟩, by rw [ht]; exact hP, hD⟩, hS.F ht⟩) hS.2.2 dX8_mark_22
  · refine lv_if_eq (tgt := 21) hx hb dX8_mark_5 (by decide) (fun _ => ?_) (fun c9 => absurd c9 (by decide))
    refine lv_iconst (v := (-1)) hx hb dX8_mark_21 (by decide) ?_
    have hpost : (¬ ((0 ≤ x0.toInt ∧ x0.toInt < (v 1 2).toInt) ∧ (0 ≤ x1.toInt ∧ x1.toInt < (v 1 2).toInt) ∧ x0.toInt ≠ x1.toInt) → ((-1) : Int32) = -1 ∧ v = v) ∧ (((0 ≤ x0.toInt ∧ x0.toInt < (v 1 2).toInt) ∧ (0 ≤ x1.toInt ∧ x1.toInt < (v 1 2).toInt) ∧ x0.toInt ≠ x1.toInt) ∧ (∃ k : Nat, (k : Int) < (v 1 3).toInt ∧ mk (v 1) k x0 x1) → ((-1) : Int32) = -3 ∧ v = v) ∧ (((0 ≤ x0.toInt ∧ x0.toInt < (v 1 2).toInt) ∧ (0 ≤ x1.toInt ∧ x1.toInt < (v 1 2).toInt) ∧ x0.toInt ≠ x1.toInt) ∧ ¬ (∃ k : Nat, (k : Int) < (v 1 3).toInt ∧ mk (v 1) k x0 x1) ∧ (v 1 3).toInt = 6 → ((-1) : Int32) = -2 ∧ v = v) ∧ (((0 ≤ x0.toInt ∧ x0.toInt < (v 1 2).toInt) ∧ (0 ≤ x1.toInt ∧ x1.toInt < (v 1 2).toInt) ∧ x0.toInt ≠ x1.toInt) ∧ ¬ (∃ k : Nat, (k : Int) < (v 1 3).toInt ∧ mk (v 1) k x0 x1) ∧ (v 1 3).toInt ≠ 6 → ((-1) : Int32) = v 1 3 + 1 ∧ (∀ n : Nat, v 1 n = if n = 3 then v 1 3 + 1 else if n = 147 + 2 * (v 1 3).toNatClampNeg then x1 else if n = 146 + 2 * (v 1 3).toNatClampNeg then x0 else v 1 n) ∧ (∀ k : Nat, k ≠ 1 → v k = v k)) := by
      refine ⟨fun hq => ?_, fun hq => ?_, fun hq => ?_, fun hq => ?_⟩
      · exact ⟨rfl, rfl⟩
      · exfalso; omega
      · exfalso; omega
      · exfalso; omega
    exact W.iret (v := (-1)) hx hb hr (fun t ht hW => ⟨⟨(-1), v, rfl, ⟨hv, hpost⟩, by rw [ht]; exact hP, hD⟩, hS.F ht⟩) hS.2.2 dX8_mark_22
set_option maxRecDepth 20000 in
theorem db_X0_begin_0 : (decode cX0_begin 0 = .ok (.aload_n 0, 1)) ∧ (decode cX0_begin 1 = .ok (.iconst 0, 1)) ∧ (decode cX0_begin 2 = .ok (.putfield 33, 3)) ∧ (decode cX0_begin 5 = .ok (.aload_n 0, 1)) ∧ (decode cX0_begin 6 = .ok (.iconst 0, 1)) ∧ (decode cX0_begin 7 = .ok (.putfield 37, 3)) ∧ (decode cX0_begin 10 = .ok (.aload_n 0, 1)) ∧ (decode cX0_begin 11 = .ok (.iconst 0, 1)) := by decide +kernel
theorem dX0_begin_0 : decode cX0_begin 0 = .ok (.aload_n 0, 1) := db_X0_begin_0.1
theorem dX0_begin_1 : decode cX0_begin 1 = .ok (.iconst 0, 1) := db_X0_begin_0.2.1
theorem dX0_begin_2 : decode cX0_begin 2 = .ok (.putfield 33, 3) := db_X0_begin_0.2.2.1
theorem dX0_begin_5 : decode cX0_begin 5 = .ok (.aload_n 0, 1) := db_X0_begin_0.2.2.2.1
theorem dX0_begin_6 : decode cX0_begin 6 = .ok (.iconst 0, 1) := db_X0_begin_0.2.2.2.2.1
theorem dX0_begin_7 : decode cX0_begin 7 = .ok (.putfield 37, 3) := db_X0_begin_0.2.2.2.2.2.1
theorem dX0_begin_10 : decode cX0_begin 10 = .ok (.aload_n 0, 1) := db_X0_begin_0.2.2.2.2.2.2.1
theorem dX0_begin_11 : decode cX0_begin 11 = .ok (.iconst 0, 1) := db_X0_begin_0.2.2.2.2.2.2.2
set_option maxRecDepth 20000 in
theorem db_X0_begin_12 : (decode cX0_begin 12 = .ok (.putfield 40, 3)) ∧ (decode cX0_begin 15 = .ok (.aload_n 0, 1)) ∧ (decode cX0_begin 16 = .ok (.iconst 1, 1)) ∧ (decode cX0_begin 17 = .ok (.putfield 43, 3)) ∧ (decode cX0_begin 20 = .ok (.aload_n 0, 1)) ∧ (decode cX0_begin 21 = .ok (.iconst 0, 1)) ∧ (decode cX0_begin 22 = .ok (.putfield 46, 3)) ∧ (decode cX0_begin 25 = .ok (.aload_n 0, 1)) := by decide +kernel
theorem dX0_begin_12 : decode cX0_begin 12 = .ok (.putfield 40, 3) := db_X0_begin_12.1
theorem dX0_begin_15 : decode cX0_begin 15 = .ok (.aload_n 0, 1) := db_X0_begin_12.2.1
theorem dX0_begin_16 : decode cX0_begin 16 = .ok (.iconst 1, 1) := db_X0_begin_12.2.2.1
theorem dX0_begin_17 : decode cX0_begin 17 = .ok (.putfield 43, 3) := db_X0_begin_12.2.2.2.1
theorem dX0_begin_20 : decode cX0_begin 20 = .ok (.aload_n 0, 1) := db_X0_begin_12.2.2.2.2.1
theorem dX0_begin_21 : decode cX0_begin 21 = .ok (.iconst 0, 1) := db_X0_begin_12.2.2.2.2.2.1
theorem dX0_begin_22 : decode cX0_begin 22 = .ok (.putfield 46, 3) := db_X0_begin_12.2.2.2.2.2.2.1
theorem dX0_begin_25 : decode cX0_begin 25 = .ok (.aload_n 0, 1) := db_X0_begin_12.2.2.2.2.2.2.2
set_option maxRecDepth 20000 in
theorem db_X0_begin_26 : (decode cX0_begin 26 = .ok (.iconst 0, 1)) ∧ (decode cX0_begin 27 = .ok (.putfield 49, 3)) ∧ (decode cX0_begin 30 = .ok (.aload_n 0, 1)) ∧ (decode cX0_begin 31 = .ok (.getfield 9, 3)) ∧ (decode cX0_begin 34 = .ok (.iconst 0, 1)) ∧ (decode cX0_begin 35 = .ok (.iload_n 1, 1)) ∧ (decode cX0_begin 36 = .ok (.iastore, 1)) ∧ (decode cX0_begin 37 = .ok (.aload_n 0, 1)) := by decide +kernel
theorem dX0_begin_26 : decode cX0_begin 26 = .ok (.iconst 0, 1) := db_X0_begin_26.1
theorem dX0_begin_27 : decode cX0_begin 27 = .ok (.putfield 49, 3) := db_X0_begin_26.2.1
theorem dX0_begin_30 : decode cX0_begin 30 = .ok (.aload_n 0, 1) := db_X0_begin_26.2.2.1
theorem dX0_begin_31 : decode cX0_begin 31 = .ok (.getfield 9, 3) := db_X0_begin_26.2.2.2.1
theorem dX0_begin_34 : decode cX0_begin 34 = .ok (.iconst 0, 1) := db_X0_begin_26.2.2.2.2.1
theorem dX0_begin_35 : decode cX0_begin 35 = .ok (.iload_n 1, 1) := db_X0_begin_26.2.2.2.2.2.1
theorem dX0_begin_36 : decode cX0_begin 36 = .ok (.iastore, 1) := db_X0_begin_26.2.2.2.2.2.2.1
theorem dX0_begin_37 : decode cX0_begin 37 = .ok (.aload_n 0, 1) := db_X0_begin_26.2.2.2.2.2.2.2
set_option maxRecDepth 20000 in
theorem db_X0_begin_38 : (decode cX0_begin 38 = .ok (.getfield 9, 3)) ∧ (decode cX0_begin 41 = .ok (.iconst 1, 1)) ∧ (decode cX0_begin 42 = .ok (.iload_n 2, 1)) ∧ (decode cX0_begin 43 = .ok (.iastore, 1)) ∧ (decode cX0_begin 44 = .ok (.iconst 0, 1)) ∧ (decode cX0_begin 45 = .ok (.istore_n 3, 1)) ∧ (decode cX0_begin 46 = .ok (.iload_n 3, 1)) ∧ (decode cX0_begin 47 = .ok (.iconst 2, 1)) := by decide +kernel
theorem dX0_begin_38 : decode cX0_begin 38 = .ok (.getfield 9, 3) := db_X0_begin_38.1
theorem dX0_begin_41 : decode cX0_begin 41 = .ok (.iconst 1, 1) := db_X0_begin_38.2.1
theorem dX0_begin_42 : decode cX0_begin 42 = .ok (.iload_n 2, 1) := db_X0_begin_38.2.2.1
theorem dX0_begin_43 : decode cX0_begin 43 = .ok (.iastore, 1) := db_X0_begin_38.2.2.2.1
theorem dX0_begin_44 : decode cX0_begin 44 = .ok (.iconst 0, 1) := db_X0_begin_38.2.2.2.2.1
theorem dX0_begin_45 : decode cX0_begin 45 = .ok (.istore_n 3, 1) := db_X0_begin_38.2.2.2.2.2.1
theorem dX0_begin_46 : decode cX0_begin 46 = .ok (.iload_n 3, 1) := db_X0_begin_38.2.2.2.2.2.2.1
theorem dX0_begin_47 : decode cX0_begin 47 = .ok (.iconst 2, 1) := db_X0_begin_38.2.2.2.2.2.2.2
set_option maxRecDepth 20000 in
theorem db_X0_begin_48 : (decode cX0_begin 48 = .ok (.if_icmp .ge 43, 3)) ∧ (decode cX0_begin 91 = .ok (.return_, 1)) ∧ (decode cX0_begin 51 = .ok (.aload_n 0, 1)) ∧ (decode cX0_begin 52 = .ok (.getfield 15, 3)) ∧ (decode cX0_begin 55 = .ok (.iload_n 3, 1)) ∧ (decode cX0_begin 56 = .ok (.iconst (-1), 1)) ∧ (decode cX0_begin 57 = .ok (.iastore, 1)) ∧ (decode cX0_begin 58 = .ok (.iconst 0, 1)) := by decide +kernel
theorem dX0_begin_48 : decode cX0_begin 48 = .ok (.if_icmp .ge 43, 3) := db_X0_begin_48.1
theorem dX0_begin_91 : decode cX0_begin 91 = .ok (.return_, 1) := db_X0_begin_48.2.1
theorem dX0_begin_51 : decode cX0_begin 51 = .ok (.aload_n 0, 1) := db_X0_begin_48.2.2.1
theorem dX0_begin_52 : decode cX0_begin 52 = .ok (.getfield 15, 3) := db_X0_begin_48.2.2.2.1
theorem dX0_begin_55 : decode cX0_begin 55 = .ok (.iload_n 3, 1) := db_X0_begin_48.2.2.2.2.1
theorem dX0_begin_56 : decode cX0_begin 56 = .ok (.iconst (-1), 1) := db_X0_begin_48.2.2.2.2.2.1
theorem dX0_begin_57 : decode cX0_begin 57 = .ok (.iastore, 1) := db_X0_begin_48.2.2.2.2.2.2.1
theorem dX0_begin_58 : decode cX0_begin 58 = .ok (.iconst 0, 1) := db_X0_begin_48.2.2.2.2.2.2.2
set_option maxRecDepth 20000 in
theorem db_X0_begin_59 : (decode cX0_begin 59 = .ok (.istore 4, 2)) ∧ (decode cX0_begin 61 = .ok (.iload 4, 2)) ∧ (decode cX0_begin 63 = .ok (.bipush 24, 2)) ∧ (decode cX0_begin 65 = .ok (.if_icmp .ge 20, 3)) ∧ (decode cX0_begin 85 = .ok (.iinc 3 1, 3)) ∧ (decode cX0_begin 88 = .ok (.goto (-42), 3)) ∧ (decode cX0_begin 68 = .ok (.aload_n 0, 1)) ∧ (decode cX0_begin 69 = .ok (.getfield 23, 3)) := by decide +kernel
theorem dX0_begin_59 : decode cX0_begin 59 = .ok (.istore 4, 2) := db_X0_begin_59.1
theorem dX0_begin_61 : decode cX0_begin 61 = .ok (.iload 4, 2) := db_X0_begin_59.2.1
theorem dX0_begin_63 : decode cX0_begin 63 = .ok (.bipush 24, 2) := db_X0_begin_59.2.2.1
theorem dX0_begin_65 : decode cX0_begin 65 = .ok (.if_icmp .ge 20, 3) := db_X0_begin_59.2.2.2.1
theorem dX0_begin_85 : decode cX0_begin 85 = .ok (.iinc 3 1, 3) := db_X0_begin_59.2.2.2.2.1
theorem dX0_begin_88 : decode cX0_begin 88 = .ok (.goto (-42), 3) := db_X0_begin_59.2.2.2.2.2.1
theorem dX0_begin_68 : decode cX0_begin 68 = .ok (.aload_n 0, 1) := db_X0_begin_59.2.2.2.2.2.2.1
theorem dX0_begin_69 : decode cX0_begin 69 = .ok (.getfield 23, 3) := db_X0_begin_59.2.2.2.2.2.2.2
set_option maxRecDepth 20000 in
theorem db_X0_begin_72 : (decode cX0_begin 72 = .ok (.iload_n 3, 1)) ∧ (decode cX0_begin 73 = .ok (.aaload, 1)) ∧ (decode cX0_begin 74 = .ok (.iload 4, 2)) ∧ (decode cX0_begin 76 = .ok (.bipush 7, 2)) ∧ (decode cX0_begin 78 = .ok (.iastore, 1)) ∧ (decode cX0_begin 79 = .ok (.iinc 4 1, 3)) ∧ (decode cX0_begin 82 = .ok (.goto (-21), 3)) := by decide +kernel
theorem dX0_begin_72 : decode cX0_begin 72 = .ok (.iload_n 3, 1) := db_X0_begin_72.1
theorem dX0_begin_73 : decode cX0_begin 73 = .ok (.aaload, 1) := db_X0_begin_72.2.1
theorem dX0_begin_74 : decode cX0_begin 74 = .ok (.iload 4, 2) := db_X0_begin_72.2.2.1
theorem dX0_begin_76 : decode cX0_begin 76 = .ok (.bipush 7, 2) := db_X0_begin_72.2.2.2.1
theorem dX0_begin_78 : decode cX0_begin 78 = .ok (.iastore, 1) := db_X0_begin_72.2.2.2.2.1
theorem dX0_begin_79 : decode cX0_begin 79 = .ok (.iinc 4 1, 3) := db_X0_begin_72.2.2.2.2.2.1
theorem dX0_begin_82 : decode cX0_begin 82 = .ok (.goto (-21), 3) := db_X0_begin_72.2.2.2.2.2.2
set_option maxRecDepth 20000 in
theorem db_X7_open_0 : (decode cX7_open 0 = .ok (.aload_n 0, 1)) ∧ (decode cX7_open 1 = .ok (.iload_n 1, 1)) ∧ (decode cX7_open 2 = .ok (.invokevirtual 76, 3)) ∧ (decode cX7_open 5 = .ok (.ifCond .eq 16, 3)) ∧ (decode cX7_open 8 = .ok (.aload_n 0, 1)) ∧ (decode cX7_open 9 = .ok (.iload_n 2, 1)) ∧ (decode cX7_open 10 = .ok (.invokevirtual 76, 3)) ∧ (decode cX7_open 13 = .ok (.ifCond .eq 8, 3)) := by decide +kernel
theorem dX7_open_0 : decode cX7_open 0 = .ok (.aload_n 0, 1) := db_X7_open_0.1
theorem dX7_open_1 : decode cX7_open 1 = .ok (.iload_n 1, 1) := db_X7_open_0.2.1
set_option maxRecDepth 20000 in
theorem ggX7_open_X7_isParty : GoodIn wsX7_open wsX7_isParty := goodIn_r _ [8, 1, 9, 10, 11, 7, 12, 27, 28, 29, 30, 31, 32, 33, 34, 35, 36, 37, 38] rfl (by decide +kernel)
set_option maxRecDepth 20000 in
theorem gX7_open_X7_isParty : GoodIn wsX7_open (wsV RX7 76 RX7 yX7_isParty wsX7_isParty) := goodIn_app (goodIn_r _ [4, 5, 6, 7] rfl (by decide +kernel)) ggX7_open_X7_isParty
theorem dX7_open_2 : decode cX7_open 2 = .ok (.invokevirtual 76, 3) := db_X7_open_0.2.2.1
theorem dX7_open_5 : decode cX7_open 5 = .ok (.ifCond .eq 16, 3) := db_X7_open_0.2.2.2.1
theorem dX7_open_8 : decode cX7_open 8 = .ok (.aload_n 0, 1) := db_X7_open_0.2.2.2.2.1
theorem dX7_open_9 : decode cX7_open 9 = .ok (.iload_n 2, 1) := db_X7_open_0.2.2.2.2.2.1
theorem dX7_open_10 : decode cX7_open 10 = .ok (.invokevirtual 76, 3) := db_X7_open_0.2.2.2.2.2.2.1
theorem dX7_open_13 : decode cX7_open 13 = .ok (.ifCond .eq 8, 3) := db_X7_open_0.2.2.2.2.2.2.2
set_option maxRecDepth 20000 in
theorem db_X7_open_16 : (decode cX7_open 16 = .ok (.iload_n 1, 1)) ∧ (decode cX7_open 17 = .ok (.iload_n 2, 1)) ∧ (decode cX7_open 18 = .ok (.if_icmp .ne 5, 3)) ∧ (decode cX7_open 23 = .ok (.aload_n 0, 1)) ∧ (decode cX7_open 24 = .ok (.getfield 12, 3)) ∧ (decode cX7_open 27 = .ok (.getfield 83, 3)) ∧ (decode cX7_open 30 = .ok (.bipush 6, 2)) ∧ (decode cX7_open 32 = .ok (.if_icmp .lt 6, 3)) := by decide +kernel
theorem dX7_open_16 : decode cX7_open 16 = .ok (.iload_n 1, 1) := db_X7_open_16.1
theorem dX7_open_17 : decode cX7_open 17 = .ok (.iload_n 2, 1) := db_X7_open_16.2.1
theorem dX7_open_18 : decode cX7_open 18 = .ok (.if_icmp .ne 5, 3) := db_X7_open_16.2.2.1
theorem dX7_open_23 : decode cX7_open 23 = .ok (.aload_n 0, 1) := db_X7_open_16.2.2.2.1
theorem dX7_open_24 : decode cX7_open 24 = .ok (.getfield 12, 3) := db_X7_open_16.2.2.2.2.1
theorem dX7_open_27 : decode cX7_open 27 = .ok (.getfield 83, 3) := db_X7_open_16.2.2.2.2.2.1
theorem dX7_open_30 : decode cX7_open 30 = .ok (.bipush 6, 2) := db_X7_open_16.2.2.2.2.2.2.1
theorem dX7_open_32 : decode cX7_open 32 = .ok (.if_icmp .lt 6, 3) := db_X7_open_16.2.2.2.2.2.2.2
set_option maxRecDepth 20000 in
theorem db_X7_open_38 : (decode cX7_open 38 = .ok (.aload_n 0, 1)) ∧ (decode cX7_open 39 = .ok (.getfield 12, 3)) ∧ (decode cX7_open 42 = .ok (.getfield 86, 3)) ∧ (decode cX7_open 45 = .ok (.aload_n 0, 1)) ∧ (decode cX7_open 46 = .ok (.getfield 12, 3)) ∧ (decode cX7_open 49 = .ok (.getfield 83, 3)) ∧ (decode cX7_open 52 = .ok (.aaload, 1)) ∧ (decode cX7_open 53 = .ok (.iload_n 1, 1)) := by decide +kernel
theorem dX7_open_38 : decode cX7_open 38 = .ok (.aload_n 0, 1) := db_X7_open_38.1
theorem dX7_open_39 : decode cX7_open 39 = .ok (.getfield 12, 3) := db_X7_open_38.2.1
theorem dX7_open_42 : decode cX7_open 42 = .ok (.getfield 86, 3) := db_X7_open_38.2.2.1
theorem dX7_open_45 : decode cX7_open 45 = .ok (.aload_n 0, 1) := db_X7_open_38.2.2.2.1
theorem dX7_open_46 : decode cX7_open 46 = .ok (.getfield 12, 3) := db_X7_open_38.2.2.2.2.1
theorem dX7_open_49 : decode cX7_open 49 = .ok (.getfield 83, 3) := db_X7_open_38.2.2.2.2.2.1
theorem dX7_open_52 : decode cX7_open 52 = .ok (.aaload, 1) := db_X7_open_38.2.2.2.2.2.2.1
theorem dX7_open_53 : decode cX7_open 53 = .ok (.iload_n 1, 1) := db_X7_open_38.2.2.2.2.2.2.2
set_option maxRecDepth 20000 in
theorem db_X7_open_54 : (decode cX7_open 54 = .ok (.iload_n 2, 1)) ∧ (decode cX7_open 55 = .ok (.invokevirtual 90, 3)) ∧ (decode cX7_open 58 = .ok (.aload_n 0, 1)) ∧ (decode cX7_open 59 = .ok (.getfield 12, 3)) ∧ (decode cX7_open 62 = .ok (.dup, 1)) ∧ (decode cX7_open 63 = .ok (.getfield 83, 3)) ∧ (decode cX7_open 66 = .ok (.dup_x1, 1)) ∧ (decode cX7_open 67 = .ok (.iconst 1, 1)) := by decide +kernel
theorem dX7_open_54 : decode cX7_open 54 = .ok (.iload_n 2, 1) := db_X7_open_54.1
set_option maxRecDepth 20000 in
theorem ggX7_open_X0_begin : GoodIn wsX7_open wsX0_begin := goodIn_r _ [17, 18, 19, 20, 21, 22, 23, 24, 25, 26, 39, 40, 41, 42, 43, 44, 45, 46, 47, 48, 49] rfl (by decide +kernel)
set_option maxRecDepth 20000 in
theorem gX7_open_X0_begin : GoodIn wsX7_open (wsV RX7 90 RX0 yX0_begin wsX0_begin) := goodIn_app (goodIn_r _ [13, 14, 15, 16] rfl (by decide +kernel)) ggX7_open_X0_begin
theorem dX7_open_55 : decode cX7_open 55 = .ok (.invokevirtual 90, 3) := db_X7_open_54.2.1
theorem dX7_open_58 : decode cX7_open 58 = .ok (.aload_n 0, 1) := db_X7_open_54.2.2.1
theorem dX7_open_59 : decode cX7_open 59 = .ok (.getfield 12, 3) := db_X7_open_54.2.2.2.1
theorem dX7_open_62 : decode cX7_open 62 = .ok (.dup, 1) := db_X7_open_54.2.2.2.2.1
theorem dX7_open_63 : decode cX7_open 63 = .ok (.getfield 83, 3) := db_X7_open_54.2.2.2.2.2.1
theorem dX7_open_66 : decode cX7_open 66 = .ok (.dup_x1, 1) := db_X7_open_54.2.2.2.2.2.2.1
theorem dX7_open_67 : decode cX7_open 67 = .ok (.iconst 1, 1) := db_X7_open_54.2.2.2.2.2.2.2
set_option maxRecDepth 20000 in
theorem db_X7_open_68 : (decode cX7_open 68 = .ok (.iadd, 1)) ∧ (decode cX7_open 69 = .ok (.putfield 83, 3)) ∧ (decode cX7_open 72 = .ok (.ireturn, 1)) ∧ (decode cX7_open 35 = .ok (.bipush (-2), 2)) ∧ (decode cX7_open 37 = .ok (.ireturn, 1)) ∧ (decode cX7_open 21 = .ok (.iconst (-1), 1)) ∧ (decode cX7_open 22 = .ok (.ireturn, 1)) := by decide +kernel
theorem dX7_open_68 : decode cX7_open 68 = .ok (.iadd, 1) := db_X7_open_68.1
theorem dX7_open_69 : decode cX7_open 69 = .ok (.putfield 83, 3) := db_X7_open_68.2.1
theorem dX7_open_72 : decode cX7_open 72 = .ok (.ireturn, 1) := db_X7_open_68.2.2.1
theorem dX7_open_35 : decode cX7_open 35 = .ok (.bipush (-2), 2) := db_X7_open_68.2.2.2.1
theorem dX7_open_37 : decode cX7_open 37 = .ok (.ireturn, 1) := db_X7_open_68.2.2.2.2.1
theorem dX7_open_21 : decode cX7_open 21 = .ok (.iconst (-1), 1) := db_X7_open_68.2.2.2.2.2.1
theorem dX7_open_22 : decode cX7_open 22 = .ok (.ireturn, 1) := db_X7_open_68.2.2.2.2.2.2
set_option maxHeartbeats 4000000 in
set_option maxRecDepth 100000 in
theorem e_X0_begin (l : Launch) (dC : Nat → ClassId) (dI : Nat → Nat → Nat) (cy : Nat → ClassId) (sz : Nat) (ad : Nat → Nat) (kv : Value) (N : Nat) (hN : 119 ≤ N) (v : Nat → Nat → Int32) (hv : Iv v) (i : Nat) (hi : i < 6) (x0 x1 : Int32) (h0 : 0 ≤ x0.toInt ∧ x0.toInt ≤ 7) (h1 : 0 ≤ x1.toInt ∧ x1.toInt ≤ 7) : Met l yX0_begin wsX0_begin ({ frames := 0, cells := 0, slots := 0, locals := 0 }) (va_Pc [.ref (ad (29 + 15 * i)), .int x0, .int x1] (ex_Pre dC dI cy sz (wl ad kv cy N v))) (va_Qv (fun (u : Nat → Nat → Int32) => Iv u ∧ (∀ k j : Nat, u k j = if 36 + 15 * i ≤ k ∧ (k : Int) < 36 + 15 * (i : Int) + 2 ∧ j < 24 then 7 else if k = 31 + 15 * i ∧ (j : Int) < 2 then -1 else if k = 30 + 15 * i ∧ j = 1 then x1 else if k = 30 + 15 * i ∧ j = 0 then x0 else if k = 29 + 15 * i ∧ j = 5 then 0 else if k = 29 + 15 * i ∧ j = 4 then 0 else if k = 29 + 15 * i ∧ j = 3 then 1 else if k = 29 + 15 * i ∧ j = 2 then 0 else if k = 29 + 15 * i ∧ j = 1 then 0 else if k = 29 + 15 * i ∧ j = 0 then 0 else v k j)) (fun u t => ex_Pst dC dI (va_A (wl ad kv cy N v) sz) (wl ad kv cy N u) t) (va_A (wl ad kv cy N v) sz)) 0 0 (va_A (wl ad kv cy N v) sz) := by
  refine Met.ofW (cc := cX0_begin) (maxL := 5) (ret := none) (by decide) rfl ?_
  intro p e s m args below meth c s₁ B hml hv
  obtain ⟨rfl, hsz, hE, hP, hK, hD0⟩ := hv
  have hx := B.exec
  have hb := B.bytes
  have hr := B.returns
  have hts := atoms_spec (ws := wsX0_begin) B.pre
  have hown : s.vm.findClass RX0 = some m.cls := findClass_of_methodNamed B.named
  have hlocks := B.notSynchronized
  subst hsz
  have hD := hD0.self (sz := s.heap.size)
  generalize hAe : va_A (wl ad kv cy N v) s.heap.size = A at hD ⊢
  have hA : ∀ q : Nat, s.heap.size ≤ q → A q := fun q h => by rw [← hAe]; exact Or.inr h
  have hS : va_S A s.heap s.heap [] := va_S.rf
  have hP : va_P (dC, dI) vwCl (wl ad kv cy N v) s.heap := hP
  have hl := lv_entry ([.ref (ad (29 + 15 * i)), .int x0, .int x1]) (n := 5) (Nat.le_of_ble_eq_true rfl)
  rw [lg_entry_eq]
  generalize (lg_sl ([.ref (ad (29 + 15 * i)), .int x0, .int x1]) ++ List.replicate (5 - (lg_sl ([.ref (ad (29 + 15 * i)), .int x0, .int x1])).length) Slot.unset).toArray = ls at hl ⊢
  have hl : lv_has ls 5 [(0, .ref (ad (29 + 15 * i))), (1, .int x0), (2, .int x1)] := hl
  refine lv_aload_n hx hb dX0_begin_0 rfl (lv_at hl 0 rfl) ?_
  refine lv_iconst (v := 0) hx hb dX0_begin_1 (by decide) ?_
  refine va_put (D := (dC, dI)) (ci := 0) (v := .int 0) (ty := .int) (C := RX0) (T := TX0) (N := 11) hx hb hts iwX0_begin_X0 tyX0 tyX0_ok nmX0 hown hK hP hD hS (29 + 15 * i) (wl_at (by omega) (ce_9 (kd_c _ hi).1.1)) rfl 0 (by decide) (hts (.fieldLink RX0 33 "QuietStairs$Case" "state" "I") fwX0_begin_1) (fun _ h9 => h9) rfl (by decide +kernel) rfl rfl (Nat.le_of_ble_eq_true rfl) dX0_begin_2 (fun H locs hP hD hS => ?_)
  have k_0 : (0 : Int32).toInt = 0 := by decide
  obtain ⟨v_1, ev_1⟩ : ∃ u : Nat → Nat → Int32, u = upr v (29 + 15 * i) (upd (v (29 + 15 * i)) 0 0) := ⟨_, rfl⟩
  have hP : va_P (dC, dI) vwCl (wl ad kv cy N v_1) H := by rw [ev_1, ← wl_put (e := _) (ce_9 (kd_c _ hi).1.1)]; exact hP
  have hD : va_D A (wl ad kv cy N v_1) := by rw [ev_1, ← wl_put (e := _) (ce_9 (kd_c _ hi).1.1)]; exact hD
  have hv : Iv v_1 := by rw [ev_1]; exact hv.put (K := 9) (kd_c _ hi).1.1 (fun h q => by simp [bd] at q)
  refine lv_aload_n hx hb dX0_begin_5 rfl (lv_at hl 0 rfl) ?_
  refine lv_iconst (v := 0) hx hb dX0_begin_6 (by decide) ?_
  refine va_put (D := (dC, dI)) (ci := 0) (v := .int 0) (ty := .int) (C := RX0) (T := TX0) (N := 11) hx hb hts iwX0_begin_X0 tyX0 tyX0_ok nmX0 hown hK hP hD hS (29 + 15 * i) (wl_at (by omega) (ce_9 (kd_c _ hi).1.1)) rfl 1 (by decide) (hts (.fieldLink RX0 37 "QuietStairs$Case" "sum" "I") fwX0_begin_2) (fun _ h9 => h9) rfl (by decide +kernel) rfl rfl (Nat.le_of_ble_eq_true rfl) dX0_begin_7 (fun H locs hP hD hS => ?_)
  obtain ⟨v_2, ev_2⟩ : ∃ u : Nat → Nat → Int32, u = upr v_1 (29 + 15 * i) (upd (v_1 (29 + 15 * i)) 1 0) := ⟨_, rfl⟩
  have hP : va_P (dC, dI) vwCl (wl ad kv cy N v_2) H := by rw [ev_2, ← wl_put (e := _) (ce_9 (kd_c _ hi).1.1)]; exact hP
  have hD : va_D A (wl ad kv cy N v_2) := by rw [ev_2, ← wl_put (e := _) (ce_9 (kd_c _ hi).1.1)]; exact hD
  have hv : Iv v_2 := by rw [ev_2]; exact hv.put (K := 9) (kd_c _ hi).1.1 (fun h q => by simp [bd] at q)
  refine lv_aload_n hx hb dX0_begin_10 rfl (lv_at hl 0 rfl) ?_
  refine lv_iconst (v := 0) hx hb dX0_begin_11 (by decide) ?_
  refine va_put (D := (dC, dI)) (ci := 0) (v := .int 0) (ty := .int) (C := RX0) (T := TX0) (N := 11) hx hb hts iwX0_begin_X0 tyX0 tyX0_ok nmX0 hown hK hP hD hS (29 + 15 * i) (wl_at (by omega) (ce_9 (kd_c _ hi).1.1)) rfl 2 (by decide) (hts (.fieldLink RX0 40 "QuietStairs$Case" "roundsOver" "I") fwX0_begin_3) (fun _ h9 => h9) rfl (by decide +kernel) rfl rfl (Nat.le_of_ble_eq_true rfl) dX0_begin_12 (fun H locs hP hD hS => ?_)
  obtain ⟨v_3, ev_3⟩ : ∃ u : Nat → Nat → Int32, u = upr v_2 (29 + 15 * i) (upd (v_2 (29 + 15 * i)) 2 0) := ⟨_, rfl⟩
  have hP : va_P (dC, dI) vwCl (wl ad kv cy N v_3) H := by rw [ev_3, ← wl_put (e := _) (ce_9 (kd_c _ hi).1.1)]; exact hP
  have hD : va_D A (wl ad kv cy N v_3) := by rw [ev_3, ← wl_put (e := _) (ce_9 (kd_c _ hi).1.1)]; exact hD
  have hv : Iv v_3 := by rw [ev_3]; exact hv.put (K := 9) (kd_c _ hi).1.1 (fun h q => by cases q; exact ⟨by omega, by omega⟩)
  refine lv_aload_n hx hb dX0_begin_15 rfl (lv_at hl 0 rfl) ?_
  refine lv_iconst (v := 1) hx hb dX0_begin_16 (by decide) ?_
  refine va_put (D := (dC, dI)) (ci := 0) (v := .int 1) (ty := .int) (C := RX0) (T := TX0) (N := 11) hx hb hts iwX0_begin_X0 tyX0 tyX0_ok nmX0 hown hK hP hD hS (29 + 15 * i) (wl_at (by omega) (ce_9 (kd_c _ hi).1.1)) rfl 3 (by decide) (hts (.fieldLink RX0 43 "QuietStairs$Case" "weight" "I") fwX0_begin_4) (fun _ h9 => h9) rfl (by decide +kernel) rfl rfl (Nat.le_of_ble_eq_true rfl) dX0_begin_17 (fun H locs hP hD hS => ?_)
  have k_1 : (1 : Int32).toInt = 1 := by decide
  obtain ⟨v_4, ev_4⟩ : ∃ u : Nat → Nat → Int32, u = upr v_3 (29 + 15 * i) (upd (v_3 (29 + 15 * i)) 3 1) := ⟨_, rfl⟩
  have hP : va_P (dC, dI) vwCl (wl ad kv cy N v_4) H := by rw [ev_4, ← wl_put (e := _) (ce_9 (kd_c _ hi).1.1)]; exact hP
  have hD : va_D A (wl ad kv cy N v_4) := by rw [ev_4, ← wl_put (e := _) (ce_9 (kd_c _ hi).1.1)]; exact hD
  have hv : Iv v_4 := by rw [ev_4]; exact hv.put (K := 9) (kd_c _ hi).1.1 (fun h q => by simp [bd] at q)
  refine lv_aload_n hx hb dX0_begin_20 rfl (lv_at hl 0 rfl) ?_
  refine lv_iconst (v := 0) hx hb dX0_begin_21 (by decide) ?_
  refine va_put (D := (dC, dI)) (ci := 0) (v := .int 0) (ty := .int) (C := RX0) (T := TX0) (N := 11) hx hb hts iwX0_begin_X0 tyX0 tyX0_ok nmX0 hown hK hP hD hS (29 + 15 * i) (wl_at (by omega) (ce_9 (kd_c _ hi).1.1)) rfl 4 (by decide) (hts (.fieldLink RX0 46 "QuietStairs$Case" "markedBits" "I") fwX0_begin_5) (fun _ h9 => h9) rfl (by decide +kernel) rfl rfl (Nat.le_of_ble_eq_true rfl) dX0_begin_22 (fun H locs hP hD hS => ?_)
  obtain ⟨v_5, ev_5⟩ : ∃ u : Nat → Nat → Int32, u = upr v_4 (29 + 15 * i) (upd (v_4 (29 + 15 * i)) 4 0) := ⟨_, rfl⟩
  have hP : va_P (dC, dI) vwCl (wl ad kv cy N v_5) H := by rw [ev_5, ← wl_put (e := _) (ce_9 (kd_c _ hi).1.1)]; exact hP
  have hD : va_D A (wl ad kv cy N v_5) := by rw [ev_5, ← wl_put (e := _) (ce_9 (kd_c _ hi).1.1)]; exact hD
  have hv : Iv v_5 := by rw [ev_5]; exact hv.put (K := 9) (kd_c _ hi).1.1 (fun h q => by simp [bd] at q)
  refine lv_aload_n hx hb dX0_begin_25 rfl (lv_at hl 0 rfl) ?_
  refine lv_iconst (v := 0) hx hb dX0_begin_26 (by decide) ?_
  refine va_put (D := (dC, dI)) (ci := 0) (v := .int 0) (ty := .int) (C := RX0) (T := TX0) (N := 11) hx hb hts iwX0_begin_X0 tyX0 tyX0_ok nmX0 hown hK hP hD hS (29 + 15 * i) (wl_at (by omega) (ce_9 (kd_c _ hi).1.1)) rfl 5 (by decide) (hts (.fieldLink RX0 49 "QuietStairs$Case" "termCount" "I") fwX0_begin_6) (fun _ h9 => h9) rfl (by decide +kernel) rfl rfl (Nat.le_of_ble_eq_true rfl) dX0_begin_27 (fun H locs hP hD hS => ?_)
  obtain ⟨v_6, ev_6⟩ : ∃ u : Nat → Nat → Int32, u = upr v_5 (29 + 15 * i) (upd (v_5 (29 + 15 * i)) 5 0) := ⟨_, rfl⟩
  have hP : va_P (dC, dI) vwCl (wl ad kv cy N v_6) H := by rw [ev_6, ← wl_put (e := _) (ce_9 (kd_c _ hi).1.1)]; exact hP
  have hD : va_D A (wl ad kv cy N v_6) := by rw [ev_6, ← wl_put (e := _) (ce_9 (kd_c _ hi).1.1)]; exact hD
  have hv : Iv v_6 := by rw [ev_6]; exact hv.put (K := 9) (kd_c _ hi).1.1 (fun h q => by cases q; exact ⟨by omega, by omega⟩)
  refine lv_aload_n hx hb dX0_begin_30 rfl (lv_at hl 0 rfl) ?_
  refine va_get (D := (dC, dI)) (ci := 0) (v := .ref (ad (29 + 15 * i + 1))) (C := RX0) (T := TX0) (N := 11) hx hb hts iwX0_begin_X0 hown hK hP (29 + 15 * i) (wl_at (by omega) (ce_9 (kd_c _ hi).1.1)) rfl 6 (by decide) (hts (.fieldLink RX0 9 "QuietStairs$Case" "parties" "[I") fwX0_begin_7) (fun _ h9 => h9) rfl dX0_begin_31 ?_
  refine W.eq (g2 := F0 m 34 ls [.ref (ad (30 + 15 * i))]) (by rw [show 29 + 15 * i + 1 = 30 + 15 * i from by omega]) ?_
  refine lv_iconst (v := 0) hx hb dX0_begin_34 (by decide) ?_
  refine lv_iload_n hx hb dX0_begin_35 rfl (lv_at hl 1 rfl) ?_
  refine va_iast hx hb hK hP hD hS (30 + 15 * i) 0 (wl_at (by omega) (ce_10 (kd_c _ hi).1.2.1)) rfl (by unfold vp_in; decide) dX0_begin_36 (fun H locs hP hD hS => ?_)
  have hP : va_P (dC, dI) vwCl ((wl ad kv cy N v_6).set (30 + 15 * i) (ad (30 + 15 * i), .inl (cy 0, 2, .inl (upd (v_6 (30 + 15 * i)) 0 x0)))) H := hP
  have hD : va_D A ((wl ad kv cy N v_6).set (30 + 15 * i) (ad (30 + 15 * i), .inl (cy 0, 2, .inl (upd (v_6 (30 + 15 * i)) 0 x0)))) := hD
  obtain ⟨v_7, ev_7⟩ : ∃ u : Nat → Nat → Int32, u = upr v_6 (30 + 15 * i) (upd (v_6 (30 + 15 * i)) 0 x0) := ⟨_, rfl⟩
  have hP : va_P (dC, dI) vwCl (wl ad kv cy N v_7) H := by rw [ev_7, ← wl_put (e := _) (ce_10 (kd_c _ hi).1.2.1)]; exact hP
  have hD : va_D A (wl ad kv cy N v_7) := by rw [ev_7, ← wl_put (e := _) (ce_10 (kd_c _ hi).1.2.1)]; exact hD
  have hv : Iv v_7 := by rw [ev_7]; exact hv.put (K := 10) (kd_c _ hi).1.2.1 (fun h q => by cases q; exact ⟨by omega, by omega⟩)
  refine lv_aload_n hx hb dX0_begin_37 rfl (lv_at hl 0 rfl) ?_
  refine va_get (D := (dC, dI)) (ci := 0) (v := .ref (ad (29 + 15 * i + 1))) (C := RX0) (T := TX0) (N := 11) hx hb hts iwX0_begin_X0 hown hK hP (29 + 15 * i) (wl_at (by omega) (ce_9 (kd_c _ hi).1.1)) rfl 6 (by decide) (hts (.fieldLink RX0 9 "QuietStairs$Case" "parties" "[I") fwX0_begin_7) (fun _ h9 => h9) rfl dX0_begin_38 ?_
  refine W.eq (g2 := F0 m 41 ls [.ref (ad (30 + 15 * i))]) (by rw [show 29 + 15 * i + 1 = 30 + 15 * i from by omega]) ?_
  refine lv_iconst (v := 1) hx hb dX0_begin_41 (by decide) ?_
  refine lv_iload_n hx hb dX0_begin_42 rfl (lv_at hl 2 rfl) ?_
  refine va_iast hx hb hK hP hD hS (30 + 15 * i) 0 (wl_at (by omega) (ce_10 (kd_c _ hi).1.2.1)) rfl (by unfold vp_in; decide) dX0_begin_43 (fun H locs hP hD hS => ?_)
  have hP : va_P (dC, dI) vwCl ((wl ad kv cy N v_7).set (30 + 15 * i) (ad (30 + 15 * i), .inl (cy 0, 2, .inl (upd (v_7 (30 + 15 * i)) 1 x1)))) H := hP
  have hD : va_D A ((wl ad kv cy N v_7).set (30 + 15 * i) (ad (30 + 15 * i), .inl (cy 0, 2, .inl (upd (v_7 (30 + 15 * i)) 1 x1)))) := hD
  obtain ⟨v_8, ev_8⟩ : ∃ u : Nat → Nat → Int32, u = upr v_7 (30 + 15 * i) (upd (v_7 (30 + 15 * i)) 1 x1) := ⟨_, rfl⟩
  have hP : va_P (dC, dI) vwCl (wl ad kv cy N v_8) H := by rw [ev_8, ← wl_put (e := _) (ce_10 (kd_c _ hi).1.2.1)]; exact hP
  have hD : va_D A (wl ad kv cy N v_8) := by rw [ev_8, ← wl_put (e := _) (ce_10 (kd_c _ hi).1.2.1)]; exact hD
  have hv : Iv v_8 := by rw [ev_8]; exact hv.put (K := 10) (kd_c _ hi).1.2.1 (fun h q => by cases q; exact ⟨by omega, by omega⟩)
  refine lv_iconst (v := 0) hx hb dX0_begin_44 (by decide) ?_
  refine lv_istore_n (lv' := [(3, .int 0), (0, .ref (ad (29 + 15 * i))), (1, .int x0), (2, .int x1)]) hx hb dX0_begin_45 rfl hl (by decide) rfl (fun ls hl => ?_)
  have hc_9 : ∀ (n : Nat) (y9_3 : Int32) (u9 : Nat → Nat → Int32) (H : Heap) (locs : List Loc), 0 ≤ y9_3.toInt → y9_3.toInt ≤ 2 → (∀ k j : Nat, u9 k j = if 36 + 15 * i ≤ k ∧ (k : Int) < 36 + 15 * (i : Int) + y9_3.toInt ∧ j < 24 then 7 else if k = 31 + 15 * i ∧ (j : Int) < y9_3.toInt then -1 else v_8 k j) → (2 - y9_3.toInt).toNat < n → Iv u9 → va_P (dC, dI) vwCl (wl ad kv cy N u9) H → va_D A (wl ad kv cy N u9) → va_S A s.heap H locs → ∀ ls : Array Slot, lv_has ls 5 [(3, .int y9_3), (0, .ref (ad (29 + 15 * i))), (1, .int x0), (2, .int x1)] → W p l e (headSpec wsX0_begin ({ frames := 0, cells := 0, slots := 0, locals := 0 })).room s m [Value.ref (ad (29 + 15 * i)), Value.int x0, Value.int x1].toArray below meth c H locs 0 0 (MQ below (va_Qv (fun (u : Nat → Nat → Int32) => Iv u ∧ (∀ k j : Nat, u k j = if 36 + 15 * i ≤ k ∧ (k : Int) < 36 + 15 * (i : Int) + 2 ∧ j < 24 then 7 else if k = 31 + 15 * i ∧ (j : Int) < 2 then -1 else if k = 30 + 15 * i ∧ j = 1 then x1 else if k = 30 + 15 * i ∧ j = 0 then x0 else if k = 29 + 15 * i ∧ j = 5 then 0 else if k = 29 + 15 * i ∧ j = 4 then 0 else if k = 29 + 15 * i ∧ j = 3 then 1 else if k = 29 + 15 * i ∧ j = 2 then 0 else if k = 29 + 15 * i ∧ j = 1 then 0 else if k = 29 + 15 * i ∧ j = 0 then 0 else v k j)) (fun u t => ex_Pst dC dI A (wl ad kv cy N u) t) A) [Value.ref (ad (29 + 15 * i)), Value.int x0, Value.int x1].toArray s 0 0 A) (F0 m 46 ls []) := by
    intro n
    induction n with
    | zero =>
      intro y9_3 u9 H locs ay9_3 by9_3 hi9_0 hm_9 hv hP hD hS ls hl
      exact absurd hm_9 (by omega)
    | succ n ih_9 =>
      intro y9_3 u9 H locs ay9_3 by9_3 hi9_0 hm_9 hv hP hD hS ls hl
      refine lv_iload_n hx hb dX0_begin_46 rfl (lv_at hl 0 rfl) ?_
      refine lv_iconst (v := 2) hx hb dX0_begin_47 (by decide) ?_
      have k_2 : (2 : Int32).toInt = 2 := by decide
      refine lv_icmp_ge (tgt := 91) hx hb dX0_begin_48 (by decide) (fun c_10 => ?_) (fun c_10 => ?_)
      · have tc_10 : y9_3.toInt ≥ (2 : Int32).toInt := Int32.le_iff_toInt_le.mp c_10
        have hy : y9_3.toInt = 2 := by omega
        exact W.vret hx hb hr (fun t ht hW => ⟨⟨u9, rfl, ⟨hv, fun k j => by rw [hi9_0 k j, hy, ev_8, up2, ev_7, up2, ev_6, up2, ev_5, up2, ev_4, up2, ev_3, up2, ev_2, up2, ev_1, up2]⟩, by rw [ht]; exact hP, hD⟩, hS.F ht⟩) hS.2.2 dX0_begin_91
      · have tc_10 : y9_3.toInt < (2 : Int32).toInt := Int32.lt_iff_toInt_lt.mp (Int32.not_le.mp c_10)
        refine lv_aload_n hx hb dX0_begin_51 rfl (lv_at hl 1 rfl) ?_
        refine va_get (D := (dC, dI)) (ci := 0) (v := .ref (ad (29 + 15 * i + 2))) (C := RX0) (T := TX0) (N := 11) hx hb hts iwX0_begin_X0 hown hK hP (29 + 15 * i) (wl_at (by omega) (ce_9 (kd_c _ hi).1.1)) rfl 7 (by decide) (hts (.fieldLink RX0 15 "QuietStairs$Case" "box" "[I") fwX0_begin_8) (fun _ h9 => h9) rfl dX0_begin_52 ?_
        refine W.eq (g2 := F0 m 55 ls [.ref (ad (31 + 15 * i))]) (by rw [show 29 + 15 * i + 2 = 31 + 15 * i from by omega]) ?_
        refine lv_iload_n hx hb dX0_begin_55 rfl (lv_at hl 0 rfl) ?_
        refine lv_iconst (v := (-1)) hx hb dX0_begin_56 (by decide) ?_
        have zn_y9_3 : (y9_3.toNatClampNeg : Int) = y9_3.toInt := t_nn (by omega)
        have hx_11 : y9_3.toNatClampNeg < 2 := by omega
        refine va_iast hx hb hK hP hD hS (31 + 15 * i) 0 (wl_at (by omega) (ce_20 (kd_c _ hi).1.2.2.1)) rfl (vp_in_iff.mpr ⟨by omega, by omega⟩) dX0_begin_57 (fun H locs hP hD hS => ?_)
        have k_m1 : ((-1) : Int32).toInt = -1 := by decide
        obtain ⟨v_12, ev_12⟩ : ∃ u : Nat → Nat → Int32, u = upr u9 (31 + 15 * i) (upd (u9 (31 + 15 * i)) (y9_3.toNatClampNeg) (-1)) := ⟨_, rfl⟩
        have hP : va_P (dC, dI) vwCl (wl ad kv cy N v_12) H := by rw [ev_12, ← wl_put (e := _) (ce_20 (kd_c _ hi).1.2.2.1)]; exact hP
        have hD : va_D A (wl ad kv cy N v_12) := by rw [ev_12, ← wl_put (e := _) (ce_20 (kd_c _ hi).1.2.2.1)]; exact hD
        have hv : Iv v_12 := by rw [ev_12]; exact hv.put (K := 20) (kd_c _ hi).1.2.2.1 (fun h q => by simp [bd] at q)
        refine lv_iconst (v := 0) hx hb dX0_begin_58 (by decide) ?_
        refine lv_istore (lv' := [(4, .int 0), (3, .int y9_3), (0, .ref (ad (29 + 15 * i))), (1, .int x0), (2, .int x1)]) hx hb dX0_begin_59 hl (by decide) rfl (fun ls hl => ?_)
        have hc_13 : ∀ (n : Nat) (y13_4 : Int32) (u13 : Nat → Nat → Int32) (H : Heap) (locs : List Loc), 0 ≤ y13_4.toInt → y13_4.toInt ≤ 24 → (∀ k j : Nat, u13 k j = if k = 36 + 15 * i + y9_3.toNatClampNeg ∧ (j : Int) < y13_4.toInt then 7 else v_12 k j) → (24 - y13_4.toInt).toNat < n → Iv u13 → va_P (dC, dI) vwCl (wl ad kv cy N u13) H → va_D A (wl ad kv cy N u13) → va_S A s.heap H locs → ∀ ls : Array Slot, lv_has ls 5 [(4, .int y13_4), (3, .int y9_3), (0, .ref (ad (29 + 15 * i))), (1, .int x0), (2, .int x1)] → W p l e (headSpec wsX0_begin ({ frames := 0, cells := 0, slots := 0, locals := 0 })).room s m [Value.ref (ad (29 + 15 * i)), Value.int x0, Value.int x1].toArray below meth c H locs 0 0 (MQ below (va_Qv (fun (u : Nat → Nat → Int32) => Iv u ∧ (∀ k j : Nat, u k j = if 36 + 15 * i ≤ k ∧ (k : Int) < 36 + 15 * (i : Int) + 2 ∧ j < 24 then 7 else if k = 31 + 15 * i ∧ (j : Int) < 2 then -1 else if k = 30 + 15 * i ∧ j = 1 then x1 else if k = 30 + 15 * i ∧ j = 0 then x0 else if k = 29 + 15 * i ∧ j = 5 then 0 else if k = 29 + 15 * i ∧ j = 4 then 0 else if k = 29 + 15 * i ∧ j = 3 then 1 else if k = 29 + 15 * i ∧ j = 2 then 0 else if k = 29 + 15 * i ∧ j = 1 then 0 else if k = 29 + 15 * i ∧ j = 0 then 0 else v k j)) (fun u t => ex_Pst dC dI A (wl ad kv cy N u) t) A) [Value.ref (ad (29 + 15 * i)), Value.int x0, Value.int x1].toArray s 0 0 A) (F0 m 61 ls []) := by
          intro n
          induction n with
          | zero =>
            intro y13_4 u13 H locs ay13_4 by13_4 hi13_0 hm_13 hv hP hD hS ls hl
            exact absurd hm_13 (by omega)
          | succ n ih_13 =>
            intro y13_4 u13 H locs ay13_4 by13_4 hi13_0 hm_13 hv hP hD hS ls hl
            refine lv_iload hx hb dX0_begin_61 (lv_at hl 0 rfl) ?_
            refine lv_bipush (v := 24) hx hb dX0_begin_63 (by decide) ?_
            have k_24 : (24 : Int32).toInt = 24 := by decide
            refine lv_icmp_ge (tgt := 85) hx hb dX0_begin_65 (by decide) (fun c_14 => ?_) (fun c_14 => ?_)
            · have tc_14 : y13_4.toInt ≥ (24 : Int32).toInt := Int32.le_iff_toInt_le.mp c_14
              obtain ⟨x_15, ex_15⟩ : ∃ y : Int32, y = y9_3 + 1 := ⟨_, rfl⟩
              refine lv_iinc (v := x_15) (lv' := [(3, .int x_15), (4, .int y13_4), (0, .ref (ad (29 + 15 * i))), (1, .int x0), (2, .int x1)]) hx hb dX0_begin_85 hl (k := 1) rfl (by rw [ex_15]; rfl) (by decide) rfl (fun ls hl => ?_)
              have tx_15 : x_15.toInt = y9_3.toInt + (1 : Int32).toInt := by rw [ex_15]; exact t_add ⟨by omega, by omega⟩
              refine lv_goto (tgt := 46) hx hb dX0_begin_88 (by decide) ?_
              exact ih_9 x_15 u13 _ _ (by omega) (by omega) (fun k j => by rw [hi13_0 k j, ev_12, up2, hi9_0 k j]; (repeat' split); all_goals first | rfl | (exfalso; omega)) (by omega) hv hP hD hS ls (lv_sub hl [0, 2, 3, 4] rfl)
            · have tc_14 : y13_4.toInt < (24 : Int32).toInt := Int32.lt_iff_toInt_lt.mp (Int32.not_le.mp c_14)
              refine lv_aload_n hx hb dX0_begin_68 rfl (lv_at hl 2 rfl) ?_
              refine va_get (D := (dC, dI)) (ci := 0) (v := .ref (ad (29 + 15 * i + 6))) (C := RX0) (T := TX0) (N := 11) hx hb hts iwX0_begin_X0 hown hK hP (29 + 15 * i) (wl_at (by omega) (ce_9 (kd_c _ hi).1.1)) rfl 9 (by decide) (hts (.fieldLink RX0 23 "QuietStairs$Case" "logs" "[[I") fwX0_begin_9) (fun _ h9 => h9) rfl dX0_begin_69 ?_
              refine W.eq (g2 := F0 m 72 ls [.ref (ad (35 + 15 * i))]) (by rw [show 29 + 15 * i + 6 = 35 + 15 * i from by omega]) ?_
              refine lv_iload_n hx hb dX0_begin_72 rfl (lv_at hl 1 rfl) ?_
              refine ya_ald hx hb hK hP (35 + 15 * i) (wl_at (by omega) (ce_13 (kd_c _ hi).1.2.2.2.2.1)) (vp_in_iff.mpr ⟨by omega, by omega⟩) dX0_begin_73 ?_
              refine W.eq (g2 := F0 m 74 ls [.ref (ad (36 + 15 * i + y9_3.toNatClampNeg))]) (by rw [if_pos hx_11, show 35 + 15 * i + 1 + y9_3.toNatClampNeg = 36 + 15 * i + y9_3.toNatClampNeg from by omega]; rfl) ?_
              refine lv_iload hx hb dX0_begin_74 (lv_at hl 0 rfl) ?_
              refine lv_bipush (v := 7) hx hb dX0_begin_76 (by decide) ?_
              have zn_y13_4 : (y13_4.toNatClampNeg : Int) = y13_4.toInt := t_nn (by omega)
              have hx_15 : y13_4.toNatClampNeg < 24 := by omega
              refine va_iast hx hb hK hP hD hS (36 + 15 * i + y9_3.toNatClampNeg) 0 (wl_at (by omega) (ce_14 (kd_o _ hi _ hx_11).1.2)) rfl (vp_in_iff.mpr ⟨by omega, by omega⟩) dX0_begin_78 (fun H locs hP hD hS => ?_)
              have k_7 : (7 : Int32).toInt = 7 := by decide
              obtain ⟨v_16, ev_16⟩ : ∃ u : Nat → Nat → Int32, u = upr u13 (36 + 15 * i + y9_3.toNatClampNeg) (upd (u13 (36 + 15 * i + y9_3.toNatClampNeg)) (y13_4.toNatClampNeg) 7) := ⟨_, rfl⟩
              have hP : va_P (dC, dI) vwCl (wl ad kv cy N v_16) H := by rw [ev_16, ← wl_put (e := _) (ce_14 (kd_o _ hi _ hx_11).1.2)]; exact hP
              have hD : va_D A (wl ad kv cy N v_16) := by rw [ev_16, ← wl_put (e := _) (ce_14 (kd_o _ hi _ hx_11).1.2)]; exact hD
              have hv : Iv v_16 := by rw [ev_16]; exact hv.put (K := 14) (kd_o _ hi _ hx_11).1.2 (fun h q => by simp [bd] at q)
              obtain ⟨x_17, ex_17⟩ : ∃ y : Int32, y = y13_4 + 1 := ⟨_, rfl⟩
              refine lv_iinc (v := x_17) (lv' := [(4, .int x_17), (3, .int y9_3), (0, .ref (ad (29 + 15 * i))), (1, .int x0), (2, .int x1)]) hx hb dX0_begin_79 hl (k := 0) rfl (by rw [ex_17]; rfl) (by decide) rfl (fun ls hl => ?_)
              have tx_17 : x_17.toInt = y13_4.toInt + (1 : Int32).toInt := by rw [ex_17]; exact t_add ⟨by omega, by omega⟩
              refine lv_goto (tgt := 61) hx hb dX0_begin_82 (by decide) ?_
              exact ih_13 x_17 v_16 _ _ (by omega) (by omega) (fun k j => by rw [ev_16, up2, hi13_0 k j]; (repeat' split); all_goals first | rfl | (exfalso; omega)) (by omega) hv hP hD hS ls (lv_sub hl [0, 1, 2, 3, 4] rfl)
        exact hc_13 ((24 - (0 : Int32).toInt).toNat + 1) 0 v_12 _ _ (by omega) (by omega) (fun k j => by rw [if_neg (by omega)]) (by omega) hv hP hD hS ls (lv_sub hl [0, 1, 2, 3, 4] rfl)
  exact hc_9 ((2 - (0 : Int32).toInt).toNat + 1) 0 v_8 _ _ (by omega) (by omega) (fun k j => by rw [if_neg (by omega), if_neg (by omega)]) (by omega) hv hP hD hS ls (lv_sub hl [0, 1, 2, 3] rfl)

set_option maxHeartbeats 4000000 in
set_option maxRecDepth 100000 in
theorem e_X7_open (l : Launch) (dC : Nat → ClassId) (dI : Nat → Nat → Nat) (cy : Nat → ClassId) (sz : Nat) (ad : Nat → Nat) (kv : Value) (N : Nat) (hN : 119 ≤ N) (v : Nat → Nat → Int32) (hv : Iv v) (x0 x1 : Int32) : Met l yX7_open wsX7_open ({ frames := 3, cells := 0, slots := 0, locals := 192 }) (va_Pc [.ref (ad 0), .int x0, .int x1] (ex_Pre dC dI cy sz (wl ad kv cy N v))) (va_Qi (fun (r : Int32) (u : Nat → Nat → Int32) => Iv u ∧ (¬ ((0 ≤ x0.toInt ∧ x0.toInt < (v 13 0).toInt) ∧ (0 ≤ x1.toInt ∧ x1.toInt < (v 13 0).toInt) ∧ x0.toInt ≠ x1.toInt) → r = -1 ∧ u = v) ∧ (((0 ≤ x0.toInt ∧ x0.toInt < (v 13 0).toInt) ∧ (0 ≤ x1.toInt ∧ x1.toInt < (v 13 0).toInt) ∧ x0.toInt ≠ x1.toInt) ∧ 6 ≤ (v 13 2).toInt → r = -2 ∧ u = v) ∧ (((0 ≤ x0.toInt ∧ x0.toInt < (v 13 0).toInt) ∧ (0 ≤ x1.toInt ∧ x1.toInt < (v 13 0).toInt) ∧ x0.toInt ≠ x1.toInt) ∧ (v 13 2).toInt < 6 → r = v 13 2 ∧ (∀ k j : Nat, u k j = if k = 13 ∧ j = 2 then v 13 2 + 1 else if 36 + 15 * (v 13 2).toNatClampNeg ≤ k ∧ (k : Int) < 36 + 15 * ((v 13 2).toNatClampNeg : Int) + 2 ∧ j < 24 then 7 else if k = 31 + 15 * (v 13 2).toNatClampNeg ∧ (j : Int) < 2 then -1 else if k = 30 + 15 * (v 13 2).toNatClampNeg ∧ j = 1 then x1 else if k = 30 + 15 * (v 13 2).toNatClampNeg ∧ j = 0 then x0 else if k = 29 + 15 * (v 13 2).toNatClampNeg ∧ j = 5 then 0 else if k = 29 + 15 * (v 13 2).toNatClampNeg ∧ j = 4 then 0 else if k = 29 + 15 * (v 13 2).toNatClampNeg ∧ j = 3 then 1 else if k = 29 + 15 * (v 13 2).toNatClampNeg ∧ j = 2 then 0 else if k = 29 + 15 * (v 13 2).toNatClampNeg ∧ j = 1 then 0 else if k = 29 + 15 * (v 13 2).toNatClampNeg ∧ j = 0 then 0 else v k j))) (fun u t => ex_Pst dC dI (va_A (wl ad kv cy N v) sz) (wl ad kv cy N u) t) (va_A (wl ad kv cy N v) sz)) 0 0 (va_A (wl ad kv cy N v) sz) := by
  refine Met.ofW (cc := cX7_open) (maxL := 3) (ret := (some .int)) (by decide) rfl ?_
  intro p e s m args below meth c s₁ B hml hv
  obtain ⟨rfl, hsz, hE, hP, hK, hD0⟩ := hv
  have hx := B.exec
  have hb := B.bytes
  have hr := B.returns
  have hts := atoms_spec (ws := wsX7_open) B.pre
  have hown : s.vm.findClass RX7 = some m.cls := findClass_of_methodNamed B.named
  have hlocks := B.notSynchronized
  subst hsz
  have hD := hD0.self (sz := s.heap.size)
  generalize hAe : va_A (wl ad kv cy N v) s.heap.size = A at hD ⊢
  have hA : ∀ q : Nat, s.heap.size ≤ q → A q := fun q h => by rw [← hAe]; exact Or.inr h
  have hS : va_S A s.heap s.heap [] := va_S.rf
  have hP : va_P (dC, dI) vwCl (wl ad kv cy N v) s.heap := hP
  have hl := lv_entry ([.ref (ad 0), .int x0, .int x1]) (n := 3) (Nat.le_of_ble_eq_true rfl)
  rw [lg_entry_eq]
  generalize (lg_sl ([.ref (ad 0), .int x0, .int x1]) ++ List.replicate (3 - (lg_sl ([.ref (ad 0), .int x0, .int x1])).length) Slot.unset).toArray = ls at hl ⊢
  have hl : lv_has ls 3 [(0, .ref (ad 0)), (1, .int x0), (2, .int x1)] := hl
  refine lv_aload_n hx hb dX7_open_0 rfl (lv_at hl 0 rfl) ?_
  refine lv_iload_n hx hb dX7_open_1 rfl (lv_at hl 1 rfl) ?_
  refine yw_i (w1 := fun (u : Nat → Nat → Int32) => wl ad kv cy N u) hD hS hA (va_runV (As := [.int x0]) (rest := []) ⟨hx, hb, hml, hown, hts⟩ (g_X7_isParty l dC dI cy _ ad kv N hN v hv x0) (cwV 1 hts gX7_open_X7_isParty rfl rfl rfl hd_V_X7_isParty_1 ⟨Nat.le_of_ble_eq_true rfl, Nat.le_of_ble_eq_true rfl⟩) (yw_preV hE hK hP hD (ci := 7) (q := (RX7, TX7, 5)) (q0 := 0) rfl (wl_at (by omega) (ce_0 (by decide)))) rfl rfl hl.1 rfl (lv_room (Nat.le_of_ble_eq_true rfl)) dX7_open_2 ⟨Nat.le_of_ble_eq_true rfl, Nat.le_of_ble_eq_true rfl⟩) (fun r_1 v_1 H locs hw_1 hP hD hS => ?_)
  obtain ⟨-, hu_1, hw_1⟩ := hw_1
  replace hu_1 := hu_1.symm
  subst hu_1
  rcases hw_1 with ⟨rfl, ha_2⟩ | ⟨rfl, ha_2⟩
  · have hb_2 := hv.at (k := 13) (j := 0) (K := 3) (by decide) rfl
    have hj_2 : 0 ≤ x0.toInt ∧ x0.toInt ≤ 7 := ⟨by omega, by omega⟩
    refine lv_if_eq (tgt := 21) hx hb dX7_open_5 (by decide) (fun c9 => absurd c9 (by decide)) (fun _ => ?_)
    refine lv_aload_n hx hb dX7_open_8 rfl (lv_at hl 0 rfl) ?_
    refine lv_iload_n hx hb dX7_open_9 rfl (lv_at hl 2 rfl) ?_
    refine yw_i (w1 := fun (u : Nat → Nat → Int32) => wl ad kv cy N u) hD hS hA (va_runV (As := [.int x1]) (rest := []) ⟨hx, hb, hml, hown, hts⟩ (g_X7_isParty l dC dI cy _ ad kv N hN v hv x1) (cwV 1 hts gX7_open_X7_isParty rfl rfl rfl hd_V_X7_isParty_1 ⟨Nat.le_of_ble_eq_true rfl, Nat.le_of_ble_eq_true rfl⟩) (yw_preV hE hK hP hD (ci := 7) (q := (RX7, TX7, 5)) (q0 := 0) rfl (wl_at (by omega) (ce_0 (by decide)))) rfl rfl hl.1 rfl (lv_room (Nat.le_of_ble_eq_true rfl)) dX7_open_10 ⟨Nat.le_of_ble_eq_true rfl, Nat.le_of_ble_eq_true rfl⟩) (fun r_3 v_3 H locs hw_3 hP hD hS => ?_)
    obtain ⟨-, hu_3, hw_3⟩ := hw_3
    replace hu_3 := hu_3.symm
    subst hu_3
    rcases hw_3 with ⟨rfl, ha_4⟩ | ⟨rfl, ha_4⟩
    · have hb_4 := hv.at (k := 13) (j := 0) (K := 3) (by decide) rfl
      have hj_4 : 0 ≤ x1.toInt ∧ x1.toInt ≤ 7 := ⟨by omega, by omega⟩
      refine lv_if_eq (tgt := 21) hx hb dX7_open_13 (by decide) (fun c9 => absurd c9 (by decide)) (fun _ => ?_)
      refine lv_iload_n hx hb dX7_open_16 rfl (lv_at hl 1 rfl) ?_
      refine lv_iload_n hx hb dX7_open_17 rfl (lv_at hl 2 rfl) ?_
      refine lv_icmp_ne (tgt := 23) hx hb dX7_open_18 (by decide) (fun c_5 => ?_) (fun c_5 => ?_)
      · have tc_5 : x0.toInt ≠ x1.toInt := fun q => absurd (Int32.toInt_inj.mp q) c_5
        refine lv_aload_n hx hb dX7_open_23 rfl (lv_at hl 0 rfl) ?_
        refine va_get (D := (dC, dI)) (ci := 7) (v := .ref (ad 13)) (C := RX7) (T := TX7) (N := 5) hx hb hts iwX7_open_X7 hown hK hP (0) (wl_at (by omega) (ce_0 (by decide))) rfl 0 (by decide) (hts (.fieldLink RX7 12 "QuietStairs" "now" "LQuietStairs$House;") fwX7_open_1) (fun _ h9 => h9) rfl dX7_open_24 ?_
        refine va_get (D := (dC, dI)) (ci := 1) (v := .int (v (13) 2)) (C := RX1) (T := TX1) (N := 7) hx hb hts iwX7_open_X1 hown hK hP (13) (wl_at (by omega) (ce_3 (by decide))) rfl 2 (by decide) (hts (.fieldLink RX7 83 "QuietStairs$House" "caseCount" "I") fwX7_open_2) (fun _ h9 => h9) rfl dX7_open_27 ?_
        refine lv_topi (fun x_6 ex_6 => ?_)
        have bzx_6 : 0 ≤ x_6.toInt ∧ x_6.toInt ≤ 6 := by rw [ex_6]; exact hv.at (K := 3) (by decide) rfl
        have qx_6 : x_6.toInt = (v (13) (2)).toInt := congrArg Int32.toInt ex_6
        refine lv_bipush (v := 6) hx hb dX7_open_30 (by decide) ?_
        have k_6 : (6 : Int32).toInt = 6 := by decide
        refine lv_icmp_lt (tgt := 38) hx hb dX7_open_32 (by decide) (fun c_7 => ?_) (fun c_7 => ?_)
        · have tc_7 : x_6.toInt < (6 : Int32).toInt := Int32.lt_iff_toInt_lt.mp c_7
          refine lv_aload_n hx hb dX7_open_38 rfl (lv_at hl 0 rfl) ?_
          refine va_get (D := (dC, dI)) (ci := 7) (v := .ref (ad 13)) (C := RX7) (T := TX7) (N := 5) hx hb hts iwX7_open_X7 hown hK hP (0) (wl_at (by omega) (ce_0 (by decide))) rfl 0 (by decide) (hts (.fieldLink RX7 12 "QuietStairs" "now" "LQuietStairs$House;") fwX7_open_1) (fun _ h9 => h9) rfl dX7_open_39 ?_
          refine va_get (D := (dC, dI)) (ci := 1) (v := .ref (ad 16)) (C := RX1) (T := TX1) (N := 7) hx hb hts iwX7_open_X1 hown hK hP (13) (wl_at (by omega) (ce_3 (by decide))) rfl 6 (by decide) (hts (.fieldLink RX7 86 "QuietStairs$House" "cases" "[LQuietStairs$Case;") fwX7_open_3) (fun _ h9 => h9) rfl dX7_open_42 ?_
          refine lv_aload_n hx hb dX7_open_45 rfl (lv_at hl 0 rfl) ?_
          refine va_get (D := (dC, dI)) (ci := 7) (v := .ref (ad 13)) (C := RX7) (T := TX7) (N := 5) hx hb hts iwX7_open_X7 hown hK hP (0) (wl_at (by omega) (ce_0 (by decide))) rfl 0 (by decide) (hts (.fieldLink RX7 12 "QuietStairs" "now" "LQuietStairs$House;") fwX7_open_1) (fun _ h9 => h9) rfl dX7_open_46 ?_
          refine va_get (D := (dC, dI)) (ci := 1) (v := .int (v (13) 2)) (C := RX1) (T := TX1) (N := 7) hx hb hts iwX7_open_X1 hown hK hP (13) (wl_at (by omega) (ce_3 (by decide))) rfl 2 (by decide) (hts (.fieldLink RX7 83 "QuietStairs$House" "caseCount" "I") fwX7_open_2) (fun _ h9 => h9) rfl dX7_open_49 ?_
          refine lv_topi (fun x_8 ex_8 => ?_)
          have bzx_8 : 0 ≤ x_8.toInt ∧ x_8.toInt ≤ 6 := by rw [ex_8]; exact hv.at (K := 3) (by decide) rfl
          obtain rfl : x_6 = x_8 := (ex_8.trans ex_6.symm).symm
          have zn_x_6 : (x_6.toNatClampNeg : Int) = x_6.toInt := t_nn (by omega)
          have hx_9 : x_6.toNatClampNeg < 6 := by omega
          refine va_aldq hx hb hK hP (16) 3 (wl_at (by omega) (ce_6 (by decide))) rfl (vp_in_iff.mpr ⟨by omega, by omega⟩) dX7_open_52 ?_
          refine W.eq (g2 := F0 m 53 ls [.ref (ad (29 + 15 * x_6.toNatClampNeg))]) (by rw [if_pos hx_9, show 16 + 13 + 15 * x_6.toNatClampNeg = 29 + 15 * x_6.toNatClampNeg from by omega]; rfl) ?_
          refine lv_iload_n hx hb dX7_open_53 rfl (lv_at hl 1 rfl) ?_
          refine lv_iload_n hx hb dX7_open_54 rfl (lv_at hl 2 rfl) ?_
          refine yw_v (w1 := fun (u : Nat → Nat → Int32) => wl ad kv cy N u) hD hS hA (va_runV (As := [.int x0, .int x1]) (rest := []) ⟨hx, hb, hml, hown, hts⟩ (e_X0_begin l dC dI cy _ ad kv N hN v hv x_6.toNatClampNeg hx_9 x0 x1 ⟨by omega, by omega⟩ ⟨by omega, by omega⟩) (cwV 2 hts gX7_open_X0_begin rfl rfl rfl hd_V_X0_begin_2 ⟨Nat.le_of_ble_eq_true rfl, Nat.le_of_ble_eq_true rfl⟩) (yw_preV hE hK hP hD (ci := 0) (q := (RX0, TX0, 11)) (q0 := (29 + 15 * x_6.toNatClampNeg)) rfl (wl_at (by omega) (ce_9 (kd_c _ hx_9).1.1))) rfl rfl hl.1 rfl (lv_room (Nat.le_of_ble_eq_true rfl)) dX7_open_55 ⟨Nat.le_of_ble_eq_true rfl, Nat.le_of_ble_eq_true rfl⟩) (fun v_10 H locs hw_10 hP hD hS => ?_)
          obtain ⟨hv, hw_10⟩ := hw_10
          have hk_11 : v_10 13 2 = v 13 2 := by rw [hw_10, if_neg (by omega), if_neg (by omega), if_neg (by omega), if_neg (by omega), if_neg (by omega), if_neg (by omega), if_neg (by omega), if_neg (by omega), if_neg (by omega), if_neg (by omega)]
          refine lv_aload_n hx hb dX7_open_58 rfl (lv_at hl 0 rfl) ?_
          refine va_get (D := (dC, dI)) (ci := 7) (v := .ref (ad 13)) (C := RX7) (T := TX7) (N := 5) hx hb hts iwX7_open_X7 hown hK hP (0) (wl_at (by omega) (ce_0 (by decide))) rfl 0 (by decide) (hts (.fieldLink RX7 12 "QuietStairs" "now" "LQuietStairs$House;") fwX7_open_1) (fun _ h9 => h9) rfl dX7_open_59 ?_
          refine lv_dup hx hb dX7_open_62 rfl ?_
          refine va_get (D := (dC, dI)) (ci := 1) (v := .int (v_10 (13) 2)) (C := RX1) (T := TX1) (N := 7) hx hb hts iwX7_open_X1 hown hK hP (13) (wl_at (by omega) (ce_3 (by decide))) rfl 2 (by decide) (hts (.fieldLink RX7 83 "QuietStairs$House" "caseCount" "I") fwX7_open_2) (fun _ h9 => h9) rfl dX7_open_63 ?_
          refine lv_topi (fun x_12 ex_12 => ?_)
          have bzx_12 : 0 ≤ x_12.toInt ∧ x_12.toInt ≤ 6 := by rw [ex_12]; exact hv.at (K := 3) (by decide) rfl
          rw [hk_11] at ex_12
          obtain rfl : x_6 = x_12 := (ex_12.trans ex_6.symm).symm
          refine lv_dup_x1 hx hb dX7_open_66 rfl rfl ?_
          refine lv_iconst (v := 1) hx hb dX7_open_67 (by decide) ?_
          refine lv_iadd hx hb dX7_open_68 ?_
          refine lv_topi (fun x_13 ex_13 => ?_)
          have k_1 : (1 : Int32).toInt = 1 := by decide
          have tx_13 : x_13.toInt = x_6.toInt + (1 : Int32).toInt := by rw [ex_13]; exact t_add ⟨by omega, by omega⟩
          refine va_put (D := (dC, dI)) (ci := 1) (v := .int x_13) (ty := .int) (C := RX1) (T := TX1) (N := 7) hx hb hts iwX7_open_X1 tyX1 tyX1_ok nmX1 hown hK hP hD hS (13) (wl_at (by omega) (ce_3 (by decide))) rfl 2 (by decide) (hts (.fieldLink RX7 83 "QuietStairs$House" "caseCount" "I") fwX7_open_2) (fun _ h9 => h9) rfl (by decide +kernel) rfl rfl (Nat.le_of_ble_eq_true rfl) dX7_open_69 (fun H locs hP hD hS => ?_)
          obtain ⟨v_14, ev_14⟩ : ∃ u : Nat → Nat → Int32, u = upr v_10 (13) (upd (v_10 (13)) 2 x_13) := ⟨_, rfl⟩
          have hP : va_P (dC, dI) vwCl (wl ad kv cy N v_14) H := by rw [ev_14, ← wl_put (e := _) (ce_3 (by decide))]; exact hP
          have hD : va_D A (wl ad kv cy N v_14) := by rw [ev_14, ← wl_put (e := _) (ce_3 (by decide))]; exact hD
          have hv : Iv v_14 := by rw [ev_14]; exact hv.put (K := 3) (by decide) (fun h q => by cases q; exact ⟨by omega, by omega⟩)
          have hpost : (¬ ((0 ≤ x0.toInt ∧ x0.toInt < (v 13 0).toInt) ∧ (0 ≤ x1.toInt ∧ x1.toInt < (v 13 0).toInt) ∧ x0.toInt ≠ x1.toInt) → x_6 = -1 ∧ v_14 = v) ∧ (((0 ≤ x0.toInt ∧ x0.toInt < (v 13 0).toInt) ∧ (0 ≤ x1.toInt ∧ x1.toInt < (v 13 0).toInt) ∧ x0.toInt ≠ x1.toInt) ∧ 6 ≤ (v 13 2).toInt → x_6 = -2 ∧ v_14 = v) ∧ (((0 ≤ x0.toInt ∧ x0.toInt < (v 13 0).toInt) ∧ (0 ≤ x1.toInt ∧ x1.toInt < (v 13 0).toInt) ∧ x0.toInt ≠ x1.toInt) ∧ (v 13 2).toInt < 6 → x_6 = v 13 2 ∧ (∀ k j : Nat, v_14 k j = if k = 13 ∧ j = 2 then v 13 2 + 1 else if 36 + 15 * (v 13 2).toNatClampNeg ≤ k ∧ (k : Int) < 36 + 15 * ((v 13 2).toNatClampNeg : Int) + 2 ∧ j < 24 then 7 else if k = 31 + 15 * (v 13 2).toNatClampNeg ∧ (j : Int) < 2 then -1 else if k = 30 + 15 * (v 13 2).toNatClampNeg ∧ j = 1 then x1 else if k = 30 + 15 * (v 13 2).toNatClampNeg ∧ j = 0 then x0 else if k = 29 + 15 * (v 13 2).toNatClampNeg ∧ j = 5 then 0 else if k = 29 + 15 * (v 13 2).toNatClampNeg ∧ j = 4 then 0 else if k = 29 + 15 * (v 13 2).toNatClampNeg ∧ j = 3 then 1 else if k = 29 + 15 * (v 13 2).toNatClampNeg ∧ j = 2 then 0 else if k = 29 + 15 * (v 13 2).toNatClampNeg ∧ j = 1 then 0 else if k = 29 + 15 * (v 13 2).toNatClampNeg ∧ j = 0 then 0 else v k j)) := by
            refine ⟨fun hq => ?_, fun hq => ?_, fun hq => ?_⟩
            · exfalso; omega
            · exfalso; omega
            · exact ⟨by rw [ex_6], fun k j => by rw [ev_14, up2, hw_10, ex_13, ex_6]⟩
          exact W.iret (v := x_6) hx hb hr (fun t ht hW => ⟨⟨x_6, v_14, rfl, ⟨hv, hpost⟩, by rw [ht]; exact hP, hD⟩, hS.F ht⟩) hS.2.2 dX7_open_72
        · have tc_7 : x_6.toInt ≥ (6 : Int32).toInt := Int32.le_iff_toInt_le.mp (Int32.not_lt.mp c_7)
          refine lv_bipush (v := (-2)) hx hb dX7_open_35 (by decide) ?_
          have hpost : (¬ ((0 ≤ x0.toInt ∧ x0.toInt < (v 13 0).toInt) ∧ (0 ≤ x1.toInt ∧ x1.toInt < (v 13 0).toInt) ∧ x0.toInt ≠ x1.toInt) → ((-2) : Int32) = -1 ∧ v = v) ∧ (((0 ≤ x0.toInt ∧ x0.toInt < (v 13 0).toInt) ∧ (0 ≤ x1.toInt ∧ x1.toInt < (v 13 0).toInt) ∧ x0.toInt ≠ x1.toInt) ∧ 6 ≤ (v 13 2).toInt → ((-2) : Int32) = -2 ∧ v = v) ∧ (((0 ≤ x0.toInt ∧ x0.toInt < (v 13 0).toInt) ∧ (0 ≤ x1.toInt ∧ x1.toInt < (v 13 0).toInt) ∧ x0.toInt ≠ x1.toInt) ∧ (v 13 2).toInt < 6 → ((-2) : Int32) = v 13 2 ∧ (∀ k j : Nat, v k j = if k = 13 ∧ j = 2 then v 13 2 + 1 else if 36 + 15 * (v 13 2).toNatClampNeg ≤ k ∧ (k : Int) < 36 + 15 * ((v 13 2).toNatClampNeg : Int) + 2 ∧ j < 24 then 7 else if k = 31 + 15 * (v 13 2).toNatClampNeg ∧ (j : Int) < 2 then -1 else if k = 30 + 15 * (v 13 2).toNatClampNeg ∧ j = 1 then x1 else if k = 30 + 15 * (v 13 2).toNatClampNeg ∧ j = 0 then x0 else if k = 29 + 15 * (v 13 2).toNatClampNeg ∧ j = 5 then 0 else if k = 29 + 15 * (v 13 2).toNatClampNeg ∧ j = 4 then 0 else if k = 29 + 15 * (v 13 2).toNatClampNeg ∧ j = 3 then 1 else if k = 29 + 15 * (v 13 2).toNatClampNeg ∧ j = 2 then 0 else if k = 29 + 15 * (v 13 2).toNatClampNeg ∧ j = 1 then 0 else if k = 29 + 15 * (v 13 2).toNatClampNeg ∧ j = 0 then 0 else v k j)) := by
            refine ⟨fun hq => ?_, fun hq => ?_, fun hq => ?_⟩
            · exfalso; omega
            · exact ⟨rfl, rfl⟩
            · exfalso; omega
          exact W.iret (v := (-2)) hx hb hr (fun t ht hW => ⟨⟨(-2), v, rfl, ⟨hv, hpost⟩, by rw [ht]; exact hP, hD⟩, hS.F ht⟩) hS.2.2 dX7_open_37
      · have tc_5 : x0.toInt = x1.toInt := by rw [c_5]
        refine lv_iconst (v := (-1)) hx hb dX7_open_21 (by decide) ?_
        have hpost : (¬ ((0 ≤ x0.toInt ∧ x0.toInt < (v 13 0).toInt) ∧ (0 ≤ x1.toInt ∧ x1.toInt < (v 13 0).toInt) ∧ x0.toInt ≠ x1.toInt) → ((-1) : Int32) = -1 ∧ v = v) ∧ (((0 ≤ x0.toInt ∧ x0.toInt < (v 13 0).toInt) ∧ (0 ≤ x1.toInt ∧ x1.toInt < (v 13 0).toInt) ∧ x0.toInt ≠ x1.toInt) ∧ 6 ≤ (v 13 2).toInt → ((-1) : Int32) = -2 ∧ v = v) ∧ (((0 ≤ x0.toInt ∧ x0.toInt < (v 13 0).toInt) ∧ (0 ≤ x1.toInt ∧ x1.toInt < (v 13 0).toInt) ∧ x0.toInt ≠ x1.toInt) ∧ (v 13 2).toInt < 6 → ((-1) : Int32) = v 13 2 ∧ (∀ k j : Nat, v k j = if k = 13 ∧ j = 2 then v 13 2 + 1 else if 36 + 15 * (v 13 2).toNatClampNeg ≤ k ∧ (k : Int) < 36 + 15 * ((v 13 2).toNatClampNeg : Int) + 2 ∧ j < 24 then 7 else if k = 31 + 15 * (v 13 2).toNatClampNeg ∧ (j : Int) < 2 then -1 else if k = 30 + 15 * (v 13 2).toNatClampNeg ∧ j = 1 then x1 else if k = 30 + 15 * (v 13 2).toNatClampNeg ∧ j = 0 then x0 else if k = 29 + 15 * (v 13 2).toNatClampNeg ∧ j = 5 then 0 else if k = 29 + 15 * (v 13 2).toNatClampNeg ∧ j = 4 then 0 else if k = 29 + 15 * (v 13 2).toNatClampNeg ∧ j = 3 then 1 else if k = 29 + 15 * (v 13 2).toNatClampNeg ∧ j = 2 then 0 else if k = 29 + 15 * (v 13 2).toNatClampNeg ∧ j = 1 then 0 else if k = 29 + 15 * (v 13 2).toNatClampNeg ∧ j = 0 then 0 else v k j)) := by
          refine ⟨fun hq => ?_, fun hq => ?_, fun hq => ?_⟩
          · exact ⟨rfl, rfl⟩
          · exfalso; omega
          · exfalso; omega
        exact W.iret (v := (-1)) hx hb hr (fun t ht hW => ⟨⟨(-1), v, rfl, ⟨hv, hpost⟩, by rw [ht]; exact hP, hD⟩, hS.F ht⟩) hS.2.2 dX7_open_22
    · refine lv_if_eq (tgt := 21) hx hb dX7_open_13 (by decide) (fun _ => ?_) (fun c9 => absurd c9 (by decide))
      refine lv_iconst (v := (-1)) hx hb dX7_open_21 (by decide) ?_
      have hpost : (¬ ((0 ≤ x0.toInt ∧ x0.toInt < (v 13 0).toInt) ∧ (0 ≤ x1.toInt ∧ x1.toInt < (v 13 0).toInt) ∧ x0.toInt ≠ x1.toInt) → ((-1) : Int32) = -1 ∧ v = v) ∧ (((0 ≤ x0.toInt ∧ x0.toInt < (v 13 0).toInt) ∧ (0 ≤ x1.toInt ∧ x1.toInt < (v 13 0).toInt) ∧ x0.toInt ≠ x1.toInt) ∧ 6 ≤ (v 13 2).toInt → ((-1) : Int32) = -2 ∧ v = v) ∧ (((0 ≤ x0.toInt ∧ x0.toInt < (v 13 0).toInt) ∧ (0 ≤ x1.toInt ∧ x1.toInt < (v 13 0).toInt) ∧ x0.toInt ≠ x1.toInt) ∧ (v 13 2).toInt < 6 → ((-1) : Int32) = v 13 2 ∧ (∀ k j : Nat, v k j = if k = 13 ∧ j = 2 then v 13 2 + 1 else if 36 + 15 * (v 13 2).toNatClampNeg ≤ k ∧ (k : Int) < 36 + 15 * ((v 13 2).toNatClampNeg : Int) + 2 ∧ j < 24 then 7 else if k = 31 + 15 * (v 13 2).toNatClampNeg ∧ (j : Int) < 2 then -1 else if k = 30 + 15 * (v 13 2).toNatClampNeg ∧ j = 1 then x1 else if k = 30 + 15 * (v 13 2).toNatClampNeg ∧ j = 0 then x0 else if k = 29 + 15 * (v 13 2).toNatClampNeg ∧ j = 5 then 0 else if k = 29 + 15 * (v 13 2).toNatClampNeg ∧ j = 4 then 0 else if k = 29 + 15 * (v 13 2).toNatClampNeg ∧ j = 3 then 1 else if k = 29 + 15 * (v 13 2).toNatClampNeg ∧ j = 2 then 0 else if k = 29 + 15 * (v 13 2).toNatClampNeg ∧ j = 1 then 0 else if k = 29 + 15 * (v 13 2).toNatClampNeg ∧ j = 0 then 0 else v k j)) := by
        refine ⟨fun hq => ?_, fun hq => ?_, fun hq => ?_⟩
        · exact ⟨rfl, rfl⟩
        · exfalso; omega
        · exfalso; omega
      exact W.iret (v := (-1)) hx hb hr (fun t ht hW => ⟨⟨(-1), v, rfl, ⟨hv, hpost⟩, by rw [ht]; exact hP, hD⟩, hS.F ht⟩) hS.2.2 dX7_open_22
  · refine lv_if_eq (tgt := 21) hx hb dX7_open_5 (by decide) (fun _ => ?_) (fun c9 => absurd c9 (by decide))
    refine lv_iconst (v := (-1)) hx hb dX7_open_21 (by decide) ?_
    have hpost : (¬ ((0 ≤ x0.toInt ∧ x0.toInt < (v 13 0).toInt) ∧ (0 ≤ x1.toInt ∧ x1.toInt < (v 13 0).toInt) ∧ x0.toInt ≠ x1.toInt) → ((-1) : Int32) = -1 ∧ v = v) ∧ (((0 ≤ x0.toInt ∧ x0.toInt < (v 13 0).toInt) ∧ (0 ≤ x1.toInt ∧ x1.toInt < (v 13 0).toInt) ∧ x0.toInt ≠ x1.toInt) ∧ 6 ≤ (v 13 2).toInt → ((-1) : Int32) = -2 ∧ v = v) ∧ (((0 ≤ x0.toInt ∧ x0.toInt < (v 13 0).toInt) ∧ (0 ≤ x1.toInt ∧ x1.toInt < (v 13 0).toInt) ∧ x0.toInt ≠ x1.toInt) ∧ (v 13 2).toInt < 6 → ((-1) : Int32) = v 13 2 ∧ (∀ k j : Nat, v k j = if k = 13 ∧ j = 2 then v 13 2 + 1 else if 36 + 15 * (v 13 2).toNatClampNeg ≤ k ∧ (k : Int) < 36 + 15 * ((v 13 2).toNatClampNeg : Int) + 2 ∧ j < 24 then 7 else if k = 31 + 15 * (v 13 2).toNatClampNeg ∧ (j : Int) < 2 then -1 else if k = 30 + 15 * (v 13 2).toNatClampNeg ∧ j = 1 then x1 else if k = 30 + 15 * (v 13 2).toNatClampNeg ∧ j = 0 then x0 else if k = 29 + 15 * (v 13 2).toNatClampNeg ∧ j = 5 then 0 else if k = 29 + 15 * (v 13 2).toNatClampNeg ∧ j = 4 then 0 else if k = 29 + 15 * (v 13 2).toNatClampNeg ∧ j = 3 then 1 else if k = 29 + 15 * (v 13 2).toNatClampNeg ∧ j = 2 then 0 else if k = 29 + 15 * (v 13 2).toNatClampNeg ∧ j = 1 then 0 else if k = 29 + 15 * (v 13 2).toNatClampNeg ∧ j = 0 then 0 else v k j)) := by
      refine ⟨fun hq => ?_, fun hq => ?_, fun hq => ?_⟩
      · exact ⟨rfl, rfl⟩
      · exfalso; omega
      · exfalso; omega
    exact W.iret (v := (-1)) hx hb hr (fun t ht hW => ⟨⟨(-1), v, rfl, ⟨hv, hpost⟩, by rw [ht]; exact hP, hD⟩, hS.F ht⟩) hS.2.2 dX7_open_22
