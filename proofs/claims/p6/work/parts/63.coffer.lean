set_option maxRecDepth 20000 in
theorem db_X0_endRound_0 : (decode cX0_endRound 0 = .ok (.aload_n 0, 1)) ∧ (decode cX0_endRound 1 = .ok (.getfield 15, 3)) ∧ (decode cX0_endRound 4 = .ok (.iconst 0, 1)) ∧ (decode cX0_endRound 5 = .ok (.iaload, 1)) ∧ (decode cX0_endRound 6 = .ok (.istore_n 1, 1)) ∧ (decode cX0_endRound 7 = .ok (.aload_n 0, 1)) ∧ (decode cX0_endRound 8 = .ok (.getfield 15, 3)) ∧ (decode cX0_endRound 11 = .ok (.iconst 1, 1)) := by decide +kernel
theorem dX0_endRound_0 : decode cX0_endRound 0 = .ok (.aload_n 0, 1) := db_X0_endRound_0.1
theorem dX0_endRound_1 : decode cX0_endRound 1 = .ok (.getfield 15, 3) := db_X0_endRound_0.2.1
theorem dX0_endRound_4 : decode cX0_endRound 4 = .ok (.iconst 0, 1) := db_X0_endRound_0.2.2.1
theorem dX0_endRound_5 : decode cX0_endRound 5 = .ok (.iaload, 1) := db_X0_endRound_0.2.2.2.1
theorem dX0_endRound_6 : decode cX0_endRound 6 = .ok (.istore_n 1, 1) := db_X0_endRound_0.2.2.2.2.1
theorem dX0_endRound_7 : decode cX0_endRound 7 = .ok (.aload_n 0, 1) := db_X0_endRound_0.2.2.2.2.2.1
theorem dX0_endRound_8 : decode cX0_endRound 8 = .ok (.getfield 15, 3) := db_X0_endRound_0.2.2.2.2.2.2.1
theorem dX0_endRound_11 : decode cX0_endRound 11 = .ok (.iconst 1, 1) := db_X0_endRound_0.2.2.2.2.2.2.2
set_option maxRecDepth 20000 in
theorem db_X0_endRound_12 : (decode cX0_endRound 12 = .ok (.iaload, 1)) ∧ (decode cX0_endRound 13 = .ok (.istore_n 2, 1)) ∧ (decode cX0_endRound 14 = .ok (.aload_n 0, 1)) ∧ (decode cX0_endRound 15 = .ok (.getfield 40, 3)) ∧ (decode cX0_endRound 18 = .ok (.iconst 5, 1)) ∧ (decode cX0_endRound 19 = .ok (.if_icmp .ge 37, 3)) ∧ (decode cX0_endRound 22 = .ok (.aload_n 0, 1)) ∧ (decode cX0_endRound 23 = .ok (.getfield 20, 3)) := by decide +kernel
theorem dX0_endRound_12 : decode cX0_endRound 12 = .ok (.iaload, 1) := db_X0_endRound_12.1
theorem dX0_endRound_13 : decode cX0_endRound 13 = .ok (.istore_n 2, 1) := db_X0_endRound_12.2.1
theorem dX0_endRound_14 : decode cX0_endRound 14 = .ok (.aload_n 0, 1) := db_X0_endRound_12.2.2.1
theorem dX0_endRound_15 : decode cX0_endRound 15 = .ok (.getfield 40, 3) := db_X0_endRound_12.2.2.2.1
theorem dX0_endRound_18 : decode cX0_endRound 18 = .ok (.iconst 5, 1) := db_X0_endRound_12.2.2.2.2.1
theorem dX0_endRound_19 : decode cX0_endRound 19 = .ok (.if_icmp .ge 37, 3) := db_X0_endRound_12.2.2.2.2.2.1
theorem dX0_endRound_22 : decode cX0_endRound 22 = .ok (.aload_n 0, 1) := db_X0_endRound_12.2.2.2.2.2.2.1
theorem dX0_endRound_23 : decode cX0_endRound 23 = .ok (.getfield 20, 3) := db_X0_endRound_12.2.2.2.2.2.2.2
set_option maxRecDepth 20000 in
theorem db_X0_endRound_26 : (decode cX0_endRound 26 = .ok (.iconst 0, 1)) ∧ (decode cX0_endRound 27 = .ok (.aaload, 1)) ∧ (decode cX0_endRound 28 = .ok (.aload_n 0, 1)) ∧ (decode cX0_endRound 29 = .ok (.getfield 40, 3)) ∧ (decode cX0_endRound 32 = .ok (.iload_n 1, 1)) ∧ (decode cX0_endRound 33 = .ok (.iastore, 1)) ∧ (decode cX0_endRound 34 = .ok (.aload_n 0, 1)) ∧ (decode cX0_endRound 35 = .ok (.getfield 20, 3)) := by decide +kernel
theorem dX0_endRound_26 : decode cX0_endRound 26 = .ok (.iconst 0, 1) := db_X0_endRound_26.1
theorem dX0_endRound_27 : decode cX0_endRound 27 = .ok (.aaload, 1) := db_X0_endRound_26.2.1
theorem dX0_endRound_28 : decode cX0_endRound 28 = .ok (.aload_n 0, 1) := db_X0_endRound_26.2.2.1
theorem dX0_endRound_29 : decode cX0_endRound 29 = .ok (.getfield 40, 3) := db_X0_endRound_26.2.2.2.1
theorem dX0_endRound_32 : decode cX0_endRound 32 = .ok (.iload_n 1, 1) := db_X0_endRound_26.2.2.2.2.1
theorem dX0_endRound_33 : decode cX0_endRound 33 = .ok (.iastore, 1) := db_X0_endRound_26.2.2.2.2.2.1
theorem dX0_endRound_34 : decode cX0_endRound 34 = .ok (.aload_n 0, 1) := db_X0_endRound_26.2.2.2.2.2.2.1
theorem dX0_endRound_35 : decode cX0_endRound 35 = .ok (.getfield 20, 3) := db_X0_endRound_26.2.2.2.2.2.2.2
set_option maxRecDepth 20000 in
theorem db_X0_endRound_38 : (decode cX0_endRound 38 = .ok (.iconst 1, 1)) ∧ (decode cX0_endRound 39 = .ok (.aaload, 1)) ∧ (decode cX0_endRound 40 = .ok (.aload_n 0, 1)) ∧ (decode cX0_endRound 41 = .ok (.getfield 40, 3)) ∧ (decode cX0_endRound 44 = .ok (.iload_n 2, 1)) ∧ (decode cX0_endRound 45 = .ok (.iastore, 1)) ∧ (decode cX0_endRound 46 = .ok (.aload_n 0, 1)) ∧ (decode cX0_endRound 47 = .ok (.dup, 1)) := by decide +kernel
theorem dX0_endRound_38 : decode cX0_endRound 38 = .ok (.iconst 1, 1) := db_X0_endRound_38.1
theorem dX0_endRound_39 : decode cX0_endRound 39 = .ok (.aaload, 1) := db_X0_endRound_38.2.1
theorem dX0_endRound_40 : decode cX0_endRound 40 = .ok (.aload_n 0, 1) := db_X0_endRound_38.2.2.1
theorem dX0_endRound_41 : decode cX0_endRound 41 = .ok (.getfield 40, 3) := db_X0_endRound_38.2.2.2.1
theorem dX0_endRound_44 : decode cX0_endRound 44 = .ok (.iload_n 2, 1) := db_X0_endRound_38.2.2.2.2.1
theorem dX0_endRound_45 : decode cX0_endRound 45 = .ok (.iastore, 1) := db_X0_endRound_38.2.2.2.2.2.1
theorem dX0_endRound_46 : decode cX0_endRound 46 = .ok (.aload_n 0, 1) := db_X0_endRound_38.2.2.2.2.2.2.1
theorem dX0_endRound_47 : decode cX0_endRound 47 = .ok (.dup, 1) := db_X0_endRound_38.2.2.2.2.2.2.2
set_option maxRecDepth 20000 in
theorem db_X0_endRound_48 : (decode cX0_endRound 48 = .ok (.getfield 40, 3)) ∧ (decode cX0_endRound 51 = .ok (.iconst 1, 1)) ∧ (decode cX0_endRound 52 = .ok (.iadd, 1)) ∧ (decode cX0_endRound 53 = .ok (.putfield 40, 3)) ∧ (decode cX0_endRound 56 = .ok (.iload_n 2, 1)) ∧ (decode cX0_endRound 57 = .ok (.iload_n 1, 1)) ∧ (decode cX0_endRound 58 = .ok (.if_icmp .lt 19, 3)) ∧ (decode cX0_endRound 77 = .ok (.aload_n 0, 1)) := by decide +kernel
theorem dX0_endRound_48 : decode cX0_endRound 48 = .ok (.getfield 40, 3) := db_X0_endRound_48.1
theorem dX0_endRound_51 : decode cX0_endRound 51 = .ok (.iconst 1, 1) := db_X0_endRound_48.2.1
theorem dX0_endRound_52 : decode cX0_endRound 52 = .ok (.iadd, 1) := db_X0_endRound_48.2.2.1
theorem dX0_endRound_53 : decode cX0_endRound 53 = .ok (.putfield 40, 3) := db_X0_endRound_48.2.2.2.1
theorem dX0_endRound_56 : decode cX0_endRound 56 = .ok (.iload_n 2, 1) := db_X0_endRound_48.2.2.2.2.1
theorem dX0_endRound_57 : decode cX0_endRound 57 = .ok (.iload_n 1, 1) := db_X0_endRound_48.2.2.2.2.2.1
theorem dX0_endRound_58 : decode cX0_endRound 58 = .ok (.if_icmp .lt 19, 3) := db_X0_endRound_48.2.2.2.2.2.2.1
theorem dX0_endRound_77 : decode cX0_endRound 77 = .ok (.aload_n 0, 1) := db_X0_endRound_48.2.2.2.2.2.2.2
set_option maxRecDepth 20000 in
theorem db_X0_endRound_78 : (decode cX0_endRound 78 = .ok (.getfield 15, 3)) ∧ (decode cX0_endRound 81 = .ok (.iconst 0, 1)) ∧ (decode cX0_endRound 82 = .ok (.iconst (-1), 1)) ∧ (decode cX0_endRound 83 = .ok (.iastore, 1)) ∧ (decode cX0_endRound 84 = .ok (.aload_n 0, 1)) ∧ (decode cX0_endRound 85 = .ok (.getfield 15, 3)) ∧ (decode cX0_endRound 88 = .ok (.iconst 1, 1)) ∧ (decode cX0_endRound 89 = .ok (.iconst (-1), 1)) := by decide +kernel
theorem dX0_endRound_78 : decode cX0_endRound 78 = .ok (.getfield 15, 3) := db_X0_endRound_78.1
theorem dX0_endRound_81 : decode cX0_endRound 81 = .ok (.iconst 0, 1) := db_X0_endRound_78.2.1
theorem dX0_endRound_82 : decode cX0_endRound 82 = .ok (.iconst (-1), 1) := db_X0_endRound_78.2.2.1
theorem dX0_endRound_83 : decode cX0_endRound 83 = .ok (.iastore, 1) := db_X0_endRound_78.2.2.2.1
theorem dX0_endRound_84 : decode cX0_endRound 84 = .ok (.aload_n 0, 1) := db_X0_endRound_78.2.2.2.2.1
theorem dX0_endRound_85 : decode cX0_endRound 85 = .ok (.getfield 15, 3) := db_X0_endRound_78.2.2.2.2.2.1
theorem dX0_endRound_88 : decode cX0_endRound 88 = .ok (.iconst 1, 1) := db_X0_endRound_78.2.2.2.2.2.2.1
theorem dX0_endRound_89 : decode cX0_endRound 89 = .ok (.iconst (-1), 1) := db_X0_endRound_78.2.2.2.2.2.2.2
set_option maxRecDepth 20000 in
theorem db_X0_endRound_90 : (decode cX0_endRound 90 = .ok (.iastore, 1)) ∧ (decode cX0_endRound 91 = .ok (.iconst 0, 1)) ∧ (decode cX0_endRound 92 = .ok (.ireturn, 1)) ∧ (decode cX0_endRound 61 = .ok (.aload_n 0, 1)) ∧ (decode cX0_endRound 62 = .ok (.iconst 1, 1)) ∧ (decode cX0_endRound 63 = .ok (.putfield 33, 3)) ∧ (decode cX0_endRound 66 = .ok (.aload_n 0, 1)) ∧ (decode cX0_endRound 67 = .ok (.iload_n 1, 1)) := by decide +kernel
theorem dX0_endRound_90 : decode cX0_endRound 90 = .ok (.iastore, 1) := db_X0_endRound_90.1
theorem dX0_endRound_91 : decode cX0_endRound 91 = .ok (.iconst 0, 1) := db_X0_endRound_90.2.1
theorem dX0_endRound_92 : decode cX0_endRound 92 = .ok (.ireturn, 1) := db_X0_endRound_90.2.2.1
theorem dX0_endRound_61 : decode cX0_endRound 61 = .ok (.aload_n 0, 1) := db_X0_endRound_90.2.2.2.1
theorem dX0_endRound_62 : decode cX0_endRound 62 = .ok (.iconst 1, 1) := db_X0_endRound_90.2.2.2.2.1
theorem dX0_endRound_63 : decode cX0_endRound 63 = .ok (.putfield 33, 3) := db_X0_endRound_90.2.2.2.2.2.1
theorem dX0_endRound_66 : decode cX0_endRound 66 = .ok (.aload_n 0, 1) := db_X0_endRound_90.2.2.2.2.2.2.1
theorem dX0_endRound_67 : decode cX0_endRound 67 = .ok (.iload_n 1, 1) := db_X0_endRound_90.2.2.2.2.2.2.2
set_option maxRecDepth 20000 in
theorem db_X0_endRound_68 : (decode cX0_endRound 68 = .ok (.iload_n 2, 1)) ∧ (decode cX0_endRound 69 = .ok (.iadd, 1)) ∧ (decode cX0_endRound 70 = .ok (.iconst 2, 1)) ∧ (decode cX0_endRound 71 = .ok (.idiv, 1)) ∧ (decode cX0_endRound 72 = .ok (.putfield 37, 3)) ∧ (decode cX0_endRound 75 = .ok (.iconst 1, 1)) ∧ (decode cX0_endRound 76 = .ok (.ireturn, 1)) := by decide +kernel
theorem dX0_endRound_68 : decode cX0_endRound 68 = .ok (.iload_n 2, 1) := db_X0_endRound_68.1
theorem dX0_endRound_69 : decode cX0_endRound 69 = .ok (.iadd, 1) := db_X0_endRound_68.2.1
theorem dX0_endRound_70 : decode cX0_endRound 70 = .ok (.iconst 2, 1) := db_X0_endRound_68.2.2.1
theorem dX0_endRound_71 : decode cX0_endRound 71 = .ok (.idiv, 1) := db_X0_endRound_68.2.2.2.1
theorem dX0_endRound_72 : decode cX0_endRound 72 = .ok (.putfield 37, 3) := db_X0_endRound_68.2.2.2.2.1
theorem dX0_endRound_75 : decode cX0_endRound 75 = .ok (.iconst 1, 1) := db_X0_endRound_68.2.2.2.2.2.1
theorem dX0_endRound_76 : decode cX0_endRound 76 = .ok (.ireturn, 1) := db_X0_endRound_68.2.2.2.2.2.2
set_option maxRecDepth 20000 in
theorem db_X7_offer_0 : (decode cX7_offer 0 = .ok (.aload_n 0, 1)) ∧ (decode cX7_offer 1 = .ok (.iload_n 1, 1)) ∧ (decode cX7_offer 2 = .ok (.invokevirtual 96, 3)) ∧ (decode cX7_offer 5 = .ok (.ifCond .eq 20, 3)) ∧ (decode cX7_offer 8 = .ok (.iload_n 2, 1)) ∧ (decode cX7_offer 9 = .ok (.invokestatic 132, 3)) ∧ (decode cX7_offer 12 = .ok (.ifCond .eq 13, 3)) ∧ (decode cX7_offer 15 = .ok (.iload_n 3, 1)) := by decide +kernel
theorem dX7_offer_0 : decode cX7_offer 0 = .ok (.aload_n 0, 1) := db_X7_offer_0.1
theorem dX7_offer_1 : decode cX7_offer 1 = .ok (.iload_n 1, 1) := db_X7_offer_0.2.1
set_option maxRecDepth 20000 in
theorem ggX7_offer_X7_isCase : GoodIn wsX7_offer wsX7_isCase := goodIn_r _ [10, 1, 11, 12, 13, 9, 14, 28, 29, 30, 31, 32, 33, 34, 35, 36, 37, 38, 39] rfl (by decide +kernel)
set_option maxRecDepth 20000 in
theorem gX7_offer_X7_isCase : GoodIn wsX7_offer (wsV RX7 96 RX7 yX7_isCase wsX7_isCase) := goodIn_app (goodIn_r _ [6, 7, 8, 9] rfl (by decide +kernel)) ggX7_offer_X7_isCase
theorem dX7_offer_2 : decode cX7_offer 2 = .ok (.invokevirtual 96, 3) := db_X7_offer_0.2.2.1
theorem dX7_offer_5 : decode cX7_offer 5 = .ok (.ifCond .eq 20, 3) := db_X7_offer_0.2.2.2.1
theorem dX7_offer_8 : decode cX7_offer 8 = .ok (.iload_n 2, 1) := db_X7_offer_0.2.2.2.2.1
set_option maxRecDepth 20000 in
theorem ggX7_offer_X7_isSide : GoodIn wsX7_offer wsX7_isSide := goodIn_r _ [17, 12, 13, 9, 14] rfl (by decide +kernel)
set_option maxRecDepth 20000 in
theorem gX7_offer_X7_isSide : GoodIn wsX7_offer (va_wsS RX7 132 yX7_isSide wsX7_isSide) := goodIn_app (goodIn_r _ [15, 16, 9] rfl (by decide +kernel)) ggX7_offer_X7_isSide
theorem dX7_offer_9 : decode cX7_offer 9 = .ok (.invokestatic 132, 3) := db_X7_offer_0.2.2.2.2.2.1
theorem dX7_offer_12 : decode cX7_offer 12 = .ok (.ifCond .eq 13, 3) := db_X7_offer_0.2.2.2.2.2.2.1
theorem dX7_offer_15 : decode cX7_offer 15 = .ok (.iload_n 3, 1) := db_X7_offer_0.2.2.2.2.2.2.2
set_option maxRecDepth 20000 in
theorem db_X7_offer_16 : (decode cX7_offer 16 = .ok (.iconst 0, 1)) ∧ (decode cX7_offer 17 = .ok (.bipush 100, 2)) ∧ (decode cX7_offer 19 = .ok (.invokestatic 37, 3)) ∧ (decode cX7_offer 22 = .ok (.ifCond .ne 5, 3)) ∧ (decode cX7_offer 27 = .ok (.aload_n 0, 1)) ∧ (decode cX7_offer 28 = .ok (.getfield 12, 3)) ∧ (decode cX7_offer 31 = .ok (.getfield 86, 3)) ∧ (decode cX7_offer 34 = .ok (.iload_n 1, 1)) := by decide +kernel
theorem dX7_offer_16 : decode cX7_offer 16 = .ok (.iconst 0, 1) := db_X7_offer_16.1
theorem dX7_offer_17 : decode cX7_offer 17 = .ok (.bipush 100, 2) := db_X7_offer_16.2.1
set_option maxRecDepth 20000 in
theorem ggX7_offer_X7_isWithin : GoodIn wsX7_offer wsX7_isWithin := goodIn_r _ [14] rfl (by decide +kernel)
set_option maxRecDepth 20000 in
theorem gX7_offer_X7_isWithin : GoodIn wsX7_offer (va_wsS RX7 37 yX7_isWithin wsX7_isWithin) := goodIn_app (goodIn_r _ [12, 13, 9] rfl (by decide +kernel)) ggX7_offer_X7_isWithin
theorem dX7_offer_19 : decode cX7_offer 19 = .ok (.invokestatic 37, 3) := db_X7_offer_16.2.2.1
theorem dX7_offer_22 : decode cX7_offer 22 = .ok (.ifCond .ne 5, 3) := db_X7_offer_16.2.2.2.1
theorem dX7_offer_27 : decode cX7_offer 27 = .ok (.aload_n 0, 1) := db_X7_offer_16.2.2.2.2.1
theorem dX7_offer_28 : decode cX7_offer 28 = .ok (.getfield 12, 3) := db_X7_offer_16.2.2.2.2.2.1
theorem dX7_offer_31 : decode cX7_offer 31 = .ok (.getfield 86, 3) := db_X7_offer_16.2.2.2.2.2.2.1
theorem dX7_offer_34 : decode cX7_offer 34 = .ok (.iload_n 1, 1) := db_X7_offer_16.2.2.2.2.2.2.2
set_option maxRecDepth 20000 in
theorem db_X7_offer_35 : (decode cX7_offer 35 = .ok (.aaload, 1)) ∧ (decode cX7_offer 36 = .ok (.astore 4, 2)) ∧ (decode cX7_offer 38 = .ok (.aload 4, 2)) ∧ (decode cX7_offer 40 = .ok (.getfield 99, 3)) ∧ (decode cX7_offer 43 = .ok (.ifCond .eq 6, 3)) ∧ (decode cX7_offer 49 = .ok (.aload 4, 2)) ∧ (decode cX7_offer 51 = .ok (.getfield 135, 3)) ∧ (decode cX7_offer 54 = .ok (.iload_n 2, 1)) := by decide +kernel
theorem dX7_offer_35 : decode cX7_offer 35 = .ok (.aaload, 1) := db_X7_offer_35.1
theorem dX7_offer_36 : decode cX7_offer 36 = .ok (.astore 4, 2) := db_X7_offer_35.2.1
theorem dX7_offer_38 : decode cX7_offer 38 = .ok (.aload 4, 2) := db_X7_offer_35.2.2.1
theorem dX7_offer_40 : decode cX7_offer 40 = .ok (.getfield 99, 3) := db_X7_offer_35.2.2.2.1
theorem dX7_offer_43 : decode cX7_offer 43 = .ok (.ifCond .eq 6, 3) := db_X7_offer_35.2.2.2.2.1
theorem dX7_offer_49 : decode cX7_offer 49 = .ok (.aload 4, 2) := db_X7_offer_35.2.2.2.2.2.1
theorem dX7_offer_51 : decode cX7_offer 51 = .ok (.getfield 135, 3) := db_X7_offer_35.2.2.2.2.2.2.1
theorem dX7_offer_54 : decode cX7_offer 54 = .ok (.iload_n 2, 1) := db_X7_offer_35.2.2.2.2.2.2.2
set_option maxRecDepth 20000 in
theorem db_X7_offer_55 : (decode cX7_offer 55 = .ok (.iaload, 1)) ∧ (decode cX7_offer 56 = .ok (.iconst (-1), 1)) ∧ (decode cX7_offer 57 = .ok (.if_icmp .eq 6, 3)) ∧ (decode cX7_offer 63 = .ok (.aload 4, 2)) ∧ (decode cX7_offer 65 = .ok (.getfield 117, 3)) ∧ (decode cX7_offer 68 = .ok (.iconst 5, 1)) ∧ (decode cX7_offer 69 = .ok (.if_icmp .lt 6, 3)) ∧ (decode cX7_offer 75 = .ok (.aload 4, 2)) := by decide +kernel
theorem dX7_offer_55 : decode cX7_offer 55 = .ok (.iaload, 1) := db_X7_offer_55.1
theorem dX7_offer_56 : decode cX7_offer 56 = .ok (.iconst (-1), 1) := db_X7_offer_55.2.1
theorem dX7_offer_57 : decode cX7_offer 57 = .ok (.if_icmp .eq 6, 3) := db_X7_offer_55.2.2.1
theorem dX7_offer_63 : decode cX7_offer 63 = .ok (.aload 4, 2) := db_X7_offer_55.2.2.2.1
theorem dX7_offer_65 : decode cX7_offer 65 = .ok (.getfield 117, 3) := db_X7_offer_55.2.2.2.2.1
theorem dX7_offer_68 : decode cX7_offer 68 = .ok (.iconst 5, 1) := db_X7_offer_55.2.2.2.2.2.1
theorem dX7_offer_69 : decode cX7_offer 69 = .ok (.if_icmp .lt 6, 3) := db_X7_offer_55.2.2.2.2.2.2.1
theorem dX7_offer_75 : decode cX7_offer 75 = .ok (.aload 4, 2) := db_X7_offer_55.2.2.2.2.2.2.2
set_option maxRecDepth 20000 in
theorem db_X7_offer_77 : (decode cX7_offer 77 = .ok (.getfield 135, 3)) ∧ (decode cX7_offer 80 = .ok (.iload_n 2, 1)) ∧ (decode cX7_offer 81 = .ok (.iload_n 3, 1)) ∧ (decode cX7_offer 82 = .ok (.iastore, 1)) ∧ (decode cX7_offer 83 = .ok (.aload 4, 2)) ∧ (decode cX7_offer 85 = .ok (.getfield 135, 3)) ∧ (decode cX7_offer 88 = .ok (.iconst 1, 1)) ∧ (decode cX7_offer 89 = .ok (.iload_n 2, 1)) := by decide +kernel
theorem dX7_offer_77 : decode cX7_offer 77 = .ok (.getfield 135, 3) := db_X7_offer_77.1
theorem dX7_offer_80 : decode cX7_offer 80 = .ok (.iload_n 2, 1) := db_X7_offer_77.2.1
theorem dX7_offer_81 : decode cX7_offer 81 = .ok (.iload_n 3, 1) := db_X7_offer_77.2.2.1
theorem dX7_offer_82 : decode cX7_offer 82 = .ok (.iastore, 1) := db_X7_offer_77.2.2.2.1
theorem dX7_offer_83 : decode cX7_offer 83 = .ok (.aload 4, 2) := db_X7_offer_77.2.2.2.2.1
theorem dX7_offer_85 : decode cX7_offer 85 = .ok (.getfield 135, 3) := db_X7_offer_77.2.2.2.2.2.1
theorem dX7_offer_88 : decode cX7_offer 88 = .ok (.iconst 1, 1) := db_X7_offer_77.2.2.2.2.2.2.1
theorem dX7_offer_89 : decode cX7_offer 89 = .ok (.iload_n 2, 1) := db_X7_offer_77.2.2.2.2.2.2.2
set_option maxRecDepth 20000 in
theorem db_X7_offer_90 : (decode cX7_offer 90 = .ok (.isub, 1)) ∧ (decode cX7_offer 91 = .ok (.iaload, 1)) ∧ (decode cX7_offer 92 = .ok (.iconst (-1), 1)) ∧ (decode cX7_offer 93 = .ok (.if_icmp .ne 5, 3)) ∧ (decode cX7_offer 98 = .ok (.aload 4, 2)) ∧ (decode cX7_offer 100 = .ok (.invokevirtual 138, 3)) ∧ (decode cX7_offer 103 = .ok (.ifCond .eq 7, 3)) ∧ (decode cX7_offer 110 = .ok (.iconst 2, 1)) := by decide +kernel
theorem dX7_offer_90 : decode cX7_offer 90 = .ok (.isub, 1) := db_X7_offer_90.1
theorem dX7_offer_91 : decode cX7_offer 91 = .ok (.iaload, 1) := db_X7_offer_90.2.1
theorem dX7_offer_92 : decode cX7_offer 92 = .ok (.iconst (-1), 1) := db_X7_offer_90.2.2.1
theorem dX7_offer_93 : decode cX7_offer 93 = .ok (.if_icmp .ne 5, 3) := db_X7_offer_90.2.2.2.1
theorem dX7_offer_98 : decode cX7_offer 98 = .ok (.aload 4, 2) := db_X7_offer_90.2.2.2.2.1
set_option maxRecDepth 20000 in
theorem ggX7_offer_X0_endRound : GoodIn wsX7_offer wsX0_endRound := goodIn_r _ [22, 23, 24, 25, 26, 27, 40, 41, 42, 43, 44, 45, 46, 47, 48, 49, 50] rfl (by decide +kernel)
set_option maxRecDepth 20000 in
theorem gX7_offer_X0_endRound : GoodIn wsX7_offer (wsV RX7 138 RX0 yX0_endRound wsX0_endRound) := goodIn_app (goodIn_r _ [18, 19, 20, 21] rfl (by decide +kernel)) ggX7_offer_X0_endRound
theorem dX7_offer_100 : decode cX7_offer 100 = .ok (.invokevirtual 138, 3) := db_X7_offer_90.2.2.2.2.2.1
theorem dX7_offer_103 : decode cX7_offer 103 = .ok (.ifCond .eq 7, 3) := db_X7_offer_90.2.2.2.2.2.2.1
theorem dX7_offer_110 : decode cX7_offer 110 = .ok (.iconst 2, 1) := db_X7_offer_90.2.2.2.2.2.2.2
set_option maxRecDepth 20000 in
theorem db_X7_offer_111 : (decode cX7_offer 111 = .ok (.ireturn, 1)) ∧ (decode cX7_offer 106 = .ok (.iconst 1, 1)) ∧ (decode cX7_offer 107 = .ok (.goto 4, 3)) ∧ (decode cX7_offer 96 = .ok (.iconst 0, 1)) ∧ (decode cX7_offer 97 = .ok (.ireturn, 1)) ∧ (decode cX7_offer 72 = .ok (.bipush (-2), 2)) ∧ (decode cX7_offer 74 = .ok (.ireturn, 1)) ∧ (decode cX7_offer 60 = .ok (.bipush (-3), 2)) := by decide +kernel
theorem dX7_offer_111 : decode cX7_offer 111 = .ok (.ireturn, 1) := db_X7_offer_111.1
theorem dX7_offer_106 : decode cX7_offer 106 = .ok (.iconst 1, 1) := db_X7_offer_111.2.1
theorem dX7_offer_107 : decode cX7_offer 107 = .ok (.goto 4, 3) := db_X7_offer_111.2.2.1
theorem dX7_offer_96 : decode cX7_offer 96 = .ok (.iconst 0, 1) := db_X7_offer_111.2.2.2.1
theorem dX7_offer_97 : decode cX7_offer 97 = .ok (.ireturn, 1) := db_X7_offer_111.2.2.2.2.1
theorem dX7_offer_72 : decode cX7_offer 72 = .ok (.bipush (-2), 2) := db_X7_offer_111.2.2.2.2.2.1
theorem dX7_offer_74 : decode cX7_offer 74 = .ok (.ireturn, 1) := db_X7_offer_111.2.2.2.2.2.2.1
theorem dX7_offer_60 : decode cX7_offer 60 = .ok (.bipush (-3), 2) := db_X7_offer_111.2.2.2.2.2.2.2
set_option maxRecDepth 20000 in
theorem db_X7_offer_62 : (decode cX7_offer 62 = .ok (.ireturn, 1)) ∧ (decode cX7_offer 46 = .ok (.bipush (-4), 2)) ∧ (decode cX7_offer 48 = .ok (.ireturn, 1)) ∧ (decode cX7_offer 25 = .ok (.iconst (-1), 1)) ∧ (decode cX7_offer 26 = .ok (.ireturn, 1)) := by decide +kernel
theorem dX7_offer_62 : decode cX7_offer 62 = .ok (.ireturn, 1) := db_X7_offer_62.1
theorem dX7_offer_46 : decode cX7_offer 46 = .ok (.bipush (-4), 2) := db_X7_offer_62.2.1
theorem dX7_offer_48 : decode cX7_offer 48 = .ok (.ireturn, 1) := db_X7_offer_62.2.2.1
theorem dX7_offer_25 : decode cX7_offer 25 = .ok (.iconst (-1), 1) := db_X7_offer_62.2.2.2.1
theorem dX7_offer_26 : decode cX7_offer 26 = .ok (.ireturn, 1) := db_X7_offer_62.2.2.2.2
set_option maxHeartbeats 4000000 in
set_option maxRecDepth 100000 in
theorem e_X0_endRound (l : Launch) (dC : Nat → ClassId) (dI : Nat → Nat → Nat) (cy : Nat → ClassId) (sz : Nat) (ad : Nat → Nat) (kv : Value) (N : Nat) (hN : 119 ≤ N) (v : Nat → Nat → Int32) (hv : Iv v) (i : Nat) (hi : i < 6) (hr5 : (v (29 + 15 * i) 2).toInt < 5) : Met l yX0_endRound wsX0_endRound ({ frames := 0, cells := 0, slots := 0, locals := 0 }) (va_Pc [.ref (ad (29 + 15 * i))] (ex_Pre dC dI cy sz (wl ad kv cy N v))) (va_Qi (fun (r : Int32) (u : Nat → Nat → Int32) => Iv u ∧ ((v (31 + 15 * i) 0).toInt ≤ (v (31 + 15 * i) 1).toInt → r = 1 ∧ (∀ k j : Nat, u k j = if k = 29 + 15 * i ∧ j = 1 then (v (31 + 15 * i) 0 + v (31 + 15 * i) 1) / 2 else if k = 29 + 15 * i ∧ j = 0 then 1 else if k = 29 + 15 * i ∧ j = 2 then v (29 + 15 * i) 2 + 1 else if k = 33 + 15 * i + 1 ∧ j = (v (29 + 15 * i) 2).toNatClampNeg then v (31 + 15 * i) 1 else if k = 33 + 15 * i + 0 ∧ j = (v (29 + 15 * i) 2).toNatClampNeg then v (31 + 15 * i) 0 else v k j)) ∧ ((v (31 + 15 * i) 1).toInt < (v (31 + 15 * i) 0).toInt → r = 0 ∧ (∀ k j : Nat, u k j = if k = 31 + 15 * i ∧ j = 1 then -1 else if k = 31 + 15 * i ∧ j = 0 then -1 else if k = 29 + 15 * i ∧ j = 2 then v (29 + 15 * i) 2 + 1 else if k = 33 + 15 * i + 1 ∧ j = (v (29 + 15 * i) 2).toNatClampNeg then v (31 + 15 * i) 1 else if k = 33 + 15 * i + 0 ∧ j = (v (29 + 15 * i) 2).toNatClampNeg then v (31 + 15 * i) 0 else v k j))) (fun u t => ex_Pst dC dI (va_A (wl ad kv cy N v) sz) (wl ad kv cy N u) t) (va_A (wl ad kv cy N v) sz)) 0 0 (va_A (wl ad kv cy N v) sz) := by
  refine Met.ofW (cc := cX0_endRound) (maxL := 3) (ret := (some .boolean)) (by decide) rfl ?_
  intro p e s m args below meth c s₁ B hml hv
  obtain ⟨rfl, hsz, hE, hP, hK, hD0⟩ := hv
  have hx := B.exec
  have hb := B.bytes
  have hr := B.returns
  have hts := atoms_spec (ws := wsX0_endRound) B.pre
  have hown : s.vm.findClass RX0 = some m.cls := findClass_of_methodNamed B.named
  have hlocks := B.notSynchronized
  subst hsz
  have hD := hD0.self (sz := s.heap.size)
  generalize hAe : va_A (wl ad kv cy N v) s.heap.size = A at hD ⊢
  have hA : ∀ q : Nat, s.heap.size ≤ q → A q := fun q h => by rw [← hAe]; exact Or.inr h
  have hS : va_S A s.heap s.heap [] := va_S.rf
  have hP : va_P (dC, dI) vwCl (wl ad kv cy N v) s.heap := hP
  have hl := lv_entry ([.ref (ad (29 + 15 * i))]) (n := 3) (Nat.le_of_ble_eq_true rfl)
  rw [lg_entry_eq]
  generalize (lg_sl ([.ref (ad (29 + 15 * i))]) ++ List.replicate (3 - (lg_sl ([.ref (ad (29 + 15 * i))])).length) Slot.unset).toArray = ls at hl ⊢
  have hl : lv_has ls 3 [(0, .ref (ad (29 + 15 * i)))] := hl
  refine lv_aload_n hx hb dX0_endRound_0 rfl (lv_at hl 0 rfl) ?_
  refine va_get (D := (dC, dI)) (ci := 0) (v := .ref (ad (29 + 15 * i + 2))) (C := RX0) (T := TX0) (N := 11) hx hb hts iwX0_endRound_X0 hown hK hP (29 + 15 * i) (wl_at (by omega) (ce_9 (kd_c _ hi).1.1)) rfl 7 (by decide) (hts (.fieldLink RX0 15 "QuietStairs$Case" "box" "[I") fwX0_endRound_1) (fun _ h9 => h9) rfl dX0_endRound_1 ?_
  refine W.eq (g2 := F0 m 4 ls [.ref (ad (31 + 15 * i))]) (by rw [show 29 + 15 * i + 2 = 31 + 15 * i from by omega]) ?_
  refine lv_iconst (v := 0) hx hb dX0_endRound_4 (by decide) ?_
  have k_0 : (0 : Int32).toInt = 0 := by decide
  refine va_iald hx hb hK hP (31 + 15 * i) 0 (wl_at (by omega) (ce_20 (kd_c _ hi).1.2.2.1)) rfl (by unfold vp_in; decide) dX0_endRound_5 ?_
  refine lv_topi (fun x_1 ex_1 => ?_)
  have ex_1 : x_1 = v (31 + 15 * i) 0 := ex_1
  have qx_1 : x_1.toInt = (v (31 + 15 * i) (0)).toInt := congrArg Int32.toInt ex_1
  refine lv_istore_n (lv' := [(1, .int x_1), (0, .ref (ad (29 + 15 * i)))]) hx hb dX0_endRound_6 rfl hl (by decide) rfl (fun ls hl => ?_)
  refine lv_aload_n hx hb dX0_endRound_7 rfl (lv_at hl 1 rfl) ?_
  refine va_get (D := (dC, dI)) (ci := 0) (v := .ref (ad (29 + 15 * i + 2))) (C := RX0) (T := TX0) (N := 11) hx hb hts iwX0_endRound_X0 hown hK hP (29 + 15 * i) (wl_at (by omega) (ce_9 (kd_c _ hi).1.1)) rfl 7 (by decide) (hts (.fieldLink RX0 15 "QuietStairs$Case" "box" "[I") fwX0_endRound_1) (fun _ h9 => h9) rfl dX0_endRound_8 ?_
  refine W.eq (g2 := F0 m 11 ls [.ref (ad (31 + 15 * i))]) (by rw [show 29 + 15 * i + 2 = 31 + 15 * i from by omega]) ?_
  refine lv_iconst (v := 1) hx hb dX0_endRound_11 (by decide) ?_
  have k_1 : (1 : Int32).toInt = 1 := by decide
  refine va_iald hx hb hK hP (31 + 15 * i) 0 (wl_at (by omega) (ce_20 (kd_c _ hi).1.2.2.1)) rfl (by unfold vp_in; decide) dX0_endRound_12 ?_
  refine lv_topi (fun x_2 ex_2 => ?_)
  have ex_2 : x_2 = v (31 + 15 * i) 1 := ex_2
  have qx_2 : x_2.toInt = (v (31 + 15 * i) (1)).toInt := congrArg Int32.toInt ex_2
  refine lv_istore_n (lv' := [(2, .int x_2), (1, .int x_1), (0, .ref (ad (29 + 15 * i)))]) hx hb dX0_endRound_13 rfl hl (by decide) rfl (fun ls hl => ?_)
  refine lv_aload_n hx hb dX0_endRound_14 rfl (lv_at hl 2 rfl) ?_
  refine va_get (D := (dC, dI)) (ci := 0) (v := .int (v (29 + 15 * i) 2)) (C := RX0) (T := TX0) (N := 11) hx hb hts iwX0_endRound_X0 hown hK hP (29 + 15 * i) (wl_at (by omega) (ce_9 (kd_c _ hi).1.1)) rfl 2 (by decide) (hts (.fieldLink RX0 40 "QuietStairs$Case" "roundsOver" "I") fwX0_endRound_2) (fun _ h9 => h9) rfl dX0_endRound_15 ?_
  refine lv_topi (fun x_3 ex_3 => ?_)
  have bzx_3 : 0 ≤ x_3.toInt ∧ x_3.toInt ≤ 5 := by rw [ex_3]; exact hv.at (K := 9) (kd_c _ hi).1.1 rfl
  have qx_3 : x_3.toInt = (v (29 + 15 * i) (2)).toInt := congrArg Int32.toInt ex_3
  refine lv_iconst (v := 5) hx hb dX0_endRound_18 (by decide) ?_
  have k_5 : (5 : Int32).toInt = 5 := by decide
  refine lv_icmp_ge (tgt := 56) hx hb dX0_endRound_19 (by decide) (fun c_4 => ?_) (fun c_4 => ?_)
  · have tc_4 : x_3.toInt ≥ (5 : Int32).toInt := Int32.le_iff_toInt_le.mp c_4
    exfalso
    omega
  · have tc_4 : x_3.toInt < (5 : Int32).toInt := Int32.lt_iff_toInt_lt.mp (Int32.not_le.mp c_4)
    refine lv_aload_n hx hb dX0_endRound_22 rfl (lv_at hl 2 rfl) ?_
    refine va_get (D := (dC, dI)) (ci := 0) (v := .ref (ad (29 + 15 * i + 3))) (C := RX0) (T := TX0) (N := 11) hx hb hts iwX0_endRound_X0 hown hK hP (29 + 15 * i) (wl_at (by omega) (ce_9 (kd_c _ hi).1.1)) rfl 8 (by decide) (hts (.fieldLink RX0 20 "QuietStairs$Case" "offers" "[[I") fwX0_endRound_3) (fun _ h9 => h9) rfl dX0_endRound_23 ?_
    refine W.eq (g2 := F0 m 26 ls [.ref (ad (32 + 15 * i))]) (by rw [show 29 + 15 * i + 3 = 32 + 15 * i from by omega]) ?_
    refine lv_iconst (v := 0) hx hb dX0_endRound_26 (by decide) ?_
    refine ya_ald hx hb hK hP (32 + 15 * i) (wl_at (by omega) (ce_11 (kd_c _ hi).1.2.2.2.1)) (by unfold vp_in; decide) dX0_endRound_27 ?_
    refine W.eq (g2 := F0 m 28 ls [.ref (ad (33 + 15 * i + 0))]) (by show F0 m 28 ls (.ref (ad (32 + 15 * i + 1 + 0)) :: _) = _; rw [show 32 + 15 * i + 1 + 0 = 33 + 15 * i + 0 from by omega]) ?_
    refine lv_aload_n hx hb dX0_endRound_28 rfl (lv_at hl 2 rfl) ?_
    refine va_get (D := (dC, dI)) (ci := 0) (v := .int (v (29 + 15 * i) 2)) (C := RX0) (T := TX0) (N := 11) hx hb hts iwX0_endRound_X0 hown hK hP (29 + 15 * i) (wl_at (by omega) (ce_9 (kd_c _ hi).1.1)) rfl 2 (by decide) (hts (.fieldLink RX0 40 "QuietStairs$Case" "roundsOver" "I") fwX0_endRound_2) (fun _ h9 => h9) rfl dX0_endRound_29 ?_
    refine lv_topi (fun x_5 ex_5 => ?_)
    have bzx_5 : 0 ≤ x_5.toInt ∧ x_5.toInt ≤ 5 := by rw [ex_5]; exact hv.at (K := 9) (kd_c _ hi).1.1 rfl
    obtain rfl : x_3 = x_5 := (ex_5.trans ex_3.symm).symm
    refine lv_iload_n hx hb dX0_endRound_32 rfl (lv_at hl 1 rfl) ?_
    have zn_x_3 : (x_3.toNatClampNeg : Int) = x_3.toInt := t_nn (by omega)
    have hx_6 : x_3.toNatClampNeg < 5 := by omega
    refine va_iast hx hb hK hP hD hS (33 + 15 * i + 0) 0 (wl_at (by omega) (ce_12 (kd_o _ hi 0 (by decide)).1.1)) rfl (vp_in_iff.mpr ⟨by omega, by omega⟩) dX0_endRound_33 (fun H locs hP hD hS => ?_)
    obtain ⟨v_7, ev_7⟩ : ∃ u : Nat → Nat → Int32, u = upr v (33 + 15 * i + 0) (upd (v (33 + 15 * i + 0)) (x_3.toNatClampNeg) x_1) := ⟨_, rfl⟩
    have hP : va_P (dC, dI) vwCl (wl ad kv cy N v_7) H := by rw [ev_7, ← wl_put (e := _) (ce_12 (kd_o _ hi 0 (by decide)).1.1)]; exact hP
    have hD : va_D A (wl ad kv cy N v_7) := by rw [ev_7, ← wl_put (e := _) (ce_12 (kd_o _ hi 0 (by decide)).1.1)]; exact hD
    have hv : Iv v_7 := by rw [ev_7]; exact hv.put (K := 12) (kd_o _ hi 0 (by decide)).1.1 (fun h q => by simp [bd] at q)
    refine lv_aload_n hx hb dX0_endRound_34 rfl (lv_at hl 2 rfl) ?_
    refine va_get (D := (dC, dI)) (ci := 0) (v := .ref (ad (29 + 15 * i + 3))) (C := RX0) (T := TX0) (N := 11) hx hb hts iwX0_endRound_X0 hown hK hP (29 + 15 * i) (wl_at (by omega) (ce_9 (kd_c _ hi).1.1)) rfl 8 (by decide) (hts (.fieldLink RX0 20 "QuietStairs$Case" "offers" "[[I") fwX0_endRound_3) (fun _ h9 => h9) rfl dX0_endRound_35 ?_
    refine W.eq (g2 := F0 m 38 ls [.ref (ad (32 + 15 * i))]) (by rw [show 29 + 15 * i + 3 = 32 + 15 * i from by omega]) ?_
    refine lv_iconst (v := 1) hx hb dX0_endRound_38 (by decide) ?_
    refine ya_ald hx hb hK hP (32 + 15 * i) (wl_at (by omega) (ce_11 (kd_c _ hi).1.2.2.2.1)) (by unfold vp_in; decide) dX0_endRound_39 ?_
    refine W.eq (g2 := F0 m 40 ls [.ref (ad (33 + 15 * i + 1))]) (by show F0 m 40 ls (.ref (ad (32 + 15 * i + 1 + 1)) :: _) = _; rw [show 32 + 15 * i + 1 + 1 = 33 + 15 * i + 1 from by omega]) ?_
    refine lv_aload_n hx hb dX0_endRound_40 rfl (lv_at hl 2 rfl) ?_
    refine va_get (D := (dC, dI)) (ci := 0) (v := .int (v_7 (29 + 15 * i) 2)) (C := RX0) (T := TX0) (N := 11) hx hb hts iwX0_endRound_X0 hown hK hP (29 + 15 * i) (wl_at (by omega) (ce_9 (kd_c _ hi).1.1)) rfl 2 (by decide) (hts (.fieldLink RX0 40 "QuietStairs$Case" "roundsOver" "I") fwX0_endRound_2) (fun _ h9 => h9) rfl dX0_endRound_41 ?_
    refine lv_topi (fun x_8 ex_8 => ?_)
    have bzx_8 : 0 ≤ x_8.toInt ∧ x_8.toInt ≤ 5 := by rw [ex_8]; exact hv.at (K := 9) (kd_c _ hi).1.1 rfl
    rw [ev_7, upr_n (by omega)] at ex_8
    obtain rfl : x_3 = x_8 := (ex_8.trans ex_3.symm).symm
    refine lv_iload_n hx hb dX0_endRound_44 rfl (lv_at hl 0 rfl) ?_
    refine va_iast hx hb hK hP hD hS (33 + 15 * i + 1) 0 (wl_at (by omega) (ce_12 (kd_o _ hi 1 (by decide)).1.1)) rfl (vp_in_iff.mpr ⟨by omega, by omega⟩) dX0_endRound_45 (fun H locs hP hD hS => ?_)
    obtain ⟨v_9, ev_9⟩ : ∃ u : Nat → Nat → Int32, u = upr v_7 (33 + 15 * i + 1) (upd (v_7 (33 + 15 * i + 1)) (x_3.toNatClampNeg) x_2) := ⟨_, rfl⟩
    have hP : va_P (dC, dI) vwCl (wl ad kv cy N v_9) H := by rw [ev_9, ← wl_put (e := _) (ce_12 (kd_o _ hi 1 (by decide)).1.1)]; exact hP
    have hD : va_D A (wl ad kv cy N v_9) := by rw [ev_9, ← wl_put (e := _) (ce_12 (kd_o _ hi 1 (by decide)).1.1)]; exact hD
    have hv : Iv v_9 := by rw [ev_9]; exact hv.put (K := 12) (kd_o _ hi 1 (by decide)).1.1 (fun h q => by simp [bd] at q)
    refine lv_aload_n hx hb dX0_endRound_46 rfl (lv_at hl 2 rfl) ?_
    refine lv_dup hx hb dX0_endRound_47 rfl ?_
    refine va_get (D := (dC, dI)) (ci := 0) (v := .int (v_9 (29 + 15 * i) 2)) (C := RX0) (T := TX0) (N := 11) hx hb hts iwX0_endRound_X0 hown hK hP (29 + 15 * i) (wl_at (by omega) (ce_9 (kd_c _ hi).1.1)) rfl 2 (by decide) (hts (.fieldLink RX0 40 "QuietStairs$Case" "roundsOver" "I") fwX0_endRound_2) (fun _ h9 => h9) rfl dX0_endRound_48 ?_
    refine lv_topi (fun x_10 ex_10 => ?_)
    have bzx_10 : 0 ≤ x_10.toInt ∧ x_10.toInt ≤ 5 := by rw [ex_10]; exact hv.at (K := 9) (kd_c _ hi).1.1 rfl
    rw [ev_9, upr_n (by omega), ev_7, upr_n (by omega)] at ex_10
    obtain rfl : x_3 = x_10 := (ex_10.trans ex_3.symm).symm
    refine lv_iconst (v := 1) hx hb dX0_endRound_51 (by decide) ?_
    refine lv_iadd hx hb dX0_endRound_52 ?_
    refine lv_topi (fun x_11 ex_11 => ?_)
    have tx_11 : x_11.toInt = x_3.toInt + (1 : Int32).toInt := by rw [ex_11]; exact t_add ⟨by omega, by omega⟩
    refine va_put (D := (dC, dI)) (ci := 0) (v := .int x_11) (ty := .int) (C := RX0) (T := TX0) (N := 11) hx hb hts iwX0_endRound_X0 tyX0 tyX0_ok nmX0 hown hK hP hD hS (29 + 15 * i) (wl_at (by omega) (ce_9 (kd_c _ hi).1.1)) rfl 2 (by decide) (hts (.fieldLink RX0 40 "QuietStairs$Case" "roundsOver" "I") fwX0_endRound_2) (fun _ h9 => h9) rfl (by decide +kernel) rfl rfl (Nat.le_of_ble_eq_true rfl) dX0_endRound_53 (fun H locs hP hD hS => ?_)
    obtain ⟨v_12, ev_12⟩ : ∃ u : Nat → Nat → Int32, u = upr v_9 (29 + 15 * i) (upd (v_9 (29 + 15 * i)) 2 x_11) := ⟨_, rfl⟩
    have hP : va_P (dC, dI) vwCl (wl ad kv cy N v_12) H := by rw [ev_12, ← wl_put (e := _) (ce_9 (kd_c _ hi).1.1)]; exact hP
    have hD : va_D A (wl ad kv cy N v_12) := by rw [ev_12, ← wl_put (e := _) (ce_9 (kd_c _ hi).1.1)]; exact hD
    have hv : Iv v_12 := by rw [ev_12]; exact hv.put (K := 9) (kd_c _ hi).1.1 (fun h q => by cases q; exact ⟨by omega, by omega⟩)
    refine lv_iload_n hx hb dX0_endRound_56 rfl (lv_at hl 0 rfl) ?_
    refine lv_iload_n hx hb dX0_endRound_57 rfl (lv_at hl 1 rfl) ?_
    refine lv_icmp_lt (tgt := 77) hx hb dX0_endRound_58 (by decide) (fun c_13 => ?_) (fun c_13 => ?_)
    · have tc_13 : x_2.toInt < x_1.toInt := Int32.lt_iff_toInt_lt.mp c_13
      refine lv_aload_n hx hb dX0_endRound_77 rfl (lv_at hl 2 rfl) ?_
      refine va_get (D := (dC, dI)) (ci := 0) (v := .ref (ad (29 + 15 * i + 2))) (C := RX0) (T := TX0) (N := 11) hx hb hts iwX0_endRound_X0 hown hK hP (29 + 15 * i) (wl_at (by omega) (ce_9 (kd_c _ hi).1.1)) rfl 7 (by decide) (hts (.fieldLink RX0 15 "QuietStairs$Case" "box" "[I") fwX0_endRound_1) (fun _ h9 => h9) rfl dX0_endRound_78 ?_
      refine W.eq (g2 := F0 m 81 ls [.ref (ad (31 + 15 * i))]) (by rw [show 29 + 15 * i + 2 = 31 + 15 * i from by omega]) ?_
      refine lv_iconst (v := 0) hx hb dX0_endRound_81 (by decide) ?_
      refine lv_iconst (v := (-1)) hx hb dX0_endRound_82 (by decide) ?_
      refine va_iast hx hb hK hP hD hS (31 + 15 * i) 0 (wl_at (by omega) (ce_20 (kd_c _ hi).1.2.2.1)) rfl (by unfold vp_in; decide) dX0_endRound_83 (fun H locs hP hD hS => ?_)
      have k_m1 : ((-1) : Int32).toInt = -1 := by decide
      have hP : va_P (dC, dI) vwCl ((wl ad kv cy N v_12).set (31 + 15 * i) (ad (31 + 15 * i), .inl (cy 0, 2, .inl (upd (v_12 (31 + 15 * i)) 0 (-1))))) H := hP
      have hD : va_D A ((wl ad kv cy N v_12).set (31 + 15 * i) (ad (31 + 15 * i), .inl (cy 0, 2, .inl (upd (v_12 (31 + 15 * i)) 0 (-1))))) := hD
      obtain ⟨v_14, ev_14⟩ : ∃ u : Nat → Nat → Int32, u = upr v_12 (31 + 15 * i) (upd (v_12 (31 + 15 * i)) 0 (-1)) := ⟨_, rfl⟩
      have hP : va_P (dC, dI) vwCl (wl ad kv cy N v_14) H := by rw [ev_14, ← wl_put (e := _) (ce_20 (kd_c _ hi).1.2.2.1)]; exact hP
      have hD : va_D A (wl ad kv cy N v_14) := by rw [ev_14, ← wl_put (e := _) (ce_20 (kd_c _ hi).1.2.2.1)]; exact hD
      have hv : Iv v_14 := by rw [ev_14]; exact hv.put (K := 20) (kd_c _ hi).1.2.2.1 (fun h q => by simp [bd] at q)
      refine lv_aload_n hx hb dX0_endRound_84 rfl (lv_at hl 2 rfl) ?_
      refine va_get (D := (dC, dI)) (ci := 0) (v := .ref (ad (29 + 15 * i + 2))) (C := RX0) (T := TX0) (N := 11) hx hb hts iwX0_endRound_X0 hown hK hP (29 + 15 * i) (wl_at (by omega) (ce_9 (kd_c _ hi).1.1)) rfl 7 (by decide) (hts (.fieldLink RX0 15 "QuietStairs$Case" "box" "[I") fwX0_endRound_1) (fun _ h9 => h9) rfl dX0_endRound_85 ?_
      refine W.eq (g2 := F0 m 88 ls [.ref (ad (31 + 15 * i))]) (by rw [show 29 + 15 * i + 2 = 31 + 15 * i from by omega]) ?_
      refine lv_iconst (v := 1) hx hb dX0_endRound_88 (by decide) ?_
      refine lv_iconst (v := (-1)) hx hb dX0_endRound_89 (by decide) ?_
      refine va_iast hx hb hK hP hD hS (31 + 15 * i) 0 (wl_at (by omega) (ce_20 (kd_c _ hi).1.2.2.1)) rfl (by unfold vp_in; decide) dX0_endRound_90 (fun H locs hP hD hS => ?_)
      have hP : va_P (dC, dI) vwCl ((wl ad kv cy N v_14).set (31 + 15 * i) (ad (31 + 15 * i), .inl (cy 0, 2, .inl (upd (v_14 (31 + 15 * i)) 1 (-1))))) H := hP
      have hD : va_D A ((wl ad kv cy N v_14).set (31 + 15 * i) (ad (31 + 15 * i), .inl (cy 0, 2, .inl (upd (v_14 (31 + 15 * i)) 1 (-1))))) := hD
      obtain ⟨v_15, ev_15⟩ : ∃ u : Nat → Nat → Int32, u = upr v_14 (31 + 15 * i) (upd (v_14 (31 + 15 * i)) 1 (-1)) := ⟨_, rfl⟩
      have hP : va_P (dC, dI) vwCl (wl ad kv cy N v_15) H := by rw [ev_15, ← wl_put (e := _) (ce_20 (kd_c _ hi).1.2.2.1)]; exact hP
      have hD : va_D A (wl ad kv cy N v_15) := by rw [ev_15, ← wl_put (e := _) (ce_20 (kd_c _ hi).1.2.2.1)]; exact hD
      have hv : Iv v_15 := by rw [ev_15]; exact hv.put (K := 20) (kd_c _ hi).1.2.2.1 (fun h q => by simp [bd] at q)
      refine lv_iconst (v := 0) hx hb dX0_endRound_91 (by decide) ?_
      have hpost : ((v (31 + 15 * i) 0).toInt ≤ (v (31 + 15 * i) 1).toInt → (0 : Int32) = 1 ∧ (∀ k j : Nat, v_15 k j = if k = 29 + 15 * i ∧ j = 1 then (v (31 + 15 * i) 0 + v (31 + 15 * i) 1) / 2 else if k = 29 + 15 * i ∧ j = 0 then 1 else if k = 29 + 15 * i ∧ j = 2 then v (29 + 15 * i) 2 + 1 else if k = 33 + 15 * i + 1 ∧ j = (v (29 + 15 * i) 2).toNatClampNeg then v (31 + 15 * i) 1 else if k = 33 + 15 * i + 0 ∧ j = (v (29 + 15 * i) 2).toNatClampNeg then v (31 + 15 * i) 0 else v k j)) ∧ ((v (31 + 15 * i) 1).toInt < (v (31 + 15 * i) 0).toInt → (0 : Int32) = 0 ∧ (∀ k j : Nat, v_15 k j = if k = 31 + 15 * i ∧ j = 1 then -1 else if k = 31 + 15 * i ∧ j = 0 then -1 else if k = 29 + 15 * i ∧ j = 2 then v (29 + 15 * i) 2 + 1 else if k = 33 + 15 * i + 1 ∧ j = (v (29 + 15 * i) 2).toNatClampNeg then v (31 + 15 * i) 1 else if k = 33 + 15 * i + 0 ∧ j = (v (29 + 15 * i) 2).toNatClampNeg then v (31 + 15 * i) 0 else v k j)) := by
        refine ⟨fun hq => ?_, fun hq => ?_⟩
        · exfalso; omega
        · exact ⟨rfl, fun k j => by rw [ev_15, up2, ev_14, up2, ev_12, up2, ev_9, up2, ev_7, up2, ex_11, ex_3, ex_2, ex_1]⟩
      exact W.zret (ty := .boolean) (v := 0) hx hb hr rfl (fun t ht hW => ⟨⟨0, v_15, rfl, ⟨hv, hpost⟩, by rw [ht]; exact hP, hD⟩, hS.F ht⟩) hS.2.2 dX0_endRound_92
    · have tc_13 : x_2.toInt ≥ x_1.toInt := Int32.le_iff_toInt_le.mp (Int32.not_lt.mp c_13)
      refine lv_aload_n hx hb dX0_endRound_61 rfl (lv_at hl 2 rfl) ?_
      refine lv_iconst (v := 1) hx hb dX0_endRound_62 (by decide) ?_
      refine va_put (D := (dC, dI)) (ci := 0) (v := .int 1) (ty := .int) (C := RX0) (T := TX0) (N := 11) hx hb hts iwX0_endRound_X0 tyX0 tyX0_ok nmX0 hown hK hP hD hS (29 + 15 * i) (wl_at (by omega) (ce_9 (kd_c _ hi).1.1)) rfl 0 (by decide) (hts (.fieldLink RX0 33 "QuietStairs$Case" "state" "I") fwX0_endRound_4) (fun _ h9 => h9) rfl (by decide +kernel) rfl rfl (Nat.le_of_ble_eq_true rfl) dX0_endRound_63 (fun H locs hP hD hS => ?_)
      obtain ⟨v_14, ev_14⟩ : ∃ u : Nat → Nat → Int32, u = upr v_12 (29 + 15 * i) (upd (v_12 (29 + 15 * i)) 0 1) := ⟨_, rfl⟩
      have hP : va_P (dC, dI) vwCl (wl ad kv cy N v_14) H := by rw [ev_14, ← wl_put (e := _) (ce_9 (kd_c _ hi).1.1)]; exact hP
      have hD : va_D A (wl ad kv cy N v_14) := by rw [ev_14, ← wl_put (e := _) (ce_9 (kd_c _ hi).1.1)]; exact hD
      have hv : Iv v_14 := by rw [ev_14]; exact hv.put (K := 9) (kd_c _ hi).1.1 (fun h q => by simp [bd] at q)
      refine lv_aload_n hx hb dX0_endRound_66 rfl (lv_at hl 2 rfl) ?_
      refine lv_iload_n hx hb dX0_endRound_67 rfl (lv_at hl 1 rfl) ?_
      refine lv_iload_n hx hb dX0_endRound_68 rfl (lv_at hl 0 rfl) ?_
      refine lv_iadd hx hb dX0_endRound_69 ?_
      refine lv_topi (fun x_15 ex_15 => ?_)
      refine lv_iconst (v := 2) hx hb dX0_endRound_70 (by decide) ?_
      refine lv_idiv hx hb dX0_endRound_71 (by decide) ?_
      refine lv_topi (fun x_16 ex_16 => ?_)
      refine va_put (D := (dC, dI)) (ci := 0) (v := .int x_16) (ty := .int) (C := RX0) (T := TX0) (N := 11) hx hb hts iwX0_endRound_X0 tyX0 tyX0_ok nmX0 hown hK hP hD hS (29 + 15 * i) (wl_at (by omega) (ce_9 (kd_c _ hi).1.1)) rfl 1 (by decide) (hts (.fieldLink RX0 37 "QuietStairs$Case" "sum" "I") fwX0_endRound_5) (fun _ h9 => h9) rfl (by decide +kernel) rfl rfl (Nat.le_of_ble_eq_true rfl) dX0_endRound_72 (fun H locs hP hD hS => ?_)
      obtain ⟨v_17, ev_17⟩ : ∃ u : Nat → Nat → Int32, u = upr v_14 (29 + 15 * i) (upd (v_14 (29 + 15 * i)) 1 x_16) := ⟨_, rfl⟩
      have hP : va_P (dC, dI) vwCl (wl ad kv cy N v_17) H := by rw [ev_17, ← wl_put (e := _) (ce_9 (kd_c _ hi).1.1)]; exact hP
      have hD : va_D A (wl ad kv cy N v_17) := by rw [ev_17, ← wl_put (e := _) (ce_9 (kd_c _ hi).1.1)]; exact hD
      have hv : Iv v_17 := by rw [ev_17]; exact hv.put (K := 9) (kd_c _ hi).1.1 (fun h q => by simp [bd] at q)
      refine lv_iconst (v := 1) hx hb dX0_endRound_75 (by decide) ?_
      have hpost : ((v (31 + 15 * i) 0).toInt ≤ (v (31 + 15 * i) 1).toInt → (1 : Int32) = 1 ∧ (∀ k j : Nat, v_17 k j = if k = 29 + 15 * i ∧ j = 1 then (v (31 + 15 * i) 0 + v (31 + 15 * i) 1) / 2 else if k = 29 + 15 * i ∧ j = 0 then 1 else if k = 29 + 15 * i ∧ j = 2 then v (29 + 15 * i) 2 + 1 else if k = 33 + 15 * i + 1 ∧ j = (v (29 + 15 * i) 2).toNatClampNeg then v (31 + 15 * i) 1 else if k = 33 + 15 * i + 0 ∧ j = (v (29 + 15 * i) 2).toNatClampNeg then v (31 + 15 * i) 0 else v k j)) ∧ ((v (31 + 15 * i) 1).toInt < (v (31 + 15 * i) 0).toInt → (1 : Int32) = 0 ∧ (∀ k j : Nat, v_17 k j = if k = 31 + 15 * i ∧ j = 1 then -1 else if k = 31 + 15 * i ∧ j = 0 then -1 else if k = 29 + 15 * i ∧ j = 2 then v (29 + 15 * i) 2 + 1 else if k = 33 + 15 * i + 1 ∧ j = (v (29 + 15 * i) 2).toNatClampNeg then v (31 + 15 * i) 1 else if k = 33 + 15 * i + 0 ∧ j = (v (29 + 15 * i) 2).toNatClampNeg then v (31 + 15 * i) 0 else v k j)) := by
        refine ⟨fun hq => ?_, fun hq => ?_⟩
        · exact ⟨rfl, fun k j => by rw [ev_17, up2, ev_14, up2, ev_12, up2, ev_9, up2, ev_7, up2, ex_16, ex_15, ex_1, ex_2, ex_11, ex_3]⟩
        · exfalso; omega
      exact W.zret (ty := .boolean) (v := 1) hx hb hr rfl (fun t ht hW => ⟨⟨1, v_17, rfl, ⟨hv, hpost⟩, by rw [ht]; exact hP, hD⟩, hS.F ht⟩) hS.2.2 dX0_endRound_76

set_option maxHeartbeats 4000000 in
set_option maxRecDepth 100000 in
theorem e_X7_offer_0 (l : Launch) (dC : Nat → ClassId) (dI : Nat → Nat → Nat) (cy : Nat → ClassId) (sz : Nat) (ad : Nat → Nat) (kv : Value) (N : Nat) (hN : 119 ≤ N) (v : Nat → Nat → Int32) (hv : Iv v) (x0 x1 : Int32) : Met l yX7_offer wsX7_offer ({ frames := 3, cells := 0, slots := 0, locals := 192 }) (va_Pc [.ref (ad 0), .int x0, .int 0, .int x1] (ex_Pre dC dI cy sz (wl ad kv cy N v))) (va_Qi (fun (r : Int32) (u : Nat → Nat → Int32) => Iv u ∧ (¬ ((0 ≤ x0.toInt ∧ x0.toInt < (v 13 2).toInt) ∧ 0 ≤ x1.toInt ∧ x1.toInt ≤ 100) → r = -1 ∧ u = v) ∧ (((0 ≤ x0.toInt ∧ x0.toInt < (v 13 2).toInt) ∧ 0 ≤ x1.toInt ∧ x1.toInt ≤ 100) ∧ (v (29 + 15 * x0.toNatClampNeg) 0).toInt ≠ 0 → r = -4 ∧ u = v) ∧ (((0 ≤ x0.toInt ∧ x0.toInt < (v 13 2).toInt) ∧ 0 ≤ x1.toInt ∧ x1.toInt ≤ 100) ∧ (v (29 + 15 * x0.toNatClampNeg) 0).toInt = 0 ∧ (v (31 + 15 * x0.toNatClampNeg) 0).toInt ≠ -1 → r = -3 ∧ u = v) ∧ (((0 ≤ x0.toInt ∧ x0.toInt < (v 13 2).toInt) ∧ 0 ≤ x1.toInt ∧ x1.toInt ≤ 100) ∧ (v (29 + 15 * x0.toNatClampNeg) 0).toInt = 0 ∧ (v (31 + 15 * x0.toNatClampNeg) 0).toInt = -1 ∧ 5 ≤ (v (29 + 15 * x0.toNatClampNeg) 2).toInt → r = -2 ∧ u = v) ∧ (((0 ≤ x0.toInt ∧ x0.toInt < (v 13 2).toInt) ∧ 0 ≤ x1.toInt ∧ x1.toInt ≤ 100) ∧ (v (29 + 15 * x0.toNatClampNeg) 0).toInt = 0 ∧ (v (31 + 15 * x0.toNatClampNeg) 0).toInt = -1 ∧ (v (29 + 15 * x0.toNatClampNeg) 2).toInt < 5 ∧ (v (31 + 15 * x0.toNatClampNeg) 1).toInt = -1 → r = 0 ∧ (∀ k j : Nat, u k j = if k = 31 + 15 * x0.toNatClampNeg ∧ j = 0 then x1 else v k j)) ∧ (((0 ≤ x0.toInt ∧ x0.toInt < (v 13 2).toInt) ∧ 0 ≤ x1.toInt ∧ x1.toInt ≤ 100) ∧ (v (29 + 15 * x0.toNatClampNeg) 0).toInt = 0 ∧ (v (31 + 15 * x0.toNatClampNeg) 0).toInt = -1 ∧ (v (29 + 15 * x0.toNatClampNeg) 2).toInt < 5 ∧ (v (31 + 15 * x0.toNatClampNeg) 1).toInt ≠ -1 ∧ (v (31 + 15 * x0.toNatClampNeg) 1).toInt < x1.toInt → r = 2 ∧ (∀ k j : Nat, u k j = if k = 31 + 15 * x0.toNatClampNeg ∧ j = 1 then -1 else if k = 31 + 15 * x0.toNatClampNeg ∧ j = 0 then -1 else if k = 29 + 15 * x0.toNatClampNeg ∧ j = 2 then v (29 + 15 * x0.toNatClampNeg) 2 + 1 else if k = 33 + 15 * x0.toNatClampNeg + 1 ∧ j = (v (29 + 15 * x0.toNatClampNeg) 2).toNatClampNeg then v (31 + 15 * x0.toNatClampNeg) 1 else if k = 33 + 15 * x0.toNatClampNeg + 0 ∧ j = (v (29 + 15 * x0.toNatClampNeg) 2).toNatClampNeg then x1 else if k = 31 + 15 * x0.toNatClampNeg ∧ j = 0 then x1 else v k j)) ∧ (((0 ≤ x0.toInt ∧ x0.toInt < (v 13 2).toInt) ∧ 0 ≤ x1.toInt ∧ x1.toInt ≤ 100) ∧ (v (29 + 15 * x0.toNatClampNeg) 0).toInt = 0 ∧ (v (31 + 15 * x0.toNatClampNeg) 0).toInt = -1 ∧ (v (29 + 15 * x0.toNatClampNeg) 2).toInt < 5 ∧ (v (31 + 15 * x0.toNatClampNeg) 1).toInt ≠ -1 ∧ x1.toInt ≤ (v (31 + 15 * x0.toNatClampNeg) 1).toInt → r = 1 ∧ (∀ k j : Nat, u k j = if k = 29 + 15 * x0.toNatClampNeg ∧ j = 1 then (x1 + v (31 + 15 * x0.toNatClampNeg) 1) / 2 else if k = 29 + 15 * x0.toNatClampNeg ∧ j = 0 then 1 else if k = 29 + 15 * x0.toNatClampNeg ∧ j = 2 then v (29 + 15 * x0.toNatClampNeg) 2 + 1 else if k = 33 + 15 * x0.toNatClampNeg + 1 ∧ j = (v (29 + 15 * x0.toNatClampNeg) 2).toNatClampNeg then v (31 + 15 * x0.toNatClampNeg) 1 else if k = 33 + 15 * x0.toNatClampNeg + 0 ∧ j = (v (29 + 15 * x0.toNatClampNeg) 2).toNatClampNeg then x1 else if k = 31 + 15 * x0.toNatClampNeg ∧ j = 0 then x1 else v k j))) (fun u t => ex_Pst dC dI (va_A (wl ad kv cy N v) sz) (wl ad kv cy N u) t) (va_A (wl ad kv cy N v) sz)) 0 0 (va_A (wl ad kv cy N v) sz) := by
  refine Met.ofW (cc := cX7_offer) (maxL := 5) (ret := (some .int)) (by decide) rfl ?_
  intro p e s m args below meth c s₁ B hml hv
  obtain ⟨rfl, hsz, hE, hP, hK, hD0⟩ := hv
  have hx := B.exec
  have hb := B.bytes
  have hr := B.returns
  have hts := atoms_spec (ws := wsX7_offer) B.pre
  have hown : s.vm.findClass RX7 = some m.cls := findClass_of_methodNamed B.named
  have hlocks := B.notSynchronized
  subst hsz
  have hD := hD0.self (sz := s.heap.size)
  generalize hAe : va_A (wl ad kv cy N v) s.heap.size = A at hD ⊢
  have hA : ∀ q : Nat, s.heap.size ≤ q → A q := fun q h => by rw [← hAe]; exact Or.inr h
  have hS : va_S A s.heap s.heap [] := va_S.rf
  have hP : va_P (dC, dI) vwCl (wl ad kv cy N v) s.heap := hP
  have hl := lv_entry ([.ref (ad 0), .int x0, .int 0, .int x1]) (n := 5) (Nat.le_of_ble_eq_true rfl)
  rw [lg_entry_eq]
  generalize (lg_sl ([.ref (ad 0), .int x0, .int 0, .int x1]) ++ List.replicate (5 - (lg_sl ([.ref (ad 0), .int x0, .int 0, .int x1])).length) Slot.unset).toArray = ls at hl ⊢
  have hl : lv_has ls 5 [(0, .ref (ad 0)), (1, .int x0), (2, .int 0), (3, .int x1)] := hl
  refine lv_aload_n hx hb dX7_offer_0 rfl (lv_at hl 0 rfl) ?_
  refine lv_iload_n hx hb dX7_offer_1 rfl (lv_at hl 1 rfl) ?_
  refine yw_i (w1 := fun (u : Nat → Nat → Int32) => wl ad kv cy N u) hD hS hA (va_runV (As := [.int x0]) (rest := []) ⟨hx, hb, hml, hown, hts⟩ (g_X7_isCase l dC dI cy _ ad kv N hN v hv x0) (cwV 1 hts gX7_offer_X7_isCase rfl rfl rfl hd_V_X7_isCase_1 ⟨Nat.le_of_ble_eq_true rfl, Nat.le_of_ble_eq_true rfl⟩) (yw_preV hE hK hP hD (ci := 7) (q0 := 0) rfl (wl_at (by omega) (ce_0 (by decide)))) rfl rfl hl.1 rfl (lv_room (Nat.le_of_ble_eq_true rfl)) dX7_offer_2 ⟨Nat.le_of_ble_eq_true rfl, Nat.le_of_ble_eq_true rfl⟩) (fun r_1 v_1 H locs hw_1 hP hD hS => ?_)
  obtain ⟨-, hu_1, hw_1⟩ := hw_1
  replace hu_1 := hu_1.symm
  subst hu_1
  rcases hw_1 with ⟨rfl, ha_2⟩ | ⟨rfl, ha_2⟩
  · have hb_2 := hv.at (k := 13) (j := 2) (K := 3) (by decide) rfl
    have hj_2 : 0 ≤ x0.toInt ∧ x0.toInt ≤ 5 := ⟨by omega, by omega⟩
    refine lv_if_eq (tgt := 25) hx hb dX7_offer_5 (by decide) (fun c9 => absurd c9 (by decide)) (fun _ => ?_)
    refine lv_iload_n hx hb dX7_offer_8 rfl (lv_at hl 2 rfl) ?_
    refine yc_p hP hS (va_runS (As := [.int 0]) (rest := []) ⟨hx, hb, hml, hown, hts⟩ (c_X7_isSide l 0) (cwS 1 hts gX7_offer_X7_isSide rfl rfl rfl hd_S_X7_isSide_1 ⟨Nat.le_of_ble_eq_true rfl, Nat.le_of_ble_eq_true rfl⟩) ex_preP rfl rfl hl.1 rfl (lv_room (Nat.le_of_ble_eq_true rfl)) dX7_offer_9 ⟨Nat.le_of_ble_eq_true rfl, Nat.le_of_ble_eq_true rfl⟩) (fun r_3 H locs hw_3 hP hS => ?_)
    rcases wi_ca hw_3 with ⟨rfl, hc_4⟩ | ⟨rfl, hc_4⟩
    · have k_0 : (0 : Int32).toInt = 0 := by decide
      have k_1 : (1 : Int32).toInt = 1 := by decide
      have tc_4 := wi_tl hc_4
      refine lv_if_eq (tgt := 25) hx hb dX7_offer_12 (by decide) (fun c9 => absurd c9 (by decide)) (fun _ => ?_)
      refine lv_iload_n hx hb dX7_offer_15 rfl (lv_at hl 3 rfl) ?_
      refine lv_iconst (v := 0) hx hb dX7_offer_16 (by decide) ?_
      refine lv_bipush (v := 100) hx hb dX7_offer_17 (by decide) ?_
      refine yc_p hP hS (va_runS (As := [.int x1, .int 0, .int 100]) (rest := []) ⟨hx, hb, hml, hown, hts⟩ (c_X7_isWithin l x1 0 100) (cwS 3 hts gX7_offer_X7_isWithin rfl rfl rfl hd_S_X7_isWithin_3 ⟨Nat.le_of_ble_eq_true rfl, Nat.le_of_ble_eq_true rfl⟩) ex_preP rfl rfl hl.1 rfl (lv_room (Nat.le_of_ble_eq_true rfl)) dX7_offer_19 ⟨Nat.le_of_ble_eq_true rfl, Nat.le_of_ble_eq_true rfl⟩) (fun r_5 H locs hw_5 hP hS => ?_)
      rcases wi_ca hw_5 with ⟨rfl, hc_6⟩ | ⟨rfl, hc_6⟩
      · have k_100 : (100 : Int32).toInt = 100 := by decide
        have tc_6 := wi_tl hc_6
        refine lv_if_ne (tgt := 27) hx hb dX7_offer_22 (by decide) (fun _ => ?_) (fun c9 => absurd c9 (by decide))
        refine lv_aload_n hx hb dX7_offer_27 rfl (lv_at hl 0 rfl) ?_
        refine va_get (D := (dC, dI)) (ci := 7) (v := .ref (ad 13)) (C := RX7) (T := TX7) (N := 5) hx hb hts iwX7_offer_X7 hown hK hP (0) (wl_at (by omega) (ce_0 (by decide))) rfl 0 (by decide) (hts (.fieldLink RX7 12 "QuietStairs" "now" "LQuietStairs$House;") fwX7_offer_1) (fun _ h9 => h9) rfl dX7_offer_28 ?_
        refine va_get (D := (dC, dI)) (ci := 1) (v := .ref (ad 16)) (C := RX1) (T := TX1) (N := 7) hx hb hts iwX7_offer_X1 hown hK hP (13) (wl_at (by omega) (ce_3 (by decide))) rfl 6 (by decide) (hts (.fieldLink RX7 86 "QuietStairs$House" "cases" "[LQuietStairs$Case;") fwX7_offer_2) (fun _ h9 => h9) rfl dX7_offer_31 ?_
        refine lv_iload_n hx hb dX7_offer_34 rfl (lv_at hl 1 rfl) ?_
        have zn_x0 : (x0.toNatClampNeg : Int) = x0.toInt := t_nn (by omega)
        have hx_7 : x0.toNatClampNeg < 6 := by omega
        refine va_aldq hx hb hK hP (16) 3 (wl_at (by omega) (ce_6 (by decide))) rfl (vp_in_iff.mpr ⟨by omega, by omega⟩) dX7_offer_35 ?_
        refine W.eq (g2 := F0 m 36 ls [.ref (ad (29 + 15 * x0.toNatClampNeg))]) (by rw [if_pos hx_7, show 16 + 13 + 15 * x0.toNatClampNeg = 29 + 15 * x0.toNatClampNeg from by omega]; rfl) ?_
        refine lv_astore (lv' := [(4, .ref (ad (29 + 15 * x0.toNatClampNeg))), (0, .ref (ad 0)), (1, .int x0), (2, .int 0), (3, .int x1)]) hx hb dX7_offer_36 hl (by decide) rfl (fun ls hl => ?_)
        refine lv_aload hx hb dX7_offer_38 (lv_at hl 0 rfl) ?_
        refine va_get (D := (dC, dI)) (ci := 0) (v := .int (v (29 + 15 * x0.toNatClampNeg) 0)) (C := RX0) (T := TX0) (N := 11) hx hb hts iwX7_offer_X0 hown hK hP (29 + 15 * x0.toNatClampNeg) (wl_at (by omega) (ce_9 (kd_c _ hx_7).1.1)) rfl 0 (by decide) (hts (.fieldLink RX7 99 "QuietStairs$Case" "state" "I") fwX7_offer_3) (fun _ h9 => h9) rfl dX7_offer_40 ?_
        refine lv_topi (fun x_8 ex_8 => ?_)
        have qx_8 : x_8.toInt = (v (29 + 15 * x0.toNatClampNeg) (0)).toInt := congrArg Int32.toInt ex_8
        refine lv_if_eq (tgt := 49) hx hb dX7_offer_43 (by decide) (fun c_9 => ?_) (fun c_9 => ?_)
        · have tc_9 : x_8.toInt = (0 : Int32).toInt := by rw [c_9]
          refine lv_aload hx hb dX7_offer_49 (lv_at hl 0 rfl) ?_
          refine va_get (D := (dC, dI)) (ci := 0) (v := .ref (ad (29 + 15 * x0.toNatClampNeg + 2))) (C := RX0) (T := TX0) (N := 11) hx hb hts iwX7_offer_X0 hown hK hP (29 + 15 * x0.toNatClampNeg) (wl_at (by omega) (ce_9 (kd_c _ hx_7).1.1)) rfl 7 (by decide) (hts (.fieldLink RX7 135 "QuietStairs$Case" "box" "[I") fwX7_offer_4) (fun _ h9 => h9) rfl dX7_offer_51 ?_
          refine W.eq (g2 := F0 m 54 ls [.ref (ad (31 + 15 * x0.toNatClampNeg))]) (by rw [show 29 + 15 * x0.toNatClampNeg + 2 = 31 + 15 * x0.toNatClampNeg from by omega]) ?_
          refine lv_iload_n hx hb dX7_offer_54 rfl (lv_at hl 3 rfl) ?_
          refine va_iald hx hb hK hP (31 + 15 * x0.toNatClampNeg) 0 (wl_at (by omega) (ce_20 (kd_c _ hx_7).1.2.2.1)) rfl (by unfold vp_in; decide) dX7_offer_55 ?_
          refine lv_topi (fun x_10 ex_10 => ?_)
          have ex_10 : x_10 = v (31 + 15 * x0.toNatClampNeg) 0 := ex_10
          have qx_10 : x_10.toInt = (v (31 + 15 * x0.toNatClampNeg) (0)).toInt := congrArg Int32.toInt ex_10
          refine lv_iconst (v := (-1)) hx hb dX7_offer_56 (by decide) ?_
          have k_m1 : ((-1) : Int32).toInt = -1 := by decide
          refine lv_icmp_eq (tgt := 63) hx hb dX7_offer_57 (by decide) (fun c_11 => ?_) (fun c_11 => ?_)
          · have tc_11 : x_10.toInt = ((-1) : Int32).toInt := by rw [c_11]
            refine lv_aload hx hb dX7_offer_63 (lv_at hl 0 rfl) ?_
            refine va_get (D := (dC, dI)) (ci := 0) (v := .int (v (29 + 15 * x0.toNatClampNeg) 2)) (C := RX0) (T := TX0) (N := 11) hx hb hts iwX7_offer_X0 hown hK hP (29 + 15 * x0.toNatClampNeg) (wl_at (by omega) (ce_9 (kd_c _ hx_7).1.1)) rfl 2 (by decide) (hts (.fieldLink RX7 117 "QuietStairs$Case" "roundsOver" "I") fwX7_offer_5) (fun _ h9 => h9) rfl dX7_offer_65 ?_
            refine lv_topi (fun x_12 ex_12 => ?_)
            have bzx_12 : 0 ≤ x_12.toInt ∧ x_12.toInt ≤ 5 := by rw [ex_12]; exact hv.at (K := 9) (kd_c _ hx_7).1.1 rfl
            have qx_12 : x_12.toInt = (v (29 + 15 * x0.toNatClampNeg) (2)).toInt := congrArg Int32.toInt ex_12
            refine lv_iconst (v := 5) hx hb dX7_offer_68 (by decide) ?_
            have k_5 : (5 : Int32).toInt = 5 := by decide
            refine lv_icmp_lt (tgt := 75) hx hb dX7_offer_69 (by decide) (fun c_13 => ?_) (fun c_13 => ?_)
            · have tc_13 : x_12.toInt < (5 : Int32).toInt := Int32.lt_iff_toInt_lt.mp c_13
              refine lv_aload hx hb dX7_offer_75 (lv_at hl 0 rfl) ?_
              refine va_get (D := (dC, dI)) (ci := 0) (v := .ref (ad (29 + 15 * x0.toNatClampNeg + 2))) (C := RX0) (T := TX0) (N := 11) hx hb hts iwX7_offer_X0 hown hK hP (29 + 15 * x0.toNatClampNeg) (wl_at (by omega) (ce_9 (kd_c _ hx_7).1.1)) rfl 7 (by decide) (hts (.fieldLink RX7 135 "QuietStairs$Case" "box" "[I") fwX7_offer_4) (fun _ h9 => h9) rfl dX7_offer_77 ?_
              refine W.eq (g2 := F0 m 80 ls [.ref (ad (31 + 15 * x0.toNatClampNeg))]) (by rw [show 29 + 15 * x0.toNatClampNeg + 2 = 31 + 15 * x0.toNatClampNeg from by omega]) ?_
              refine lv_iload_n hx hb dX7_offer_80 rfl (lv_at hl 3 rfl) ?_
              refine lv_iload_n hx hb dX7_offer_81 rfl (lv_at hl 4 rfl) ?_
              refine va_iast hx hb hK hP hD hS (31 + 15 * x0.toNatClampNeg) 0 (wl_at (by omega) (ce_20 (kd_c _ hx_7).1.2.2.1)) rfl (by unfold vp_in; decide) dX7_offer_82 (fun H locs hP hD hS => ?_)
              have hP : va_P (dC, dI) vwCl ((wl ad kv cy N v).set (31 + 15 * x0.toNatClampNeg) (ad (31 + 15 * x0.toNatClampNeg), .inl (cy 0, 2, .inl (upd (v (31 + 15 * x0.toNatClampNeg)) 0 x1)))) H := hP
              have hD : va_D A ((wl ad kv cy N v).set (31 + 15 * x0.toNatClampNeg) (ad (31 + 15 * x0.toNatClampNeg), .inl (cy 0, 2, .inl (upd (v (31 + 15 * x0.toNatClampNeg)) 0 x1)))) := hD
              obtain ⟨v_14, ev_14⟩ : ∃ u : Nat → Nat → Int32, u = upr v (31 + 15 * x0.toNatClampNeg) (upd (v (31 + 15 * x0.toNatClampNeg)) 0 x1) := ⟨_, rfl⟩
              have hP : va_P (dC, dI) vwCl (wl ad kv cy N v_14) H := by rw [ev_14, ← wl_put (e := _) (ce_20 (kd_c _ hx_7).1.2.2.1)]; exact hP
              have hD : va_D A (wl ad kv cy N v_14) := by rw [ev_14, ← wl_put (e := _) (ce_20 (kd_c _ hx_7).1.2.2.1)]; exact hD
              have hv : Iv v_14 := by rw [ev_14]; exact hv.put (K := 20) (kd_c _ hx_7).1.2.2.1 (fun h q => by simp [bd] at q)
              refine lv_aload hx hb dX7_offer_83 (lv_at hl 0 rfl) ?_
              refine va_get (D := (dC, dI)) (ci := 0) (v := .ref (ad (29 + 15 * x0.toNatClampNeg + 2))) (C := RX0) (T := TX0) (N := 11) hx hb hts iwX7_offer_X0 hown hK hP (29 + 15 * x0.toNatClampNeg) (wl_at (by omega) (ce_9 (kd_c _ hx_7).1.1)) rfl 7 (by decide) (hts (.fieldLink RX7 135 "QuietStairs$Case" "box" "[I") fwX7_offer_4) (fun _ h9 => h9) rfl dX7_offer_85 ?_
              refine W.eq (g2 := F0 m 88 ls [.ref (ad (31 + 15 * x0.toNatClampNeg))]) (by rw [show 29 + 15 * x0.toNatClampNeg + 2 = 31 + 15 * x0.toNatClampNeg from by omega]) ?_
              refine lv_iconst (v := 1) hx hb dX7_offer_88 (by decide) ?_
              refine lv_iload_n hx hb dX7_offer_89 rfl (lv_at hl 3 rfl) ?_
              refine lv_isub hx hb dX7_offer_90 ?_
              refine lv_topi (fun x_15 ex_15 => ?_)
              obtain rfl : x_15 = 1 := ex_15.trans (by decide)
              refine va_iald hx hb hK hP (31 + 15 * x0.toNatClampNeg) 0 (wl_at (by omega) (ce_20 (kd_c _ hx_7).1.2.2.1)) rfl (by unfold vp_in; decide) dX7_offer_91 ?_
              refine lv_topi (fun x_16 ex_16 => ?_)
              have ex_16 : x_16 = v_14 (31 + 15 * x0.toNatClampNeg) 1 := ex_16
              rw [ev_14, upr_s, pk_un (by decide)] at ex_16
              have qx_16 : x_16.toInt = (v (31 + 15 * x0.toNatClampNeg) (1)).toInt := congrArg Int32.toInt ex_16
              refine lv_iconst (v := (-1)) hx hb dX7_offer_92 (by decide) ?_
              refine lv_icmp_ne (tgt := 98) hx hb dX7_offer_93 (by decide) (fun c_17 => ?_) (fun c_17 => ?_)
              · have tc_17 : x_16.toInt ≠ ((-1) : Int32).toInt := fun q => absurd (Int32.toInt_inj.mp q) c_17
                refine lv_aload hx hb dX7_offer_98 (lv_at hl 0 rfl) ?_
                have hx2 : v_14 (29 + 15 * x0.toNatClampNeg) 2 = v (29 + 15 * x0.toNatClampNeg) 2 := by rw [ev_14, upr_n (by omega)]
                have hx1 : v_14 (31 + 15 * x0.toNatClampNeg) 0 = x1 := by rw [ev_14, upr_s, pk_us]
                have hx0 : v_14 (31 + 15 * x0.toNatClampNeg) 1 = v (31 + 15 * x0.toNatClampNeg) 1 := by rw [ev_14, upr_s, pk_un (by decide)]
                refine yw_i (w1 := fun (u : Nat → Nat → Int32) => wl ad kv cy N u) hD hS hA (va_runV (As := []) (rest := []) ⟨hx, hb, hml, hown, hts⟩ (e_X0_endRound l dC dI cy _ ad kv N hN v_14 hv x0.toNatClampNeg hx_7 (by rw [hx2]; omega)) (cwV 0 hts gX7_offer_X0_endRound rfl rfl rfl hd_V_X0_endRound_0 ⟨Nat.le_of_ble_eq_true rfl, Nat.le_of_ble_eq_true rfl⟩) (yw_preV hE hK hP hD (ci := 0) (q0 := (29 + 15 * x0.toNatClampNeg)) rfl (wl_at (by omega) (ce_9 (kd_c _ hx_7).1.1))) rfl rfl hl.1 rfl (lv_room (Nat.le_of_ble_eq_true rfl)) dX7_offer_100 ⟨Nat.le_of_ble_eq_true rfl, Nat.le_of_ble_eq_true rfl⟩) (fun r_18 v_18 H locs hw_18 hP hD hS => ?_)
                obtain ⟨hv, hw_18⟩ := hw_18
                rw [hx2, hx1, hx0] at hw_18
                rcases Int.lt_or_le (v (31 + 15 * x0.toNatClampNeg) 1).toInt x1.toInt with hlt_19 | hle_19
                · obtain ⟨rfl, hp_19⟩ := hw_18.2 hlt_19
                  refine lv_if_eq (tgt := 110) hx hb dX7_offer_103 (by decide) (fun _ => ?_) (fun c9 => absurd c9 (by decide))
                  refine lv_iconst (v := 2) hx hb dX7_offer_110 (by decide) ?_
                  have hpost : (¬ ((0 ≤ x0.toInt ∧ x0.toInt < (v 13 2).toInt) ∧ 0 ≤ x1.toInt ∧ x1.toInt ≤ 100) → (2 : Int32) = -1 ∧ v_18 = v) ∧ (((0 ≤ x0.toInt ∧ x0.toInt < (v 13 2).toInt) ∧ 0 ≤ x1.toInt ∧ x1.toInt ≤ 100) ∧ (v (29 + 15 * x0.toNatClampNeg) 0).toInt ≠ 0 → (2 : Int32) = -4 ∧ v_18 = v) ∧ (((0 ≤ x0.toInt ∧ x0.toInt < (v 13 2).toInt) ∧ 0 ≤ x1.toInt ∧ x1.toInt ≤ 100) ∧ (v (29 + 15 * x0.toNatClampNeg) 0).toInt = 0 ∧ (v (31 + 15 * x0.toNatClampNeg) 0).toInt ≠ -1 → (2 : Int32) = -3 ∧ v_18 = v) ∧ (((0 ≤ x0.toInt ∧ x0.toInt < (v 13 2).toInt) ∧ 0 ≤ x1.toInt ∧ x1.toInt ≤ 100) ∧ (v (29 + 15 * x0.toNatClampNeg) 0).toInt = 0 ∧ (v (31 + 15 * x0.toNatClampNeg) 0).toInt = -1 ∧ 5 ≤ (v (29 + 15 * x0.toNatClampNeg) 2).toInt → (2 : Int32) = -2 ∧ v_18 = v) ∧ (((0 ≤ x0.toInt ∧ x0.toInt < (v 13 2).toInt) ∧ 0 ≤ x1.toInt ∧ x1.toInt ≤ 100) ∧ (v (29 + 15 * x0.toNatClampNeg) 0).toInt = 0 ∧ (v (31 + 15 * x0.toNatClampNeg) 0).toInt = -1 ∧ (v (29 + 15 * x0.toNatClampNeg) 2).toInt < 5 ∧ (v (31 + 15 * x0.toNatClampNeg) 1).toInt = -1 → (2 : Int32) = 0 ∧ (∀ k j : Nat, v_18 k j = if k = 31 + 15 * x0.toNatClampNeg ∧ j = 0 then x1 else v k j)) ∧ (((0 ≤ x0.toInt ∧ x0.toInt < (v 13 2).toInt) ∧ 0 ≤ x1.toInt ∧ x1.toInt ≤ 100) ∧ (v (29 + 15 * x0.toNatClampNeg) 0).toInt = 0 ∧ (v (31 + 15 * x0.toNatClampNeg) 0).toInt = -1 ∧ (v (29 + 15 * x0.toNatClampNeg) 2).toInt < 5 ∧ (v (31 + 15 * x0.toNatClampNeg) 1).toInt ≠ -1 ∧ (v (31 + 15 * x0.toNatClampNeg) 1).toInt < x1.toInt → (2 : Int32) = 2 ∧ (∀ k j : Nat, v_18 k j = if k = 31 + 15 * x0.toNatClampNeg ∧ j = 1 then -1 else if k = 31 + 15 * x0.toNatClampNeg ∧ j = 0 then -1 else if k = 29 + 15 * x0.toNatClampNeg ∧ j = 2 then v (29 + 15 * x0.toNatClampNeg) 2 + 1 else if k = 33 + 15 * x0.toNatClampNeg + 1 ∧ j = (v (29 + 15 * x0.toNatClampNeg) 2).toNatClampNeg then v (31 + 15 * x0.toNatClampNeg) 1 else if k = 33 + 15 * x0.toNatClampNeg + 0 ∧ j = (v (29 + 15 * x0.toNatClampNeg) 2).toNatClampNeg then x1 else if k = 31 + 15 * x0.toNatClampNeg ∧ j = 0 then x1 else v k j)) ∧ (((0 ≤ x0.toInt ∧ x0.toInt < (v 13 2).toInt) ∧ 0 ≤ x1.toInt ∧ x1.toInt ≤ 100) ∧ (v (29 + 15 * x0.toNatClampNeg) 0).toInt = 0 ∧ (v (31 + 15 * x0.toNatClampNeg) 0).toInt = -1 ∧ (v (29 + 15 * x0.toNatClampNeg) 2).toInt < 5 ∧ (v (31 + 15 * x0.toNatClampNeg) 1).toInt ≠ -1 ∧ x1.toInt ≤ (v (31 + 15 * x0.toNatClampNeg) 1).toInt → (2 : Int32) = 1 ∧ (∀ k j : Nat, v_18 k j = if k = 29 + 15 * x0.toNatClampNeg ∧ j = 1 then (x1 + v (31 + 15 * x0.toNatClampNeg) 1) / 2 else if k = 29 + 15 * x0.toNatClampNeg ∧ j = 0 then 1 else if k = 29 + 15 * x0.toNatClampNeg ∧ j = 2 then v (29 + 15 * x0.toNatClampNeg) 2 + 1 else if k = 33 + 15 * x0.toNatClampNeg + 1 ∧ j = (v (29 + 15 * x0.toNatClampNeg) 2).toNatClampNeg then v (31 + 15 * x0.toNatClampNeg) 1 else if k = 33 + 15 * x0.toNatClampNeg + 0 ∧ j = (v (29 + 15 * x0.toNatClampNeg) 2).toNatClampNeg then x1 else if k = 31 + 15 * x0.toNatClampNeg ∧ j = 0 then x1 else v k j)) := by
                    refine ⟨fun hq => ?_, fun hq => ?_, fun hq => ?_, fun hq => ?_, fun hq => ?_, fun hq => ?_, fun hq => ?_⟩
                    · exfalso; omega
                    · exfalso; omega
                    · exfalso; omega
                    · exfalso; omega
                    · exfalso; omega
                    · exact ⟨rfl, fun k j => by rw [hp_19, ev_14, up2]⟩
                    · exfalso; omega
                  exact W.iret (v := 2) hx hb hr (fun t ht hW => ⟨⟨2, v_18, rfl, ⟨hv, hpost⟩, by rw [ht]; exact hP, hD⟩, hS.F ht⟩) hS.2.2 dX7_offer_111
                · obtain ⟨rfl, hp_19⟩ := hw_18.1 hle_19
                  refine lv_if_eq (tgt := 110) hx hb dX7_offer_103 (by decide) (fun c9 => absurd c9 (by decide)) (fun _ => ?_)
                  refine lv_iconst (v := 1) hx hb dX7_offer_106 (by decide) ?_
                  refine lv_goto (tgt := 111) hx hb dX7_offer_107 (by decide) ?_
                  have hpost : (¬ ((0 ≤ x0.toInt ∧ x0.toInt < (v 13 2).toInt) ∧ 0 ≤ x1.toInt ∧ x1.toInt ≤ 100) → (1 : Int32) = -1 ∧ v_18 = v) ∧ (((0 ≤ x0.toInt ∧ x0.toInt < (v 13 2).toInt) ∧ 0 ≤ x1.toInt ∧ x1.toInt ≤ 100) ∧ (v (29 + 15 * x0.toNatClampNeg) 0).toInt ≠ 0 → (1 : Int32) = -4 ∧ v_18 = v) ∧ (((0 ≤ x0.toInt ∧ x0.toInt < (v 13 2).toInt) ∧ 0 ≤ x1.toInt ∧ x1.toInt ≤ 100) ∧ (v (29 + 15 * x0.toNatClampNeg) 0).toInt = 0 ∧ (v (31 + 15 * x0.toNatClampNeg) 0).toInt ≠ -1 → (1 : Int32) = -3 ∧ v_18 = v) ∧ (((0 ≤ x0.toInt ∧ x0.toInt < (v 13 2).toInt) ∧ 0 ≤ x1.toInt ∧ x1.toInt ≤ 100) ∧ (v (29 + 15 * x0.toNatClampNeg) 0).toInt = 0 ∧ (v (31 + 15 * x0.toNatClampNeg) 0).toInt = -1 ∧ 5 ≤ (v (29 + 15 * x0.toNatClampNeg) 2).toInt → (1 : Int32) = -2 ∧ v_18 = v) ∧ (((0 ≤ x0.toInt ∧ x0.toInt < (v 13 2).toInt) ∧ 0 ≤ x1.toInt ∧ x1.toInt ≤ 100) ∧ (v (29 + 15 * x0.toNatClampNeg) 0).toInt = 0 ∧ (v (31 + 15 * x0.toNatClampNeg) 0).toInt = -1 ∧ (v (29 + 15 * x0.toNatClampNeg) 2).toInt < 5 ∧ (v (31 + 15 * x0.toNatClampNeg) 1).toInt = -1 → (1 : Int32) = 0 ∧ (∀ k j : Nat, v_18 k j = if k = 31 + 15 * x0.toNatClampNeg ∧ j = 0 then x1 else v k j)) ∧ (((0 ≤ x0.toInt ∧ x0.toInt < (v 13 2).toInt) ∧ 0 ≤ x1.toInt ∧ x1.toInt ≤ 100) ∧ (v (29 + 15 * x0.toNatClampNeg) 0).toInt = 0 ∧ (v (31 + 15 * x0.toNatClampNeg) 0).toInt = -1 ∧ (v (29 + 15 * x0.toNatClampNeg) 2).toInt < 5 ∧ (v (31 + 15 * x0.toNatClampNeg) 1).toInt ≠ -1 ∧ (v (31 + 15 * x0.toNatClampNeg) 1).toInt < x1.toInt → (1 : Int32) = 2 ∧ (∀ k j : Nat, v_18 k j = if k = 31 + 15 * x0.toNatClampNeg ∧ j = 1 then -1 else if k = 31 + 15 * x0.toNatClampNeg ∧ j = 0 then -1 else if k = 29 + 15 * x0.toNatClampNeg ∧ j = 2 then v (29 + 15 * x0.toNatClampNeg) 2 + 1 else if k = 33 + 15 * x0.toNatClampNeg + 1 ∧ j = (v (29 + 15 * x0.toNatClampNeg) 2).toNatClampNeg then v (31 + 15 * x0.toNatClampNeg) 1 else if k = 33 + 15 * x0.toNatClampNeg + 0 ∧ j = (v (29 + 15 * x0.toNatClampNeg) 2).toNatClampNeg then x1 else if k = 31 + 15 * x0.toNatClampNeg ∧ j = 0 then x1 else v k j)) ∧ (((0 ≤ x0.toInt ∧ x0.toInt < (v 13 2).toInt) ∧ 0 ≤ x1.toInt ∧ x1.toInt ≤ 100) ∧ (v (29 + 15 * x0.toNatClampNeg) 0).toInt = 0 ∧ (v (31 + 15 * x0.toNatClampNeg) 0).toInt = -1 ∧ (v (29 + 15 * x0.toNatClampNeg) 2).toInt < 5 ∧ (v (31 + 15 * x0.toNatClampNeg) 1).toInt ≠ -1 ∧ x1.toInt ≤ (v (31 + 15 * x0.toNatClampNeg) 1).toInt → (1 : Int32) = 1 ∧ (∀ k j : Nat, v_18 k j = if k = 29 + 15 * x0.toNatClampNeg ∧ j = 1 then (x1 + v (31 + 15 * x0.toNatClampNeg) 1) / 2 else if k = 29 + 15 * x0.toNatClampNeg ∧ j = 0 then 1 else if k = 29 + 15 * x0.toNatClampNeg ∧ j = 2 then v (29 + 15 * x0.toNatClampNeg) 2 + 1 else if k = 33 + 15 * x0.toNatClampNeg + 1 ∧ j = (v (29 + 15 * x0.toNatClampNeg) 2).toNatClampNeg then v (31 + 15 * x0.toNatClampNeg) 1 else if k = 33 + 15 * x0.toNatClampNeg + 0 ∧ j = (v (29 + 15 * x0.toNatClampNeg) 2).toNatClampNeg then x1 else if k = 31 + 15 * x0.toNatClampNeg ∧ j = 0 then x1 else v k j)) := by
                    refine ⟨fun hq => ?_, fun hq => ?_, fun hq => ?_, fun hq => ?_, fun hq => ?_, fun hq => ?_, fun hq => ?_⟩
                    · exfalso; omega
                    · exfalso; omega
                    · exfalso; omega
                    · exfalso; omega
                    · exfalso; omega
                    · exfalso; omega
                    · exact ⟨rfl, fun k j => by rw [hp_19, ev_14, up2]⟩
                  exact W.iret (v := 1) hx hb hr (fun t ht hW => ⟨⟨1, v_18, rfl, ⟨hv, hpost⟩, by rw [ht]; exact hP, hD⟩, hS.F ht⟩) hS.2.2 dX7_offer_111
              · have tc_17 : x_16.toInt = ((-1) : Int32).toInt := by rw [c_17]
                refine lv_iconst (v := 0) hx hb dX7_offer_96 (by decide) ?_
                have hpost : (¬ ((0 ≤ x0.toInt ∧ x0.toInt < (v 13 2).toInt) ∧ 0 ≤ x1.toInt ∧ x1.toInt ≤ 100) → (0 : Int32) = -1 ∧ v_14 = v) ∧ (((0 ≤ x0.toInt ∧ x0.toInt < (v 13 2).toInt) ∧ 0 ≤ x1.toInt ∧ x1.toInt ≤ 100) ∧ (v (29 + 15 * x0.toNatClampNeg) 0).toInt ≠ 0 → (0 : Int32) = -4 ∧ v_14 = v) ∧ (((0 ≤ x0.toInt ∧ x0.toInt < (v 13 2).toInt) ∧ 0 ≤ x1.toInt ∧ x1.toInt ≤ 100) ∧ (v (29 + 15 * x0.toNatClampNeg) 0).toInt = 0 ∧ (v (31 + 15 * x0.toNatClampNeg) 0).toInt ≠ -1 → (0 : Int32) = -3 ∧ v_14 = v) ∧ (((0 ≤ x0.toInt ∧ x0.toInt < (v 13 2).toInt) ∧ 0 ≤ x1.toInt ∧ x1.toInt ≤ 100) ∧ (v (29 + 15 * x0.toNatClampNeg) 0).toInt = 0 ∧ (v (31 + 15 * x0.toNatClampNeg) 0).toInt = -1 ∧ 5 ≤ (v (29 + 15 * x0.toNatClampNeg) 2).toInt → (0 : Int32) = -2 ∧ v_14 = v) ∧ (((0 ≤ x0.toInt ∧ x0.toInt < (v 13 2).toInt) ∧ 0 ≤ x1.toInt ∧ x1.toInt ≤ 100) ∧ (v (29 + 15 * x0.toNatClampNeg) 0).toInt = 0 ∧ (v (31 + 15 * x0.toNatClampNeg) 0).toInt = -1 ∧ (v (29 + 15 * x0.toNatClampNeg) 2).toInt < 5 ∧ (v (31 + 15 * x0.toNatClampNeg) 1).toInt = -1 → (0 : Int32) = 0 ∧ (∀ k j : Nat, v_14 k j = if k = 31 + 15 * x0.toNatClampNeg ∧ j = 0 then x1 else v k j)) ∧ (((0 ≤ x0.toInt ∧ x0.toInt < (v 13 2).toInt) ∧ 0 ≤ x1.toInt ∧ x1.toInt ≤ 100) ∧ (v (29 + 15 * x0.toNatClampNeg) 0).toInt = 0 ∧ (v (31 + 15 * x0.toNatClampNeg) 0).toInt = -1 ∧ (v (29 + 15 * x0.toNatClampNeg) 2).toInt < 5 ∧ (v (31 + 15 * x0.toNatClampNeg) 1).toInt ≠ -1 ∧ (v (31 + 15 * x0.toNatClampNeg) 1).toInt < x1.toInt → (0 : Int32) = 2 ∧ (∀ k j : Nat, v_14 k j = if k = 31 + 15 * x0.toNatClampNeg ∧ j = 1 then -1 else if k = 31 + 15 * x0.toNatClampNeg ∧ j = 0 then -1 else if k = 29 + 15 * x0.toNatClampNeg ∧ j = 2 then v (29 + 15 * x0.toNatClampNeg) 2 + 1 else if k = 33 + 15 * x0.toNatClampNeg + 1 ∧ j = (v (29 + 15 * x0.toNatClampNeg) 2).toNatClampNeg then v (31 + 15 * x0.toNatClampNeg) 1 else if k = 33 + 15 * x0.toNatClampNeg + 0 ∧ j = (v (29 + 15 * x0.toNatClampNeg) 2).toNatClampNeg then x1 else if k = 31 + 15 * x0.toNatClampNeg ∧ j = 0 then x1 else v k j)) ∧ (((0 ≤ x0.toInt ∧ x0.toInt < (v 13 2).toInt) ∧ 0 ≤ x1.toInt ∧ x1.toInt ≤ 100) ∧ (v (29 + 15 * x0.toNatClampNeg) 0).toInt = 0 ∧ (v (31 + 15 * x0.toNatClampNeg) 0).toInt = -1 ∧ (v (29 + 15 * x0.toNatClampNeg) 2).toInt < 5 ∧ (v (31 + 15 * x0.toNatClampNeg) 1).toInt ≠ -1 ∧ x1.toInt ≤ (v (31 + 15 * x0.toNatClampNeg) 1).toInt → (0 : Int32) = 1 ∧ (∀ k j : Nat, v_14 k j = if k = 29 + 15 * x0.toNatClampNeg ∧ j = 1 then (x1 + v (31 + 15 * x0.toNatClampNeg) 1) / 2 else if k = 29 + 15 * x0.toNatClampNeg ∧ j = 0 then 1 else if k = 29 + 15 * x0.toNatClampNeg ∧ j = 2 then v (29 + 15 * x0.toNatClampNeg) 2 + 1 else if k = 33 + 15 * x0.toNatClampNeg + 1 ∧ j = (v (29 + 15 * x0.toNatClampNeg) 2).toNatClampNeg then v (31 + 15 * x0.toNatClampNeg) 1 else if k = 33 + 15 * x0.toNatClampNeg + 0 ∧ j = (v (29 + 15 * x0.toNatClampNeg) 2).toNatClampNeg then x1 else if k = 31 + 15 * x0.toNatClampNeg ∧ j = 0 then x1 else v k j)) := by
                  refine ⟨fun hq => ?_, fun hq => ?_, fun hq => ?_, fun hq => ?_, fun hq => ?_, fun hq => ?_, fun hq => ?_⟩
                  · exfalso; omega
                  · exfalso; omega
                  · exfalso; omega
                  · exfalso; omega
                  · exact ⟨rfl, fun k j => by rw [ev_14, up2]⟩
                  · exfalso; omega
                  · exfalso; omega
                exact W.iret (v := 0) hx hb hr (fun t ht hW => ⟨⟨0, v_14, rfl, ⟨hv, hpost⟩, by rw [ht]; exact hP, hD⟩, hS.F ht⟩) hS.2.2 dX7_offer_97
            · have tc_13 : x_12.toInt ≥ (5 : Int32).toInt := Int32.le_iff_toInt_le.mp (Int32.not_lt.mp c_13)
              refine lv_bipush (v := (-2)) hx hb dX7_offer_72 (by decide) ?_
              have hpost : (¬ ((0 ≤ x0.toInt ∧ x0.toInt < (v 13 2).toInt) ∧ 0 ≤ x1.toInt ∧ x1.toInt ≤ 100) → ((-2) : Int32) = -1 ∧ v = v) ∧ (((0 ≤ x0.toInt ∧ x0.toInt < (v 13 2).toInt) ∧ 0 ≤ x1.toInt ∧ x1.toInt ≤ 100) ∧ (v (29 + 15 * x0.toNatClampNeg) 0).toInt ≠ 0 → ((-2) : Int32) = -4 ∧ v = v) ∧ (((0 ≤ x0.toInt ∧ x0.toInt < (v 13 2).toInt) ∧ 0 ≤ x1.toInt ∧ x1.toInt ≤ 100) ∧ (v (29 + 15 * x0.toNatClampNeg) 0).toInt = 0 ∧ (v (31 + 15 * x0.toNatClampNeg) 0).toInt ≠ -1 → ((-2) : Int32) = -3 ∧ v = v) ∧ (((0 ≤ x0.toInt ∧ x0.toInt < (v 13 2).toInt) ∧ 0 ≤ x1.toInt ∧ x1.toInt ≤ 100) ∧ (v (29 + 15 * x0.toNatClampNeg) 0).toInt = 0 ∧ (v (31 + 15 * x0.toNatClampNeg) 0).toInt = -1 ∧ 5 ≤ (v (29 + 15 * x0.toNatClampNeg) 2).toInt → ((-2) : Int32) = -2 ∧ v = v) ∧ (((0 ≤ x0.toInt ∧ x0.toInt < (v 13 2).toInt) ∧ 0 ≤ x1.toInt ∧ x1.toInt ≤ 100) ∧ (v (29 + 15 * x0.toNatClampNeg) 0).toInt = 0 ∧ (v (31 + 15 * x0.toNatClampNeg) 0).toInt = -1 ∧ (v (29 + 15 * x0.toNatClampNeg) 2).toInt < 5 ∧ (v (31 + 15 * x0.toNatClampNeg) 1).toInt = -1 → ((-2) : Int32) = 0 ∧ (∀ k j : Nat, v k j = if k = 31 + 15 * x0.toNatClampNeg ∧ j = 0 then x1 else v k j)) ∧ (((0 ≤ x0.toInt ∧ x0.toInt < (v 13 2).toInt) ∧ 0 ≤ x1.toInt ∧ x1.toInt ≤ 100) ∧ (v (29 + 15 * x0.toNatClampNeg) 0).toInt = 0 ∧ (v (31 + 15 * x0.toNatClampNeg) 0).toInt = -1 ∧ (v (29 + 15 * x0.toNatClampNeg) 2).toInt < 5 ∧ (v (31 + 15 * x0.toNatClampNeg) 1).toInt ≠ -1 ∧ (v (31 + 15 * x0.toNatClampNeg) 1).toInt < x1.toInt → ((-2) : Int32) = 2 ∧ (∀ k j : Nat, v k j = if k = 31 + 15 * x0.toNatClampNeg ∧ j = 1 then -1 else if k = 31 + 15 * x0.toNatClampNeg ∧ j = 0 then -1 else if k = 29 + 15 * x0.toNatClampNeg ∧ j = 2 then v (29 + 15 * x0.toNatClampNeg) 2 + 1 else if k = 33 + 15 * x0.toNatClampNeg + 1 ∧ j = (v (29 + 15 * x0.toNatClampNeg) 2).toNatClampNeg then v (31 + 15 * x0.toNatClampNeg) 1 else if k = 33 + 15 * x0.toNatClampNeg + 0 ∧ j = (v (29 + 15 * x0.toNatClampNeg) 2).toNatClampNeg then x1 else if k = 31 + 15 * x0.toNatClampNeg ∧ j = 0 then x1 else v k j)) ∧ (((0 ≤ x0.toInt ∧ x0.toInt < (v 13 2).toInt) ∧ 0 ≤ x1.toInt ∧ x1.toInt ≤ 100) ∧ (v (29 + 15 * x0.toNatClampNeg) 0).toInt = 0 ∧ (v (31 + 15 * x0.toNatClampNeg) 0).toInt = -1 ∧ (v (29 + 15 * x0.toNatClampNeg) 2).toInt < 5 ∧ (v (31 + 15 * x0.toNatClampNeg) 1).toInt ≠ -1 ∧ x1.toInt ≤ (v (31 + 15 * x0.toNatClampNeg) 1).toInt → ((-2) : Int32) = 1 ∧ (∀ k j : Nat, v k j = if k = 29 + 15 * x0.toNatClampNeg ∧ j = 1 then (x1 + v (31 + 15 * x0.toNatClampNeg) 1) / 2 else if k = 29 + 15 * x0.toNatClampNeg ∧ j = 0 then 1 else if k = 29 + 15 * x0.toNatClampNeg ∧ j = 2 then v (29 + 15 * x0.toNatClampNeg) 2 + 1 else if k = 33 + 15 * x0.toNatClampNeg + 1 ∧ j = (v (29 + 15 * x0.toNatClampNeg) 2).toNatClampNeg then v (31 + 15 * x0.toNatClampNeg) 1 else if k = 33 + 15 * x0.toNatClampNeg + 0 ∧ j = (v (29 + 15 * x0.toNatClampNeg) 2).toNatClampNeg then x1 else if k = 31 + 15 * x0.toNatClampNeg ∧ j = 0 then x1 else v k j)) := by
                refine ⟨fun hq => ?_, fun hq => ?_, fun hq => ?_, fun hq => ?_, fun hq => ?_, fun hq => ?_, fun hq => ?_⟩
                · exfalso; omega
                · exfalso; omega
                · exfalso; omega
                · exact ⟨rfl, rfl⟩
                · exfalso; omega
                · exfalso; omega
                · exfalso; omega
              exact W.iret (v := (-2)) hx hb hr (fun t ht hW => ⟨⟨(-2), v, rfl, ⟨hv, hpost⟩, by rw [ht]; exact hP, hD⟩, hS.F ht⟩) hS.2.2 dX7_offer_74
          · have tc_11 : x_10.toInt ≠ ((-1) : Int32).toInt := fun q => absurd (Int32.toInt_inj.mp q) c_11
            refine lv_bipush (v := (-3)) hx hb dX7_offer_60 (by decide) ?_
            have hpost : (¬ ((0 ≤ x0.toInt ∧ x0.toInt < (v 13 2).toInt) ∧ 0 ≤ x1.toInt ∧ x1.toInt ≤ 100) → ((-3) : Int32) = -1 ∧ v = v) ∧ (((0 ≤ x0.toInt ∧ x0.toInt < (v 13 2).toInt) ∧ 0 ≤ x1.toInt ∧ x1.toInt ≤ 100) ∧ (v (29 + 15 * x0.toNatClampNeg) 0).toInt ≠ 0 → ((-3) : Int32) = -4 ∧ v = v) ∧ (((0 ≤ x0.toInt ∧ x0.toInt < (v 13 2).toInt) ∧ 0 ≤ x1.toInt ∧ x1.toInt ≤ 100) ∧ (v (29 + 15 * x0.toNatClampNeg) 0).toInt = 0 ∧ (v (31 + 15 * x0.toNatClampNeg) 0).toInt ≠ -1 → ((-3) : Int32) = -3 ∧ v = v) ∧ (((0 ≤ x0.toInt ∧ x0.toInt < (v 13 2).toInt) ∧ 0 ≤ x1.toInt ∧ x1.toInt ≤ 100) ∧ (v (29 + 15 * x0.toNatClampNeg) 0).toInt = 0 ∧ (v (31 + 15 * x0.toNatClampNeg) 0).toInt = -1 ∧ 5 ≤ (v (29 + 15 * x0.toNatClampNeg) 2).toInt → ((-3) : Int32) = -2 ∧ v = v) ∧ (((0 ≤ x0.toInt ∧ x0.toInt < (v 13 2).toInt) ∧ 0 ≤ x1.toInt ∧ x1.toInt ≤ 100) ∧ (v (29 + 15 * x0.toNatClampNeg) 0).toInt = 0 ∧ (v (31 + 15 * x0.toNatClampNeg) 0).toInt = -1 ∧ (v (29 + 15 * x0.toNatClampNeg) 2).toInt < 5 ∧ (v (31 + 15 * x0.toNatClampNeg) 1).toInt = -1 → ((-3) : Int32) = 0 ∧ (∀ k j : Nat, v k j = if k = 31 + 15 * x0.toNatClampNeg ∧ j = 0 then x1 else v k j)) ∧ (((0 ≤ x0.toInt ∧ x0.toInt < (v 13 2).toInt) ∧ 0 ≤ x1.toInt ∧ x1.toInt ≤ 100) ∧ (v (29 + 15 * x0.toNatClampNeg) 0).toInt = 0 ∧ (v (31 + 15 * x0.toNatClampNeg) 0).toInt = -1 ∧ (v (29 + 15 * x0.toNatClampNeg) 2).toInt < 5 ∧ (v (31 + 15 * x0.toNatClampNeg) 1).toInt ≠ -1 ∧ (v (31 + 15 * x0.toNatClampNeg) 1).toInt < x1.toInt → ((-3) : Int32) = 2 ∧ (∀ k j : Nat, v k j = if k = 31 + 15 * x0.toNatClampNeg ∧ j = 1 then -1 else if k = 31 + 15 * x0.toNatClampNeg ∧ j = 0 then -1 else if k = 29 + 15 * x0.toNatClampNeg ∧ j = 2 then v (29 + 15 * x0.toNatClampNeg) 2 + 1 else if k = 33 + 15 * x0.toNatClampNeg + 1 ∧ j = (v (29 + 15 * x0.toNatClampNeg) 2).toNatClampNeg then v (31 + 15 * x0.toNatClampNeg) 1 else if k = 33 + 15 * x0.toNatClampNeg + 0 ∧ j = (v (29 + 15 * x0.toNatClampNeg) 2).toNatClampNeg then x1 else if k = 31 + 15 * x0.toNatClampNeg ∧ j = 0 then x1 else v k j)) ∧ (((0 ≤ x0.toInt ∧ x0.toInt < (v 13 2).toInt) ∧ 0 ≤ x1.toInt ∧ x1.toInt ≤ 100) ∧ (v (29 + 15 * x0.toNatClampNeg) 0).toInt = 0 ∧ (v (31 + 15 * x0.toNatClampNeg) 0).toInt = -1 ∧ (v (29 + 15 * x0.toNatClampNeg) 2).toInt < 5 ∧ (v (31 + 15 * x0.toNatClampNeg) 1).toInt ≠ -1 ∧ x1.toInt ≤ (v (31 + 15 * x0.toNatClampNeg) 1).toInt → ((-3) : Int32) = 1 ∧ (∀ k j : Nat, v k j = if k = 29 + 15 * x0.toNatClampNeg ∧ j = 1 then (x1 + v (31 + 15 * x0.toNatClampNeg) 1) / 2 else if k = 29 + 15 * x0.toNatClampNeg ∧ j = 0 then 1 else if k = 29 + 15 * x0.toNatClampNeg ∧ j = 2 then v (29 + 15 * x0.toNatClampNeg) 2 + 1 else if k = 33 + 15 * x0.toNatClampNeg + 1 ∧ j = (v (29 + 15 * x0.toNatClampNeg) 2).toNatClampNeg then v (31 + 15 * x0.toNatClampNeg) 1 else if k = 33 + 15 * x0.toNatClampNeg + 0 ∧ j = (v (29 + 15 * x0.toNatClampNeg) 2).toNatClampNeg then x1 else if k = 31 + 15 * x0.toNatClampNeg ∧ j = 0 then x1 else v k j)) := by
              refine ⟨fun hq => ?_, fun hq => ?_, fun hq => ?_, fun hq => ?_, fun hq => ?_, fun hq => ?_, fun hq => ?_⟩
              · exfalso; omega
              · exfalso; omega
              · exact ⟨rfl, rfl⟩
              · exfalso; omega
              · exfalso; omega
              · exfalso; omega
              · exfalso; omega
            exact W.iret (v := (-3)) hx hb hr (fun t ht hW => ⟨⟨(-3), v, rfl, ⟨hv, hpost⟩, by rw [ht]; exact hP, hD⟩, hS.F ht⟩) hS.2.2 dX7_offer_62
        · have tc_9 : x_8.toInt ≠ (0 : Int32).toInt := fun q => absurd (Int32.toInt_inj.mp q) c_9
          refine lv_bipush (v := (-4)) hx hb dX7_offer_46 (by decide) ?_
          have hpost : (¬ ((0 ≤ x0.toInt ∧ x0.toInt < (v 13 2).toInt) ∧ 0 ≤ x1.toInt ∧ x1.toInt ≤ 100) → ((-4) : Int32) = -1 ∧ v = v) ∧ (((0 ≤ x0.toInt ∧ x0.toInt < (v 13 2).toInt) ∧ 0 ≤ x1.toInt ∧ x1.toInt ≤ 100) ∧ (v (29 + 15 * x0.toNatClampNeg) 0).toInt ≠ 0 → ((-4) : Int32) = -4 ∧ v = v) ∧ (((0 ≤ x0.toInt ∧ x0.toInt < (v 13 2).toInt) ∧ 0 ≤ x1.toInt ∧ x1.toInt ≤ 100) ∧ (v (29 + 15 * x0.toNatClampNeg) 0).toInt = 0 ∧ (v (31 + 15 * x0.toNatClampNeg) 0).toInt ≠ -1 → ((-4) : Int32) = -3 ∧ v = v) ∧ (((0 ≤ x0.toInt ∧ x0.toInt < (v 13 2).toInt) ∧ 0 ≤ x1.toInt ∧ x1.toInt ≤ 100) ∧ (v (29 + 15 * x0.toNatClampNeg) 0).toInt = 0 ∧ (v (31 + 15 * x0.toNatClampNeg) 0).toInt = -1 ∧ 5 ≤ (v (29 + 15 * x0.toNatClampNeg) 2).toInt → ((-4) : Int32) = -2 ∧ v = v) ∧ (((0 ≤ x0.toInt ∧ x0.toInt < (v 13 2).toInt) ∧ 0 ≤ x1.toInt ∧ x1.toInt ≤ 100) ∧ (v (29 + 15 * x0.toNatClampNeg) 0).toInt = 0 ∧ (v (31 + 15 * x0.toNatClampNeg) 0).toInt = -1 ∧ (v (29 + 15 * x0.toNatClampNeg) 2).toInt < 5 ∧ (v (31 + 15 * x0.toNatClampNeg) 1).toInt = -1 → ((-4) : Int32) = 0 ∧ (∀ k j : Nat, v k j = if k = 31 + 15 * x0.toNatClampNeg ∧ j = 0 then x1 else v k j)) ∧ (((0 ≤ x0.toInt ∧ x0.toInt < (v 13 2).toInt) ∧ 0 ≤ x1.toInt ∧ x1.toInt ≤ 100) ∧ (v (29 + 15 * x0.toNatClampNeg) 0).toInt = 0 ∧ (v (31 + 15 * x0.toNatClampNeg) 0).toInt = -1 ∧ (v (29 + 15 * x0.toNatClampNeg) 2).toInt < 5 ∧ (v (31 + 15 * x0.toNatClampNeg) 1).toInt ≠ -1 ∧ (v (31 + 15 * x0.toNatClampNeg) 1).toInt < x1.toInt → ((-4) : Int32) = 2 ∧ (∀ k j : Nat, v k j = if k = 31 + 15 * x0.toNatClampNeg ∧ j = 1 then -1 else if k = 31 + 15 * x0.toNatClampNeg ∧ j = 0 then -1 else if k = 29 + 15 * x0.toNatClampNeg ∧ j = 2 then v (29 + 15 * x0.toNatClampNeg) 2 + 1 else if k = 33 + 15 * x0.toNatClampNeg + 1 ∧ j = (v (29 + 15 * x0.toNatClampNeg) 2).toNatClampNeg then v (31 + 15 * x0.toNatClampNeg) 1 else if k = 33 + 15 * x0.toNatClampNeg + 0 ∧ j = (v (29 + 15 * x0.toNatClampNeg) 2).toNatClampNeg then x1 else if k = 31 + 15 * x0.toNatClampNeg ∧ j = 0 then x1 else v k j)) ∧ (((0 ≤ x0.toInt ∧ x0.toInt < (v 13 2).toInt) ∧ 0 ≤ x1.toInt ∧ x1.toInt ≤ 100) ∧ (v (29 + 15 * x0.toNatClampNeg) 0).toInt = 0 ∧ (v (31 + 15 * x0.toNatClampNeg) 0).toInt = -1 ∧ (v (29 + 15 * x0.toNatClampNeg) 2).toInt < 5 ∧ (v (31 + 15 * x0.toNatClampNeg) 1).toInt ≠ -1 ∧ x1.toInt ≤ (v (31 + 15 * x0.toNatClampNeg) 1).toInt → ((-4) : Int32) = 1 ∧ (∀ k j : Nat, v k j = if k = 29 + 15 * x0.toNatClampNeg ∧ j = 1 then (x1 + v (31 + 15 * x0.toNatClampNeg) 1) / 2 else if k = 29 + 15 * x0.toNatClampNeg ∧ j = 0 then 1 else if k = 29 + 15 * x0.toNatClampNeg ∧ j = 2 then v (29 + 15 * x0.toNatClampNeg) 2 + 1 else if k = 33 + 15 * x0.toNatClampNeg + 1 ∧ j = (v (29 + 15 * x0.toNatClampNeg) 2).toNatClampNeg then v (31 + 15 * x0.toNatClampNeg) 1 else if k = 33 + 15 * x0.toNatClampNeg + 0 ∧ j = (v (29 + 15 * x0.toNatClampNeg) 2).toNatClampNeg then x1 else if k = 31 + 15 * x0.toNatClampNeg ∧ j = 0 then x1 else v k j)) := by
            refine ⟨fun hq => ?_, fun hq => ?_, fun hq => ?_, fun hq => ?_, fun hq => ?_, fun hq => ?_, fun hq => ?_⟩
            · exfalso; omega
            · exact ⟨rfl, rfl⟩
            · exfalso; omega
            · exfalso; omega
            · exfalso; omega
            · exfalso; omega
            · exfalso; omega
          exact W.iret (v := (-4)) hx hb hr (fun t ht hW => ⟨⟨(-4), v, rfl, ⟨hv, hpost⟩, by rw [ht]; exact hP, hD⟩, hS.F ht⟩) hS.2.2 dX7_offer_48
      · have k_100 : (100 : Int32).toInt = 100 := by decide
        have tc_6 : ¬ ((0 : Int32).toInt ≤ x1.toInt ∧ x1.toInt ≤ (100 : Int32).toInt) := fun q => hc_6 ⟨Int32.le_iff_toInt_le.mpr q.1, Int32.le_iff_toInt_le.mpr q.2⟩
        refine lv_if_ne (tgt := 27) hx hb dX7_offer_22 (by decide) (fun c9 => absurd c9 (by decide)) (fun _ => ?_)
        refine lv_iconst (v := (-1)) hx hb dX7_offer_25 (by decide) ?_
        have hpost : (¬ ((0 ≤ x0.toInt ∧ x0.toInt < (v 13 2).toInt) ∧ 0 ≤ x1.toInt ∧ x1.toInt ≤ 100) → ((-1) : Int32) = -1 ∧ v = v) ∧ (((0 ≤ x0.toInt ∧ x0.toInt < (v 13 2).toInt) ∧ 0 ≤ x1.toInt ∧ x1.toInt ≤ 100) ∧ (v (29 + 15 * x0.toNatClampNeg) 0).toInt ≠ 0 → ((-1) : Int32) = -4 ∧ v = v) ∧ (((0 ≤ x0.toInt ∧ x0.toInt < (v 13 2).toInt) ∧ 0 ≤ x1.toInt ∧ x1.toInt ≤ 100) ∧ (v (29 + 15 * x0.toNatClampNeg) 0).toInt = 0 ∧ (v (31 + 15 * x0.toNatClampNeg) 0).toInt ≠ -1 → ((-1) : Int32) = -3 ∧ v = v) ∧ (((0 ≤ x0.toInt ∧ x0.toInt < (v 13 2).toInt) ∧ 0 ≤ x1.toInt ∧ x1.toInt ≤ 100) ∧ (v (29 + 15 * x0.toNatClampNeg) 0).toInt = 0 ∧ (v (31 + 15 * x0.toNatClampNeg) 0).toInt = -1 ∧ 5 ≤ (v (29 + 15 * x0.toNatClampNeg) 2).toInt → ((-1) : Int32) = -2 ∧ v = v) ∧ (((0 ≤ x0.toInt ∧ x0.toInt < (v 13 2).toInt) ∧ 0 ≤ x1.toInt ∧ x1.toInt ≤ 100) ∧ (v (29 + 15 * x0.toNatClampNeg) 0).toInt = 0 ∧ (v (31 + 15 * x0.toNatClampNeg) 0).toInt = -1 ∧ (v (29 + 15 * x0.toNatClampNeg) 2).toInt < 5 ∧ (v (31 + 15 * x0.toNatClampNeg) 1).toInt = -1 → ((-1) : Int32) = 0 ∧ (∀ k j : Nat, v k j = if k = 31 + 15 * x0.toNatClampNeg ∧ j = 0 then x1 else v k j)) ∧ (((0 ≤ x0.toInt ∧ x0.toInt < (v 13 2).toInt) ∧ 0 ≤ x1.toInt ∧ x1.toInt ≤ 100) ∧ (v (29 + 15 * x0.toNatClampNeg) 0).toInt = 0 ∧ (v (31 + 15 * x0.toNatClampNeg) 0).toInt = -1 ∧ (v (29 + 15 * x0.toNatClampNeg) 2).toInt < 5 ∧ (v (31 + 15 * x0.toNatClampNeg) 1).toInt ≠ -1 ∧ (v (31 + 15 * x0.toNatClampNeg) 1).toInt < x1.toInt → ((-1) : Int32) = 2 ∧ (∀ k j : Nat, v k j = if k = 31 + 15 * x0.toNatClampNeg ∧ j = 1 then -1 else if k = 31 + 15 * x0.toNatClampNeg ∧ j = 0 then -1 else if k = 29 + 15 * x0.toNatClampNeg ∧ j = 2 then v (29 + 15 * x0.toNatClampNeg) 2 + 1 else if k = 33 + 15 * x0.toNatClampNeg + 1 ∧ j = (v (29 + 15 * x0.toNatClampNeg) 2).toNatClampNeg then v (31 + 15 * x0.toNatClampNeg) 1 else if k = 33 + 15 * x0.toNatClampNeg + 0 ∧ j = (v (29 + 15 * x0.toNatClampNeg) 2).toNatClampNeg then x1 else if k = 31 + 15 * x0.toNatClampNeg ∧ j = 0 then x1 else v k j)) ∧ (((0 ≤ x0.toInt ∧ x0.toInt < (v 13 2).toInt) ∧ 0 ≤ x1.toInt ∧ x1.toInt ≤ 100) ∧ (v (29 + 15 * x0.toNatClampNeg) 0).toInt = 0 ∧ (v (31 + 15 * x0.toNatClampNeg) 0).toInt = -1 ∧ (v (29 + 15 * x0.toNatClampNeg) 2).toInt < 5 ∧ (v (31 + 15 * x0.toNatClampNeg) 1).toInt ≠ -1 ∧ x1.toInt ≤ (v (31 + 15 * x0.toNatClampNeg) 1).toInt → ((-1) : Int32) = 1 ∧ (∀ k j : Nat, v k j = if k = 29 + 15 * x0.toNatClampNeg ∧ j = 1 then (x1 + v (31 + 15 * x0.toNatClampNeg) 1) / 2 else if k = 29 + 15 * x0.toNatClampNeg ∧ j = 0 then 1 else if k = 29 + 15 * x0.toNatClampNeg ∧ j = 2 then v (29 + 15 * x0.toNatClampNeg) 2 + 1 else if k = 33 + 15 * x0.toNatClampNeg + 1 ∧ j = (v (29 + 15 * x0.toNatClampNeg) 2).toNatClampNeg then v (31 + 15 * x0.toNatClampNeg) 1 else if k = 33 + 15 * x0.toNatClampNeg + 0 ∧ j = (v (29 + 15 * x0.toNatClampNeg) 2).toNatClampNeg then x1 else if k = 31 + 15 * x0.toNatClampNeg ∧ j = 0 then x1 else v k j)) := by
          refine ⟨fun hq => ?_, fun hq => ?_, fun hq => ?_, fun hq => ?_, fun hq => ?_, fun hq => ?_, fun hq => ?_⟩
          · exact ⟨rfl, rfl⟩
          · exfalso; omega
          · exfalso; omega
          · exfalso; omega
          · exfalso; omega
          · exfalso; omega
          · exfalso; omega
        exact W.iret (v := (-1)) hx hb hr (fun t ht hW => ⟨⟨(-1), v, rfl, ⟨hv, hpost⟩, by rw [ht]; exact hP, hD⟩, hS.F ht⟩) hS.2.2 dX7_offer_26
    · have k_0 : (0 : Int32).toInt = 0 := by decide
      have k_1 : (1 : Int32).toInt = 1 := by decide
      have tc_4 : ¬ ((0 : Int32).toInt ≤ (0 : Int32).toInt ∧ (0 : Int32).toInt ≤ (1 : Int32).toInt) := fun q => hc_4 ⟨Int32.le_iff_toInt_le.mpr q.1, Int32.le_iff_toInt_le.mpr q.2⟩
      refine lv_if_eq (tgt := 25) hx hb dX7_offer_12 (by decide) (fun _ => ?_) (fun c9 => absurd c9 (by decide))
      refine lv_iconst (v := (-1)) hx hb dX7_offer_25 (by decide) ?_
      have hpost : (¬ ((0 ≤ x0.toInt ∧ x0.toInt < (v 13 2).toInt) ∧ 0 ≤ x1.toInt ∧ x1.toInt ≤ 100) → ((-1) : Int32) = -1 ∧ v = v) ∧ (((0 ≤ x0.toInt ∧ x0.toInt < (v 13 2).toInt) ∧ 0 ≤ x1.toInt ∧ x1.toInt ≤ 100) ∧ (v (29 + 15 * x0.toNatClampNeg) 0).toInt ≠ 0 → ((-1) : Int32) = -4 ∧ v = v) ∧ (((0 ≤ x0.toInt ∧ x0.toInt < (v 13 2).toInt) ∧ 0 ≤ x1.toInt ∧ x1.toInt ≤ 100) ∧ (v (29 + 15 * x0.toNatClampNeg) 0).toInt = 0 ∧ (v (31 + 15 * x0.toNatClampNeg) 0).toInt ≠ -1 → ((-1) : Int32) = -3 ∧ v = v) ∧ (((0 ≤ x0.toInt ∧ x0.toInt < (v 13 2).toInt) ∧ 0 ≤ x1.toInt ∧ x1.toInt ≤ 100) ∧ (v (29 + 15 * x0.toNatClampNeg) 0).toInt = 0 ∧ (v (31 + 15 * x0.toNatClampNeg) 0).toInt = -1 ∧ 5 ≤ (v (29 + 15 * x0.toNatClampNeg) 2).toInt → ((-1) : Int32) = -2 ∧ v = v) ∧ (((0 ≤ x0.toInt ∧ x0.toInt < (v 13 2).toInt) ∧ 0 ≤ x1.toInt ∧ x1.toInt ≤ 100) ∧ (v (29 + 15 * x0.toNatClampNeg) 0).toInt = 0 ∧ (v (31 + 15 * x0.toNatClampNeg) 0).toInt = -1 ∧ (v (29 + 15 * x0.toNatClampNeg) 2).toInt < 5 ∧ (v (31 + 15 * x0.toNatClampNeg) 1).toInt = -1 → ((-1) : Int32) = 0 ∧ (∀ k j : Nat, v k j = if k = 31 + 15 * x0.toNatClampNeg ∧ j = 0 then x1 else v k j)) ∧ (((0 ≤ x0.toInt ∧ x0.toInt < (v 13 2).toInt) ∧ 0 ≤ x1.toInt ∧ x1.toInt ≤ 100) ∧ (v (29 + 15 * x0.toNatClampNeg) 0).toInt = 0 ∧ (v (31 + 15 * x0.toNatClampNeg) 0).toInt = -1 ∧ (v (29 + 15 * x0.toNatClampNeg) 2).toInt < 5 ∧ (v (31 + 15 * x0.toNatClampNeg) 1).toInt ≠ -1 ∧ (v (31 + 15 * x0.toNatClampNeg) 1).toInt < x1.toInt → ((-1) : Int32) = 2 ∧ (∀ k j : Nat, v k j = if k = 31 + 15 * x0.toNatClampNeg ∧ j = 1 then -1 else if k = 31 + 15 * x0.toNatClampNeg ∧ j = 0 then -1 else if k = 29 + 15 * x0.toNatClampNeg ∧ j = 2 then v (29 + 15 * x0.toNatClampNeg) 2 + 1 else if k = 33 + 15 * x0.toNatClampNeg + 1 ∧ j = (v (29 + 15 * x0.toNatClampNeg) 2).toNatClampNeg then v (31 + 15 * x0.toNatClampNeg) 1 else if k = 33 + 15 * x0.toNatClampNeg + 0 ∧ j = (v (29 + 15 * x0.toNatClampNeg) 2).toNatClampNeg then x1 else if k = 31 + 15 * x0.toNatClampNeg ∧ j = 0 then x1 else v k j)) ∧ (((0 ≤ x0.toInt ∧ x0.toInt < (v 13 2).toInt) ∧ 0 ≤ x1.toInt ∧ x1.toInt ≤ 100) ∧ (v (29 + 15 * x0.toNatClampNeg) 0).toInt = 0 ∧ (v (31 + 15 * x0.toNatClampNeg) 0).toInt = -1 ∧ (v (29 + 15 * x0.toNatClampNeg) 2).toInt < 5 ∧ (v (31 + 15 * x0.toNatClampNeg) 1).toInt ≠ -1 ∧ x1.toInt ≤ (v (31 + 15 * x0.toNatClampNeg) 1).toInt → ((-1) : Int32) = 1 ∧ (∀ k j : Nat, v k j = if k = 29 + 15 * x0.toNatClampNeg ∧ j = 1 then (x1 + v (31 + 15 * x0.toNatClampNeg) 1) / 2 else if k = 29 + 15 * x0.toNatClampNeg ∧ j = 0 then 1 else if k = 29 + 15 * x0.toNatClampNeg ∧ j = 2 then v (29 + 15 * x0.toNatClampNeg) 2 + 1 else if k = 33 + 15 * x0.toNatClampNeg + 1 ∧ j = (v (29 + 15 * x0.toNatClampNeg) 2).toNatClampNeg then v (31 + 15 * x0.toNatClampNeg) 1 else if k = 33 + 15 * x0.toNatClampNeg + 0 ∧ j = (v (29 + 15 * x0.toNatClampNeg) 2).toNatClampNeg then x1 else if k = 31 + 15 * x0.toNatClampNeg ∧ j = 0 then x1 else v k j)) := by
        refine ⟨fun hq => ?_, fun hq => ?_, fun hq => ?_, fun hq => ?_, fun hq => ?_, fun hq => ?_, fun hq => ?_⟩
        · exact ⟨rfl, rfl⟩
        · exfalso; omega
        · exfalso; omega
        · exfalso; omega
        · exfalso; omega
        · exfalso; omega
        · exfalso; omega
      exact W.iret (v := (-1)) hx hb hr (fun t ht hW => ⟨⟨(-1), v, rfl, ⟨hv, hpost⟩, by rw [ht]; exact hP, hD⟩, hS.F ht⟩) hS.2.2 dX7_offer_26
  · refine lv_if_eq (tgt := 25) hx hb dX7_offer_5 (by decide) (fun _ => ?_) (fun c9 => absurd c9 (by decide))
    refine lv_iconst (v := (-1)) hx hb dX7_offer_25 (by decide) ?_
    have hpost : (¬ ((0 ≤ x0.toInt ∧ x0.toInt < (v 13 2).toInt) ∧ 0 ≤ x1.toInt ∧ x1.toInt ≤ 100) → ((-1) : Int32) = -1 ∧ v = v) ∧ (((0 ≤ x0.toInt ∧ x0.toInt < (v 13 2).toInt) ∧ 0 ≤ x1.toInt ∧ x1.toInt ≤ 100) ∧ (v (29 + 15 * x0.toNatClampNeg) 0).toInt ≠ 0 → ((-1) : Int32) = -4 ∧ v = v) ∧ (((0 ≤ x0.toInt ∧ x0.toInt < (v 13 2).toInt) ∧ 0 ≤ x1.toInt ∧ x1.toInt ≤ 100) ∧ (v (29 + 15 * x0.toNatClampNeg) 0).toInt = 0 ∧ (v (31 + 15 * x0.toNatClampNeg) 0).toInt ≠ -1 → ((-1) : Int32) = -3 ∧ v = v) ∧ (((0 ≤ x0.toInt ∧ x0.toInt < (v 13 2).toInt) ∧ 0 ≤ x1.toInt ∧ x1.toInt ≤ 100) ∧ (v (29 + 15 * x0.toNatClampNeg) 0).toInt = 0 ∧ (v (31 + 15 * x0.toNatClampNeg) 0).toInt = -1 ∧ 5 ≤ (v (29 + 15 * x0.toNatClampNeg) 2).toInt → ((-1) : Int32) = -2 ∧ v = v) ∧ (((0 ≤ x0.toInt ∧ x0.toInt < (v 13 2).toInt) ∧ 0 ≤ x1.toInt ∧ x1.toInt ≤ 100) ∧ (v (29 + 15 * x0.toNatClampNeg) 0).toInt = 0 ∧ (v (31 + 15 * x0.toNatClampNeg) 0).toInt = -1 ∧ (v (29 + 15 * x0.toNatClampNeg) 2).toInt < 5 ∧ (v (31 + 15 * x0.toNatClampNeg) 1).toInt = -1 → ((-1) : Int32) = 0 ∧ (∀ k j : Nat, v k j = if k = 31 + 15 * x0.toNatClampNeg ∧ j = 0 then x1 else v k j)) ∧ (((0 ≤ x0.toInt ∧ x0.toInt < (v 13 2).toInt) ∧ 0 ≤ x1.toInt ∧ x1.toInt ≤ 100) ∧ (v (29 + 15 * x0.toNatClampNeg) 0).toInt = 0 ∧ (v (31 + 15 * x0.toNatClampNeg) 0).toInt = -1 ∧ (v (29 + 15 * x0.toNatClampNeg) 2).toInt < 5 ∧ (v (31 + 15 * x0.toNatClampNeg) 1).toInt ≠ -1 ∧ (v (31 + 15 * x0.toNatClampNeg) 1).toInt < x1.toInt → ((-1) : Int32) = 2 ∧ (∀ k j : Nat, v k j = if k = 31 + 15 * x0.toNatClampNeg ∧ j = 1 then -1 else if k = 31 + 15 * x0.toNatClampNeg ∧ j = 0 then -1 else if k = 29 + 15 * x0.toNatClampNeg ∧ j = 2 then v (29 + 15 * x0.toNatClampNeg) 2 + 1 else if k = 33 + 15 * x0.toNatClampNeg + 1 ∧ j = (v (29 + 15 * x0.toNatClampNeg) 2).toNatClampNeg then v (31 + 15 * x0.toNatClampNeg) 1 else if k = 33 + 15 * x0.toNatClampNeg + 0 ∧ j = (v (29 + 15 * x0.toNatClampNeg) 2).toNatClampNeg then x1 else if k = 31 + 15 * x0.toNatClampNeg ∧ j = 0 then x1 else v k j)) ∧ (((0 ≤ x0.toInt ∧ x0.toInt < (v 13 2).toInt) ∧ 0 ≤ x1.toInt ∧ x1.toInt ≤ 100) ∧ (v (29 + 15 * x0.toNatClampNeg) 0).toInt = 0 ∧ (v (31 + 15 * x0.toNatClampNeg) 0).toInt = -1 ∧ (v (29 + 15 * x0.toNatClampNeg) 2).toInt < 5 ∧ (v (31 + 15 * x0.toNatClampNeg) 1).toInt ≠ -1 ∧ x1.toInt ≤ (v (31 + 15 * x0.toNatClampNeg) 1).toInt → ((-1) : Int32) = 1 ∧ (∀ k j : Nat, v k j = if k = 29 + 15 * x0.toNatClampNeg ∧ j = 1 then (x1 + v (31 + 15 * x0.toNatClampNeg) 1) / 2 else if k = 29 + 15 * x0.toNatClampNeg ∧ j = 0 then 1 else if k = 29 + 15 * x0.toNatClampNeg ∧ j = 2 then v (29 + 15 * x0.toNatClampNeg) 2 + 1 else if k = 33 + 15 * x0.toNatClampNeg + 1 ∧ j = (v (29 + 15 * x0.toNatClampNeg) 2).toNatClampNeg then v (31 + 15 * x0.toNatClampNeg) 1 else if k = 33 + 15 * x0.toNatClampNeg + 0 ∧ j = (v (29 + 15 * x0.toNatClampNeg) 2).toNatClampNeg then x1 else if k = 31 + 15 * x0.toNatClampNeg ∧ j = 0 then x1 else v k j)) := by
      refine ⟨fun hq => ?_, fun hq => ?_, fun hq => ?_, fun hq => ?_, fun hq => ?_, fun hq => ?_, fun hq => ?_⟩
      · exact ⟨rfl, rfl⟩
      · exfalso; omega
      · exfalso; omega
      · exfalso; omega
      · exfalso; omega
      · exfalso; omega
      · exfalso; omega
    exact W.iret (v := (-1)) hx hb hr (fun t ht hW => ⟨⟨(-1), v, rfl, ⟨hv, hpost⟩, by rw [ht]; exact hP, hD⟩, hS.F ht⟩) hS.2.2 dX7_offer_26

set_option maxHeartbeats 4000000 in
set_option maxRecDepth 100000 in
theorem e_X7_offer_1 (l : Launch) (dC : Nat → ClassId) (dI : Nat → Nat → Nat) (cy : Nat → ClassId) (sz : Nat) (ad : Nat → Nat) (kv : Value) (N : Nat) (hN : 119 ≤ N) (v : Nat → Nat → Int32) (hv : Iv v) (x0 x1 : Int32) : Met l yX7_offer wsX7_offer ({ frames := 3, cells := 0, slots := 0, locals := 192 }) (va_Pc [.ref (ad 0), .int x0, .int 1, .int x1] (ex_Pre dC dI cy sz (wl ad kv cy N v))) (va_Qi (fun (r : Int32) (u : Nat → Nat → Int32) => Iv u ∧ (¬ ((0 ≤ x0.toInt ∧ x0.toInt < (v 13 2).toInt) ∧ 0 ≤ x1.toInt ∧ x1.toInt ≤ 100) → r = -1 ∧ u = v) ∧ (((0 ≤ x0.toInt ∧ x0.toInt < (v 13 2).toInt) ∧ 0 ≤ x1.toInt ∧ x1.toInt ≤ 100) ∧ (v (29 + 15 * x0.toNatClampNeg) 0).toInt ≠ 0 → r = -4 ∧ u = v) ∧ (((0 ≤ x0.toInt ∧ x0.toInt < (v 13 2).toInt) ∧ 0 ≤ x1.toInt ∧ x1.toInt ≤ 100) ∧ (v (29 + 15 * x0.toNatClampNeg) 0).toInt = 0 ∧ (v (31 + 15 * x0.toNatClampNeg) 1).toInt ≠ -1 → r = -3 ∧ u = v) ∧ (((0 ≤ x0.toInt ∧ x0.toInt < (v 13 2).toInt) ∧ 0 ≤ x1.toInt ∧ x1.toInt ≤ 100) ∧ (v (29 + 15 * x0.toNatClampNeg) 0).toInt = 0 ∧ (v (31 + 15 * x0.toNatClampNeg) 1).toInt = -1 ∧ 5 ≤ (v (29 + 15 * x0.toNatClampNeg) 2).toInt → r = -2 ∧ u = v) ∧ (((0 ≤ x0.toInt ∧ x0.toInt < (v 13 2).toInt) ∧ 0 ≤ x1.toInt ∧ x1.toInt ≤ 100) ∧ (v (29 + 15 * x0.toNatClampNeg) 0).toInt = 0 ∧ (v (31 + 15 * x0.toNatClampNeg) 1).toInt = -1 ∧ (v (29 + 15 * x0.toNatClampNeg) 2).toInt < 5 ∧ (v (31 + 15 * x0.toNatClampNeg) 0).toInt = -1 → r = 0 ∧ (∀ k j : Nat, u k j = if k = 31 + 15 * x0.toNatClampNeg ∧ j = 1 then x1 else v k j)) ∧ (((0 ≤ x0.toInt ∧ x0.toInt < (v 13 2).toInt) ∧ 0 ≤ x1.toInt ∧ x1.toInt ≤ 100) ∧ (v (29 + 15 * x0.toNatClampNeg) 0).toInt = 0 ∧ (v (31 + 15 * x0.toNatClampNeg) 1).toInt = -1 ∧ (v (29 + 15 * x0.toNatClampNeg) 2).toInt < 5 ∧ (v (31 + 15 * x0.toNatClampNeg) 0).toInt ≠ -1 ∧ x1.toInt < (v (31 + 15 * x0.toNatClampNeg) 0).toInt → r = 2 ∧ (∀ k j : Nat, u k j = if k = 31 + 15 * x0.toNatClampNeg ∧ j = 1 then -1 else if k = 31 + 15 * x0.toNatClampNeg ∧ j = 0 then -1 else if k = 29 + 15 * x0.toNatClampNeg ∧ j = 2 then v (29 + 15 * x0.toNatClampNeg) 2 + 1 else if k = 33 + 15 * x0.toNatClampNeg + 1 ∧ j = (v (29 + 15 * x0.toNatClampNeg) 2).toNatClampNeg then x1 else if k = 33 + 15 * x0.toNatClampNeg + 0 ∧ j = (v (29 + 15 * x0.toNatClampNeg) 2).toNatClampNeg then v (31 + 15 * x0.toNatClampNeg) 0 else if k = 31 + 15 * x0.toNatClampNeg ∧ j = 1 then x1 else v k j)) ∧ (((0 ≤ x0.toInt ∧ x0.toInt < (v 13 2).toInt) ∧ 0 ≤ x1.toInt ∧ x1.toInt ≤ 100) ∧ (v (29 + 15 * x0.toNatClampNeg) 0).toInt = 0 ∧ (v (31 + 15 * x0.toNatClampNeg) 1).toInt = -1 ∧ (v (29 + 15 * x0.toNatClampNeg) 2).toInt < 5 ∧ (v (31 + 15 * x0.toNatClampNeg) 0).toInt ≠ -1 ∧ (v (31 + 15 * x0.toNatClampNeg) 0).toInt ≤ x1.toInt → r = 1 ∧ (∀ k j : Nat, u k j = if k = 29 + 15 * x0.toNatClampNeg ∧ j = 1 then (v (31 + 15 * x0.toNatClampNeg) 0 + x1) / 2 else if k = 29 + 15 * x0.toNatClampNeg ∧ j = 0 then 1 else if k = 29 + 15 * x0.toNatClampNeg ∧ j = 2 then v (29 + 15 * x0.toNatClampNeg) 2 + 1 else if k = 33 + 15 * x0.toNatClampNeg + 1 ∧ j = (v (29 + 15 * x0.toNatClampNeg) 2).toNatClampNeg then x1 else if k = 33 + 15 * x0.toNatClampNeg + 0 ∧ j = (v (29 + 15 * x0.toNatClampNeg) 2).toNatClampNeg then v (31 + 15 * x0.toNatClampNeg) 0 else if k = 31 + 15 * x0.toNatClampNeg ∧ j = 1 then x1 else v k j))) (fun u t => ex_Pst dC dI (va_A (wl ad kv cy N v) sz) (wl ad kv cy N u) t) (va_A (wl ad kv cy N v) sz)) 0 0 (va_A (wl ad kv cy N v) sz) := by
  refine Met.ofW (cc := cX7_offer) (maxL := 5) (ret := (some .int)) (by decide) rfl ?_
  intro p e s m args below meth c s₁ B hml hv
  obtain ⟨rfl, hsz, hE, hP, hK, hD0⟩ := hv
  have hx := B.exec
  have hb := B.bytes
  have hr := B.returns
  have hts := atoms_spec (ws := wsX7_offer) B.pre
  have hown : s.vm.findClass RX7 = some m.cls := findClass_of_methodNamed B.named
  have hlocks := B.notSynchronized
  subst hsz
  have hD := hD0.self (sz := s.heap.size)
  generalize hAe : va_A (wl ad kv cy N v) s.heap.size = A at hD ⊢
  have hA : ∀ q : Nat, s.heap.size ≤ q → A q := fun q h => by rw [← hAe]; exact Or.inr h
  have hS : va_S A s.heap s.heap [] := va_S.rf
  have hP : va_P (dC, dI) vwCl (wl ad kv cy N v) s.heap := hP
  have hl := lv_entry ([.ref (ad 0), .int x0, .int 1, .int x1]) (n := 5) (Nat.le_of_ble_eq_true rfl)
  rw [lg_entry_eq]
  generalize (lg_sl ([.ref (ad 0), .int x0, .int 1, .int x1]) ++ List.replicate (5 - (lg_sl ([.ref (ad 0), .int x0, .int 1, .int x1])).length) Slot.unset).toArray = ls at hl ⊢
  have hl : lv_has ls 5 [(0, .ref (ad 0)), (1, .int x0), (2, .int 1), (3, .int x1)] := hl
  refine lv_aload_n hx hb dX7_offer_0 rfl (lv_at hl 0 rfl) ?_
  refine lv_iload_n hx hb dX7_offer_1 rfl (lv_at hl 1 rfl) ?_
  refine yw_i (w1 := fun (u : Nat → Nat → Int32) => wl ad kv cy N u) hD hS hA (va_runV (As := [.int x0]) (rest := []) ⟨hx, hb, hml, hown, hts⟩ (g_X7_isCase l dC dI cy _ ad kv N hN v hv x0) (cwV 1 hts gX7_offer_X7_isCase rfl rfl rfl hd_V_X7_isCase_1 ⟨Nat.le_of_ble_eq_true rfl, Nat.le_of_ble_eq_true rfl⟩) (yw_preV hE hK hP hD (ci := 7) (q0 := 0) rfl (wl_at (by omega) (ce_0 (by decide)))) rfl rfl hl.1 rfl (lv_room (Nat.le_of_ble_eq_true rfl)) dX7_offer_2 ⟨Nat.le_of_ble_eq_true rfl, Nat.le_of_ble_eq_true rfl⟩) (fun r_1 v_1 H locs hw_1 hP hD hS => ?_)
  obtain ⟨-, hu_1, hw_1⟩ := hw_1
  replace hu_1 := hu_1.symm
  subst hu_1
  rcases hw_1 with ⟨rfl, ha_2⟩ | ⟨rfl, ha_2⟩
  · have hb_2 := hv.at (k := 13) (j := 2) (K := 3) (by decide) rfl
    have hj_2 : 0 ≤ x0.toInt ∧ x0.toInt ≤ 5 := ⟨by omega, by omega⟩
    refine lv_if_eq (tgt := 25) hx hb dX7_offer_5 (by decide) (fun c9 => absurd c9 (by decide)) (fun _ => ?_)
    refine lv_iload_n hx hb dX7_offer_8 rfl (lv_at hl 2 rfl) ?_
    refine yc_p hP hS (va_runS (As := [.int 1]) (rest := []) ⟨hx, hb, hml, hown, hts⟩ (c_X7_isSide l 1) (cwS 1 hts gX7_offer_X7_isSide rfl rfl rfl hd_S_X7_isSide_1 ⟨Nat.le_of_ble_eq_true rfl, Nat.le_of_ble_eq_true rfl⟩) ex_preP rfl rfl hl.1 rfl (lv_room (Nat.le_of_ble_eq_true rfl)) dX7_offer_9 ⟨Nat.le_of_ble_eq_true rfl, Nat.le_of_ble_eq_true rfl⟩) (fun r_3 H locs hw_3 hP hS => ?_)
    rcases wi_ca hw_3 with ⟨rfl, hc_4⟩ | ⟨rfl, hc_4⟩
    · have k_0 : (0 : Int32).toInt = 0 := by decide
      have k_1 : (1 : Int32).toInt = 1 := by decide
      have tc_4 := wi_tl hc_4
      refine lv_if_eq (tgt := 25) hx hb dX7_offer_12 (by decide) (fun c9 => absurd c9 (by decide)) (fun _ => ?_)
      refine lv_iload_n hx hb dX7_offer_15 rfl (lv_at hl 3 rfl) ?_
      refine lv_iconst (v := 0) hx hb dX7_offer_16 (by decide) ?_
      refine lv_bipush (v := 100) hx hb dX7_offer_17 (by decide) ?_
      refine yc_p hP hS (va_runS (As := [.int x1, .int 0, .int 100]) (rest := []) ⟨hx, hb, hml, hown, hts⟩ (c_X7_isWithin l x1 0 100) (cwS 3 hts gX7_offer_X7_isWithin rfl rfl rfl hd_S_X7_isWithin_3 ⟨Nat.le_of_ble_eq_true rfl, Nat.le_of_ble_eq_true rfl⟩) ex_preP rfl rfl hl.1 rfl (lv_room (Nat.le_of_ble_eq_true rfl)) dX7_offer_19 ⟨Nat.le_of_ble_eq_true rfl, Nat.le_of_ble_eq_true rfl⟩) (fun r_5 H locs hw_5 hP hS => ?_)
      rcases wi_ca hw_5 with ⟨rfl, hc_6⟩ | ⟨rfl, hc_6⟩
      · have k_100 : (100 : Int32).toInt = 100 := by decide
        have tc_6 := wi_tl hc_6
        refine lv_if_ne (tgt := 27) hx hb dX7_offer_22 (by decide) (fun _ => ?_) (fun c9 => absurd c9 (by decide))
        refine lv_aload_n hx hb dX7_offer_27 rfl (lv_at hl 0 rfl) ?_
        refine va_get (D := (dC, dI)) (ci := 7) (v := .ref (ad 13)) (C := RX7) (T := TX7) (N := 5) hx hb hts iwX7_offer_X7 hown hK hP (0) (wl_at (by omega) (ce_0 (by decide))) rfl 0 (by decide) (hts (.fieldLink RX7 12 "QuietStairs" "now" "LQuietStairs$House;") fwX7_offer_1) (fun _ h9 => h9) rfl dX7_offer_28 ?_
        refine va_get (D := (dC, dI)) (ci := 1) (v := .ref (ad 16)) (C := RX1) (T := TX1) (N := 7) hx hb hts iwX7_offer_X1 hown hK hP (13) (wl_at (by omega) (ce_3 (by decide))) rfl 6 (by decide) (hts (.fieldLink RX7 86 "QuietStairs$House" "cases" "[LQuietStairs$Case;") fwX7_offer_2) (fun _ h9 => h9) rfl dX7_offer_31 ?_
        refine lv_iload_n hx hb dX7_offer_34 rfl (lv_at hl 1 rfl) ?_
        have zn_x0 : (x0.toNatClampNeg : Int) = x0.toInt := t_nn (by omega)
        have hx_7 : x0.toNatClampNeg < 6 := by omega
        refine va_aldq hx hb hK hP (16) 3 (wl_at (by omega) (ce_6 (by decide))) rfl (vp_in_iff.mpr ⟨by omega, by omega⟩) dX7_offer_35 ?_
        refine W.eq (g2 := F0 m 36 ls [.ref (ad (29 + 15 * x0.toNatClampNeg))]) (by rw [if_pos hx_7, show 16 + 13 + 15 * x0.toNatClampNeg = 29 + 15 * x0.toNatClampNeg from by omega]; rfl) ?_
        refine lv_astore (lv' := [(4, .ref (ad (29 + 15 * x0.toNatClampNeg))), (0, .ref (ad 0)), (1, .int x0), (2, .int 1), (3, .int x1)]) hx hb dX7_offer_36 hl (by decide) rfl (fun ls hl => ?_)
        refine lv_aload hx hb dX7_offer_38 (lv_at hl 0 rfl) ?_
        refine va_get (D := (dC, dI)) (ci := 0) (v := .int (v (29 + 15 * x0.toNatClampNeg) 0)) (C := RX0) (T := TX0) (N := 11) hx hb hts iwX7_offer_X0 hown hK hP (29 + 15 * x0.toNatClampNeg) (wl_at (by omega) (ce_9 (kd_c _ hx_7).1.1)) rfl 0 (by decide) (hts (.fieldLink RX7 99 "QuietStairs$Case" "state" "I") fwX7_offer_3) (fun _ h9 => h9) rfl dX7_offer_40 ?_
        refine lv_topi (fun x_8 ex_8 => ?_)
        have qx_8 : x_8.toInt = (v (29 + 15 * x0.toNatClampNeg) (0)).toInt := congrArg Int32.toInt ex_8
        refine lv_if_eq (tgt := 49) hx hb dX7_offer_43 (by decide) (fun c_9 => ?_) (fun c_9 => ?_)
        · have tc_9 : x_8.toInt = (0 : Int32).toInt := by rw [c_9]
          refine lv_aload hx hb dX7_offer_49 (lv_at hl 0 rfl) ?_
          refine va_get (D := (dC, dI)) (ci := 0) (v := .ref (ad (29 + 15 * x0.toNatClampNeg + 2))) (C := RX0) (T := TX0) (N := 11) hx hb hts iwX7_offer_X0 hown hK hP (29 + 15 * x0.toNatClampNeg) (wl_at (by omega) (ce_9 (kd_c _ hx_7).1.1)) rfl 7 (by decide) (hts (.fieldLink RX7 135 "QuietStairs$Case" "box" "[I") fwX7_offer_4) (fun _ h9 => h9) rfl dX7_offer_51 ?_
          refine W.eq (g2 := F0 m 54 ls [.ref (ad (31 + 15 * x0.toNatClampNeg))]) (by rw [show 29 + 15 * x0.toNatClampNeg + 2 = 31 + 15 * x0.toNatClampNeg from by omega]) ?_
          refine lv_iload_n hx hb dX7_offer_54 rfl (lv_at hl 3 rfl) ?_
          refine va_iald hx hb hK hP (31 + 15 * x0.toNatClampNeg) 0 (wl_at (by omega) (ce_20 (kd_c _ hx_7).1.2.2.1)) rfl (by unfold vp_in; decide) dX7_offer_55 ?_
          refine lv_topi (fun x_10 ex_10 => ?_)
          have ex_10 : x_10 = v (31 + 15 * x0.toNatClampNeg) 1 := ex_10
          have qx_10 : x_10.toInt = (v (31 + 15 * x0.toNatClampNeg) (1)).toInt := congrArg Int32.toInt ex_10
          refine lv_iconst (v := (-1)) hx hb dX7_offer_56 (by decide) ?_
          have k_m1 : ((-1) : Int32).toInt = -1 := by decide
          refine lv_icmp_eq (tgt := 63) hx hb dX7_offer_57 (by decide) (fun c_11 => ?_) (fun c_11 => ?_)
          · have tc_11 : x_10.toInt = ((-1) : Int32).toInt := by rw [c_11]
            refine lv_aload hx hb dX7_offer_63 (lv_at hl 0 rfl) ?_
            refine va_get (D := (dC, dI)) (ci := 0) (v := .int (v (29 + 15 * x0.toNatClampNeg) 2)) (C := RX0) (T := TX0) (N := 11) hx hb hts iwX7_offer_X0 hown hK hP (29 + 15 * x0.toNatClampNeg) (wl_at (by omega) (ce_9 (kd_c _ hx_7).1.1)) rfl 2 (by decide) (hts (.fieldLink RX7 117 "QuietStairs$Case" "roundsOver" "I") fwX7_offer_5) (fun _ h9 => h9) rfl dX7_offer_65 ?_
            refine lv_topi (fun x_12 ex_12 => ?_)
            have bzx_12 : 0 ≤ x_12.toInt ∧ x_12.toInt ≤ 5 := by rw [ex_12]; exact hv.at (K := 9) (kd_c _ hx_7).1.1 rfl
            have qx_12 : x_12.toInt = (v (29 + 15 * x0.toNatClampNeg) (2)).toInt := congrArg Int32.toInt ex_12
            refine lv_iconst (v := 5) hx hb dX7_offer_68 (by decide) ?_
            have k_5 : (5 : Int32).toInt = 5 := by decide
            refine lv_icmp_lt (tgt := 75) hx hb dX7_offer_69 (by decide) (fun c_13 => ?_) (fun c_13 => ?_)
            · have tc_13 : x_12.toInt < (5 : Int32).toInt := Int32.lt_iff_toInt_lt.mp c_13
              refine lv_aload hx hb dX7_offer_75 (lv_at hl 0 rfl) ?_
              refine va_get (D := (dC, dI)) (ci := 0) (v := .ref (ad (29 + 15 * x0.toNatClampNeg + 2))) (C := RX0) (T := TX0) (N := 11) hx hb hts iwX7_offer_X0 hown hK hP (29 + 15 * x0.toNatClampNeg) (wl_at (by omega) (ce_9 (kd_c _ hx_7).1.1)) rfl 7 (by decide) (hts (.fieldLink RX7 135 "QuietStairs$Case" "box" "[I") fwX7_offer_4) (fun _ h9 => h9) rfl dX7_offer_77 ?_
              refine W.eq (g2 := F0 m 80 ls [.ref (ad (31 + 15 * x0.toNatClampNeg))]) (by rw [show 29 + 15 * x0.toNatClampNeg + 2 = 31 + 15 * x0.toNatClampNeg from by omega]) ?_
              refine lv_iload_n hx hb dX7_offer_80 rfl (lv_at hl 3 rfl) ?_
              refine lv_iload_n hx hb dX7_offer_81 rfl (lv_at hl 4 rfl) ?_
              refine va_iast hx hb hK hP hD hS (31 + 15 * x0.toNatClampNeg) 0 (wl_at (by omega) (ce_20 (kd_c _ hx_7).1.2.2.1)) rfl (by unfold vp_in; decide) dX7_offer_82 (fun H locs hP hD hS => ?_)
              have hP : va_P (dC, dI) vwCl ((wl ad kv cy N v).set (31 + 15 * x0.toNatClampNeg) (ad (31 + 15 * x0.toNatClampNeg), .inl (cy 0, 2, .inl (upd (v (31 + 15 * x0.toNatClampNeg)) 1 x1)))) H := hP
              have hD : va_D A ((wl ad kv cy N v).set (31 + 15 * x0.toNatClampNeg) (ad (31 + 15 * x0.toNatClampNeg), .inl (cy 0, 2, .inl (upd (v (31 + 15 * x0.toNatClampNeg)) 1 x1)))) := hD
              obtain ⟨v_14, ev_14⟩ : ∃ u : Nat → Nat → Int32, u = upr v (31 + 15 * x0.toNatClampNeg) (upd (v (31 + 15 * x0.toNatClampNeg)) 1 x1) := ⟨_, rfl⟩
              have hP : va_P (dC, dI) vwCl (wl ad kv cy N v_14) H := by rw [ev_14, ← wl_put (e := _) (ce_20 (kd_c _ hx_7).1.2.2.1)]; exact hP
              have hD : va_D A (wl ad kv cy N v_14) := by rw [ev_14, ← wl_put (e := _) (ce_20 (kd_c _ hx_7).1.2.2.1)]; exact hD
              have hv : Iv v_14 := by rw [ev_14]; exact hv.put (K := 20) (kd_c _ hx_7).1.2.2.1 (fun h q => by simp [bd] at q)
              refine lv_aload hx hb dX7_offer_83 (lv_at hl 0 rfl) ?_
              refine va_get (D := (dC, dI)) (ci := 0) (v := .ref (ad (29 + 15 * x0.toNatClampNeg + 2))) (C := RX0) (T := TX0) (N := 11) hx hb hts iwX7_offer_X0 hown hK hP (29 + 15 * x0.toNatClampNeg) (wl_at (by omega) (ce_9 (kd_c _ hx_7).1.1)) rfl 7 (by decide) (hts (.fieldLink RX7 135 "QuietStairs$Case" "box" "[I") fwX7_offer_4) (fun _ h9 => h9) rfl dX7_offer_85 ?_
              refine W.eq (g2 := F0 m 88 ls [.ref (ad (31 + 15 * x0.toNatClampNeg))]) (by rw [show 29 + 15 * x0.toNatClampNeg + 2 = 31 + 15 * x0.toNatClampNeg from by omega]) ?_
              refine lv_iconst (v := 1) hx hb dX7_offer_88 (by decide) ?_
              refine lv_iload_n hx hb dX7_offer_89 rfl (lv_at hl 3 rfl) ?_
              refine lv_isub hx hb dX7_offer_90 ?_
              refine lv_topi (fun x_15 ex_15 => ?_)
              obtain rfl : x_15 = 0 := ex_15.trans (by decide)
              refine va_iald hx hb hK hP (31 + 15 * x0.toNatClampNeg) 0 (wl_at (by omega) (ce_20 (kd_c _ hx_7).1.2.2.1)) rfl (by unfold vp_in; decide) dX7_offer_91 ?_
              refine lv_topi (fun x_16 ex_16 => ?_)
              have ex_16 : x_16 = v_14 (31 + 15 * x0.toNatClampNeg) 0 := ex_16
              rw [ev_14, upr_s, pk_un (by decide)] at ex_16
              have qx_16 : x_16.toInt = (v (31 + 15 * x0.toNatClampNeg) (0)).toInt := congrArg Int32.toInt ex_16
              refine lv_iconst (v := (-1)) hx hb dX7_offer_92 (by decide) ?_
              refine lv_icmp_ne (tgt := 98) hx hb dX7_offer_93 (by decide) (fun c_17 => ?_) (fun c_17 => ?_)
              · have tc_17 : x_16.toInt ≠ ((-1) : Int32).toInt := fun q => absurd (Int32.toInt_inj.mp q) c_17
                refine lv_aload hx hb dX7_offer_98 (lv_at hl 0 rfl) ?_
                have hx2 : v_14 (29 + 15 * x0.toNatClampNeg) 2 = v (29 + 15 * x0.toNatClampNeg) 2 := by rw [ev_14, upr_n (by omega)]
                have hx1 : v_14 (31 + 15 * x0.toNatClampNeg) 1 = x1 := by rw [ev_14, upr_s, pk_us]
                have hx0 : v_14 (31 + 15 * x0.toNatClampNeg) 0 = v (31 + 15 * x0.toNatClampNeg) 0 := by rw [ev_14, upr_s, pk_un (by decide)]
                refine yw_i (w1 := fun (u : Nat → Nat → Int32) => wl ad kv cy N u) hD hS hA (va_runV (As := []) (rest := []) ⟨hx, hb, hml, hown, hts⟩ (e_X0_endRound l dC dI cy _ ad kv N hN v_14 hv x0.toNatClampNeg hx_7 (by rw [hx2]; omega)) (cwV 0 hts gX7_offer_X0_endRound rfl rfl rfl hd_V_X0_endRound_0 ⟨Nat.le_of_ble_eq_true rfl, Nat.le_of_ble_eq_true rfl⟩) (yw_preV hE hK hP hD (ci := 0) (q0 := (29 + 15 * x0.toNatClampNeg)) rfl (wl_at (by omega) (ce_9 (kd_c _ hx_7).1.1))) rfl rfl hl.1 rfl (lv_room (Nat.le_of_ble_eq_true rfl)) dX7_offer_100 ⟨Nat.le_of_ble_eq_true rfl, Nat.le_of_ble_eq_true rfl⟩) (fun r_18 v_18 H locs hw_18 hP hD hS => ?_)
                obtain ⟨hv, hw_18⟩ := hw_18
                rw [hx2, hx1, hx0] at hw_18
                rcases Int.lt_or_le x1.toInt (v (31 + 15 * x0.toNatClampNeg) 0).toInt with hlt_19 | hle_19
                · obtain ⟨rfl, hp_19⟩ := hw_18.2 hlt_19
                  refine lv_if_eq (tgt := 110) hx hb dX7_offer_103 (by decide) (fun _ => ?_) (fun c9 => absurd c9 (by decide))
                  refine lv_iconst (v := 2) hx hb dX7_offer_110 (by decide) ?_
                  have hpost : (¬ ((0 ≤ x0.toInt ∧ x0.toInt < (v 13 2).toInt) ∧ 0 ≤ x1.toInt ∧ x1.toInt ≤ 100) → (2 : Int32) = -1 ∧ v_18 = v) ∧ (((0 ≤ x0.toInt ∧ x0.toInt < (v 13 2).toInt) ∧ 0 ≤ x1.toInt ∧ x1.toInt ≤ 100) ∧ (v (29 + 15 * x0.toNatClampNeg) 0).toInt ≠ 0 → (2 : Int32) = -4 ∧ v_18 = v) ∧ (((0 ≤ x0.toInt ∧ x0.toInt < (v 13 2).toInt) ∧ 0 ≤ x1.toInt ∧ x1.toInt ≤ 100) ∧ (v (29 + 15 * x0.toNatClampNeg) 0).toInt = 0 ∧ (v (31 + 15 * x0.toNatClampNeg) 1).toInt ≠ -1 → (2 : Int32) = -3 ∧ v_18 = v) ∧ (((0 ≤ x0.toInt ∧ x0.toInt < (v 13 2).toInt) ∧ 0 ≤ x1.toInt ∧ x1.toInt ≤ 100) ∧ (v (29 + 15 * x0.toNatClampNeg) 0).toInt = 0 ∧ (v (31 + 15 * x0.toNatClampNeg) 1).toInt = -1 ∧ 5 ≤ (v (29 + 15 * x0.toNatClampNeg) 2).toInt → (2 : Int32) = -2 ∧ v_18 = v) ∧ (((0 ≤ x0.toInt ∧ x0.toInt < (v 13 2).toInt) ∧ 0 ≤ x1.toInt ∧ x1.toInt ≤ 100) ∧ (v (29 + 15 * x0.toNatClampNeg) 0).toInt = 0 ∧ (v (31 + 15 * x0.toNatClampNeg) 1).toInt = -1 ∧ (v (29 + 15 * x0.toNatClampNeg) 2).toInt < 5 ∧ (v (31 + 15 * x0.toNatClampNeg) 0).toInt = -1 → (2 : Int32) = 0 ∧ (∀ k j : Nat, v_18 k j = if k = 31 + 15 * x0.toNatClampNeg ∧ j = 1 then x1 else v k j)) ∧ (((0 ≤ x0.toInt ∧ x0.toInt < (v 13 2).toInt) ∧ 0 ≤ x1.toInt ∧ x1.toInt ≤ 100) ∧ (v (29 + 15 * x0.toNatClampNeg) 0).toInt = 0 ∧ (v (31 + 15 * x0.toNatClampNeg) 1).toInt = -1 ∧ (v (29 + 15 * x0.toNatClampNeg) 2).toInt < 5 ∧ (v (31 + 15 * x0.toNatClampNeg) 0).toInt ≠ -1 ∧ x1.toInt < (v (31 + 15 * x0.toNatClampNeg) 0).toInt → (2 : Int32) = 2 ∧ (∀ k j : Nat, v_18 k j = if k = 31 + 15 * x0.toNatClampNeg ∧ j = 1 then -1 else if k = 31 + 15 * x0.toNatClampNeg ∧ j = 0 then -1 else if k = 29 + 15 * x0.toNatClampNeg ∧ j = 2 then v (29 + 15 * x0.toNatClampNeg) 2 + 1 else if k = 33 + 15 * x0.toNatClampNeg + 1 ∧ j = (v (29 + 15 * x0.toNatClampNeg) 2).toNatClampNeg then x1 else if k = 33 + 15 * x0.toNatClampNeg + 0 ∧ j = (v (29 + 15 * x0.toNatClampNeg) 2).toNatClampNeg then v (31 + 15 * x0.toNatClampNeg) 0 else if k = 31 + 15 * x0.toNatClampNeg ∧ j = 1 then x1 else v k j)) ∧ (((0 ≤ x0.toInt ∧ x0.toInt < (v 13 2).toInt) ∧ 0 ≤ x1.toInt ∧ x1.toInt ≤ 100) ∧ (v (29 + 15 * x0.toNatClampNeg) 0).toInt = 0 ∧ (v (31 + 15 * x0.toNatClampNeg) 1).toInt = -1 ∧ (v (29 + 15 * x0.toNatClampNeg) 2).toInt < 5 ∧ (v (31 + 15 * x0.toNatClampNeg) 0).toInt ≠ -1 ∧ (v (31 + 15 * x0.toNatClampNeg) 0).toInt ≤ x1.toInt → (2 : Int32) = 1 ∧ (∀ k j : Nat, v_18 k j = if k = 29 + 15 * x0.toNatClampNeg ∧ j = 1 then (v (31 + 15 * x0.toNatClampNeg) 0 + x1) / 2 else if k = 29 + 15 * x0.toNatClampNeg ∧ j = 0 then 1 else if k = 29 + 15 * x0.toNatClampNeg ∧ j = 2 then v (29 + 15 * x0.toNatClampNeg) 2 + 1 else if k = 33 + 15 * x0.toNatClampNeg + 1 ∧ j = (v (29 + 15 * x0.toNatClampNeg) 2).toNatClampNeg then x1 else if k = 33 + 15 * x0.toNatClampNeg + 0 ∧ j = (v (29 + 15 * x0.toNatClampNeg) 2).toNatClampNeg then v (31 + 15 * x0.toNatClampNeg) 0 else if k = 31 + 15 * x0.toNatClampNeg ∧ j = 1 then x1 else v k j)) := by
                    refine ⟨fun hq => ?_, fun hq => ?_, fun hq => ?_, fun hq => ?_, fun hq => ?_, fun hq => ?_, fun hq => ?_⟩
                    · exfalso; omega
                    · exfalso; omega
                    · exfalso; omega
                    · exfalso; omega
                    · exfalso; omega
                    · exact ⟨rfl, fun k j => by rw [hp_19, ev_14, up2]⟩
                    · exfalso; omega
                  exact W.iret (v := 2) hx hb hr (fun t ht hW => ⟨⟨2, v_18, rfl, ⟨hv, hpost⟩, by rw [ht]; exact hP, hD⟩, hS.F ht⟩) hS.2.2 dX7_offer_111
                · obtain ⟨rfl, hp_19⟩ := hw_18.1 hle_19
                  refine lv_if_eq (tgt := 110) hx hb dX7_offer_103 (by decide) (fun c9 => absurd c9 (by decide)) (fun _ => ?_)
                  refine lv_iconst (v := 1) hx hb dX7_offer_106 (by decide) ?_
                  refine lv_goto (tgt := 111) hx hb dX7_offer_107 (by decide) ?_
                  have hpost : (¬ ((0 ≤ x0.toInt ∧ x0.toInt < (v 13 2).toInt) ∧ 0 ≤ x1.toInt ∧ x1.toInt ≤ 100) → (1 : Int32) = -1 ∧ v_18 = v) ∧ (((0 ≤ x0.toInt ∧ x0.toInt < (v 13 2).toInt) ∧ 0 ≤ x1.toInt ∧ x1.toInt ≤ 100) ∧ (v (29 + 15 * x0.toNatClampNeg) 0).toInt ≠ 0 → (1 : Int32) = -4 ∧ v_18 = v) ∧ (((0 ≤ x0.toInt ∧ x0.toInt < (v 13 2).toInt) ∧ 0 ≤ x1.toInt ∧ x1.toInt ≤ 100) ∧ (v (29 + 15 * x0.toNatClampNeg) 0).toInt = 0 ∧ (v (31 + 15 * x0.toNatClampNeg) 1).toInt ≠ -1 → (1 : Int32) = -3 ∧ v_18 = v) ∧ (((0 ≤ x0.toInt ∧ x0.toInt < (v 13 2).toInt) ∧ 0 ≤ x1.toInt ∧ x1.toInt ≤ 100) ∧ (v (29 + 15 * x0.toNatClampNeg) 0).toInt = 0 ∧ (v (31 + 15 * x0.toNatClampNeg) 1).toInt = -1 ∧ 5 ≤ (v (29 + 15 * x0.toNatClampNeg) 2).toInt → (1 : Int32) = -2 ∧ v_18 = v) ∧ (((0 ≤ x0.toInt ∧ x0.toInt < (v 13 2).toInt) ∧ 0 ≤ x1.toInt ∧ x1.toInt ≤ 100) ∧ (v (29 + 15 * x0.toNatClampNeg) 0).toInt = 0 ∧ (v (31 + 15 * x0.toNatClampNeg) 1).toInt = -1 ∧ (v (29 + 15 * x0.toNatClampNeg) 2).toInt < 5 ∧ (v (31 + 15 * x0.toNatClampNeg) 0).toInt = -1 → (1 : Int32) = 0 ∧ (∀ k j : Nat, v_18 k j = if k = 31 + 15 * x0.toNatClampNeg ∧ j = 1 then x1 else v k j)) ∧ (((0 ≤ x0.toInt ∧ x0.toInt < (v 13 2).toInt) ∧ 0 ≤ x1.toInt ∧ x1.toInt ≤ 100) ∧ (v (29 + 15 * x0.toNatClampNeg) 0).toInt = 0 ∧ (v (31 + 15 * x0.toNatClampNeg) 1).toInt = -1 ∧ (v (29 + 15 * x0.toNatClampNeg) 2).toInt < 5 ∧ (v (31 + 15 * x0.toNatClampNeg) 0).toInt ≠ -1 ∧ x1.toInt < (v (31 + 15 * x0.toNatClampNeg) 0).toInt → (1 : Int32) = 2 ∧ (∀ k j : Nat, v_18 k j = if k = 31 + 15 * x0.toNatClampNeg ∧ j = 1 then -1 else if k = 31 + 15 * x0.toNatClampNeg ∧ j = 0 then -1 else if k = 29 + 15 * x0.toNatClampNeg ∧ j = 2 then v (29 + 15 * x0.toNatClampNeg) 2 + 1 else if k = 33 + 15 * x0.toNatClampNeg + 1 ∧ j = (v (29 + 15 * x0.toNatClampNeg) 2).toNatClampNeg then x1 else if k = 33 + 15 * x0.toNatClampNeg + 0 ∧ j = (v (29 + 15 * x0.toNatClampNeg) 2).toNatClampNeg then v (31 + 15 * x0.toNatClampNeg) 0 else if k = 31 + 15 * x0.toNatClampNeg ∧ j = 1 then x1 else v k j)) ∧ (((0 ≤ x0.toInt ∧ x0.toInt < (v 13 2).toInt) ∧ 0 ≤ x1.toInt ∧ x1.toInt ≤ 100) ∧ (v (29 + 15 * x0.toNatClampNeg) 0).toInt = 0 ∧ (v (31 + 15 * x0.toNatClampNeg) 1).toInt = -1 ∧ (v (29 + 15 * x0.toNatClampNeg) 2).toInt < 5 ∧ (v (31 + 15 * x0.toNatClampNeg) 0).toInt ≠ -1 ∧ (v (31 + 15 * x0.toNatClampNeg) 0).toInt ≤ x1.toInt → (1 : Int32) = 1 ∧ (∀ k j : Nat, v_18 k j = if k = 29 + 15 * x0.toNatClampNeg ∧ j = 1 then (v (31 + 15 * x0.toNatClampNeg) 0 + x1) / 2 else if k = 29 + 15 * x0.toNatClampNeg ∧ j = 0 then 1 else if k = 29 + 15 * x0.toNatClampNeg ∧ j = 2 then v (29 + 15 * x0.toNatClampNeg) 2 + 1 else if k = 33 + 15 * x0.toNatClampNeg + 1 ∧ j = (v (29 + 15 * x0.toNatClampNeg) 2).toNatClampNeg then x1 else if k = 33 + 15 * x0.toNatClampNeg + 0 ∧ j = (v (29 + 15 * x0.toNatClampNeg) 2).toNatClampNeg then v (31 + 15 * x0.toNatClampNeg) 0 else if k = 31 + 15 * x0.toNatClampNeg ∧ j = 1 then x1 else v k j)) := by
                    refine ⟨fun hq => ?_, fun hq => ?_, fun hq => ?_, fun hq => ?_, fun hq => ?_, fun hq => ?_, fun hq => ?_⟩
                    · exfalso; omega
                    · exfalso; omega
                    · exfalso; omega
                    · exfalso; omega
                    · exfalso; omega
                    · exfalso; omega
                    · exact ⟨rfl, fun k j => by rw [hp_19, ev_14, up2]⟩
                  exact W.iret (v := 1) hx hb hr (fun t ht hW => ⟨⟨1, v_18, rfl, ⟨hv, hpost⟩, by rw [ht]; exact hP, hD⟩, hS.F ht⟩) hS.2.2 dX7_offer_111
              · have tc_17 : x_16.toInt = ((-1) : Int32).toInt := by rw [c_17]
                refine lv_iconst (v := 0) hx hb dX7_offer_96 (by decide) ?_
                have hpost : (¬ ((0 ≤ x0.toInt ∧ x0.toInt < (v 13 2).toInt) ∧ 0 ≤ x1.toInt ∧ x1.toInt ≤ 100) → (0 : Int32) = -1 ∧ v_14 = v) ∧ (((0 ≤ x0.toInt ∧ x0.toInt < (v 13 2).toInt) ∧ 0 ≤ x1.toInt ∧ x1.toInt ≤ 100) ∧ (v (29 + 15 * x0.toNatClampNeg) 0).toInt ≠ 0 → (0 : Int32) = -4 ∧ v_14 = v) ∧ (((0 ≤ x0.toInt ∧ x0.toInt < (v 13 2).toInt) ∧ 0 ≤ x1.toInt ∧ x1.toInt ≤ 100) ∧ (v (29 + 15 * x0.toNatClampNeg) 0).toInt = 0 ∧ (v (31 + 15 * x0.toNatClampNeg) 1).toInt ≠ -1 → (0 : Int32) = -3 ∧ v_14 = v) ∧ (((0 ≤ x0.toInt ∧ x0.toInt < (v 13 2).toInt) ∧ 0 ≤ x1.toInt ∧ x1.toInt ≤ 100) ∧ (v (29 + 15 * x0.toNatClampNeg) 0).toInt = 0 ∧ (v (31 + 15 * x0.toNatClampNeg) 1).toInt = -1 ∧ 5 ≤ (v (29 + 15 * x0.toNatClampNeg) 2).toInt → (0 : Int32) = -2 ∧ v_14 = v) ∧ (((0 ≤ x0.toInt ∧ x0.toInt < (v 13 2).toInt) ∧ 0 ≤ x1.toInt ∧ x1.toInt ≤ 100) ∧ (v (29 + 15 * x0.toNatClampNeg) 0).toInt = 0 ∧ (v (31 + 15 * x0.toNatClampNeg) 1).toInt = -1 ∧ (v (29 + 15 * x0.toNatClampNeg) 2).toInt < 5 ∧ (v (31 + 15 * x0.toNatClampNeg) 0).toInt = -1 → (0 : Int32) = 0 ∧ (∀ k j : Nat, v_14 k j = if k = 31 + 15 * x0.toNatClampNeg ∧ j = 1 then x1 else v k j)) ∧ (((0 ≤ x0.toInt ∧ x0.toInt < (v 13 2).toInt) ∧ 0 ≤ x1.toInt ∧ x1.toInt ≤ 100) ∧ (v (29 + 15 * x0.toNatClampNeg) 0).toInt = 0 ∧ (v (31 + 15 * x0.toNatClampNeg) 1).toInt = -1 ∧ (v (29 + 15 * x0.toNatClampNeg) 2).toInt < 5 ∧ (v (31 + 15 * x0.toNatClampNeg) 0).toInt ≠ -1 ∧ x1.toInt < (v (31 + 15 * x0.toNatClampNeg) 0).toInt → (0 : Int32) = 2 ∧ (∀ k j : Nat, v_14 k j = if k = 31 + 15 * x0.toNatClampNeg ∧ j = 1 then -1 else if k = 31 + 15 * x0.toNatClampNeg ∧ j = 0 then -1 else if k = 29 + 15 * x0.toNatClampNeg ∧ j = 2 then v (29 + 15 * x0.toNatClampNeg) 2 + 1 else if k = 33 + 15 * x0.toNatClampNeg + 1 ∧ j = (v (29 + 15 * x0.toNatClampNeg) 2).toNatClampNeg then x1 else if k = 33 + 15 * x0.toNatClampNeg + 0 ∧ j = (v (29 + 15 * x0.toNatClampNeg) 2).toNatClampNeg then v (31 + 15 * x0.toNatClampNeg) 0 else if k = 31 + 15 * x0.toNatClampNeg ∧ j = 1 then x1 else v k j)) ∧ (((0 ≤ x0.toInt ∧ x0.toInt < (v 13 2).toInt) ∧ 0 ≤ x1.toInt ∧ x1.toInt ≤ 100) ∧ (v (29 + 15 * x0.toNatClampNeg) 0).toInt = 0 ∧ (v (31 + 15 * x0.toNatClampNeg) 1).toInt = -1 ∧ (v (29 + 15 * x0.toNatClampNeg) 2).toInt < 5 ∧ (v (31 + 15 * x0.toNatClampNeg) 0).toInt ≠ -1 ∧ (v (31 + 15 * x0.toNatClampNeg) 0).toInt ≤ x1.toInt → (0 : Int32) = 1 ∧ (∀ k j : Nat, v_14 k j = if k = 29 + 15 * x0.toNatClampNeg ∧ j = 1 then (v (31 + 15 * x0.toNatClampNeg) 0 + x1) / 2 else if k = 29 + 15 * x0.toNatClampNeg ∧ j = 0 then 1 else if k = 29 + 15 * x0.toNatClampNeg ∧ j = 2 then v (29 + 15 * x0.toNatClampNeg) 2 + 1 else if k = 33 + 15 * x0.toNatClampNeg + 1 ∧ j = (v (29 + 15 * x0.toNatClampNeg) 2).toNatClampNeg then x1 else if k = 33 + 15 * x0.toNatClampNeg + 0 ∧ j = (v (29 + 15 * x0.toNatClampNeg) 2).toNatClampNeg then v (31 + 15 * x0.toNatClampNeg) 0 else if k = 31 + 15 * x0.toNatClampNeg ∧ j = 1 then x1 else v k j)) := by
                  refine ⟨fun hq => ?_, fun hq => ?_, fun hq => ?_, fun hq => ?_, fun hq => ?_, fun hq => ?_, fun hq => ?_⟩
                  · exfalso; omega
                  · exfalso; omega
                  · exfalso; omega
                  · exfalso; omega
                  · exact ⟨rfl, fun k j => by rw [ev_14, up2]⟩
                  · exfalso; omega
                  · exfalso; omega
                exact W.iret (v := 0) hx hb hr (fun t ht hW => ⟨⟨0, v_14, rfl, ⟨hv, hpost⟩, by rw [ht]; exact hP, hD⟩, hS.F ht⟩) hS.2.2 dX7_offer_97
            · have tc_13 : x_12.toInt ≥ (5 : Int32).toInt := Int32.le_iff_toInt_le.mp (Int32.not_lt.mp c_13)
              refine lv_bipush (v := (-2)) hx hb dX7_offer_72 (by decide) ?_
              have hpost : (¬ ((0 ≤ x0.toInt ∧ x0.toInt < (v 13 2).toInt) ∧ 0 ≤ x1.toInt ∧ x1.toInt ≤ 100) → ((-2) : Int32) = -1 ∧ v = v) ∧ (((0 ≤ x0.toInt ∧ x0.toInt < (v 13 2).toInt) ∧ 0 ≤ x1.toInt ∧ x1.toInt ≤ 100) ∧ (v (29 + 15 * x0.toNatClampNeg) 0).toInt ≠ 0 → ((-2) : Int32) = -4 ∧ v = v) ∧ (((0 ≤ x0.toInt ∧ x0.toInt < (v 13 2).toInt) ∧ 0 ≤ x1.toInt ∧ x1.toInt ≤ 100) ∧ (v (29 + 15 * x0.toNatClampNeg) 0).toInt = 0 ∧ (v (31 + 15 * x0.toNatClampNeg) 1).toInt ≠ -1 → ((-2) : Int32) = -3 ∧ v = v) ∧ (((0 ≤ x0.toInt ∧ x0.toInt < (v 13 2).toInt) ∧ 0 ≤ x1.toInt ∧ x1.toInt ≤ 100) ∧ (v (29 + 15 * x0.toNatClampNeg) 0).toInt = 0 ∧ (v (31 + 15 * x0.toNatClampNeg) 1).toInt = -1 ∧ 5 ≤ (v (29 + 15 * x0.toNatClampNeg) 2).toInt → ((-2) : Int32) = -2 ∧ v = v) ∧ (((0 ≤ x0.toInt ∧ x0.toInt < (v 13 2).toInt) ∧ 0 ≤ x1.toInt ∧ x1.toInt ≤ 100) ∧ (v (29 + 15 * x0.toNatClampNeg) 0).toInt = 0 ∧ (v (31 + 15 * x0.toNatClampNeg) 1).toInt = -1 ∧ (v (29 + 15 * x0.toNatClampNeg) 2).toInt < 5 ∧ (v (31 + 15 * x0.toNatClampNeg) 0).toInt = -1 → ((-2) : Int32) = 0 ∧ (∀ k j : Nat, v k j = if k = 31 + 15 * x0.toNatClampNeg ∧ j = 1 then x1 else v k j)) ∧ (((0 ≤ x0.toInt ∧ x0.toInt < (v 13 2).toInt) ∧ 0 ≤ x1.toInt ∧ x1.toInt ≤ 100) ∧ (v (29 + 15 * x0.toNatClampNeg) 0).toInt = 0 ∧ (v (31 + 15 * x0.toNatClampNeg) 1).toInt = -1 ∧ (v (29 + 15 * x0.toNatClampNeg) 2).toInt < 5 ∧ (v (31 + 15 * x0.toNatClampNeg) 0).toInt ≠ -1 ∧ x1.toInt < (v (31 + 15 * x0.toNatClampNeg) 0).toInt → ((-2) : Int32) = 2 ∧ (∀ k j : Nat, v k j = if k = 31 + 15 * x0.toNatClampNeg ∧ j = 1 then -1 else if k = 31 + 15 * x0.toNatClampNeg ∧ j = 0 then -1 else if k = 29 + 15 * x0.toNatClampNeg ∧ j = 2 then v (29 + 15 * x0.toNatClampNeg) 2 + 1 else if k = 33 + 15 * x0.toNatClampNeg + 1 ∧ j = (v (29 + 15 * x0.toNatClampNeg) 2).toNatClampNeg then x1 else if k = 33 + 15 * x0.toNatClampNeg + 0 ∧ j = (v (29 + 15 * x0.toNatClampNeg) 2).toNatClampNeg then v (31 + 15 * x0.toNatClampNeg) 0 else if k = 31 + 15 * x0.toNatClampNeg ∧ j = 1 then x1 else v k j)) ∧ (((0 ≤ x0.toInt ∧ x0.toInt < (v 13 2).toInt) ∧ 0 ≤ x1.toInt ∧ x1.toInt ≤ 100) ∧ (v (29 + 15 * x0.toNatClampNeg) 0).toInt = 0 ∧ (v (31 + 15 * x0.toNatClampNeg) 1).toInt = -1 ∧ (v (29 + 15 * x0.toNatClampNeg) 2).toInt < 5 ∧ (v (31 + 15 * x0.toNatClampNeg) 0).toInt ≠ -1 ∧ (v (31 + 15 * x0.toNatClampNeg) 0).toInt ≤ x1.toInt → ((-2) : Int32) = 1 ∧ (∀ k j : Nat, v k j = if k = 29 + 15 * x0.toNatClampNeg ∧ j = 1 then (v (31 + 15 * x0.toNatClampNeg) 0 + x1) / 2 else if k = 29 + 15 * x0.toNatClampNeg ∧ j = 0 then 1 else if k = 29 + 15 * x0.toNatClampNeg ∧ j = 2 then v (29 + 15 * x0.toNatClampNeg) 2 + 1 else if k = 33 + 15 * x0.toNatClampNeg + 1 ∧ j = (v (29 + 15 * x0.toNatClampNeg) 2).toNatClampNeg then x1 else if k = 33 + 15 * x0.toNatClampNeg + 0 ∧ j = (v (29 + 15 * x0.toNatClampNeg) 2).toNatClampNeg then v (31 + 15 * x0.toNatClampNeg) 0 else if k = 31 + 15 * x0.toNatClampNeg ∧ j = 1 then x1 else v k j)) := by
                refine ⟨fun hq => ?_, fun hq => ?_, fun hq => ?_, fun hq => ?_, fun hq => ?_, fun hq => ?_, fun hq => ?_⟩
                · exfalso; omega
                · exfalso; omega
                · exfalso; omega
                · exact ⟨rfl, rfl⟩
                · exfalso; omega
                · exfalso; omega
                · exfalso; omega
              exact W.iret (v := (-2)) hx hb hr (fun t ht hW => ⟨⟨(-2), v, rfl, ⟨hv, hpost⟩, by rw [ht]; exact hP, hD⟩, hS.F ht⟩) hS.2.2 dX7_offer_74
          · have tc_11 : x_10.toInt ≠ ((-1) : Int32).toInt := fun q => absurd (Int32.toInt_inj.mp q) c_11
            refine lv_bipush (v := (-3)) hx hb dX7_offer_60 (by decide) ?_
            have hpost : (¬ ((0 ≤ x0.toInt ∧ x0.toInt < (v 13 2).toInt) ∧ 0 ≤ x1.toInt ∧ x1.toInt ≤ 100) → ((-3) : Int32) = -1 ∧ v = v) ∧ (((0 ≤ x0.toInt ∧ x0.toInt < (v 13 2).toInt) ∧ 0 ≤ x1.toInt ∧ x1.toInt ≤ 100) ∧ (v (29 + 15 * x0.toNatClampNeg) 0).toInt ≠ 0 → ((-3) : Int32) = -4 ∧ v = v) ∧ (((0 ≤ x0.toInt ∧ x0.toInt < (v 13 2).toInt) ∧ 0 ≤ x1.toInt ∧ x1.toInt ≤ 100) ∧ (v (29 + 15 * x0.toNatClampNeg) 0).toInt = 0 ∧ (v (31 + 15 * x0.toNatClampNeg) 1).toInt ≠ -1 → ((-3) : Int32) = -3 ∧ v = v) ∧ (((0 ≤ x0.toInt ∧ x0.toInt < (v 13 2).toInt) ∧ 0 ≤ x1.toInt ∧ x1.toInt ≤ 100) ∧ (v (29 + 15 * x0.toNatClampNeg) 0).toInt = 0 ∧ (v (31 + 15 * x0.toNatClampNeg) 1).toInt = -1 ∧ 5 ≤ (v (29 + 15 * x0.toNatClampNeg) 2).toInt → ((-3) : Int32) = -2 ∧ v = v) ∧ (((0 ≤ x0.toInt ∧ x0.toInt < (v 13 2).toInt) ∧ 0 ≤ x1.toInt ∧ x1.toInt ≤ 100) ∧ (v (29 + 15 * x0.toNatClampNeg) 0).toInt = 0 ∧ (v (31 + 15 * x0.toNatClampNeg) 1).toInt = -1 ∧ (v (29 + 15 * x0.toNatClampNeg) 2).toInt < 5 ∧ (v (31 + 15 * x0.toNatClampNeg) 0).toInt = -1 → ((-3) : Int32) = 0 ∧ (∀ k j : Nat, v k j = if k = 31 + 15 * x0.toNatClampNeg ∧ j = 1 then x1 else v k j)) ∧ (((0 ≤ x0.toInt ∧ x0.toInt < (v 13 2).toInt) ∧ 0 ≤ x1.toInt ∧ x1.toInt ≤ 100) ∧ (v (29 + 15 * x0.toNatClampNeg) 0).toInt = 0 ∧ (v (31 + 15 * x0.toNatClampNeg) 1).toInt = -1 ∧ (v (29 + 15 * x0.toNatClampNeg) 2).toInt < 5 ∧ (v (31 + 15 * x0.toNatClampNeg) 0).toInt ≠ -1 ∧ x1.toInt < (v (31 + 15 * x0.toNatClampNeg) 0).toInt → ((-3) : Int32) = 2 ∧ (∀ k j : Nat, v k j = if k = 31 + 15 * x0.toNatClampNeg ∧ j = 1 then -1 else if k = 31 + 15 * x0.toNatClampNeg ∧ j = 0 then -1 else if k = 29 + 15 * x0.toNatClampNeg ∧ j = 2 then v (29 + 15 * x0.toNatClampNeg) 2 + 1 else if k = 33 + 15 * x0.toNatClampNeg + 1 ∧ j = (v (29 + 15 * x0.toNatClampNeg) 2).toNatClampNeg then x1 else if k = 33 + 15 * x0.toNatClampNeg + 0 ∧ j = (v (29 + 15 * x0.toNatClampNeg) 2).toNatClampNeg then v (31 + 15 * x0.toNatClampNeg) 0 else if k = 31 + 15 * x0.toNatClampNeg ∧ j = 1 then x1 else v k j)) ∧ (((0 ≤ x0.toInt ∧ x0.toInt < (v 13 2).toInt) ∧ 0 ≤ x1.toInt ∧ x1.toInt ≤ 100) ∧ (v (29 + 15 * x0.toNatClampNeg) 0).toInt = 0 ∧ (v (31 + 15 * x0.toNatClampNeg) 1).toInt = -1 ∧ (v (29 + 15 * x0.toNatClampNeg) 2).toInt < 5 ∧ (v (31 + 15 * x0.toNatClampNeg) 0).toInt ≠ -1 ∧ (v (31 + 15 * x0.toNatClampNeg) 0).toInt ≤ x1.toInt → ((-3) : Int32) = 1 ∧ (∀ k j : Nat, v k j = if k = 29 + 15 * x0.toNatClampNeg ∧ j = 1 then (v (31 + 15 * x0.toNatClampNeg) 0 + x1) / 2 else if k = 29 + 15 * x0.toNatClampNeg ∧ j = 0 then 1 else if k = 29 + 15 * x0.toNatClampNeg ∧ j = 2 then v (29 + 15 * x0.toNatClampNeg) 2 + 1 else if k = 33 + 15 * x0.toNatClampNeg + 1 ∧ j = (v (29 + 15 * x0.toNatClampNeg) 2).toNatClampNeg then x1 else if k = 33 + 15 * x0.toNatClampNeg + 0 ∧ j = (v (29 + 15 * x0.toNatClampNeg) 2).toNatClampNeg then v (31 + 15 * x0.toNatClampNeg) 0 else if k = 31 + 15 * x0.toNatClampNeg ∧ j = 1 then x1 else v k j)) := by
              refine ⟨fun hq => ?_, fun hq => ?_, fun hq => ?_, fun hq => ?_, fun hq => ?_, fun hq => ?_, fun hq => ?_⟩
              · exfalso; omega
              · exfalso; omega
              · exact ⟨rfl, rfl⟩
              · exfalso; omega
              · exfalso; omega
              · exfalso; omega
              · exfalso; omega
            exact W.iret (v := (-3)) hx hb hr (fun t ht hW => ⟨⟨(-3), v, rfl, ⟨hv, hpost⟩, by rw [ht]; exact hP, hD⟩, hS.F ht⟩) hS.2.2 dX7_offer_62
        · have tc_9 : x_8.toInt ≠ (0 : Int32).toInt := fun q => absurd (Int32.toInt_inj.mp q) c_9
          refine lv_bipush (v := (-4)) hx hb dX7_offer_46 (by decide) ?_
          have hpost : (¬ ((0 ≤ x0.toInt ∧ x0.toInt < (v 13 2).toInt) ∧ 0 ≤ x1.toInt ∧ x1.toInt ≤ 100) → ((-4) : Int32) = -1 ∧ v = v) ∧ (((0 ≤ x0.toInt ∧ x0.toInt < (v 13 2).toInt) ∧ 0 ≤ x1.toInt ∧ x1.toInt ≤ 100) ∧ (v (29 + 15 * x0.toNatClampNeg) 0).toInt ≠ 0 → ((-4) : Int32) = -4 ∧ v = v) ∧ (((0 ≤ x0.toInt ∧ x0.toInt < (v 13 2).toInt) ∧ 0 ≤ x1.toInt ∧ x1.toInt ≤ 100) ∧ (v (29 + 15 * x0.toNatClampNeg) 0).toInt = 0 ∧ (v (31 + 15 * x0.toNatClampNeg) 1).toInt ≠ -1 → ((-4) : Int32) = -3 ∧ v = v) ∧ (((0 ≤ x0.toInt ∧ x0.toInt < (v 13 2).toInt) ∧ 0 ≤ x1.toInt ∧ x1.toInt ≤ 100) ∧ (v (29 + 15 * x0.toNatClampNeg) 0).toInt = 0 ∧ (v (31 + 15 * x0.toNatClampNeg) 1).toInt = -1 ∧ 5 ≤ (v (29 + 15 * x0.toNatClampNeg) 2).toInt → ((-4) : Int32) = -2 ∧ v = v) ∧ (((0 ≤ x0.toInt ∧ x0.toInt < (v 13 2).toInt) ∧ 0 ≤ x1.toInt ∧ x1.toInt ≤ 100) ∧ (v (29 + 15 * x0.toNatClampNeg) 0).toInt = 0 ∧ (v (31 + 15 * x0.toNatClampNeg) 1).toInt = -1 ∧ (v (29 + 15 * x0.toNatClampNeg) 2).toInt < 5 ∧ (v (31 + 15 * x0.toNatClampNeg) 0).toInt = -1 → ((-4) : Int32) = 0 ∧ (∀ k j : Nat, v k j = if k = 31 + 15 * x0.toNatClampNeg ∧ j = 1 then x1 else v k j)) ∧ (((0 ≤ x0.toInt ∧ x0.toInt < (v 13 2).toInt) ∧ 0 ≤ x1.toInt ∧ x1.toInt ≤ 100) ∧ (v (29 + 15 * x0.toNatClampNeg) 0).toInt = 0 ∧ (v (31 + 15 * x0.toNatClampNeg) 1).toInt = -1 ∧ (v (29 + 15 * x0.toNatClampNeg) 2).toInt < 5 ∧ (v (31 + 15 * x0.toNatClampNeg) 0).toInt ≠ -1 ∧ x1.toInt < (v (31 + 15 * x0.toNatClampNeg) 0).toInt → ((-4) : Int32) = 2 ∧ (∀ k j : Nat, v k j = if k = 31 + 15 * x0.toNatClampNeg ∧ j = 1 then -1 else if k = 31 + 15 * x0.toNatClampNeg ∧ j = 0 then -1 else if k = 29 + 15 * x0.toNatClampNeg ∧ j = 2 then v (29 + 15 * x0.toNatClampNeg) 2 + 1 else if k = 33 + 15 * x0.toNatClampNeg + 1 ∧ j = (v (29 + 15 * x0.toNatClampNeg) 2).toNatClampNeg then x1 else if k = 33 + 15 * x0.toNatClampNeg + 0 ∧ j = (v (29 + 15 * x0.toNatClampNeg) 2).toNatClampNeg then v (31 + 15 * x0.toNatClampNeg) 0 else if k = 31 + 15 * x0.toNatClampNeg ∧ j = 1 then x1 else v k j)) ∧ (((0 ≤ x0.toInt ∧ x0.toInt < (v 13 2).toInt) ∧ 0 ≤ x1.toInt ∧ x1.toInt ≤ 100) ∧ (v (29 + 15 * x0.toNatClampNeg) 0).toInt = 0 ∧ (v (31 + 15 * x0.toNatClampNeg) 1).toInt = -1 ∧ (v (29 + 15 * x0.toNatClampNeg) 2).toInt < 5 ∧ (v (31 + 15 * x0.toNatClampNeg) 0).toInt ≠ -1 ∧ (v (31 + 15 * x0.toNatClampNeg) 0).toInt ≤ x1.toInt → ((-4) : Int32) = 1 ∧ (∀ k j : Nat, v k j = if k = 29 + 15 * x0.toNatClampNeg ∧ j = 1 then (v (31 + 15 * x0.toNatClampNeg) 0 + x1) / 2 else if k = 29 + 15 * x0.toNatClampNeg ∧ j = 0 then 1 else if k = 29 + 15 * x0.toNatClampNeg ∧ j = 2 then v (29 + 15 * x0.toNatClampNeg) 2 + 1 else if k = 33 + 15 * x0.toNatClampNeg + 1 ∧ j = (v (29 + 15 * x0.toNatClampNeg) 2).toNatClampNeg then x1 else if k = 33 + 15 * x0.toNatClampNeg + 0 ∧ j = (v (29 + 15 * x0.toNatClampNeg) 2).toNatClampNeg then v (31 + 15 * x0.toNatClampNeg) 0 else if k = 31 + 15 * x0.toNatClampNeg ∧ j = 1 then x1 else v k j)) := by
            refine ⟨fun hq => ?_, fun hq => ?_, fun hq => ?_, fun hq => ?_, fun hq => ?_, fun hq => ?_, fun hq => ?_⟩
            · exfalso; omega
            · exact ⟨rfl, rfl⟩
            · exfalso; omega
            · exfalso; omega
            · exfalso; omega
            · exfalso; omega
            · exfalso; omega
          exact W.iret (v := (-4)) hx hb hr (fun t ht hW => ⟨⟨(-4), v, rfl, ⟨hv, hpost⟩, by rw [ht]; exact hP, hD⟩, hS.F ht⟩) hS.2.2 dX7_offer_48
      · have k_100 : (100 : Int32).toInt = 100 := by decide
        have tc_6 : ¬ ((0 : Int32).toInt ≤ x1.toInt ∧ x1.toInt ≤ (100 : Int32).toInt) := fun q => hc_6 ⟨Int32.le_iff_toInt_le.mpr q.1, Int32.le_iff_toInt_le.mpr q.2⟩
        refine lv_if_ne (tgt := 27) hx hb dX7_offer_22 (by decide) (fun c9 => absurd c9 (by decide)) (fun _ => ?_)
        refine lv_iconst (v := (-1)) hx hb dX7_offer_25 (by decide) ?_
        have hpost : (¬ ((0 ≤ x0.toInt ∧ x0.toInt < (v 13 2).toInt) ∧ 0 ≤ x1.toInt ∧ x1.toInt ≤ 100) → ((-1) : Int32) = -1 ∧ v = v) ∧ (((0 ≤ x0.toInt ∧ x0.toInt < (v 13 2).toInt) ∧ 0 ≤ x1.toInt ∧ x1.toInt ≤ 100) ∧ (v (29 + 15 * x0.toNatClampNeg) 0).toInt ≠ 0 → ((-1) : Int32) = -4 ∧ v = v) ∧ (((0 ≤ x0.toInt ∧ x0.toInt < (v 13 2).toInt) ∧ 0 ≤ x1.toInt ∧ x1.toInt ≤ 100) ∧ (v (29 + 15 * x0.toNatClampNeg) 0).toInt = 0 ∧ (v (31 + 15 * x0.toNatClampNeg) 1).toInt ≠ -1 → ((-1) : Int32) = -3 ∧ v = v) ∧ (((0 ≤ x0.toInt ∧ x0.toInt < (v 13 2).toInt) ∧ 0 ≤ x1.toInt ∧ x1.toInt ≤ 100) ∧ (v (29 + 15 * x0.toNatClampNeg) 0).toInt = 0 ∧ (v (31 + 15 * x0.toNatClampNeg) 1).toInt = -1 ∧ 5 ≤ (v (29 + 15 * x0.toNatClampNeg) 2).toInt → ((-1) : Int32) = -2 ∧ v = v) ∧ (((0 ≤ x0.toInt ∧ x0.toInt < (v 13 2).toInt) ∧ 0 ≤ x1.toInt ∧ x1.toInt ≤ 100) ∧ (v (29 + 15 * x0.toNatClampNeg) 0).toInt = 0 ∧ (v (31 + 15 * x0.toNatClampNeg) 1).toInt = -1 ∧ (v (29 + 15 * x0.toNatClampNeg) 2).toInt < 5 ∧ (v (31 + 15 * x0.toNatClampNeg) 0).toInt = -1 → ((-1) : Int32) = 0 ∧ (∀ k j : Nat, v k j = if k = 31 + 15 * x0.toNatClampNeg ∧ j = 1 then x1 else v k j)) ∧ (((0 ≤ x0.toInt ∧ x0.toInt < (v 13 2).toInt) ∧ 0 ≤ x1.toInt ∧ x1.toInt ≤ 100) ∧ (v (29 + 15 * x0.toNatClampNeg) 0).toInt = 0 ∧ (v (31 + 15 * x0.toNatClampNeg) 1).toInt = -1 ∧ (v (29 + 15 * x0.toNatClampNeg) 2).toInt < 5 ∧ (v (31 + 15 * x0.toNatClampNeg) 0).toInt ≠ -1 ∧ x1.toInt < (v (31 + 15 * x0.toNatClampNeg) 0).toInt → ((-1) : Int32) = 2 ∧ (∀ k j : Nat, v k j = if k = 31 + 15 * x0.toNatClampNeg ∧ j = 1 then -1 else if k = 31 + 15 * x0.toNatClampNeg ∧ j = 0 then -1 else if k = 29 + 15 * x0.toNatClampNeg ∧ j = 2 then v (29 + 15 * x0.toNatClampNeg) 2 + 1 else if k = 33 + 15 * x0.toNatClampNeg + 1 ∧ j = (v (29 + 15 * x0.toNatClampNeg) 2).toNatClampNeg then x1 else if k = 33 + 15 * x0.toNatClampNeg + 0 ∧ j = (v (29 + 15 * x0.toNatClampNeg) 2).toNatClampNeg then v (31 + 15 * x0.toNatClampNeg) 0 else if k = 31 + 15 * x0.toNatClampNeg ∧ j = 1 then x1 else v k j)) ∧ (((0 ≤ x0.toInt ∧ x0.toInt < (v 13 2).toInt) ∧ 0 ≤ x1.toInt ∧ x1.toInt ≤ 100) ∧ (v (29 + 15 * x0.toNatClampNeg) 0).toInt = 0 ∧ (v (31 + 15 * x0.toNatClampNeg) 1).toInt = -1 ∧ (v (29 + 15 * x0.toNatClampNeg) 2).toInt < 5 ∧ (v (31 + 15 * x0.toNatClampNeg) 0).toInt ≠ -1 ∧ (v (31 + 15 * x0.toNatClampNeg) 0).toInt ≤ x1.toInt → ((-1) : Int32) = 1 ∧ (∀ k j : Nat, v k j = if k = 29 + 15 * x0.toNatClampNeg ∧ j = 1 then (v (31 + 15 * x0.toNatClampNeg) 0 + x1) / 2 else if k = 29 + 15 * x0.toNatClampNeg ∧ j = 0 then 1 else if k = 29 + 15 * x0.toNatClampNeg ∧ j = 2 then v (29 + 15 * x0.toNatClampNeg) 2 + 1 else if k = 33 + 15 * x0.toNatClampNeg + 1 ∧ j = (v (29 + 15 * x0.toNatClampNeg) 2).toNatClampNeg then x1 else if k = 33 + 15 * x0.toNatClampNeg + 0 ∧ j = (v (29 + 15 * x0.toNatClampNeg) 2).toNatClampNeg then v (31 + 15 * x0.toNatClampNeg) 0 else if k = 31 + 15 * x0.toNatClampNeg ∧ j = 1 then x1 else v k j)) := by
          refine ⟨fun hq => ?_, fun hq => ?_, fun hq => ?_, fun hq => ?_, fun hq => ?_, fun hq => ?_, fun hq => ?_⟩
          · exact ⟨rfl, rfl⟩
          · exfalso; omega
          · exfalso; omega
          · exfalso; omega
          · exfalso; omega
          · exfalso; omega
          · exfalso; omega
        exact W.iret (v := (-1)) hx hb hr (fun t ht hW => ⟨⟨(-1), v, rfl, ⟨hv, hpost⟩, by rw [ht]; exact hP, hD⟩, hS.F ht⟩) hS.2.2 dX7_offer_26
    · have k_0 : (0 : Int32).toInt = 0 := by decide
      have k_1 : (1 : Int32).toInt = 1 := by decide
      have tc_4 : ¬ ((0 : Int32).toInt ≤ (1 : Int32).toInt ∧ (1 : Int32).toInt ≤ (1 : Int32).toInt) := fun q => hc_4 ⟨Int32.le_iff_toInt_le.mpr q.1, Int32.le_iff_toInt_le.mpr q.2⟩
      refine lv_if_eq (tgt := 25) hx hb dX7_offer_12 (by decide) (fun _ => ?_) (fun c9 => absurd c9 (by decide))
      refine lv_iconst (v := (-1)) hx hb dX7_offer_25 (by decide) ?_
      have hpost : (¬ ((0 ≤ x0.toInt ∧ x0.toInt < (v 13 2).toInt) ∧ 0 ≤ x1.toInt ∧ x1.toInt ≤ 100) → ((-1) : Int32) = -1 ∧ v = v) ∧ (((0 ≤ x0.toInt ∧ x0.toInt < (v 13 2).toInt) ∧ 0 ≤ x1.toInt ∧ x1.toInt ≤ 100) ∧ (v (29 + 15 * x0.toNatClampNeg) 0).toInt ≠ 0 → ((-1) : Int32) = -4 ∧ v = v) ∧ (((0 ≤ x0.toInt ∧ x0.toInt < (v 13 2).toInt) ∧ 0 ≤ x1.toInt ∧ x1.toInt ≤ 100) ∧ (v (29 + 15 * x0.toNatClampNeg) 0).toInt = 0 ∧ (v (31 + 15 * x0.toNatClampNeg) 1).toInt ≠ -1 → ((-1) : Int32) = -3 ∧ v = v) ∧ (((0 ≤ x0.toInt ∧ x0.toInt < (v 13 2).toInt) ∧ 0 ≤ x1.toInt ∧ x1.toInt ≤ 100) ∧ (v (29 + 15 * x0.toNatClampNeg) 0).toInt = 0 ∧ (v (31 + 15 * x0.toNatClampNeg) 1).toInt = -1 ∧ 5 ≤ (v (29 + 15 * x0.toNatClampNeg) 2).toInt → ((-1) : Int32) = -2 ∧ v = v) ∧ (((0 ≤ x0.toInt ∧ x0.toInt < (v 13 2).toInt) ∧ 0 ≤ x1.toInt ∧ x1.toInt ≤ 100) ∧ (v (29 + 15 * x0.toNatClampNeg) 0).toInt = 0 ∧ (v (31 + 15 * x0.toNatClampNeg) 1).toInt = -1 ∧ (v (29 + 15 * x0.toNatClampNeg) 2).toInt < 5 ∧ (v (31 + 15 * x0.toNatClampNeg) 0).toInt = -1 → ((-1) : Int32) = 0 ∧ (∀ k j : Nat, v k j = if k = 31 + 15 * x0.toNatClampNeg ∧ j = 1 then x1 else v k j)) ∧ (((0 ≤ x0.toInt ∧ x0.toInt < (v 13 2).toInt) ∧ 0 ≤ x1.toInt ∧ x1.toInt ≤ 100) ∧ (v (29 + 15 * x0.toNatClampNeg) 0).toInt = 0 ∧ (v (31 + 15 * x0.toNatClampNeg) 1).toInt = -1 ∧ (v (29 + 15 * x0.toNatClampNeg) 2).toInt < 5 ∧ (v (31 + 15 * x0.toNatClampNeg) 0).toInt ≠ -1 ∧ x1.toInt < (v (31 + 15 * x0.toNatClampNeg) 0).toInt → ((-1) : Int32) = 2 ∧ (∀ k j : Nat, v k j = if k = 31 + 15 * x0.toNatClampNeg ∧ j = 1 then -1 else if k = 31 + 15 * x0.toNatClampNeg ∧ j = 0 then -1 else if k = 29 + 15 * x0.toNatClampNeg ∧ j = 2 then v (29 + 15 * x0.toNatClampNeg) 2 + 1 else if k = 33 + 15 * x0.toNatClampNeg + 1 ∧ j = (v (29 + 15 * x0.toNatClampNeg) 2).toNatClampNeg then x1 else if k = 33 + 15 * x0.toNatClampNeg + 0 ∧ j = (v (29 + 15 * x0.toNatClampNeg) 2).toNatClampNeg then v (31 + 15 * x0.toNatClampNeg) 0 else if k = 31 + 15 * x0.toNatClampNeg ∧ j = 1 then x1 else v k j)) ∧ (((0 ≤ x0.toInt ∧ x0.toInt < (v 13 2).toInt) ∧ 0 ≤ x1.toInt ∧ x1.toInt ≤ 100) ∧ (v (29 + 15 * x0.toNatClampNeg) 0).toInt = 0 ∧ (v (31 + 15 * x0.toNatClampNeg) 1).toInt = -1 ∧ (v (29 + 15 * x0.toNatClampNeg) 2).toInt < 5 ∧ (v (31 + 15 * x0.toNatClampNeg) 0).toInt ≠ -1 ∧ (v (31 + 15 * x0.toNatClampNeg) 0).toInt ≤ x1.toInt → ((-1) : Int32) = 1 ∧ (∀ k j : Nat, v k j = if k = 29 + 15 * x0.toNatClampNeg ∧ j = 1 then (v (31 + 15 * x0.toNatClampNeg) 0 + x1) / 2 else if k = 29 + 15 * x0.toNatClampNeg ∧ j = 0 then 1 else if k = 29 + 15 * x0.toNatClampNeg ∧ j = 2 then v (29 + 15 * x0.toNatClampNeg) 2 + 1 else if k = 33 + 15 * x0.toNatClampNeg + 1 ∧ j = (v (29 + 15 * x0.toNatClampNeg) 2).toNatClampNeg then x1 else if k = 33 + 15 * x0.toNatClampNeg + 0 ∧ j = (v (29 + 15 * x0.toNatClampNeg) 2).toNatClampNeg then v (31 + 15 * x0.toNatClampNeg) 0 else if k = 31 + 15 * x0.toNatClampNeg ∧ j = 1 then x1 else v k j)) := by
        refine ⟨fun hq => ?_, fun hq => ?_, fun hq => ?_, fun hq => ?_, fun hq => ?_, fun hq => ?_, fun hq => ?_⟩
        · exact ⟨rfl, rfl⟩
        · exfalso; omega
        · exfalso; omega
        · exfalso; omega
        · exfalso; omega
        · exfalso; omega
        · exfalso; omega
      exact W.iret (v := (-1)) hx hb hr (fun t ht hW => ⟨⟨(-1), v, rfl, ⟨hv, hpost⟩, by rw [ht]; exact hP, hD⟩, hS.F ht⟩) hS.2.2 dX7_offer_26
  · refine lv_if_eq (tgt := 25) hx hb dX7_offer_5 (by decide) (fun _ => ?_) (fun c9 => absurd c9 (by decide))
    refine lv_iconst (v := (-1)) hx hb dX7_offer_25 (by decide) ?_
    have hpost : (¬ ((0 ≤ x0.toInt ∧ x0.toInt < (v 13 2).toInt) ∧ 0 ≤ x1.toInt ∧ x1.toInt ≤ 100) → ((-1) : Int32) = -1 ∧ v = v) ∧ (((0 ≤ x0.toInt ∧ x0.toInt < (v 13 2).toInt) ∧ 0 ≤ x1.toInt ∧ x1.toInt ≤ 100) ∧ (v (29 + 15 * x0.toNatClampNeg) 0).toInt ≠ 0 → ((-1) : Int32) = -4 ∧ v = v) ∧ (((0 ≤ x0.toInt ∧ x0.toInt < (v 13 2).toInt) ∧ 0 ≤ x1.toInt ∧ x1.toInt ≤ 100) ∧ (v (29 + 15 * x0.toNatClampNeg) 0).toInt = 0 ∧ (v (31 + 15 * x0.toNatClampNeg) 1).toInt ≠ -1 → ((-1) : Int32) = -3 ∧ v = v) ∧ (((0 ≤ x0.toInt ∧ x0.toInt < (v 13 2).toInt) ∧ 0 ≤ x1.toInt ∧ x1.toInt ≤ 100) ∧ (v (29 + 15 * x0.toNatClampNeg) 0).toInt = 0 ∧ (v (31 + 15 * x0.toNatClampNeg) 1).toInt = -1 ∧ 5 ≤ (v (29 + 15 * x0.toNatClampNeg) 2).toInt → ((-1) : Int32) = -2 ∧ v = v) ∧ (((0 ≤ x0.toInt ∧ x0.toInt < (v 13 2).toInt) ∧ 0 ≤ x1.toInt ∧ x1.toInt ≤ 100) ∧ (v (29 + 15 * x0.toNatClampNeg) 0).toInt = 0 ∧ (v (31 + 15 * x0.toNatClampNeg) 1).toInt = -1 ∧ (v (29 + 15 * x0.toNatClampNeg) 2).toInt < 5 ∧ (v (31 + 15 * x0.toNatClampNeg) 0).toInt = -1 → ((-1) : Int32) = 0 ∧ (∀ k j : Nat, v k j = if k = 31 + 15 * x0.toNatClampNeg ∧ j = 1 then x1 else v k j)) ∧ (((0 ≤ x0.toInt ∧ x0.toInt < (v 13 2).toInt) ∧ 0 ≤ x1.toInt ∧ x1.toInt ≤ 100) ∧ (v (29 + 15 * x0.toNatClampNeg) 0).toInt = 0 ∧ (v (31 + 15 * x0.toNatClampNeg) 1).toInt = -1 ∧ (v (29 + 15 * x0.toNatClampNeg) 2).toInt < 5 ∧ (v (31 + 15 * x0.toNatClampNeg) 0).toInt ≠ -1 ∧ x1.toInt < (v (31 + 15 * x0.toNatClampNeg) 0).toInt → ((-1) : Int32) = 2 ∧ (∀ k j : Nat, v k j = if k = 31 + 15 * x0.toNatClampNeg ∧ j = 1 then -1 else if k = 31 + 15 * x0.toNatClampNeg ∧ j = 0 then -1 else if k = 29 + 15 * x0.toNatClampNeg ∧ j = 2 then v (29 + 15 * x0.toNatClampNeg) 2 + 1 else if k = 33 + 15 * x0.toNatClampNeg + 1 ∧ j = (v (29 + 15 * x0.toNatClampNeg) 2).toNatClampNeg then x1 else if k = 33 + 15 * x0.toNatClampNeg + 0 ∧ j = (v (29 + 15 * x0.toNatClampNeg) 2).toNatClampNeg then v (31 + 15 * x0.toNatClampNeg) 0 else if k = 31 + 15 * x0.toNatClampNeg ∧ j = 1 then x1 else v k j)) ∧ (((0 ≤ x0.toInt ∧ x0.toInt < (v 13 2).toInt) ∧ 0 ≤ x1.toInt ∧ x1.toInt ≤ 100) ∧ (v (29 + 15 * x0.toNatClampNeg) 0).toInt = 0 ∧ (v (31 + 15 * x0.toNatClampNeg) 1).toInt = -1 ∧ (v (29 + 15 * x0.toNatClampNeg) 2).toInt < 5 ∧ (v (31 + 15 * x0.toNatClampNeg) 0).toInt ≠ -1 ∧ (v (31 + 15 * x0.toNatClampNeg) 0).toInt ≤ x1.toInt → ((-1) : Int32) = 1 ∧ (∀ k j : Nat, v k j = if k = 29 + 15 * x0.toNatClampNeg ∧ j = 1 then (v (31 + 15 * x0.toNatClampNeg) 0 + x1) / 2 else if k = 29 + 15 * x0.toNatClampNeg ∧ j = 0 then 1 else if k = 29 + 15 * x0.toNatClampNeg ∧ j = 2 then v (29 + 15 * x0.toNatClampNeg) 2 + 1 else if k = 33 + 15 * x0.toNatClampNeg + 1 ∧ j = (v (29 + 15 * x0.toNatClampNeg) 2).toNatClampNeg then x1 else if k = 33 + 15 * x0.toNatClampNeg + 0 ∧ j = (v (29 + 15 * x0.toNatClampNeg) 2).toNatClampNeg then v (31 + 15 * x0.toNatClampNeg) 0 else if k = 31 + 15 * x0.toNatClampNeg ∧ j = 1 then x1 else v k j)) := by
      refine ⟨fun hq => ?_, fun hq => ?_, fun hq => ?_, fun hq => ?_, fun hq => ?_, fun hq => ?_, fun hq => ?_⟩
      · exact ⟨rfl, rfl⟩
      · exfalso; omega
      · exfalso; omega
      · exfalso; omega
      · exfalso; omega
      · exfalso; omega
      · exfalso; omega
    exact W.iret (v := (-1)) hx hb hr (fun t ht hW => ⟨⟨(-1), v, rfl, ⟨hv, hpost⟩, by rw [ht]; exact hP, hD⟩, hS.F ht⟩) hS.2.2 dX7_offer_26
