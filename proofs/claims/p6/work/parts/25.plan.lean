set_option maxRecDepth 20000 in
theorem db_X4_fittingPairs_0 : (decode cX4_fittingPairs 0 = .ok (.iconst 0, 1)) ∧ (decode cX4_fittingPairs 1 = .ok (.istore_n 2, 1)) ∧ (decode cX4_fittingPairs 2 = .ok (.iconst 0, 1)) ∧ (decode cX4_fittingPairs 3 = .ok (.istore_n 3, 1)) ∧ (decode cX4_fittingPairs 4 = .ok (.iload_n 3, 1)) ∧ (decode cX4_fittingPairs 5 = .ok (.bipush 6, 2)) ∧ (decode cX4_fittingPairs 7 = .ok (.if_icmp .ge 32, 3)) ∧ (decode cX4_fittingPairs 39 = .ok (.iload_n 2, 1)) := by decide +kernel
theorem dX4_fittingPairs_0 : decode cX4_fittingPairs 0 = .ok (.iconst 0, 1) := db_X4_fittingPairs_0.1
theorem dX4_fittingPairs_1 : decode cX4_fittingPairs 1 = .ok (.istore_n 2, 1) := db_X4_fittingPairs_0.2.1
theorem dX4_fittingPairs_2 : decode cX4_fittingPairs 2 = .ok (.iconst 0, 1) := db_X4_fittingPairs_0.2.2.1
theorem dX4_fittingPairs_3 : decode cX4_fittingPairs 3 = .ok (.istore_n 3, 1) := db_X4_fittingPairs_0.2.2.2.1
theorem dX4_fittingPairs_4 : decode cX4_fittingPairs 4 = .ok (.iload_n 3, 1) := db_X4_fittingPairs_0.2.2.2.2.1
theorem dX4_fittingPairs_5 : decode cX4_fittingPairs 5 = .ok (.bipush 6, 2) := db_X4_fittingPairs_0.2.2.2.2.2.1
theorem dX4_fittingPairs_7 : decode cX4_fittingPairs 7 = .ok (.if_icmp .ge 32, 3) := db_X4_fittingPairs_0.2.2.2.2.2.2.1
theorem dX4_fittingPairs_39 : decode cX4_fittingPairs 39 = .ok (.iload_n 2, 1) := db_X4_fittingPairs_0.2.2.2.2.2.2.2
set_option maxRecDepth 20000 in
theorem db_X4_fittingPairs_40 : (decode cX4_fittingPairs 40 = .ok (.ireturn, 1)) ∧ (decode cX4_fittingPairs 10 = .ok (.aload_n 0, 1)) ∧ (decode cX4_fittingPairs 11 = .ok (.iload_n 3, 1)) ∧ (decode cX4_fittingPairs 12 = .ok (.invokevirtual 87, 3)) ∧ (decode cX4_fittingPairs 15 = .ok (.ifCond .eq 18, 3)) ∧ (decode cX4_fittingPairs 33 = .ok (.iinc 3 1, 3)) ∧ (decode cX4_fittingPairs 36 = .ok (.goto (-32), 3)) ∧ (decode cX4_fittingPairs 18 = .ok (.aload_n 0, 1)) := by decide +kernel
theorem dX4_fittingPairs_40 : decode cX4_fittingPairs 40 = .ok (.ireturn, 1) := db_X4_fittingPairs_40.1
theorem dX4_fittingPairs_10 : decode cX4_fittingPairs 10 = .ok (.aload_n 0, 1) := db_X4_fittingPairs_40.2.1
theorem dX4_fittingPairs_11 : decode cX4_fittingPairs 11 = .ok (.iload_n 3, 1) := db_X4_fittingPairs_40.2.2.1
set_option maxRecDepth 20000 in
theorem ggX4_fittingPairs_X1_hasPair : GoodIn wsX4_fittingPairs wsX1_hasPair := goodIn_r _ [5, 6, 26, 27, 28, 29, 30, 31, 32] rfl (by decide +kernel)
set_option maxRecDepth 20000 in
theorem gX4_fittingPairs_X1_hasPair : GoodIn wsX4_fittingPairs (wsV RX4 87 RX1 yX1_hasPair wsX1_hasPair) := goodIn_app (goodIn_r _ [1, 2, 3, 4] rfl (by decide +kernel)) ggX4_fittingPairs_X1_hasPair
theorem dX4_fittingPairs_12 : decode cX4_fittingPairs 12 = .ok (.invokevirtual 87, 3) := db_X4_fittingPairs_40.2.2.2.1
theorem dX4_fittingPairs_15 : decode cX4_fittingPairs 15 = .ok (.ifCond .eq 18, 3) := db_X4_fittingPairs_40.2.2.2.2.1
theorem dX4_fittingPairs_33 : decode cX4_fittingPairs 33 = .ok (.iinc 3 1, 3) := db_X4_fittingPairs_40.2.2.2.2.2.1
theorem dX4_fittingPairs_36 : decode cX4_fittingPairs 36 = .ok (.goto (-32), 3) := db_X4_fittingPairs_40.2.2.2.2.2.2.1
theorem dX4_fittingPairs_18 : decode cX4_fittingPairs 18 = .ok (.aload_n 0, 1) := db_X4_fittingPairs_40.2.2.2.2.2.2.2
set_option maxRecDepth 20000 in
theorem db_X4_fittingPairs_19 : (decode cX4_fittingPairs 19 = .ok (.iload_n 3, 1)) ∧ (decode cX4_fittingPairs 20 = .ok (.aload_n 1, 1)) ∧ (decode cX4_fittingPairs 21 = .ok (.invokevirtual 91, 3)) ∧ (decode cX4_fittingPairs 24 = .ok (.ifCond .eq 9, 3)) ∧ (decode cX4_fittingPairs 27 = .ok (.iload_n 2, 1)) ∧ (decode cX4_fittingPairs 28 = .ok (.iconst 1, 1)) ∧ (decode cX4_fittingPairs 29 = .ok (.iload_n 3, 1)) ∧ (decode cX4_fittingPairs 30 = .ok (.ishl, 1)) := by decide +kernel
theorem dX4_fittingPairs_19 : decode cX4_fittingPairs 19 = .ok (.iload_n 3, 1) := db_X4_fittingPairs_19.1
theorem dX4_fittingPairs_20 : decode cX4_fittingPairs 20 = .ok (.aload_n 1, 1) := db_X4_fittingPairs_19.2.1
set_option maxRecDepth 20000 in
theorem ggX4_fittingPairs_X1_pairFits : GoodIn wsX4_fittingPairs wsX1_pairFits := goodIn_r _ [10, 11, 12, 13, 14, 15, 16, 17, 18, 19, 20, 21, 4, 22, 23, 24, 25, 26, 27, 28, 29, 30, 31, 32, 33, 34, 35, 36, 37, 38, 39, 40, 41, 42, 43, 44, 45, 46, 47, 48] rfl (by decide +kernel)
set_option maxRecDepth 20000 in
theorem gX4_fittingPairs_X1_pairFits : GoodIn wsX4_fittingPairs (wsV RX4 91 RX1 yX1_pairFits wsX1_pairFits) := goodIn_app (goodIn_r _ [7, 8, 9, 4] rfl (by decide +kernel)) ggX4_fittingPairs_X1_pairFits
theorem dX4_fittingPairs_21 : decode cX4_fittingPairs 21 = .ok (.invokevirtual 91, 3) := db_X4_fittingPairs_19.2.2.1
theorem dX4_fittingPairs_24 : decode cX4_fittingPairs 24 = .ok (.ifCond .eq 9, 3) := db_X4_fittingPairs_19.2.2.2.1
theorem dX4_fittingPairs_27 : decode cX4_fittingPairs 27 = .ok (.iload_n 2, 1) := db_X4_fittingPairs_19.2.2.2.2.1
theorem dX4_fittingPairs_28 : decode cX4_fittingPairs 28 = .ok (.iconst 1, 1) := db_X4_fittingPairs_19.2.2.2.2.2.1
theorem dX4_fittingPairs_29 : decode cX4_fittingPairs 29 = .ok (.iload_n 3, 1) := db_X4_fittingPairs_19.2.2.2.2.2.2.1
theorem dX4_fittingPairs_30 : decode cX4_fittingPairs 30 = .ok (.ishl, 1) := db_X4_fittingPairs_19.2.2.2.2.2.2.2
set_option maxRecDepth 20000 in
theorem db_X4_fittingPairs_31 : (decode cX4_fittingPairs 31 = .ok (.ior, 1)) ∧ (decode cX4_fittingPairs 32 = .ok (.istore_n 2, 1)) := by decide +kernel
theorem dX4_fittingPairs_31 : decode cX4_fittingPairs 31 = .ok (.ior, 1) := db_X4_fittingPairs_31.1
theorem dX4_fittingPairs_32 : decode cX4_fittingPairs 32 = .ok (.istore_n 2, 1) := db_X4_fittingPairs_31.2
set_option maxRecDepth 20000 in
theorem db_X4_gather_0 : (decode cX4_gather 0 = .ok (.aload_n 0, 1)) ∧ (decode cX4_gather 1 = .ok (.iconst 0, 1)) ∧ (decode cX4_gather 2 = .ok (.putfield 61, 3)) ∧ (decode cX4_gather 5 = .ok (.iconst 0, 1)) ∧ (decode cX4_gather 6 = .ok (.istore_n 2, 1)) ∧ (decode cX4_gather 7 = .ok (.iload_n 2, 1)) ∧ (decode cX4_gather 8 = .ok (.aload_n 1, 1)) ∧ (decode cX4_gather 9 = .ok (.getfield 68, 3)) := by decide +kernel
theorem dX4_gather_0 : decode cX4_gather 0 = .ok (.aload_n 0, 1) := db_X4_gather_0.1
theorem dX4_gather_1 : decode cX4_gather 1 = .ok (.iconst 0, 1) := db_X4_gather_0.2.1
theorem dX4_gather_2 : decode cX4_gather 2 = .ok (.putfield 61, 3) := db_X4_gather_0.2.2.1
theorem dX4_gather_5 : decode cX4_gather 5 = .ok (.iconst 0, 1) := db_X4_gather_0.2.2.2.1
theorem dX4_gather_6 : decode cX4_gather 6 = .ok (.istore_n 2, 1) := db_X4_gather_0.2.2.2.2.1
theorem dX4_gather_7 : decode cX4_gather 7 = .ok (.iload_n 2, 1) := db_X4_gather_0.2.2.2.2.2.1
theorem dX4_gather_8 : decode cX4_gather 8 = .ok (.aload_n 1, 1) := db_X4_gather_0.2.2.2.2.2.2.1
theorem dX4_gather_9 : decode cX4_gather 9 = .ok (.getfield 68, 3) := db_X4_gather_0.2.2.2.2.2.2.2
set_option maxRecDepth 20000 in
theorem db_X4_gather_12 : (decode cX4_gather 12 = .ok (.if_icmp .ge 78, 3)) ∧ (decode cX4_gather 90 = .ok (.return_, 1)) ∧ (decode cX4_gather 15 = .ok (.aload_n 0, 1)) ∧ (decode cX4_gather 16 = .ok (.getfield 61, 3)) ∧ (decode cX4_gather 19 = .ok (.iconst 4, 1)) ∧ (decode cX4_gather 20 = .ok (.if_icmp .ge 70, 3)) ∧ (decode cX4_gather 23 = .ok (.aload_n 1, 1)) ∧ (decode cX4_gather 24 = .ok (.getfield 71, 3)) := by decide +kernel
theorem dX4_gather_12 : decode cX4_gather 12 = .ok (.if_icmp .ge 78, 3) := db_X4_gather_12.1
theorem dX4_gather_90 : decode cX4_gather 90 = .ok (.return_, 1) := db_X4_gather_12.2.1
theorem dX4_gather_15 : decode cX4_gather 15 = .ok (.aload_n 0, 1) := db_X4_gather_12.2.2.1
theorem dX4_gather_16 : decode cX4_gather 16 = .ok (.getfield 61, 3) := db_X4_gather_12.2.2.2.1
theorem dX4_gather_19 : decode cX4_gather 19 = .ok (.iconst 4, 1) := db_X4_gather_12.2.2.2.2.1
theorem dX4_gather_20 : decode cX4_gather 20 = .ok (.if_icmp .ge 70, 3) := db_X4_gather_12.2.2.2.2.2.1
theorem dX4_gather_23 : decode cX4_gather 23 = .ok (.aload_n 1, 1) := db_X4_gather_12.2.2.2.2.2.2.1
theorem dX4_gather_24 : decode cX4_gather 24 = .ok (.getfield 71, 3) := db_X4_gather_12.2.2.2.2.2.2.2
set_option maxRecDepth 20000 in
theorem db_X4_gather_27 : (decode cX4_gather 27 = .ok (.iload_n 2, 1)) ∧ (decode cX4_gather 28 = .ok (.aaload, 1)) ∧ (decode cX4_gather 29 = .ok (.astore_n 3, 1)) ∧ (decode cX4_gather 30 = .ok (.aload_n 3, 1)) ∧ (decode cX4_gather 31 = .ok (.getfield 75, 3)) ∧ (decode cX4_gather 34 = .ok (.ifCond .ne 50, 3)) ∧ (decode cX4_gather 84 = .ok (.iinc 2 1, 3)) ∧ (decode cX4_gather 87 = .ok (.goto (-80), 3)) := by decide +kernel
theorem dX4_gather_27 : decode cX4_gather 27 = .ok (.iload_n 2, 1) := db_X4_gather_27.1
theorem dX4_gather_28 : decode cX4_gather 28 = .ok (.aaload, 1) := db_X4_gather_27.2.1
theorem dX4_gather_29 : decode cX4_gather 29 = .ok (.astore_n 3, 1) := db_X4_gather_27.2.2.1
theorem dX4_gather_30 : decode cX4_gather 30 = .ok (.aload_n 3, 1) := db_X4_gather_27.2.2.2.1
theorem dX4_gather_31 : decode cX4_gather 31 = .ok (.getfield 75, 3) := db_X4_gather_27.2.2.2.2.1
theorem dX4_gather_34 : decode cX4_gather 34 = .ok (.ifCond .ne 50, 3) := db_X4_gather_27.2.2.2.2.2.1
theorem dX4_gather_84 : decode cX4_gather 84 = .ok (.iinc 2 1, 3) := db_X4_gather_27.2.2.2.2.2.2.1
theorem dX4_gather_87 : decode cX4_gather 87 = .ok (.goto (-80), 3) := db_X4_gather_27.2.2.2.2.2.2.2
set_option maxRecDepth 20000 in
theorem db_X4_gather_37 : (decode cX4_gather 37 = .ok (.aload_n 0, 1)) ∧ (decode cX4_gather 38 = .ok (.getfield 9, 3)) ∧ (decode cX4_gather 41 = .ok (.aload_n 0, 1)) ∧ (decode cX4_gather 42 = .ok (.getfield 61, 3)) ∧ (decode cX4_gather 45 = .ok (.iload_n 2, 1)) ∧ (decode cX4_gather 46 = .ok (.iastore, 1)) ∧ (decode cX4_gather 47 = .ok (.aload_n 0, 1)) ∧ (decode cX4_gather 48 = .ok (.getfield 15, 3)) := by decide +kernel
theorem dX4_gather_37 : decode cX4_gather 37 = .ok (.aload_n 0, 1) := db_X4_gather_37.1
theorem dX4_gather_38 : decode cX4_gather 38 = .ok (.getfield 9, 3) := db_X4_gather_37.2.1
theorem dX4_gather_41 : decode cX4_gather 41 = .ok (.aload_n 0, 1) := db_X4_gather_37.2.2.1
theorem dX4_gather_42 : decode cX4_gather 42 = .ok (.getfield 61, 3) := db_X4_gather_37.2.2.2.1
theorem dX4_gather_45 : decode cX4_gather 45 = .ok (.iload_n 2, 1) := db_X4_gather_37.2.2.2.2.1
theorem dX4_gather_46 : decode cX4_gather 46 = .ok (.iastore, 1) := db_X4_gather_37.2.2.2.2.2.1
theorem dX4_gather_47 : decode cX4_gather 47 = .ok (.aload_n 0, 1) := db_X4_gather_37.2.2.2.2.2.2.1
theorem dX4_gather_48 : decode cX4_gather 48 = .ok (.getfield 15, 3) := db_X4_gather_37.2.2.2.2.2.2.2
set_option maxRecDepth 20000 in
theorem db_X4_gather_51 : (decode cX4_gather 51 = .ok (.aload_n 0, 1)) ∧ (decode cX4_gather 52 = .ok (.getfield 61, 3)) ∧ (decode cX4_gather 55 = .ok (.aload_n 3, 1)) ∧ (decode cX4_gather 56 = .ok (.getfield 80, 3)) ∧ (decode cX4_gather 59 = .ok (.iastore, 1)) ∧ (decode cX4_gather 60 = .ok (.aload_n 0, 1)) ∧ (decode cX4_gather 61 = .ok (.getfield 18, 3)) ∧ (decode cX4_gather 64 = .ok (.aload_n 0, 1)) := by decide +kernel
theorem dX4_gather_51 : decode cX4_gather 51 = .ok (.aload_n 0, 1) := db_X4_gather_51.1
theorem dX4_gather_52 : decode cX4_gather 52 = .ok (.getfield 61, 3) := db_X4_gather_51.2.1
theorem dX4_gather_55 : decode cX4_gather 55 = .ok (.aload_n 3, 1) := db_X4_gather_51.2.2.1
theorem dX4_gather_56 : decode cX4_gather 56 = .ok (.getfield 80, 3) := db_X4_gather_51.2.2.2.1
theorem dX4_gather_59 : decode cX4_gather 59 = .ok (.iastore, 1) := db_X4_gather_51.2.2.2.2.1
theorem dX4_gather_60 : decode cX4_gather 60 = .ok (.aload_n 0, 1) := db_X4_gather_51.2.2.2.2.2.1
theorem dX4_gather_61 : decode cX4_gather 61 = .ok (.getfield 18, 3) := db_X4_gather_51.2.2.2.2.2.2.1
theorem dX4_gather_64 : decode cX4_gather 64 = .ok (.aload_n 0, 1) := db_X4_gather_51.2.2.2.2.2.2.2
set_option maxRecDepth 20000 in
theorem db_X4_gather_65 : (decode cX4_gather 65 = .ok (.getfield 61, 3)) ∧ (decode cX4_gather 68 = .ok (.aload_n 1, 1)) ∧ (decode cX4_gather 69 = .ok (.aload_n 3, 1)) ∧ (decode cX4_gather 70 = .ok (.invokestatic 83, 3)) ∧ (decode cX4_gather 73 = .ok (.iastore, 1)) ∧ (decode cX4_gather 74 = .ok (.aload_n 0, 1)) ∧ (decode cX4_gather 75 = .ok (.dup, 1)) ∧ (decode cX4_gather 76 = .ok (.getfield 61, 3)) := by decide +kernel
theorem dX4_gather_65 : decode cX4_gather 65 = .ok (.getfield 61, 3) := db_X4_gather_65.1
theorem dX4_gather_68 : decode cX4_gather 68 = .ok (.aload_n 1, 1) := db_X4_gather_65.2.1
theorem dX4_gather_69 : decode cX4_gather 69 = .ok (.aload_n 3, 1) := db_X4_gather_65.2.2.1
set_option maxRecDepth 20000 in
theorem ggX4_gather_X4_fittingPairs : GoodIn wsX4_gather wsX4_fittingPairs := goodIn_r _ [12, 13, 14, 15, 16, 17, 18, 19, 20, 21, 22, 23, 24, 25, 26, 27, 28, 29, 30, 31, 32, 33, 34, 35, 36, 37, 49, 50, 51, 52, 53, 54, 55, 67, 68, 69, 56, 57, 58, 59, 60, 61, 62, 63, 64, 65, 66, 70, 71] rfl (by decide +kernel)
set_option maxRecDepth 20000 in
theorem gX4_gather_X4_fittingPairs : GoodIn wsX4_gather (va_wsS RX4 83 yX4_fittingPairs wsX4_fittingPairs) := goodIn_app (goodIn_r _ [9, 10, 11] rfl (by decide +kernel)) ggX4_gather_X4_fittingPairs
theorem dX4_gather_70 : decode cX4_gather 70 = .ok (.invokestatic 83, 3) := db_X4_gather_65.2.2.2.1
theorem dX4_gather_73 : decode cX4_gather 73 = .ok (.iastore, 1) := db_X4_gather_65.2.2.2.2.1
theorem dX4_gather_74 : decode cX4_gather 74 = .ok (.aload_n 0, 1) := db_X4_gather_65.2.2.2.2.2.1
theorem dX4_gather_75 : decode cX4_gather 75 = .ok (.dup, 1) := db_X4_gather_65.2.2.2.2.2.2.1
theorem dX4_gather_76 : decode cX4_gather 76 = .ok (.getfield 61, 3) := db_X4_gather_65.2.2.2.2.2.2.2
set_option maxRecDepth 20000 in
theorem db_X4_gather_79 : (decode cX4_gather 79 = .ok (.iconst 1, 1)) ∧ (decode cX4_gather 80 = .ok (.iadd, 1)) ∧ (decode cX4_gather 81 = .ok (.putfield 61, 3)) := by decide +kernel
theorem dX4_gather_79 : decode cX4_gather 79 = .ok (.iconst 1, 1) := db_X4_gather_79.1
theorem dX4_gather_80 : decode cX4_gather 80 = .ok (.iadd, 1) := db_X4_gather_79.2.1
theorem dX4_gather_81 : decode cX4_gather 81 = .ok (.putfield 61, 3) := db_X4_gather_79.2.2
set_option maxRecDepth 20000 in
theorem db_X4_sortByWeight_0 : (decode cX4_sortByWeight 0 = .ok (.iconst 0, 1)) ∧ (decode cX4_sortByWeight 1 = .ok (.istore_n 1, 1)) ∧ (decode cX4_sortByWeight 2 = .ok (.iload_n 1, 1)) ∧ (decode cX4_sortByWeight 3 = .ok (.aload_n 0, 1)) ∧ (decode cX4_sortByWeight 4 = .ok (.getfield 61, 3)) ∧ (decode cX4_sortByWeight 7 = .ok (.if_icmp .ge 64, 3)) ∧ (decode cX4_sortByWeight 71 = .ok (.return_, 1)) ∧ (decode cX4_sortByWeight 10 = .ok (.iload_n 1, 1)) := by decide +kernel
theorem dX4_sortByWeight_0 : decode cX4_sortByWeight 0 = .ok (.iconst 0, 1) := db_X4_sortByWeight_0.1
theorem dX4_sortByWeight_1 : decode cX4_sortByWeight 1 = .ok (.istore_n 1, 1) := db_X4_sortByWeight_0.2.1
theorem dX4_sortByWeight_2 : decode cX4_sortByWeight 2 = .ok (.iload_n 1, 1) := db_X4_sortByWeight_0.2.2.1
theorem dX4_sortByWeight_3 : decode cX4_sortByWeight 3 = .ok (.aload_n 0, 1) := db_X4_sortByWeight_0.2.2.2.1
theorem dX4_sortByWeight_4 : decode cX4_sortByWeight 4 = .ok (.getfield 61, 3) := db_X4_sortByWeight_0.2.2.2.2.1
theorem dX4_sortByWeight_7 : decode cX4_sortByWeight 7 = .ok (.if_icmp .ge 64, 3) := db_X4_sortByWeight_0.2.2.2.2.2.1
theorem dX4_sortByWeight_71 : decode cX4_sortByWeight 71 = .ok (.return_, 1) := db_X4_sortByWeight_0.2.2.2.2.2.2.1
theorem dX4_sortByWeight_10 : decode cX4_sortByWeight 10 = .ok (.iload_n 1, 1) := db_X4_sortByWeight_0.2.2.2.2.2.2.2
set_option maxRecDepth 20000 in
theorem db_X4_sortByWeight_11 : (decode cX4_sortByWeight 11 = .ok (.istore_n 2, 1)) ∧ (decode cX4_sortByWeight 12 = .ok (.iload_n 2, 1)) ∧ (decode cX4_sortByWeight 13 = .ok (.ifCond .le 45, 3)) ∧ (decode cX4_sortByWeight 58 = .ok (.aload_n 0, 1)) ∧ (decode cX4_sortByWeight 59 = .ok (.getfield 21, 3)) ∧ (decode cX4_sortByWeight 62 = .ok (.iload_n 2, 1)) ∧ (decode cX4_sortByWeight 63 = .ok (.iload_n 1, 1)) ∧ (decode cX4_sortByWeight 64 = .ok (.iastore, 1)) := by decide +kernel
theorem dX4_sortByWeight_11 : decode cX4_sortByWeight 11 = .ok (.istore_n 2, 1) := db_X4_sortByWeight_11.1
theorem dX4_sortByWeight_12 : decode cX4_sortByWeight 12 = .ok (.iload_n 2, 1) := db_X4_sortByWeight_11.2.1
theorem dX4_sortByWeight_13 : decode cX4_sortByWeight 13 = .ok (.ifCond .le 45, 3) := db_X4_sortByWeight_11.2.2.1
theorem dX4_sortByWeight_58 : decode cX4_sortByWeight 58 = .ok (.aload_n 0, 1) := db_X4_sortByWeight_11.2.2.2.1
theorem dX4_sortByWeight_59 : decode cX4_sortByWeight 59 = .ok (.getfield 21, 3) := db_X4_sortByWeight_11.2.2.2.2.1
theorem dX4_sortByWeight_62 : decode cX4_sortByWeight 62 = .ok (.iload_n 2, 1) := db_X4_sortByWeight_11.2.2.2.2.2.1
theorem dX4_sortByWeight_63 : decode cX4_sortByWeight 63 = .ok (.iload_n 1, 1) := db_X4_sortByWeight_11.2.2.2.2.2.2.1
theorem dX4_sortByWeight_64 : decode cX4_sortByWeight 64 = .ok (.iastore, 1) := db_X4_sortByWeight_11.2.2.2.2.2.2.2
set_option maxRecDepth 20000 in
theorem db_X4_sortByWeight_65 : (decode cX4_sortByWeight 65 = .ok (.iinc 1 1, 3)) ∧ (decode cX4_sortByWeight 68 = .ok (.goto (-66), 3)) ∧ (decode cX4_sortByWeight 16 = .ok (.aload_n 0, 1)) ∧ (decode cX4_sortByWeight 17 = .ok (.getfield 15, 3)) ∧ (decode cX4_sortByWeight 20 = .ok (.aload_n 0, 1)) ∧ (decode cX4_sortByWeight 21 = .ok (.getfield 21, 3)) ∧ (decode cX4_sortByWeight 24 = .ok (.iload_n 2, 1)) ∧ (decode cX4_sortByWeight 25 = .ok (.iconst 1, 1)) := by decide +kernel
theorem dX4_sortByWeight_65 : decode cX4_sortByWeight 65 = .ok (.iinc 1 1, 3) := db_X4_sortByWeight_65.1
theorem dX4_sortByWeight_68 : decode cX4_sortByWeight 68 = .ok (.goto (-66), 3) := db_X4_sortByWeight_65.2.1
theorem dX4_sortByWeight_16 : decode cX4_sortByWeight 16 = .ok (.aload_n 0, 1) := db_X4_sortByWeight_65.2.2.1
theorem dX4_sortByWeight_17 : decode cX4_sortByWeight 17 = .ok (.getfield 15, 3) := db_X4_sortByWeight_65.2.2.2.1
theorem dX4_sortByWeight_20 : decode cX4_sortByWeight 20 = .ok (.aload_n 0, 1) := db_X4_sortByWeight_65.2.2.2.2.1
theorem dX4_sortByWeight_21 : decode cX4_sortByWeight 21 = .ok (.getfield 21, 3) := db_X4_sortByWeight_65.2.2.2.2.2.1
theorem dX4_sortByWeight_24 : decode cX4_sortByWeight 24 = .ok (.iload_n 2, 1) := db_X4_sortByWeight_65.2.2.2.2.2.2.1
theorem dX4_sortByWeight_25 : decode cX4_sortByWeight 25 = .ok (.iconst 1, 1) := db_X4_sortByWeight_65.2.2.2.2.2.2.2
set_option maxRecDepth 20000 in
theorem db_X4_sortByWeight_26 : (decode cX4_sortByWeight 26 = .ok (.isub, 1)) ∧ (decode cX4_sortByWeight 27 = .ok (.iaload, 1)) ∧ (decode cX4_sortByWeight 28 = .ok (.iaload, 1)) ∧ (decode cX4_sortByWeight 29 = .ok (.aload_n 0, 1)) ∧ (decode cX4_sortByWeight 30 = .ok (.getfield 15, 3)) ∧ (decode cX4_sortByWeight 33 = .ok (.iload_n 1, 1)) ∧ (decode cX4_sortByWeight 34 = .ok (.iaload, 1)) ∧ (decode cX4_sortByWeight 35 = .ok (.if_icmp .ge 23, 3)) := by decide +kernel
theorem dX4_sortByWeight_26 : decode cX4_sortByWeight 26 = .ok (.isub, 1) := db_X4_sortByWeight_26.1
theorem dX4_sortByWeight_27 : decode cX4_sortByWeight 27 = .ok (.iaload, 1) := db_X4_sortByWeight_26.2.1
theorem dX4_sortByWeight_28 : decode cX4_sortByWeight 28 = .ok (.iaload, 1) := db_X4_sortByWeight_26.2.2.1
theorem dX4_sortByWeight_29 : decode cX4_sortByWeight 29 = .ok (.aload_n 0, 1) := db_X4_sortByWeight_26.2.2.2.1
theorem dX4_sortByWeight_30 : decode cX4_sortByWeight 30 = .ok (.getfield 15, 3) := db_X4_sortByWeight_26.2.2.2.2.1
theorem dX4_sortByWeight_33 : decode cX4_sortByWeight 33 = .ok (.iload_n 1, 1) := db_X4_sortByWeight_26.2.2.2.2.2.1
theorem dX4_sortByWeight_34 : decode cX4_sortByWeight 34 = .ok (.iaload, 1) := db_X4_sortByWeight_26.2.2.2.2.2.2.1
theorem dX4_sortByWeight_35 : decode cX4_sortByWeight 35 = .ok (.if_icmp .ge 23, 3) := db_X4_sortByWeight_26.2.2.2.2.2.2.2
set_option maxRecDepth 20000 in
theorem db_X4_sortByWeight_38 : (decode cX4_sortByWeight 38 = .ok (.aload_n 0, 1)) ∧ (decode cX4_sortByWeight 39 = .ok (.getfield 21, 3)) ∧ (decode cX4_sortByWeight 42 = .ok (.iload_n 2, 1)) ∧ (decode cX4_sortByWeight 43 = .ok (.aload_n 0, 1)) ∧ (decode cX4_sortByWeight 44 = .ok (.getfield 21, 3)) ∧ (decode cX4_sortByWeight 47 = .ok (.iload_n 2, 1)) ∧ (decode cX4_sortByWeight 48 = .ok (.iconst 1, 1)) ∧ (decode cX4_sortByWeight 49 = .ok (.isub, 1)) := by decide +kernel
theorem dX4_sortByWeight_38 : decode cX4_sortByWeight 38 = .ok (.aload_n 0, 1) := db_X4_sortByWeight_38.1
theorem dX4_sortByWeight_39 : decode cX4_sortByWeight 39 = .ok (.getfield 21, 3) := db_X4_sortByWeight_38.2.1
theorem dX4_sortByWeight_42 : decode cX4_sortByWeight 42 = .ok (.iload_n 2, 1) := db_X4_sortByWeight_38.2.2.1
theorem dX4_sortByWeight_43 : decode cX4_sortByWeight 43 = .ok (.aload_n 0, 1) := db_X4_sortByWeight_38.2.2.2.1
theorem dX4_sortByWeight_44 : decode cX4_sortByWeight 44 = .ok (.getfield 21, 3) := db_X4_sortByWeight_38.2.2.2.2.1
theorem dX4_sortByWeight_47 : decode cX4_sortByWeight 47 = .ok (.iload_n 2, 1) := db_X4_sortByWeight_38.2.2.2.2.2.1
theorem dX4_sortByWeight_48 : decode cX4_sortByWeight 48 = .ok (.iconst 1, 1) := db_X4_sortByWeight_38.2.2.2.2.2.2.1
theorem dX4_sortByWeight_49 : decode cX4_sortByWeight 49 = .ok (.isub, 1) := db_X4_sortByWeight_38.2.2.2.2.2.2.2
set_option maxRecDepth 20000 in
theorem db_X4_sortByWeight_50 : (decode cX4_sortByWeight 50 = .ok (.iaload, 1)) ∧ (decode cX4_sortByWeight 51 = .ok (.iastore, 1)) ∧ (decode cX4_sortByWeight 52 = .ok (.iinc 2 (-1), 3)) ∧ (decode cX4_sortByWeight 55 = .ok (.goto (-43), 3)) := by decide +kernel
theorem dX4_sortByWeight_50 : decode cX4_sortByWeight 50 = .ok (.iaload, 1) := db_X4_sortByWeight_50.1
theorem dX4_sortByWeight_51 : decode cX4_sortByWeight 51 = .ok (.iastore, 1) := db_X4_sortByWeight_50.2.1
theorem dX4_sortByWeight_52 : decode cX4_sortByWeight 52 = .ok (.iinc 2 (-1), 3) := db_X4_sortByWeight_50.2.2.1
theorem dX4_sortByWeight_55 : decode cX4_sortByWeight 55 = .ok (.goto (-43), 3) := db_X4_sortByWeight_50.2.2.2
set_option maxRecDepth 20000 in
theorem db_X4_leastBehind_0 : (decode cX4_leastBehind 0 = .ok (.iconst 0, 1)) ∧ (decode cX4_leastBehind 1 = .ok (.istore_n 2, 1)) ∧ (decode cX4_leastBehind 2 = .ok (.iconst 0, 1)) ∧ (decode cX4_leastBehind 3 = .ok (.istore_n 3, 1)) ∧ (decode cX4_leastBehind 4 = .ok (.aload_n 0, 1)) ∧ (decode cX4_leastBehind 5 = .ok (.getfield 33, 3)) ∧ (decode cX4_leastBehind 8 = .ok (.iconst 0, 1)) ∧ (decode cX4_leastBehind 9 = .ok (.iaload, 1)) := by decide +kernel
theorem dX4_leastBehind_0 : decode cX4_leastBehind 0 = .ok (.iconst 0, 1) := db_X4_leastBehind_0.1
theorem dX4_leastBehind_1 : decode cX4_leastBehind 1 = .ok (.istore_n 2, 1) := db_X4_leastBehind_0.2.1
theorem dX4_leastBehind_2 : decode cX4_leastBehind 2 = .ok (.iconst 0, 1) := db_X4_leastBehind_0.2.2.1
theorem dX4_leastBehind_3 : decode cX4_leastBehind 3 = .ok (.istore_n 3, 1) := db_X4_leastBehind_0.2.2.2.1
theorem dX4_leastBehind_4 : decode cX4_leastBehind 4 = .ok (.aload_n 0, 1) := db_X4_leastBehind_0.2.2.2.2.1
theorem dX4_leastBehind_5 : decode cX4_leastBehind 5 = .ok (.getfield 33, 3) := db_X4_leastBehind_0.2.2.2.2.2.1
theorem dX4_leastBehind_8 : decode cX4_leastBehind 8 = .ok (.iconst 0, 1) := db_X4_leastBehind_0.2.2.2.2.2.2.1
theorem dX4_leastBehind_9 : decode cX4_leastBehind 9 = .ok (.iaload, 1) := db_X4_leastBehind_0.2.2.2.2.2.2.2
set_option maxRecDepth 20000 in
theorem db_X4_leastBehind_10 : (decode cX4_leastBehind 10 = .ok (.istore 4, 2)) ∧ (decode cX4_leastBehind 12 = .ok (.iconst 0, 1)) ∧ (decode cX4_leastBehind 13 = .ok (.istore 5, 2)) ∧ (decode cX4_leastBehind 15 = .ok (.iload 5, 2)) ∧ (decode cX4_leastBehind 17 = .ok (.aload_n 0, 1)) ∧ (decode cX4_leastBehind 18 = .ok (.getfield 61, 3)) ∧ (decode cX4_leastBehind 21 = .ok (.if_icmp .ge 119, 3)) ∧ (decode cX4_leastBehind 140 = .ok (.iload_n 2, 1)) := by decide +kernel
theorem dX4_leastBehind_10 : decode cX4_leastBehind 10 = .ok (.istore 4, 2) := db_X4_leastBehind_10.1
theorem dX4_leastBehind_12 : decode cX4_leastBehind 12 = .ok (.iconst 0, 1) := db_X4_leastBehind_10.2.1
theorem dX4_leastBehind_13 : decode cX4_leastBehind 13 = .ok (.istore 5, 2) := db_X4_leastBehind_10.2.2.1
theorem dX4_leastBehind_15 : decode cX4_leastBehind 15 = .ok (.iload 5, 2) := db_X4_leastBehind_10.2.2.2.1
theorem dX4_leastBehind_17 : decode cX4_leastBehind 17 = .ok (.aload_n 0, 1) := db_X4_leastBehind_10.2.2.2.2.1
theorem dX4_leastBehind_18 : decode cX4_leastBehind 18 = .ok (.getfield 61, 3) := db_X4_leastBehind_10.2.2.2.2.2.1
theorem dX4_leastBehind_21 : decode cX4_leastBehind 21 = .ok (.if_icmp .ge 119, 3) := db_X4_leastBehind_10.2.2.2.2.2.2.1
theorem dX4_leastBehind_140 : decode cX4_leastBehind 140 = .ok (.iload_n 2, 1) := db_X4_leastBehind_10.2.2.2.2.2.2.2
set_option maxRecDepth 20000 in
theorem db_X4_leastBehind_141 : (decode cX4_leastBehind 141 = .ok (.ireturn, 1)) ∧ (decode cX4_leastBehind 24 = .ok (.aload_n 0, 1)) ∧ (decode cX4_leastBehind 25 = .ok (.getfield 21, 3)) ∧ (decode cX4_leastBehind 28 = .ok (.iload 5, 2)) ∧ (decode cX4_leastBehind 30 = .ok (.iaload, 1)) ∧ (decode cX4_leastBehind 31 = .ok (.istore 6, 2)) ∧ (decode cX4_leastBehind 33 = .ok (.iload 6, 2)) ∧ (decode cX4_leastBehind 35 = .ok (.iload_n 1, 1)) := by decide +kernel
theorem dX4_leastBehind_141 : decode cX4_leastBehind 141 = .ok (.ireturn, 1) := db_X4_leastBehind_141.1
theorem dX4_leastBehind_24 : decode cX4_leastBehind 24 = .ok (.aload_n 0, 1) := db_X4_leastBehind_141.2.1
theorem dX4_leastBehind_25 : decode cX4_leastBehind 25 = .ok (.getfield 21, 3) := db_X4_leastBehind_141.2.2.1
theorem dX4_leastBehind_28 : decode cX4_leastBehind 28 = .ok (.iload 5, 2) := db_X4_leastBehind_141.2.2.2.1
theorem dX4_leastBehind_30 : decode cX4_leastBehind 30 = .ok (.iaload, 1) := db_X4_leastBehind_141.2.2.2.2.1
theorem dX4_leastBehind_31 : decode cX4_leastBehind 31 = .ok (.istore 6, 2) := db_X4_leastBehind_141.2.2.2.2.2.1
theorem dX4_leastBehind_33 : decode cX4_leastBehind 33 = .ok (.iload 6, 2) := db_X4_leastBehind_141.2.2.2.2.2.2.1
theorem dX4_leastBehind_35 : decode cX4_leastBehind 35 = .ok (.iload_n 1, 1) := db_X4_leastBehind_141.2.2.2.2.2.2.2
set_option maxRecDepth 20000 in
theorem db_X4_leastBehind_36 : (decode cX4_leastBehind 36 = .ok (.if_icmp .lt 98, 3)) ∧ (decode cX4_leastBehind 134 = .ok (.iinc 5 1, 3)) ∧ (decode cX4_leastBehind 137 = .ok (.goto (-122), 3)) ∧ (decode cX4_leastBehind 39 = .ok (.iload_n 3, 1)) ∧ (decode cX4_leastBehind 40 = .ok (.iconst 3, 1)) ∧ (decode cX4_leastBehind 41 = .ok (.if_icmp .ge 35, 3)) ∧ (decode cX4_leastBehind 76 = .ok (.iload_n 3, 1)) ∧ (decode cX4_leastBehind 77 = .ok (.iconst 3, 1)) := by decide +kernel
theorem dX4_leastBehind_36 : decode cX4_leastBehind 36 = .ok (.if_icmp .lt 98, 3) := db_X4_leastBehind_36.1
theorem dX4_leastBehind_134 : decode cX4_leastBehind 134 = .ok (.iinc 5 1, 3) := db_X4_leastBehind_36.2.1
theorem dX4_leastBehind_137 : decode cX4_leastBehind 137 = .ok (.goto (-122), 3) := db_X4_leastBehind_36.2.2.1
theorem dX4_leastBehind_39 : decode cX4_leastBehind 39 = .ok (.iload_n 3, 1) := db_X4_leastBehind_36.2.2.2.1
theorem dX4_leastBehind_40 : decode cX4_leastBehind 40 = .ok (.iconst 3, 1) := db_X4_leastBehind_36.2.2.2.2.1
theorem dX4_leastBehind_41 : decode cX4_leastBehind 41 = .ok (.if_icmp .ge 35, 3) := db_X4_leastBehind_36.2.2.2.2.2.1
theorem dX4_leastBehind_76 : decode cX4_leastBehind 76 = .ok (.iload_n 3, 1) := db_X4_leastBehind_36.2.2.2.2.2.2.1
theorem dX4_leastBehind_77 : decode cX4_leastBehind 77 = .ok (.iconst 3, 1) := db_X4_leastBehind_36.2.2.2.2.2.2.2
set_option maxRecDepth 20000 in
theorem db_X4_leastBehind_78 : (decode cX4_leastBehind 78 = .ok (.if_icmp .ge 17, 3)) ∧ (decode cX4_leastBehind 95 = .ok (.iconst 0, 1)) ∧ (decode cX4_leastBehind 96 = .ok (.istore 7, 2)) ∧ (decode cX4_leastBehind 98 = .ok (.iload_n 2, 1)) ∧ (decode cX4_leastBehind 99 = .ok (.aload_n 0, 1)) ∧ (decode cX4_leastBehind 100 = .ok (.getfield 15, 3)) ∧ (decode cX4_leastBehind 103 = .ok (.iload 6, 2)) ∧ (decode cX4_leastBehind 105 = .ok (.iaload, 1)) := by decide +kernel
theorem dX4_leastBehind_78 : decode cX4_leastBehind 78 = .ok (.if_icmp .ge 17, 3) := db_X4_leastBehind_78.1
theorem dX4_leastBehind_95 : decode cX4_leastBehind 95 = .ok (.iconst 0, 1) := db_X4_leastBehind_78.2.1
theorem dX4_leastBehind_96 : decode cX4_leastBehind 96 = .ok (.istore 7, 2) := db_X4_leastBehind_78.2.2.1
theorem dX4_leastBehind_98 : decode cX4_leastBehind 98 = .ok (.iload_n 2, 1) := db_X4_leastBehind_78.2.2.2.1
theorem dX4_leastBehind_99 : decode cX4_leastBehind 99 = .ok (.aload_n 0, 1) := db_X4_leastBehind_78.2.2.2.2.1
theorem dX4_leastBehind_100 : decode cX4_leastBehind 100 = .ok (.getfield 15, 3) := db_X4_leastBehind_78.2.2.2.2.2.1
theorem dX4_leastBehind_103 : decode cX4_leastBehind 103 = .ok (.iload 6, 2) := db_X4_leastBehind_78.2.2.2.2.2.2.1
theorem dX4_leastBehind_105 : decode cX4_leastBehind 105 = .ok (.iaload, 1) := db_X4_leastBehind_78.2.2.2.2.2.2.2
set_option maxRecDepth 20000 in
theorem db_X4_leastBehind_106 : (decode cX4_leastBehind 106 = .ok (.iload 7, 2)) ∧ (decode cX4_leastBehind 108 = .ok (.ifCond .eq 7, 3)) ∧ (decode cX4_leastBehind 115 = .ok (.iconst 4, 1)) ∧ (decode cX4_leastBehind 116 = .ok (.imul, 1)) ∧ (decode cX4_leastBehind 117 = .ok (.iadd, 1)) ∧ (decode cX4_leastBehind 118 = .ok (.istore_n 2, 1)) ∧ (decode cX4_leastBehind 119 = .ok (.iload 4, 2)) ∧ (decode cX4_leastBehind 121 = .ok (.iload 7, 2)) := by decide +kernel
theorem dX4_leastBehind_106 : decode cX4_leastBehind 106 = .ok (.iload 7, 2) := db_X4_leastBehind_106.1
theorem dX4_leastBehind_108 : decode cX4_leastBehind 108 = .ok (.ifCond .eq 7, 3) := db_X4_leastBehind_106.2.1
theorem dX4_leastBehind_115 : decode cX4_leastBehind 115 = .ok (.iconst 4, 1) := db_X4_leastBehind_106.2.2.1
theorem dX4_leastBehind_116 : decode cX4_leastBehind 116 = .ok (.imul, 1) := db_X4_leastBehind_106.2.2.2.1
theorem dX4_leastBehind_117 : decode cX4_leastBehind 117 = .ok (.iadd, 1) := db_X4_leastBehind_106.2.2.2.2.1
theorem dX4_leastBehind_118 : decode cX4_leastBehind 118 = .ok (.istore_n 2, 1) := db_X4_leastBehind_106.2.2.2.2.2.1
theorem dX4_leastBehind_119 : decode cX4_leastBehind 119 = .ok (.iload 4, 2) := db_X4_leastBehind_106.2.2.2.2.2.2.1
theorem dX4_leastBehind_121 : decode cX4_leastBehind 121 = .ok (.iload 7, 2) := db_X4_leastBehind_106.2.2.2.2.2.2.2
set_option maxRecDepth 20000 in
theorem db_X4_leastBehind_123 : (decode cX4_leastBehind 123 = .ok (.ifCond .eq 7, 3)) ∧ (decode cX4_leastBehind 130 = .ok (.iconst 0, 1)) ∧ (decode cX4_leastBehind 131 = .ok (.iadd, 1)) ∧ (decode cX4_leastBehind 132 = .ok (.istore 4, 2)) ∧ (decode cX4_leastBehind 81 = .ok (.aload_n 0, 1)) ∧ (decode cX4_leastBehind 82 = .ok (.getfield 18, 3)) ∧ (decode cX4_leastBehind 85 = .ok (.iload 6, 2)) ∧ (decode cX4_leastBehind 87 = .ok (.iaload, 1)) := by decide +kernel
theorem dX4_leastBehind_123 : decode cX4_leastBehind 123 = .ok (.ifCond .eq 7, 3) := db_X4_leastBehind_123.1
theorem dX4_leastBehind_130 : decode cX4_leastBehind 130 = .ok (.iconst 0, 1) := db_X4_leastBehind_123.2.1
theorem dX4_leastBehind_131 : decode cX4_leastBehind 131 = .ok (.iadd, 1) := db_X4_leastBehind_123.2.2.1
theorem dX4_leastBehind_132 : decode cX4_leastBehind 132 = .ok (.istore 4, 2) := db_X4_leastBehind_123.2.2.2.1
theorem dX4_leastBehind_81 : decode cX4_leastBehind 81 = .ok (.aload_n 0, 1) := db_X4_leastBehind_123.2.2.2.2.1
theorem dX4_leastBehind_82 : decode cX4_leastBehind 82 = .ok (.getfield 18, 3) := db_X4_leastBehind_123.2.2.2.2.2.1
theorem dX4_leastBehind_85 : decode cX4_leastBehind 85 = .ok (.iload 6, 2) := db_X4_leastBehind_123.2.2.2.2.2.2.1
theorem dX4_leastBehind_87 : decode cX4_leastBehind 87 = .ok (.iaload, 1) := db_X4_leastBehind_123.2.2.2.2.2.2.2
set_option maxRecDepth 20000 in
theorem db_X4_leastBehind_88 : (decode cX4_leastBehind 88 = .ok (.ifCond .eq 7, 3)) ∧ (decode cX4_leastBehind 91 = .ok (.iconst 1, 1)) ∧ (decode cX4_leastBehind 92 = .ok (.goto 4, 3)) ∧ (decode cX4_leastBehind 111 = .ok (.iload_n 3, 1)) ∧ (decode cX4_leastBehind 112 = .ok (.goto 4, 3)) ∧ (decode cX4_leastBehind 126 = .ok (.iconst 1, 1)) ∧ (decode cX4_leastBehind 127 = .ok (.goto 4, 3)) ∧ (decode cX4_leastBehind 44 = .ok (.iload 4, 2)) := by decide +kernel
theorem dX4_leastBehind_88 : decode cX4_leastBehind 88 = .ok (.ifCond .eq 7, 3) := db_X4_leastBehind_88.1
theorem dX4_leastBehind_91 : decode cX4_leastBehind 91 = .ok (.iconst 1, 1) := db_X4_leastBehind_88.2.1
theorem dX4_leastBehind_92 : decode cX4_leastBehind 92 = .ok (.goto 4, 3) := db_X4_leastBehind_88.2.2.1
theorem dX4_leastBehind_111 : decode cX4_leastBehind 111 = .ok (.iload_n 3, 1) := db_X4_leastBehind_88.2.2.2.1
theorem dX4_leastBehind_112 : decode cX4_leastBehind 112 = .ok (.goto 4, 3) := db_X4_leastBehind_88.2.2.2.2.1
theorem dX4_leastBehind_126 : decode cX4_leastBehind 126 = .ok (.iconst 1, 1) := db_X4_leastBehind_88.2.2.2.2.2.1
theorem dX4_leastBehind_127 : decode cX4_leastBehind 127 = .ok (.goto 4, 3) := db_X4_leastBehind_88.2.2.2.2.2.2.1
theorem dX4_leastBehind_44 : decode cX4_leastBehind 44 = .ok (.iload 4, 2) := db_X4_leastBehind_88.2.2.2.2.2.2.2
set_option maxRecDepth 20000 in
theorem db_X4_leastBehind_46 : (decode cX4_leastBehind 46 = .ok (.aload_n 0, 1)) ∧ (decode cX4_leastBehind 47 = .ok (.getfield 48, 3)) ∧ (decode cX4_leastBehind 50 = .ok (.if_icmp .lt 26, 3)) ∧ (decode cX4_leastBehind 53 = .ok (.iinc 3 1, 3)) ∧ (decode cX4_leastBehind 56 = .ok (.iload_n 3, 1)) ∧ (decode cX4_leastBehind 57 = .ok (.iconst 3, 1)) ∧ (decode cX4_leastBehind 58 = .ok (.if_icmp .ge 12, 3)) ∧ (decode cX4_leastBehind 70 = .ok (.iconst 0, 1)) := by decide +kernel
theorem dX4_leastBehind_46 : decode cX4_leastBehind 46 = .ok (.aload_n 0, 1) := db_X4_leastBehind_46.1
theorem dX4_leastBehind_47 : decode cX4_leastBehind 47 = .ok (.getfield 48, 3) := db_X4_leastBehind_46.2.1
theorem dX4_leastBehind_50 : decode cX4_leastBehind 50 = .ok (.if_icmp .lt 26, 3) := db_X4_leastBehind_46.2.2.1
theorem dX4_leastBehind_53 : decode cX4_leastBehind 53 = .ok (.iinc 3 1, 3) := db_X4_leastBehind_46.2.2.2.1
theorem dX4_leastBehind_56 : decode cX4_leastBehind 56 = .ok (.iload_n 3, 1) := db_X4_leastBehind_46.2.2.2.2.1
theorem dX4_leastBehind_57 : decode cX4_leastBehind 57 = .ok (.iconst 3, 1) := db_X4_leastBehind_46.2.2.2.2.2.1
theorem dX4_leastBehind_58 : decode cX4_leastBehind 58 = .ok (.if_icmp .ge 12, 3) := db_X4_leastBehind_46.2.2.2.2.2.2.1
theorem dX4_leastBehind_70 : decode cX4_leastBehind 70 = .ok (.iconst 0, 1) := db_X4_leastBehind_46.2.2.2.2.2.2.2
set_option maxRecDepth 20000 in
theorem db_X4_leastBehind_71 : (decode cX4_leastBehind 71 = .ok (.istore 4, 2)) ∧ (decode cX4_leastBehind 73 = .ok (.goto (-34), 3)) ∧ (decode cX4_leastBehind 61 = .ok (.aload_n 0, 1)) ∧ (decode cX4_leastBehind 62 = .ok (.getfield 33, 3)) ∧ (decode cX4_leastBehind 65 = .ok (.iload_n 3, 1)) ∧ (decode cX4_leastBehind 66 = .ok (.iaload, 1)) ∧ (decode cX4_leastBehind 67 = .ok (.goto 4, 3)) := by decide +kernel
theorem dX4_leastBehind_71 : decode cX4_leastBehind 71 = .ok (.istore 4, 2) := db_X4_leastBehind_71.1
theorem dX4_leastBehind_73 : decode cX4_leastBehind 73 = .ok (.goto (-34), 3) := db_X4_leastBehind_71.2.1
theorem dX4_leastBehind_61 : decode cX4_leastBehind 61 = .ok (.aload_n 0, 1) := db_X4_leastBehind_71.2.2.1
theorem dX4_leastBehind_62 : decode cX4_leastBehind 62 = .ok (.getfield 33, 3) := db_X4_leastBehind_71.2.2.2.1
theorem dX4_leastBehind_65 : decode cX4_leastBehind 65 = .ok (.iload_n 3, 1) := db_X4_leastBehind_71.2.2.2.2.1
theorem dX4_leastBehind_66 : decode cX4_leastBehind 66 = .ok (.iaload, 1) := db_X4_leastBehind_71.2.2.2.2.2.1
theorem dX4_leastBehind_67 : decode cX4_leastBehind 67 = .ok (.goto 4, 3) := db_X4_leastBehind_71.2.2.2.2.2.2
set_option maxRecDepth 20000 in
theorem db_X4_seatOf_0 : (decode cX4_seatOf 0 = .ok (.iconst 0, 1)) ∧ (decode cX4_seatOf 1 = .ok (.istore_n 2, 1)) ∧ (decode cX4_seatOf 2 = .ok (.iload_n 2, 1)) ∧ (decode cX4_seatOf 3 = .ok (.aload_n 0, 1)) ∧ (decode cX4_seatOf 4 = .ok (.getfield 61, 3)) ∧ (decode cX4_seatOf 7 = .ok (.if_icmp .ge 37, 3)) ∧ (decode cX4_seatOf 44 = .ok (.bipush (-5), 2)) ∧ (decode cX4_seatOf 46 = .ok (.ireturn, 1)) := by decide +kernel
theorem dX4_seatOf_0 : decode cX4_seatOf 0 = .ok (.iconst 0, 1) := db_X4_seatOf_0.1
theorem dX4_seatOf_1 : decode cX4_seatOf 1 = .ok (.istore_n 2, 1) := db_X4_seatOf_0.2.1
theorem dX4_seatOf_2 : decode cX4_seatOf 2 = .ok (.iload_n 2, 1) := db_X4_seatOf_0.2.2.1
theorem dX4_seatOf_3 : decode cX4_seatOf 3 = .ok (.aload_n 0, 1) := db_X4_seatOf_0.2.2.2.1
theorem dX4_seatOf_4 : decode cX4_seatOf 4 = .ok (.getfield 61, 3) := db_X4_seatOf_0.2.2.2.2.1
theorem dX4_seatOf_7 : decode cX4_seatOf 7 = .ok (.if_icmp .ge 37, 3) := db_X4_seatOf_0.2.2.2.2.2.1
theorem dX4_seatOf_44 : decode cX4_seatOf 44 = .ok (.bipush (-5), 2) := db_X4_seatOf_0.2.2.2.2.2.2.1
theorem dX4_seatOf_46 : decode cX4_seatOf 46 = .ok (.ireturn, 1) := db_X4_seatOf_0.2.2.2.2.2.2.2
set_option maxRecDepth 20000 in
theorem db_X4_seatOf_10 : (decode cX4_seatOf 10 = .ok (.aload_n 0, 1)) ∧ (decode cX4_seatOf 11 = .ok (.getfield 9, 3)) ∧ (decode cX4_seatOf 14 = .ok (.iload_n 2, 1)) ∧ (decode cX4_seatOf 15 = .ok (.iaload, 1)) ∧ (decode cX4_seatOf 16 = .ok (.iload_n 1, 1)) ∧ (decode cX4_seatOf 17 = .ok (.if_icmp .ne 21, 3)) ∧ (decode cX4_seatOf 38 = .ok (.iinc 2 1, 3)) ∧ (decode cX4_seatOf 41 = .ok (.goto (-39), 3)) := by decide +kernel
theorem dX4_seatOf_10 : decode cX4_seatOf 10 = .ok (.aload_n 0, 1) := db_X4_seatOf_10.1
theorem dX4_seatOf_11 : decode cX4_seatOf 11 = .ok (.getfield 9, 3) := db_X4_seatOf_10.2.1
theorem dX4_seatOf_14 : decode cX4_seatOf 14 = .ok (.iload_n 2, 1) := db_X4_seatOf_10.2.2.1
theorem dX4_seatOf_15 : decode cX4_seatOf 15 = .ok (.iaload, 1) := db_X4_seatOf_10.2.2.2.1
theorem dX4_seatOf_16 : decode cX4_seatOf 16 = .ok (.iload_n 1, 1) := db_X4_seatOf_10.2.2.2.2.1
theorem dX4_seatOf_17 : decode cX4_seatOf 17 = .ok (.if_icmp .ne 21, 3) := db_X4_seatOf_10.2.2.2.2.2.1
theorem dX4_seatOf_38 : decode cX4_seatOf 38 = .ok (.iinc 2 1, 3) := db_X4_seatOf_10.2.2.2.2.2.2.1
theorem dX4_seatOf_41 : decode cX4_seatOf 41 = .ok (.goto (-39), 3) := db_X4_seatOf_10.2.2.2.2.2.2.2
set_option maxRecDepth 20000 in
theorem db_X4_seatOf_20 : (decode cX4_seatOf 20 = .ok (.aload_n 0, 1)) ∧ (decode cX4_seatOf 21 = .ok (.getfield 27, 3)) ∧ (decode cX4_seatOf 24 = .ok (.iload_n 2, 1)) ∧ (decode cX4_seatOf 25 = .ok (.iaload, 1)) ∧ (decode cX4_seatOf 26 = .ok (.bipush 18, 2)) ∧ (decode cX4_seatOf 28 = .ok (.if_icmp .eq 10, 3)) ∧ (decode cX4_seatOf 31 = .ok (.aload_n 0, 1)) ∧ (decode cX4_seatOf 32 = .ok (.getfield 27, 3)) := by decide +kernel
theorem dX4_seatOf_20 : decode cX4_seatOf 20 = .ok (.aload_n 0, 1) := db_X4_seatOf_20.1
theorem dX4_seatOf_21 : decode cX4_seatOf 21 = .ok (.getfield 27, 3) := db_X4_seatOf_20.2.1
theorem dX4_seatOf_24 : decode cX4_seatOf 24 = .ok (.iload_n 2, 1) := db_X4_seatOf_20.2.2.1
theorem dX4_seatOf_25 : decode cX4_seatOf 25 = .ok (.iaload, 1) := db_X4_seatOf_20.2.2.2.1
theorem dX4_seatOf_26 : decode cX4_seatOf 26 = .ok (.bipush 18, 2) := db_X4_seatOf_20.2.2.2.2.1
theorem dX4_seatOf_28 : decode cX4_seatOf 28 = .ok (.if_icmp .eq 10, 3) := db_X4_seatOf_20.2.2.2.2.2.1
theorem dX4_seatOf_31 : decode cX4_seatOf 31 = .ok (.aload_n 0, 1) := db_X4_seatOf_20.2.2.2.2.2.2.1
theorem dX4_seatOf_32 : decode cX4_seatOf 32 = .ok (.getfield 27, 3) := db_X4_seatOf_20.2.2.2.2.2.2.2
set_option maxRecDepth 20000 in
theorem db_X4_seatOf_35 : (decode cX4_seatOf 35 = .ok (.iload_n 2, 1)) ∧ (decode cX4_seatOf 36 = .ok (.iaload, 1)) ∧ (decode cX4_seatOf 37 = .ok (.ireturn, 1)) := by decide +kernel
theorem dX4_seatOf_35 : decode cX4_seatOf 35 = .ok (.iload_n 2, 1) := db_X4_seatOf_35.1
theorem dX4_seatOf_36 : decode cX4_seatOf 36 = .ok (.iaload, 1) := db_X4_seatOf_35.2.1
theorem dX4_seatOf_37 : decode cX4_seatOf 37 = .ok (.ireturn, 1) := db_X4_seatOf_35.2.2
set_option maxHeartbeats 4000000 in
set_option maxRecDepth 100000 in
theorem g_X4_fittingPairs (l : Launch) (dC : Nat → ClassId) (dI : Nat → Nat → Nat) (cy : Nat → ClassId) (sz : Nat) (ad : Nat → Nat) (kv : Value) (N : Nat) (hN : 119 ≤ N) (v : Nat → Nat → Int32) (hv : Iv v) (i : Nat) (hi : i < 6) (t1 t2 : Nat) : Met l yX4_fittingPairs wsX4_fittingPairs ({ frames := 3, cells := 0, slots := 0, locals := 192 }) (va_Pc [.ref (ad 13), .ref (ad (29 + 15 * i))] (ex_PreT dC dI cy sz (wl ad kv cy N v) t1 t2)) (va_Qi (fun (r : Int32) (u : Nat → Nat → Int32) => Iv u ∧ Fe v u) (fun u t => ex_Pst dC dI (va_A (wl ad kv cy N v) sz) (wl ad kv cy N u) t) (va_A (wl ad kv cy N v) sz)) 0 0 (va_A (wl ad kv cy N v) sz) := by
  refine Met.ofW (cc := cX4_fittingPairs) (maxL := 4) (ret := (some .int)) (by decide) rfl ?_
  intro p e s m args below meth c s₁ B hml hv
  obtain ⟨rfl, ⟨hsz, hE, hP, hK, hD0⟩, hSt⟩ := hv
  have hx := B.exec
  have hb := B.bytes
  have hr := B.returns
  have hts := atoms_spec (ws := wsX4_fittingPairs) B.pre
  have hown : s.vm.findClass RX4 = some m.cls := findClass_of_methodNamed B.named
  have hlocks := B.notSynchronized
  subst hsz
  have hD := hD0.self (sz := s.heap.size)
  generalize hAe : va_A (wl ad kv cy N v) s.heap.size = A at hD hSt ⊢
  have hA : ∀ q : Nat, s.heap.size ≤ q → A q := fun q h => by rw [← hAe]; exact Or.inr h
  have hS : va_S A s.heap s.heap [] := va_S.rf
  have hP : va_P (dC, dI) vwCl (wl ad kv cy N v) s.heap := hP
  have hl := lv_entry ([.ref (ad 13), .ref (ad (29 + 15 * i))]) (n := 4) (Nat.le_of_ble_eq_true rfl)
  rw [lg_entry_eq]
  generalize (lg_sl ([.ref (ad 13), .ref (ad (29 + 15 * i))]) ++ List.replicate (4 - (lg_sl ([.ref (ad 13), .ref (ad (29 + 15 * i))])).length) Slot.unset).toArray = ls at hl ⊢
  have hl : lv_has ls 4 [(0, .ref (ad 13)), (1, .ref (ad (29 + 15 * i)))] := hl
  have hfr : Fe v v := Fe.rf
  refine lv_iconst (v := 0) hx hb dX4_fittingPairs_0 (by decide) ?_
  refine lv_istore_n (lv' := [(2, .int 0), (0, .ref (ad 13)), (1, .ref (ad (29 + 15 * i)))]) hx hb dX4_fittingPairs_1 rfl hl (by decide) rfl (fun ls hl => ?_)
  refine lv_iconst (v := 0) hx hb dX4_fittingPairs_2 (by decide) ?_
  refine lv_istore_n (lv' := [(3, .int 0), (2, .int 0), (0, .ref (ad 13)), (1, .ref (ad (29 + 15 * i)))]) hx hb dX4_fittingPairs_3 rfl hl (by decide) rfl (fun ls hl => ?_)
  have k_0 : (0 : Int32).toInt = 0 := by decide
  have hloop_1 : ∀ (n : Nat) (y1_3 y1_2 : Int32) (u1 : Nat → Nat → Int32) (H : Heap) (locs : List Loc), 0 ≤ y1_3.toInt → y1_3.toInt ≤ 6 → (6 - y1_3.toInt).toNat < n → Iv u1 → Fe v u1 → va_P (dC, dI) vwCl (wl ad kv cy N u1) H → va_D A (wl ad kv cy N u1) → va_S A s.heap H locs → ∀ ls : Array Slot, lv_has ls 4 [(3, .int y1_3), (2, .int y1_2), (0, .ref (ad 13)), (1, .ref (ad (29 + 15 * i)))] → W p l e (headSpec wsX4_fittingPairs ({ frames := 3, cells := 0, slots := 0, locals := 192 })).room s m [Value.ref (ad 13), Value.ref (ad (29 + 15 * i))].toArray below meth c H locs 0 0 (MQ below (va_Qi (fun (r : Int32) (u : Nat → Nat → Int32) => Iv u ∧ Fe v u) (fun u t => ex_Pst dC dI A (wl ad kv cy N u) t) A) [Value.ref (ad 13), Value.ref (ad (29 + 15 * i))].toArray s 0 0 A) (F0 m 4 ls []) := by
    intro n
    induction n with
    | zero =>
      intro y1_3 y1_2 u1 H locs ay1_3 by1_3 hm_1 hv hfr hP hD hS ls hl
      exact absurd hm_1 (by omega)
    | succ n ih_1 =>
      intro y1_3 y1_2 u1 H locs ay1_3 by1_3 hm_1 hv hfr hP hD hS ls hl
      refine lv_iload_n hx hb dX4_fittingPairs_4 rfl (lv_at hl 0 rfl) ?_
      refine lv_bipush (v := 6) hx hb dX4_fittingPairs_5 (by decide) ?_
      have k_6 : (6 : Int32).toInt = 6 := by decide
      refine lv_icmp_ge (tgt := 39) hx hb dX4_fittingPairs_7 (by decide) (fun c_2 => ?_) (fun c_2 => ?_)
      · have tc_2 : y1_3.toInt ≥ (6 : Int32).toInt := Int32.le_iff_toInt_le.mp c_2
        refine lv_iload_n hx hb dX4_fittingPairs_39 rfl (lv_at hl 1 rfl) ?_
        exact W.iret (v := y1_2) hx hb hr (fun t ht hW => ⟨⟨y1_2, u1, rfl, ⟨hv, hfr⟩, by rw [ht]; exact hP, hD⟩, hS.F ht⟩) hS.2.2 dX4_fittingPairs_40
      · have tc_2 : y1_3.toInt < (6 : Int32).toInt := Int32.lt_iff_toInt_lt.mp (Int32.not_le.mp c_2)
        refine lv_aload_n hx hb dX4_fittingPairs_10 rfl (lv_at hl 2 rfl) ?_
        refine lv_iload_n hx hb dX4_fittingPairs_11 rfl (lv_at hl 0 rfl) ?_
        refine yw_i (w1 := fun (u : Nat → Nat → Int32) => wl ad kv cy N u) hD hS hA (va_runV (As := [.int y1_3]) (rest := []) ⟨hx, hb, hml, hown, hts⟩ (g_X1_hasPair l dC dI cy _ ad kv N hN u1 hv y1_3 ⟨by omega, by omega⟩ t1 t2) (cwV 1 hts gX4_fittingPairs_X1_hasPair rfl rfl rfl hd_V_X1_hasPair_1 ⟨Nat.le_of_ble_eq_true rfl, Nat.le_of_ble_eq_true rfl⟩) ⟨ex_blindT, va_recv hK hP (ci := 1) (q0 := 13) rfl (wl_at (by omega) (ce_3 (by decide))), fun U hU hW => ⟨rfl, ((yw_preS (As := []) hE hK hP hD).2 U hU hW).2, hSt.go hS (yw_F hD hS hA) hU hW⟩⟩ rfl rfl hl.1 rfl (lv_room (Nat.le_of_ble_eq_true rfl)) dX4_fittingPairs_12 ⟨Nat.le_of_ble_eq_true rfl, Nat.le_of_ble_eq_true rfl⟩) (fun r_3 v_3 H locs hw_3 hP hD hS => ?_)
        obtain ⟨hv, hw_3⟩ := hw_3
        have hs_3 : v_3 = u1 := hw_3.1
        have hfr : Fe v v_3 := by rw [hs_3]; exact hfr
        refine lv_if_eq (tgt := 33) hx hb dX4_fittingPairs_15 (by decide) (fun c_4 => ?_) (fun c_4 => ?_)
        · have tc_4 : r_3.toInt = (0 : Int32).toInt := by rw [c_4]
          obtain ⟨x_5, ex_5⟩ : ∃ y : Int32, y = y1_3 + 1 := ⟨_, rfl⟩
          refine lv_iinc (v := x_5) (lv' := [(3, .int x_5), (2, .int y1_2), (0, .ref (ad 13)), (1, .ref (ad (29 + 15 * i)))]) hx hb dX4_fittingPairs_33 hl (k := 0) rfl (by rw [ex_5]; rfl) (by decide) rfl (fun ls hl => ?_)
          have k_1 : (1 : Int32).toInt = 1 := by decide
          have tx_5 : x_5.toInt = y1_3.toInt + (1 : Int32).toInt := by rw [ex_5]; exact t_add ⟨by omega, by omega⟩
          refine lv_goto (tgt := 4) hx hb dX4_fittingPairs_36 (by decide) ?_
          exact ih_1 x_5 y1_2 v_3 H locs (by omega) (by omega) (by omega) hv hfr hP hD hS ls (lv_sub hl [0, 1, 2, 3] rfl)
        · have tc_4 : r_3.toInt ≠ (0 : Int32).toInt := fun q => absurd (Int32.toInt_inj.mp q) c_4
          refine lv_aload_n hx hb dX4_fittingPairs_18 rfl (lv_at hl 2 rfl) ?_
          refine lv_iload_n hx hb dX4_fittingPairs_19 rfl (lv_at hl 0 rfl) ?_
          refine lv_aload_n hx hb dX4_fittingPairs_20 rfl (lv_at hl 3 rfl) ?_
          refine yw_i (w1 := fun (u : Nat → Nat → Int32) => wl ad kv cy N u) hD hS hA (va_runV (As := [.int y1_3, .ref (ad (29 + 15 * i))]) (rest := []) ⟨hx, hb, hml, hown, hts⟩ (g_X1_pairFits l dC dI cy _ ad kv N hN v_3 hv y1_3 ⟨by omega, by omega⟩ i hi t1 t2) (cwV 2 hts gX4_fittingPairs_X1_pairFits rfl rfl rfl hd_V_X1_pairFits_2 ⟨Nat.le_of_ble_eq_true rfl, Nat.le_of_ble_eq_true rfl⟩) ⟨ex_blindT, va_recv hK hP (ci := 1) (q0 := 13) rfl (wl_at (by omega) (ce_3 (by decide))), fun U hU hW => ⟨rfl, ((yw_preS (As := []) hE hK hP hD).2 U hU hW).2, hSt.go hS (yw_F hD hS hA) hU hW⟩⟩ rfl rfl hl.1 rfl (lv_room (Nat.le_of_ble_eq_true rfl)) dX4_fittingPairs_21 ⟨Nat.le_of_ble_eq_true rfl, Nat.le_of_ble_eq_true rfl⟩) (fun r_5 v_5 H locs hw_5 hP hD hS => ?_)
          obtain ⟨hv, hw_5⟩ := hw_5
          have hs_5 : v_5 = v_3 := hw_5.1
          have hfr : Fe v v_5 := by rw [hs_5]; exact hfr
          refine lv_if_eq (tgt := 33) hx hb dX4_fittingPairs_24 (by decide) (fun c_6 => ?_) (fun c_6 => ?_)
          · have tc_6 : r_5.toInt = (0 : Int32).toInt := by rw [c_6]
            obtain ⟨x_7, ex_7⟩ : ∃ y : Int32, y = y1_3 + 1 := ⟨_, rfl⟩
            refine lv_iinc (v := x_7) (lv' := [(3, .int x_7), (2, .int y1_2), (0, .ref (ad 13)), (1, .ref (ad (29 + 15 * i)))]) hx hb dX4_fittingPairs_33 hl (k := 0) rfl (by rw [ex_7]; rfl) (by decide) rfl (fun ls hl => ?_)
            have k_1 : (1 : Int32).toInt = 1 := by decide
            have tx_7 : x_7.toInt = y1_3.toInt + (1 : Int32).toInt := by rw [ex_7]; exact t_add ⟨by omega, by omega⟩
            refine lv_goto (tgt := 4) hx hb dX4_fittingPairs_36 (by decide) ?_
            exact ih_1 x_7 y1_2 v_5 H locs (by omega) (by omega) (by omega) hv hfr hP hD hS ls (lv_sub hl [0, 1, 2, 3] rfl)
          · have tc_6 : r_5.toInt ≠ (0 : Int32).toInt := fun q => absurd (Int32.toInt_inj.mp q) c_6
            refine lv_iload_n hx hb dX4_fittingPairs_27 rfl (lv_at hl 1 rfl) ?_
            refine lv_iconst (v := 1) hx hb dX4_fittingPairs_28 (by decide) ?_
            refine lv_iload_n hx hb dX4_fittingPairs_29 rfl (lv_at hl 0 rfl) ?_
            refine lv_ishl hx hb dX4_fittingPairs_30 ?_
            refine lv_topi (fun x_7 ex_7 => ?_)
            refine lv_ior hx hb dX4_fittingPairs_31 ?_
            refine lv_topi (fun x_8 ex_8 => ?_)
            refine lv_istore_n (lv' := [(2, .int x_8), (3, .int y1_3), (0, .ref (ad 13)), (1, .ref (ad (29 + 15 * i)))]) hx hb dX4_fittingPairs_32 rfl hl (by decide) rfl (fun ls hl => ?_)
            obtain ⟨x_9, ex_9⟩ : ∃ y : Int32, y = y1_3 + 1 := ⟨_, rfl⟩
            refine lv_iinc (v := x_9) (lv' := [(3, .int x_9), (2, .int x_8), (0, .ref (ad 13)), (1, .ref (ad (29 + 15 * i)))]) hx hb dX4_fittingPairs_33 hl (k := 1) rfl (by rw [ex_9]; rfl) (by decide) rfl (fun ls hl => ?_)
            have k_1 : (1 : Int32).toInt = 1 := by decide
            have tx_9 : x_9.toInt = y1_3.toInt + (1 : Int32).toInt := by rw [ex_9]; exact t_add ⟨by omega, by omega⟩
            refine lv_goto (tgt := 4) hx hb dX4_fittingPairs_36 (by decide) ?_
            exact ih_1 x_9 x_8 v_5 H locs (by omega) (by omega) (by omega) hv hfr hP hD hS ls (lv_sub hl [0, 1, 2, 3] rfl)
  exact hloop_1 ((6 - (0 : Int32).toInt).toNat + 1) 0 0 v _ _ (by omega) (by omega) (by omega) hv hfr hP hD hS ls hl

set_option maxHeartbeats 4000000 in
set_option maxRecDepth 100000 in
theorem g_X4_gather (l : Launch) (dC : Nat → ClassId) (dI : Nat → Nat → Nat) (cy : Nat → ClassId) (sz : Nat) (ad : Nat → Nat) (kv : Value) (N : Nat) (hN : 119 ≤ N) (v : Nat → Nat → Int32) (hv : Iv v)  (t1 t2 : Nat) : Met l yX4_gather wsX4_gather ({ frames := 4, cells := 0, slots := 0, locals := 256 }) (va_Pc [.ref (ad 1), .ref (ad 13)] (ex_PreT dC dI cy sz (wl ad kv cy N v) t1 t2)) (va_Qv (fun (u : Nat → Nat → Int32) => Iv u ∧ Fz v u) (fun u t => ex_Pst dC dI (va_A (wl ad kv cy N v) sz) (wl ad kv cy N u) t) (va_A (wl ad kv cy N v) sz)) 0 0 (va_A (wl ad kv cy N v) sz) := by
  refine Met.ofW (cc := cX4_gather) (maxL := 4) (ret := none) (by decide) rfl ?_
  intro p e s m args below meth c s₁ B hml hv
  obtain ⟨rfl, ⟨hsz, hE, hP, hK, hD0⟩, hSt⟩ := hv
  have hx := B.exec
  have hb := B.bytes
  have hr := B.returns
  have hts := atoms_spec (ws := wsX4_gather) B.pre
  have hown : s.vm.findClass RX4 = some m.cls := findClass_of_methodNamed B.named
  have hlocks := B.notSynchronized
  subst hsz
  have hD := hD0.self (sz := s.heap.size)
  generalize hAe : va_A (wl ad kv cy N v) s.heap.size = A at hD hSt ⊢
  have hA : ∀ q : Nat, s.heap.size ≤ q → A q := fun q h => by rw [← hAe]; exact Or.inr h
  have hS : va_S A s.heap s.heap [] := va_S.rf
  have hP : va_P (dC, dI) vwCl (wl ad kv cy N v) s.heap := hP
  have hl := lv_entry ([.ref (ad 1), .ref (ad 13)]) (n := 4) (Nat.le_of_ble_eq_true rfl)
  rw [lg_entry_eq]
  generalize (lg_sl ([.ref (ad 1), .ref (ad 13)]) ++ List.replicate (4 - (lg_sl ([.ref (ad 1), .ref (ad 13)])).length) Slot.unset).toArray = ls at hl ⊢
  have hl : lv_has ls 4 [(0, .ref (ad 1)), (1, .ref (ad 13))] := hl
  have hfr : Fz v v := Fz.rf
  refine lv_aload_n hx hb dX4_gather_0 rfl (lv_at hl 0 rfl) ?_
  refine lv_iconst (v := 0) hx hb dX4_gather_1 (by decide) ?_
  refine va_put (D := (dC, dI)) (ci := 4) (v := .int 0) (ty := .int) (C := RX4) (T := TX4) (N := 11) hx hb hts iwX4_gather_X4 tyX4 tyX4_ok nmX4 hown hK hP hD hS (1) (wl_at (by omega) (ce_1 (by decide))) rfl 1 (by decide) (hts (.fieldLink RX4 61 "QuietStairs$Planner" "count" "I") fwX4_gather_1) (fun _ h9 => h9) rfl (by decide +kernel) rfl rfl (Nat.le_of_ble_eq_true rfl) dX4_gather_2 (fun H locs hP hD hS => ?_)
  have k_0 : (0 : Int32).toInt = 0 := by decide
  obtain ⟨v_1, ev_1⟩ : ∃ u : Nat → Nat → Int32, u = upr v (1) (upd (v (1)) 1 0) := ⟨_, rfl⟩
  have hP : va_P (dC, dI) vwCl (wl ad kv cy N v_1) H := by rw [ev_1, ← wl_put (e := _) (ce_1 (by decide))]; exact hP
  have hD : va_D A (wl ad kv cy N v_1) := by rw [ev_1, ← wl_put (e := _) (ce_1 (by decide))]; exact hD
  have hv : Iv v_1 := by rw [ev_1]; exact hv.put (K := 1) (by decide) (fun h q => by cases q; exact ⟨by omega, by omega⟩)
  have hfr : Fz v v_1 := by rw [ev_1]; exact hfr.put (by omega) (by omega) (by omega)
  refine lv_iconst (v := 0) hx hb dX4_gather_5 (by decide) ?_
  refine lv_istore_n (lv' := [(2, .int 0), (0, .ref (ad 1)), (1, .ref (ad 13))]) hx hb dX4_gather_6 rfl hl (by decide) rfl (fun ls hl => ?_)
  have hloop_2 : ∀ (n : Nat) (y2_2 : Int32) (u2 : Nat → Nat → Int32) (H : Heap) (locs : List Loc), 0 ≤ y2_2.toInt → y2_2.toInt ≤ 6 → (6 - y2_2.toInt).toNat < n → Iv u2 → Fz v u2 → va_P (dC, dI) vwCl (wl ad kv cy N u2) H → va_D A (wl ad kv cy N u2) → va_S A s.heap H locs → ∀ ls : Array Slot, lv_has ls 4 [(2, .int y2_2), (0, .ref (ad 1)), (1, .ref (ad 13))] → W p l e (headSpec wsX4_gather ({ frames := 4, cells := 0, slots := 0, locals := 256 })).room s m [Value.ref (ad 1), Value.ref (ad 13)].toArray below meth c H locs 0 0 (MQ below (va_Qv (fun (u : Nat → Nat → Int32) => Iv u ∧ Fz v u) (fun u t => ex_Pst dC dI A (wl ad kv cy N u) t) A) [Value.ref (ad 1), Value.ref (ad 13)].toArray s 0 0 A) (F0 m 7 ls []) := by
    intro n
    induction n with
    | zero =>
      intro y2_2 u2 H locs ay2_2 by2_2 hm_2 hv hfr hP hD hS ls hl
      exact absurd hm_2 (by omega)
    | succ n ih_2 =>
      intro y2_2 u2 H locs ay2_2 by2_2 hm_2 hv hfr hP hD hS ls hl
      refine lv_iload_n hx hb dX4_gather_7 rfl (lv_at hl 0 rfl) ?_
      refine lv_aload_n hx hb dX4_gather_8 rfl (lv_at hl 2 rfl) ?_
      refine va_get (D := (dC, dI)) (ci := 1) (v := .int (u2 (13) 2)) (C := RX1) (T := TX1) (N := 7) hx hb hts iwX4_gather_X1 hown hK hP (13) (wl_at (by omega) (ce_3 (by decide))) rfl 2 (by decide) (hts (.fieldLink RX4 68 "QuietStairs$House" "caseCount" "I") fwX4_gather_2) (fun _ h9 => h9) rfl dX4_gather_9 ?_
      refine lv_topi (fun x_3 ex_3 => ?_)
      have bx_3 : 0 ≤ x_3.toInt ∧ x_3.toInt ≤ 6 := by rw [ex_3]; exact hv.at (K := 3) (by decide) rfl
      refine lv_icmp_ge (tgt := 90) hx hb dX4_gather_12 (by decide) (fun c_4 => ?_) (fun c_4 => ?_)
      · have tc_4 : y2_2.toInt ≥ x_3.toInt := Int32.le_iff_toInt_le.mp c_4
        exact W.vret hx hb hr (fun t ht hW => ⟨⟨u2, rfl, ⟨hv, hfr⟩, by rw [ht]; exact hP, hD⟩, hS.F ht⟩) hS.2.2 dX4_gather_90
      · have tc_4 : y2_2.toInt < x_3.toInt := Int32.lt_iff_toInt_lt.mp (Int32.not_le.mp c_4)
        refine lv_aload_n hx hb dX4_gather_15 rfl (lv_at hl 1 rfl) ?_
        refine va_get (D := (dC, dI)) (ci := 4) (v := .int (u2 (1) 1)) (C := RX4) (T := TX4) (N := 11) hx hb hts iwX4_gather_X4 hown hK hP (1) (wl_at (by omega) (ce_1 (by decide))) rfl 1 (by decide) (hts (.fieldLink RX4 61 "QuietStairs$Planner" "count" "I") fwX4_gather_1) (fun _ h9 => h9) rfl dX4_gather_16 ?_
        refine lv_topi (fun x_5 ex_5 => ?_)
        have bx_5 : 0 ≤ x_5.toInt ∧ x_5.toInt ≤ 4 := by rw [ex_5]; exact hv.at (K := 1) (by decide) rfl
        refine lv_iconst (v := 4) hx hb dX4_gather_19 (by decide) ?_
        have k_4 : (4 : Int32).toInt = 4 := by decide
        refine lv_icmp_ge (tgt := 90) hx hb dX4_gather_20 (by decide) (fun c_6 => ?_) (fun c_6 => ?_)
        · have tc_6 : x_5.toInt ≥ (4 : Int32).toInt := Int32.le_iff_toInt_le.mp c_6
          exact W.vret hx hb hr (fun t ht hW => ⟨⟨u2, rfl, ⟨hv, hfr⟩, by rw [ht]; exact hP, hD⟩, hS.F ht⟩) hS.2.2 dX4_gather_90
        · have tc_6 : x_5.toInt < (4 : Int32).toInt := Int32.lt_iff_toInt_lt.mp (Int32.not_le.mp c_6)
          refine lv_aload_n hx hb dX4_gather_23 rfl (lv_at hl 2 rfl) ?_
          refine va_get (D := (dC, dI)) (ci := 1) (v := .ref (ad 16)) (C := RX1) (T := TX1) (N := 7) hx hb hts iwX4_gather_X1 hown hK hP (13) (wl_at (by omega) (ce_3 (by decide))) rfl 6 (by decide) (hts (.fieldLink RX4 71 "QuietStairs$House" "cases" "[LQuietStairs$Case;") fwX4_gather_3) (fun _ h9 => h9) rfl dX4_gather_24 ?_
          refine lv_iload_n hx hb dX4_gather_27 rfl (lv_at hl 0 rfl) ?_
          obtain ⟨pi7, i7, hi7, ni7, mi7⟩ := t_in (x := y2_2) (n := 6) ⟨by omega, by omega⟩
          refine va_aldq hx hb hK hP (16) 3 (wl_at (by omega) (ce_6 (by decide))) rfl pi7 dX4_gather_28 ?_
          refine W.eq (g2 := F0 m 29 ls [.ref (ad (29 + 15 * i7))]) (by rw [ni7, if_pos hi7, show 16 + 13 + 15 * i7 = 29 + 15 * i7 from by omega]; rfl) ?_
          refine lv_astore_n (lv' := [(3, .ref (ad (29 + 15 * i7))), (2, .int y2_2), (0, .ref (ad 1)), (1, .ref (ad 13))]) hx hb dX4_gather_29 rfl hl (by decide) rfl (fun ls hl => ?_)
          refine lv_aload_n hx hb dX4_gather_30 rfl (lv_at hl 0 rfl) ?_
          refine va_get (D := (dC, dI)) (ci := 0) (v := .int (u2 (29 + 15 * i7) 0)) (C := RX0) (T := TX0) (N := 11) hx hb hts iwX4_gather_X0 hown hK hP (29 + 15 * i7) (wl_at (by omega) (ce_9 (kd_c i7 hi7).1.1)) rfl 0 (by decide) (hts (.fieldLink RX4 75 "QuietStairs$Case" "state" "I") fwX4_gather_4) (fun _ h9 => h9) rfl dX4_gather_31 ?_
          refine lv_topi (fun x_8 ex_8 => ?_)
          refine lv_if_ne (tgt := 84) hx hb dX4_gather_34 (by decide) (fun c_9 => ?_) (fun c_9 => ?_)
          · have tc_9 : x_8.toInt ≠ (0 : Int32).toInt := fun q => absurd (Int32.toInt_inj.mp q) c_9
            obtain ⟨x_10, ex_10⟩ : ∃ y : Int32, y = y2_2 + 1 := ⟨_, rfl⟩
            refine lv_iinc (v := x_10) (lv' := [(2, .int x_10), (3, .ref (ad (29 + 15 * i7))), (0, .ref (ad 1)), (1, .ref (ad 13))]) hx hb dX4_gather_84 hl (k := 1) rfl (by rw [ex_10]; rfl) (by decide) rfl (fun ls hl => ?_)
            have k_1 : (1 : Int32).toInt = 1 := by decide
            have tx_10 : x_10.toInt = y2_2.toInt + (1 : Int32).toInt := by rw [ex_10]; exact t_add ⟨by omega, by omega⟩
            refine lv_goto (tgt := 7) hx hb dX4_gather_87 (by decide) ?_
            exact ih_2 x_10 u2 H locs (by omega) (by omega) (by omega) hv hfr hP hD hS ls (lv_sub hl [0, 2, 3] rfl)
          · have tc_9 : x_8.toInt = (0 : Int32).toInt := by rw [c_9]
            refine lv_aload_n hx hb dX4_gather_37 rfl (lv_at hl 2 rfl) ?_
            refine va_get (D := (dC, dI)) (ci := 4) (v := .ref (ad 2)) (C := RX4) (T := TX4) (N := 11) hx hb hts iwX4_gather_X4 hown hK hP (1) (wl_at (by omega) (ce_1 (by decide))) rfl 3 (by decide) (hts (.fieldLink RX4 9 "QuietStairs$Planner" "numbers" "[I") fwX4_gather_5) (fun _ h9 => h9) rfl dX4_gather_38 ?_
            refine lv_aload_n hx hb dX4_gather_41 rfl (lv_at hl 2 rfl) ?_
            refine va_get (D := (dC, dI)) (ci := 4) (v := .int (u2 (1) 1)) (C := RX4) (T := TX4) (N := 11) hx hb hts iwX4_gather_X4 hown hK hP (1) (wl_at (by omega) (ce_1 (by decide))) rfl 1 (by decide) (hts (.fieldLink RX4 61 "QuietStairs$Planner" "count" "I") fwX4_gather_1) (fun _ h9 => h9) rfl dX4_gather_42 ?_
            refine lv_topi (fun x_10 ex_10 => ?_)
            rw [← ex_5] at ex_10; replace ex_10 := ex_10.symm; subst ex_10
            refine lv_iload_n hx hb dX4_gather_45 rfl (lv_at hl 1 rfl) ?_
            obtain ⟨pi11, i11, hi11, ni11, mi11⟩ := t_in (x := x_5) (n := 4) ⟨by omega, by omega⟩
            refine va_iast hx hb hK hP hD hS (2) 0 (wl_at (by omega) (ce_17 (by decide))) rfl pi11 dX4_gather_46 (fun H locs hP hD hS => ?_)
            obtain ⟨v_12, ev_12⟩ : ∃ u : Nat → Nat → Int32, u = upr u2 (2) (upd (u2 (2)) (x_5.toNatClampNeg) y2_2) := ⟨_, rfl⟩
            have hP : va_P (dC, dI) vwCl (wl ad kv cy N v_12) H := by rw [ev_12, ← wl_put (e := _) (ce_17 (by decide))]; exact hP
            have hD : va_D A (wl ad kv cy N v_12) := by rw [ev_12, ← wl_put (e := _) (ce_17 (by decide))]; exact hD
            have hv : Iv v_12 := by rw [ev_12]; exact hv.put (K := 17) (by decide) (fun h q => by simp [bd] at q)
            have hfr : Fz v v_12 := by rw [ev_12]; exact hfr.put (by omega) (by omega) (by omega)
            refine lv_aload_n hx hb dX4_gather_47 rfl (lv_at hl 2 rfl) ?_
            refine va_get (D := (dC, dI)) (ci := 4) (v := .ref (ad 3)) (C := RX4) (T := TX4) (N := 11) hx hb hts iwX4_gather_X4 hown hK hP (1) (wl_at (by omega) (ce_1 (by decide))) rfl 4 (by decide) (hts (.fieldLink RX4 15 "QuietStairs$Planner" "weights" "[I") fwX4_gather_6) (fun _ h9 => h9) rfl dX4_gather_48 ?_
            refine lv_aload_n hx hb dX4_gather_51 rfl (lv_at hl 2 rfl) ?_
            refine va_get (D := (dC, dI)) (ci := 4) (v := .int (v_12 (1) 1)) (C := RX4) (T := TX4) (N := 11) hx hb hts iwX4_gather_X4 hown hK hP (1) (wl_at (by omega) (ce_1 (by decide))) rfl 1 (by decide) (hts (.fieldLink RX4 61 "QuietStairs$Planner" "count" "I") fwX4_gather_1) (fun _ h9 => h9) rfl dX4_gather_52 ?_
            refine lv_topi (fun x_13 ex_13 => ?_)
            rw [ev_12, upr_n (by omega)] at ex_13
            rw [← ex_5] at ex_13; replace ex_13 := ex_13.symm; subst ex_13
            refine lv_aload_n hx hb dX4_gather_55 rfl (lv_at hl 0 rfl) ?_
            refine va_get (D := (dC, dI)) (ci := 0) (v := .int (v_12 (29 + 15 * i7) 3)) (C := RX0) (T := TX0) (N := 11) hx hb hts iwX4_gather_X0 hown hK hP (29 + 15 * i7) (wl_at (by omega) (ce_9 (kd_c i7 hi7).1.1)) rfl 3 (by decide) (hts (.fieldLink RX4 80 "QuietStairs$Case" "weight" "I") fwX4_gather_7) (fun _ h9 => h9) rfl dX4_gather_56 ?_
            refine lv_topi (fun x_14 ex_14 => ?_)
            refine va_iast hx hb hK hP hD hS (3) 0 (wl_at (by omega) (ce_17 (by decide))) rfl pi11 dX4_gather_59 (fun H locs hP hD hS => ?_)
            obtain ⟨v_15, ev_15⟩ : ∃ u : Nat → Nat → Int32, u = upr v_12 (3) (upd (v_12 (3)) (x_5.toNatClampNeg) x_14) := ⟨_, rfl⟩
            have hP : va_P (dC, dI) vwCl (wl ad kv cy N v_15) H := by rw [ev_15, ← wl_put (e := _) (ce_17 (by decide))]; exact hP
            have hD : va_D A (wl ad kv cy N v_15) := by rw [ev_15, ← wl_put (e := _) (ce_17 (by decide))]; exact hD
            have hv : Iv v_15 := by rw [ev_15]; exact hv.put (K := 17) (by decide) (fun h q => by simp [bd] at q)
            have hfr : Fz v v_15 := by rw [ev_15]; exact hfr.put (by omega) (by omega) (by omega)
            refine lv_aload_n hx hb dX4_gather_60 rfl (lv_at hl 2 rfl) ?_
            refine va_get (D := (dC, dI)) (ci := 4) (v := .ref (ad 4)) (C := RX4) (T := TX4) (N := 11) hx hb hts iwX4_gather_X4 hown hK hP (1) (wl_at (by omega) (ce_1 (by decide))) rfl 5 (by decide) (hts (.fieldLink RX4 18 "QuietStairs$Planner" "pairBits" "[I") fwX4_gather_8) (fun _ h9 => h9) rfl dX4_gather_61 ?_
            refine lv_aload_n hx hb dX4_gather_64 rfl (lv_at hl 2 rfl) ?_
            refine va_get (D := (dC, dI)) (ci := 4) (v := .int (v_15 (1) 1)) (C := RX4) (T := TX4) (N := 11) hx hb hts iwX4_gather_X4 hown hK hP (1) (wl_at (by omega) (ce_1 (by decide))) rfl 1 (by decide) (hts (.fieldLink RX4 61 "QuietStairs$Planner" "count" "I") fwX4_gather_1) (fun _ h9 => h9) rfl dX4_gather_65 ?_
            refine lv_topi (fun x_16 ex_16 => ?_)
            rw [ev_15, upr_n (by omega)] at ex_16
            rw [ev_12, upr_n (by omega)] at ex_16
            rw [← ex_5] at ex_16; replace ex_16 := ex_16.symm; subst ex_16
            refine lv_aload_n hx hb dX4_gather_68 rfl (lv_at hl 3 rfl) ?_
            refine lv_aload_n hx hb dX4_gather_69 rfl (lv_at hl 0 rfl) ?_
            refine yw_i (w1 := fun (u : Nat → Nat → Int32) => wl ad kv cy N u) hD hS hA (va_runS (As := [.ref (ad 13), .ref (ad (29 + 15 * i7))]) (rest := [.int x_5, .ref (ad 4)]) ⟨hx, hb, hml, hown, hts⟩ (g_X4_fittingPairs l dC dI cy _ ad kv N hN v_15 hv i7 hi7 t1 t2) (cwS 2 hts gX4_gather_X4_fittingPairs rfl rfl rfl hd_S_X4_fittingPairs_2 ⟨Nat.le_of_ble_eq_true rfl, Nat.le_of_ble_eq_true rfl⟩) ⟨ex_blindT, fun U hU hW => ⟨rfl, ((yw_preS (As := []) hE hK hP hD).2 U hU hW).2, hSt.go hS (yw_F hD hS hA) hU hW⟩⟩ rfl rfl hl.1 rfl (lv_room (Nat.le_of_ble_eq_true rfl)) dX4_gather_70 ⟨Nat.le_of_ble_eq_true rfl, Nat.le_of_ble_eq_true rfl⟩) (fun r_17 v_17 H locs hw_17 hP hD hS => ?_)
            obtain ⟨hv, hw_17⟩ := hw_17
            have hs_17 : v_17 = v_15 := hw_17
            have hfr : Fz v v_17 := by rw [hs_17]; exact hfr
            refine va_iast hx hb hK hP hD hS (4) 0 (wl_at (by omega) (ce_17 (by decide))) rfl pi11 dX4_gather_73 (fun H locs hP hD hS => ?_)
            obtain ⟨v_18, ev_18⟩ : ∃ u : Nat → Nat → Int32, u = upr v_17 (4) (upd (v_17 (4)) (x_5.toNatClampNeg) r_17) := ⟨_, rfl⟩
            have hP : va_P (dC, dI) vwCl (wl ad kv cy N v_18) H := by rw [ev_18, ← wl_put (e := _) (ce_17 (by decide))]; exact hP
            have hD : va_D A (wl ad kv cy N v_18) := by rw [ev_18, ← wl_put (e := _) (ce_17 (by decide))]; exact hD
            have hv : Iv v_18 := by rw [ev_18]; exact hv.put (K := 17) (by decide) (fun h q => by simp [bd] at q)
            have hfr : Fz v v_18 := by rw [ev_18]; exact hfr.put (by omega) (by omega) (by omega)
            refine lv_aload_n hx hb dX4_gather_74 rfl (lv_at hl 2 rfl) ?_
            refine lv_dup hx hb dX4_gather_75 rfl ?_
            refine va_get (D := (dC, dI)) (ci := 4) (v := .int (v_18 (1) 1)) (C := RX4) (T := TX4) (N := 11) hx hb hts iwX4_gather_X4 hown hK hP (1) (wl_at (by omega) (ce_1 (by decide))) rfl 1 (by decide) (hts (.fieldLink RX4 61 "QuietStairs$Planner" "count" "I") fwX4_gather_1) (fun _ h9 => h9) rfl dX4_gather_76 ?_
            refine lv_topi (fun x_19 ex_19 => ?_)
            rw [ev_18, upr_n (by omega)] at ex_19
            rw [hs_17] at ex_19
            rw [ev_15, upr_n (by omega)] at ex_19
            rw [ev_12, upr_n (by omega)] at ex_19
            rw [← ex_5] at ex_19; replace ex_19 := ex_19.symm; subst ex_19
            refine lv_iconst (v := 1) hx hb dX4_gather_79 (by decide) ?_
            have k_1 : (1 : Int32).toInt = 1 := by decide
            refine lv_iadd hx hb dX4_gather_80 ?_
            refine lv_topi (fun x_20 ex_20 => ?_)
            have tx_20 : x_20.toInt = x_5.toInt + (1 : Int32).toInt := by rw [ex_20]; exact t_add ⟨by omega, by omega⟩
            refine va_put (D := (dC, dI)) (ci := 4) (v := .int x_20) (ty := .int) (C := RX4) (T := TX4) (N := 11) hx hb hts iwX4_gather_X4 tyX4 tyX4_ok nmX4 hown hK hP hD hS (1) (wl_at (by omega) (ce_1 (by decide))) rfl 1 (by decide) (hts (.fieldLink RX4 61 "QuietStairs$Planner" "count" "I") fwX4_gather_1) (fun _ h9 => h9) rfl (by decide +kernel) rfl rfl (Nat.le_of_ble_eq_true rfl) dX4_gather_81 (fun H locs hP hD hS => ?_)
            obtain ⟨v_21, ev_21⟩ : ∃ u : Nat → Nat → Int32, u = upr v_18 (1) (upd (v_18 (1)) 1 x_20) := ⟨_, rfl⟩
            have hP : va_P (dC, dI) vwCl (wl ad kv cy N v_21) H := by rw [ev_21, ← wl_put (e := _) (ce_1 (by decide))]; exact hP
            have hD : va_D A (wl ad kv cy N v_21) := by rw [ev_21, ← wl_put (e := _) (ce_1 (by decide))]; exact hD
            have hv : Iv v_21 := by rw [ev_21]; exact hv.put (K := 1) (by decide) (fun h q => by cases q; exact ⟨by omega, by omega⟩)
            have hfr : Fz v v_21 := by rw [ev_21]; exact hfr.put (by omega) (by omega) (by omega)
            obtain ⟨x_22, ex_22⟩ : ∃ y : Int32, y = y2_2 + 1 := ⟨_, rfl⟩
            refine lv_iinc (v := x_22) (lv' := [(2, .int x_22), (3, .ref (ad (29 + 15 * i7))), (0, .ref (ad 1)), (1, .ref (ad 13))]) hx hb dX4_gather_84 hl (k := 1) rfl (by rw [ex_22]; rfl) (by decide) rfl (fun ls hl => ?_)
            have tx_22 : x_22.toInt = y2_2.toInt + (1 : Int32).toInt := by rw [ex_22]; exact t_add ⟨by omega, by omega⟩
            refine lv_goto (tgt := 7) hx hb dX4_gather_87 (by decide) ?_
            exact ih_2 x_22 v_21 H locs (by omega) (by omega) (by omega) hv hfr hP hD hS ls (lv_sub hl [0, 2, 3] rfl)
  exact hloop_2 ((6 - (0 : Int32).toInt).toNat + 1) 0 v_1 _ _ (by omega) (by omega) (by omega) hv hfr hP hD hS ls hl

set_option maxHeartbeats 4000000 in
set_option maxRecDepth 100000 in
theorem g_X4_sortByWeight (l : Launch) (dC : Nat → ClassId) (dI : Nat → Nat → Nat) (cy : Nat → ClassId) (sz : Nat) (ad : Nat → Nat) (kv : Value) (N : Nat) (hN : 119 ≤ N) (v : Nat → Nat → Int32) (hv : Iv v)  : Met l yX4_sortByWeight wsX4_sortByWeight ({ frames := 0, cells := 0, slots := 0, locals := 0 }) (va_Pc [.ref (ad 1)] (ex_Pre dC dI cy sz (wl ad kv cy N v))) (va_Qv (fun (u : Nat → Nat → Int32) => Iv u ∧ Fz v u) (fun u t => ex_Pst dC dI (va_A (wl ad kv cy N v) sz) (wl ad kv cy N u) t) (va_A (wl ad kv cy N v) sz)) 0 0 (va_A (wl ad kv cy N v) sz) := by
  refine Met.ofW (cc := cX4_sortByWeight) (maxL := 3) (ret := none) (by decide) rfl ?_
  intro p e s m args below meth c s₁ B hml hv
  obtain ⟨rfl, hsz, hE, hP, hK, hD0⟩ := hv
  have hx := B.exec
  have hb := B.bytes
  have hr := B.returns
  have hts := atoms_spec (ws := wsX4_sortByWeight) B.pre
  have hown : s.vm.findClass RX4 = some m.cls := findClass_of_methodNamed B.named
  have hlocks := B.notSynchronized
  subst hsz
  have hD := hD0.self (sz := s.heap.size)
  generalize hAe : va_A (wl ad kv cy N v) s.heap.size = A at hD ⊢
  have hA : ∀ q : Nat, s.heap.size ≤ q → A q := fun q h => by rw [← hAe]; exact Or.inr h
  have hS : va_S A s.heap s.heap [] := va_S.rf
  have hP : va_P (dC, dI) vwCl (wl ad kv cy N v) s.heap := hP
  have hl := lv_entry ([.ref (ad 1)]) (n := 3) (Nat.le_of_ble_eq_true rfl)
  rw [lg_entry_eq]
  generalize (lg_sl ([.ref (ad 1)]) ++ List.replicate (3 - (lg_sl ([.ref (ad 1)])).length) Slot.unset).toArray = ls at hl ⊢
  have hl : lv_has ls 3 [(0, .ref (ad 1))] := hl
  have hfr : Fz v v := Fz.rf
  refine lv_iconst (v := 0) hx hb dX4_sortByWeight_0 (by decide) ?_
  refine lv_istore_n (lv' := [(1, .int 0), (0, .ref (ad 1))]) hx hb dX4_sortByWeight_1 rfl hl (by decide) rfl (fun ls hl => ?_)
  have k_0 : (0 : Int32).toInt = 0 := by decide
  have hloop_1 : ∀ (n : Nat) (y1_1 : Int32) (u1 : Nat → Nat → Int32) (H : Heap) (locs : List Loc), 0 ≤ y1_1.toInt → y1_1.toInt ≤ 4 → (4 - y1_1.toInt).toNat < n → Iv u1 → Fz v u1 → va_P (dC, dI) vwCl (wl ad kv cy N u1) H → va_D A (wl ad kv cy N u1) → va_S A s.heap H locs → ∀ ls : Array Slot, lv_has ls 3 [(1, .int y1_1), (0, .ref (ad 1))] → W p l e (headSpec wsX4_sortByWeight ({ frames := 0, cells := 0, slots := 0, locals := 0 })).room s m [Value.ref (ad 1)].toArray below meth c H locs 0 0 (MQ below (va_Qv (fun (u : Nat → Nat → Int32) => Iv u ∧ Fz v u) (fun u t => ex_Pst dC dI A (wl ad kv cy N u) t) A) [Value.ref (ad 1)].toArray s 0 0 A) (F0 m 2 ls []) := by
    intro n
    induction n with
    | zero =>
      intro y1_1 u1 H locs ay1_1 by1_1 hm_1 hv hfr hP hD hS ls hl
      exact absurd hm_1 (by omega)
    | succ n ih_1 =>
      intro y1_1 u1 H locs ay1_1 by1_1 hm_1 hv hfr hP hD hS ls hl
      refine lv_iload_n hx hb dX4_sortByWeight_2 rfl (lv_at hl 0 rfl) ?_
      refine lv_aload_n hx hb dX4_sortByWeight_3 rfl (lv_at hl 1 rfl) ?_
      refine va_get (D := (dC, dI)) (ci := 4) (v := .int (u1 (1) 1)) (C := RX4) (T := TX4) (N := 11) hx hb hts iwX4_sortByWeight_X4 hown hK hP (1) (wl_at (by omega) (ce_1 (by decide))) rfl 1 (by decide) (hts (.fieldLink RX4 61 "QuietStairs$Planner" "count" "I") fwX4_sortByWeight_1) (fun _ h9 => h9) rfl dX4_sortByWeight_4 ?_
      refine lv_topi (fun x_2 ex_2 => ?_)
      have bx_2 : 0 ≤ x_2.toInt ∧ x_2.toInt ≤ 4 := by rw [ex_2]; exact hv.at (K := 1) (by decide) rfl
      refine lv_icmp_ge (tgt := 71) hx hb dX4_sortByWeight_7 (by decide) (fun c_3 => ?_) (fun c_3 => ?_)
      · have tc_3 : y1_1.toInt ≥ x_2.toInt := Int32.le_iff_toInt_le.mp c_3
        exact W.vret hx hb hr (fun t ht hW => ⟨⟨u1, rfl, ⟨hv, hfr⟩, by rw [ht]; exact hP, hD⟩, hS.F ht⟩) hS.2.2 dX4_sortByWeight_71
      · have tc_3 : y1_1.toInt < x_2.toInt := Int32.lt_iff_toInt_lt.mp (Int32.not_le.mp c_3)
        refine lv_iload_n hx hb dX4_sortByWeight_10 rfl (lv_at hl 0 rfl) ?_
        refine lv_istore_n (lv' := [(2, .int y1_1), (1, .int y1_1), (0, .ref (ad 1))]) hx hb dX4_sortByWeight_11 rfl hl (by decide) rfl (fun ls hl => ?_)
        have hloop_4 : ∀ (n : Nat) (y4_2 : Int32) (u4 : Nat → Nat → Int32) (H : Heap) (locs : List Loc), 0 ≤ y4_2.toInt → y4_2.toInt ≤ 3 → y4_2.toInt.toNat < n → Iv u4 → Fz v u4 → va_P (dC, dI) vwCl (wl ad kv cy N u4) H → va_D A (wl ad kv cy N u4) → va_S A s.heap H locs → ∀ ls : Array Slot, lv_has ls 3 [(2, .int y4_2), (1, .int y1_1), (0, .ref (ad 1))] → W p l e (headSpec wsX4_sortByWeight ({ frames := 0, cells := 0, slots := 0, locals := 0 })).room s m [Value.ref (ad 1)].toArray below meth c H locs 0 0 (MQ below (va_Qv (fun (u : Nat → Nat → Int32) => Iv u ∧ Fz v u) (fun u t => ex_Pst dC dI A (wl ad kv cy N u) t) A) [Value.ref (ad 1)].toArray s 0 0 A) (F0 m 12 ls []) := by
          intro n
          induction n with
          | zero =>
            intro y4_2 u4 H locs ay4_2 by4_2 hm_4 hv hfr hP hD hS ls hl
            exact absurd hm_4 (by omega)
          | succ n ih_4 =>
            intro y4_2 u4 H locs ay4_2 by4_2 hm_4 hv hfr hP hD hS ls hl
            refine lv_iload_n hx hb dX4_sortByWeight_12 rfl (lv_at hl 0 rfl) ?_
            refine lv_if_le (tgt := 58) hx hb dX4_sortByWeight_13 (by decide) (fun c_5 => ?_) (fun c_5 => ?_)
            · have tc_5 : y4_2.toInt ≤ (0 : Int32).toInt := Int32.le_iff_toInt_le.mp c_5
              refine lv_aload_n hx hb dX4_sortByWeight_58 rfl (lv_at hl 2 rfl) ?_
              refine va_get (D := (dC, dI)) (ci := 4) (v := .ref (ad 5)) (C := RX4) (T := TX4) (N := 11) hx hb hts iwX4_sortByWeight_X4 hown hK hP (1) (wl_at (by omega) (ce_1 (by decide))) rfl 6 (by decide) (hts (.fieldLink RX4 21 "QuietStairs$Planner" "heaviestFirst" "[I") fwX4_sortByWeight_3) (fun _ h9 => h9) rfl dX4_sortByWeight_59 ?_
              refine lv_iload_n hx hb dX4_sortByWeight_62 rfl (lv_at hl 0 rfl) ?_
              refine lv_iload_n hx hb dX4_sortByWeight_63 rfl (lv_at hl 1 rfl) ?_
              obtain ⟨pi6, i6, hi6, ni6, mi6⟩ := t_in (x := y4_2) (n := 4) ⟨by omega, by omega⟩
              refine va_iast hx hb hK hP hD hS (5) 0 (wl_at (by omega) (ce_21 (by decide))) rfl pi6 dX4_sortByWeight_64 (fun H locs hP hD hS => ?_)
              obtain ⟨v_7, ev_7⟩ : ∃ u : Nat → Nat → Int32, u = upr u4 (5) (upd (u4 (5)) (y4_2.toNatClampNeg) y1_1) := ⟨_, rfl⟩
              have hP : va_P (dC, dI) vwCl (wl ad kv cy N v_7) H := by rw [ev_7, ← wl_put (e := _) (ce_21 (by decide))]; exact hP
              have hD : va_D A (wl ad kv cy N v_7) := by rw [ev_7, ← wl_put (e := _) (ce_21 (by decide))]; exact hD
              have hv : Iv v_7 := by rw [ev_7]; exact hv.put (K := 21) (by decide) (fun h q => by cases q; exact ⟨by omega, by omega⟩)
              have hfr : Fz v v_7 := by rw [ev_7]; exact hfr.put (by omega) (by omega) (by omega)
              obtain ⟨x_8, ex_8⟩ : ∃ y : Int32, y = y1_1 + 1 := ⟨_, rfl⟩
              refine lv_iinc (v := x_8) (lv' := [(1, .int x_8), (2, .int y4_2), (0, .ref (ad 1))]) hx hb dX4_sortByWeight_65 hl (k := 1) rfl (by rw [ex_8]; rfl) (by decide) rfl (fun ls hl => ?_)
              have k_1 : (1 : Int32).toInt = 1 := by decide
              have tx_8 : x_8.toInt = y1_1.toInt + (1 : Int32).toInt := by rw [ex_8]; exact t_add ⟨by omega, by omega⟩
              refine lv_goto (tgt := 2) hx hb dX4_sortByWeight_68 (by decide) ?_
              exact ih_1 x_8 v_7 H locs (by omega) (by omega) (by omega) hv hfr hP hD hS ls (lv_sub hl [0, 2] rfl)
            · have tc_5 : y4_2.toInt > (0 : Int32).toInt := Int32.lt_iff_toInt_lt.mp (Int32.not_le.mp c_5)
              refine lv_aload_n hx hb dX4_sortByWeight_16 rfl (lv_at hl 2 rfl) ?_
              refine va_get (D := (dC, dI)) (ci := 4) (v := .ref (ad 3)) (C := RX4) (T := TX4) (N := 11) hx hb hts iwX4_sortByWeight_X4 hown hK hP (1) (wl_at (by omega) (ce_1 (by decide))) rfl 4 (by decide) (hts (.fieldLink RX4 15 "QuietStairs$Planner" "weights" "[I") fwX4_sortByWeight_2) (fun _ h9 => h9) rfl dX4_sortByWeight_17 ?_
              refine lv_aload_n hx hb dX4_sortByWeight_20 rfl (lv_at hl 2 rfl) ?_
              refine va_get (D := (dC, dI)) (ci := 4) (v := .ref (ad 5)) (C := RX4) (T := TX4) (N := 11) hx hb hts iwX4_sortByWeight_X4 hown hK hP (1) (wl_at (by omega) (ce_1 (by decide))) rfl 6 (by decide) (hts (.fieldLink RX4 21 "QuietStairs$Planner" "heaviestFirst" "[I") fwX4_sortByWeight_3) (fun _ h9 => h9) rfl dX4_sortByWeight_21 ?_
              refine lv_iload_n hx hb dX4_sortByWeight_24 rfl (lv_at hl 0 rfl) ?_
              refine lv_iconst (v := 1) hx hb dX4_sortByWeight_25 (by decide) ?_
              have k_1 : (1 : Int32).toInt = 1 := by decide
              refine lv_isub hx hb dX4_sortByWeight_26 ?_
              refine lv_topi (fun x_6 ex_6 => ?_)
              have tx_6 : x_6.toInt = y4_2.toInt - (1 : Int32).toInt := by rw [ex_6]; exact t_sub ⟨by omega, by omega⟩
              obtain ⟨pi7, i7, hi7, ni7, mi7⟩ := t_in (x := x_6) (n := 4) ⟨by omega, by omega⟩
              refine va_iald hx hb hK hP (5) 0 (wl_at (by omega) (ce_21 (by decide))) rfl pi7 dX4_sortByWeight_27 ?_
              refine lv_topi (fun x_8 ex_8 => ?_)
              have bx_8 : 0 ≤ x_8.toInt ∧ x_8.toInt ≤ 3 := by rw [ex_8]; exact hv.at (K := 21) (by decide) rfl
              obtain ⟨pi9, i9, hi9, ni9, mi9⟩ := t_in (x := x_8) (n := 4) ⟨by omega, by omega⟩
              refine va_iald hx hb hK hP (3) 0 (wl_at (by omega) (ce_17 (by decide))) rfl pi9 dX4_sortByWeight_28 ?_
              refine lv_topi (fun x_10 ex_10 => ?_)
              refine lv_aload_n hx hb dX4_sortByWeight_29 rfl (lv_at hl 2 rfl) ?_
              refine va_get (D := (dC, dI)) (ci := 4) (v := .ref (ad 3)) (C := RX4) (T := TX4) (N := 11) hx hb hts iwX4_sortByWeight_X4 hown hK hP (1) (wl_at (by omega) (ce_1 (by decide))) rfl 4 (by decide) (hts (.fieldLink RX4 15 "QuietStairs$Planner" "weights" "[I") fwX4_sortByWeight_2) (fun _ h9 => h9) rfl dX4_sortByWeight_30 ?_
              refine lv_iload_n hx hb dX4_sortByWeight_33 rfl (lv_at hl 1 rfl) ?_
              obtain ⟨pi11, i11, hi11, ni11, mi11⟩ := t_in (x := y1_1) (n := 4) ⟨by omega, by omega⟩
              refine va_iald hx hb hK hP (3) 0 (wl_at (by omega) (ce_17 (by decide))) rfl pi11 dX4_sortByWeight_34 ?_
              refine lv_topi (fun x_12 ex_12 => ?_)
              refine lv_icmp_ge (tgt := 58) hx hb dX4_sortByWeight_35 (by decide) (fun c_13 => ?_) (fun c_13 => ?_)
              · have tc_13 : x_10.toInt ≥ x_12.toInt := Int32.le_iff_toInt_le.mp c_13
                refine lv_aload_n hx hb dX4_sortByWeight_58 rfl (lv_at hl 2 rfl) ?_
                refine va_get (D := (dC, dI)) (ci := 4) (v := .ref (ad 5)) (C := RX4) (T := TX4) (N := 11) hx hb hts iwX4_sortByWeight_X4 hown hK hP (1) (wl_at (by omega) (ce_1 (by decide))) rfl 6 (by decide) (hts (.fieldLink RX4 21 "QuietStairs$Planner" "heaviestFirst" "[I") fwX4_sortByWeight_3) (fun _ h9 => h9) rfl dX4_sortByWeight_59 ?_
                refine lv_iload_n hx hb dX4_sortByWeight_62 rfl (lv_at hl 0 rfl) ?_
                refine lv_iload_n hx hb dX4_sortByWeight_63 rfl (lv_at hl 1 rfl) ?_
                obtain ⟨pi14, i14, hi14, ni14, mi14⟩ := t_in (x := y4_2) (n := 4) ⟨by omega, by omega⟩
                refine va_iast hx hb hK hP hD hS (5) 0 (wl_at (by omega) (ce_21 (by decide))) rfl pi14 dX4_sortByWeight_64 (fun H locs hP hD hS => ?_)
                obtain ⟨v_15, ev_15⟩ : ∃ u : Nat → Nat → Int32, u = upr u4 (5) (upd (u4 (5)) (y4_2.toNatClampNeg) y1_1) := ⟨_, rfl⟩
                have hP : va_P (dC, dI) vwCl (wl ad kv cy N v_15) H := by rw [ev_15, ← wl_put (e := _) (ce_21 (by decide))]; exact hP
                have hD : va_D A (wl ad kv cy N v_15) := by rw [ev_15, ← wl_put (e := _) (ce_21 (by decide))]; exact hD
                have hv : Iv v_15 := by rw [ev_15]; exact hv.put (K := 21) (by decide) (fun h q => by cases q; exact ⟨by omega, by omega⟩)
                have hfr : Fz v v_15 := by rw [ev_15]; exact hfr.put (by omega) (by omega) (by omega)
                obtain ⟨x_16, ex_16⟩ : ∃ y : Int32, y = y1_1 + 1 := ⟨_, rfl⟩
                refine lv_iinc (v := x_16) (lv' := [(1, .int x_16), (2, .int y4_2), (0, .ref (ad 1))]) hx hb dX4_sortByWeight_65 hl (k := 1) rfl (by rw [ex_16]; rfl) (by decide) rfl (fun ls hl => ?_)
                have tx_16 : x_16.toInt = y1_1.toInt + (1 : Int32).toInt := by rw [ex_16]; exact t_add ⟨by omega, by omega⟩
                refine lv_goto (tgt := 2) hx hb dX4_sortByWeight_68 (by decide) ?_
                exact ih_1 x_16 v_15 H locs (by omega) (by omega) (by omega) hv hfr hP hD hS ls (lv_sub hl [0, 2] rfl)
              · have tc_13 : x_10.toInt < x_12.toInt := Int32.lt_iff_toInt_lt.mp (Int32.not_le.mp c_13)
                refine lv_aload_n hx hb dX4_sortByWeight_38 rfl (lv_at hl 2 rfl) ?_
                refine va_get (D := (dC, dI)) (ci := 4) (v := .ref (ad 5)) (C := RX4) (T := TX4) (N := 11) hx hb hts iwX4_sortByWeight_X4 hown hK hP (1) (wl_at (by omega) (ce_1 (by decide))) rfl 6 (by decide) (hts (.fieldLink RX4 21 "QuietStairs$Planner" "heaviestFirst" "[I") fwX4_sortByWeight_3) (fun _ h9 => h9) rfl dX4_sortByWeight_39 ?_
                refine lv_iload_n hx hb dX4_sortByWeight_42 rfl (lv_at hl 0 rfl) ?_
                refine lv_aload_n hx hb dX4_sortByWeight_43 rfl (lv_at hl 2 rfl) ?_
                refine va_get (D := (dC, dI)) (ci := 4) (v := .ref (ad 5)) (C := RX4) (T := TX4) (N := 11) hx hb hts iwX4_sortByWeight_X4 hown hK hP (1) (wl_at (by omega) (ce_1 (by decide))) rfl 6 (by decide) (hts (.fieldLink RX4 21 "QuietStairs$Planner" "heaviestFirst" "[I") fwX4_sortByWeight_3) (fun _ h9 => h9) rfl dX4_sortByWeight_44 ?_
                refine lv_iload_n hx hb dX4_sortByWeight_47 rfl (lv_at hl 0 rfl) ?_
                refine lv_iconst (v := 1) hx hb dX4_sortByWeight_48 (by decide) ?_
                refine lv_isub hx hb dX4_sortByWeight_49 ?_
                refine lv_topi (fun x_14 ex_14 => ?_)
                have tx_14 : x_14.toInt = y4_2.toInt - (1 : Int32).toInt := by rw [ex_14]; exact t_sub ⟨by omega, by omega⟩
                obtain ⟨pi15, i15, hi15, ni15, mi15⟩ := t_in (x := x_14) (n := 4) ⟨by omega, by omega⟩
                refine va_iald hx hb hK hP (5) 0 (wl_at (by omega) (ce_21 (by decide))) rfl pi15 dX4_sortByWeight_50 ?_
                refine lv_topi (fun x_16 ex_16 => ?_)
                have bx_16 : 0 ≤ x_16.toInt ∧ x_16.toInt ≤ 3 := by rw [ex_16]; exact hv.at (K := 21) (by decide) rfl
                obtain ⟨pi17, i17, hi17, ni17, mi17⟩ := t_in (x := y4_2) (n := 4) ⟨by omega, by omega⟩
                refine va_iast hx hb hK hP hD hS (5) 0 (wl_at (by omega) (ce_21 (by decide))) rfl pi17 dX4_sortByWeight_51 (fun H locs hP hD hS => ?_)
                obtain ⟨v_18, ev_18⟩ : ∃ u : Nat → Nat → Int32, u = upr u4 (5) (upd (u4 (5)) (y4_2.toNatClampNeg) x_16) := ⟨_, rfl⟩
                have hP : va_P (dC, dI) vwCl (wl ad kv cy N v_18) H := by rw [ev_18, ← wl_put (e := _) (ce_21 (by decide))]; exact hP
                have hD : va_D A (wl ad kv cy N v_18) := by rw [ev_18, ← wl_put (e := _) (ce_21 (by decide))]; exact hD
                have hv : Iv v_18 := by rw [ev_18]; exact hv.put (K := 21) (by decide) (fun h q => by cases q; exact ⟨by omega, by omega⟩)
                have hfr : Fz v v_18 := by rw [ev_18]; exact hfr.put (by omega) (by omega) (by omega)
                obtain ⟨x_19, ex_19⟩ : ∃ y : Int32, y = y4_2 + (-1) := ⟨_, rfl⟩
                refine lv_iinc (v := x_19) (lv' := [(2, .int x_19), (1, .int y1_1), (0, .ref (ad 1))]) hx hb dX4_sortByWeight_52 hl (k := 0) rfl (by rw [ex_19]; rfl) (by decide) rfl (fun ls hl => ?_)
                have k_m1 : ((-1) : Int32).toInt = -1 := by decide
                have tx_19 : x_19.toInt = y4_2.toInt + ((-1) : Int32).toInt := by rw [ex_19]; exact t_add ⟨by omega, by omega⟩
                refine lv_goto (tgt := 12) hx hb dX4_sortByWeight_55 (by decide) ?_
                exact ih_4 x_19 v_18 H locs (by omega) (by omega) (by omega) hv hfr hP hD hS ls (lv_sub hl [0, 1, 2] rfl)
        exact hloop_4 ((y1_1 : Int32).toInt.toNat + 1) y1_1 u1 _ _ (by omega) (by omega) (by omega) hv hfr hP hD hS ls hl
  exact hloop_1 ((4 - (0 : Int32).toInt).toNat + 1) 0 v _ _ (by omega) (by omega) (by omega) hv hfr hP hD hS ls hl

set_option maxHeartbeats 4000000 in
set_option maxRecDepth 100000 in
theorem g_X4_leastBehind (l : Launch) (dC : Nat → ClassId) (dI : Nat → Nat → Nat) (cy : Nat → ClassId) (sz : Nat) (ad : Nat → Nat) (kv : Value) (N : Nat) (hN : 119 ≤ N) (v : Nat → Nat → Int32) (hv : Iv v) (x0 : Int32) : Met l yX4_leastBehind wsX4_leastBehind ({ frames := 0, cells := 0, slots := 0, locals := 0 }) (va_Pc [.ref (ad 1), .int x0] (ex_Pre dC dI cy sz (wl ad kv cy N v))) (va_Qi (fun (r : Int32) (u : Nat → Nat → Int32) => Iv u ∧ Fz v u) (fun u t => ex_Pst dC dI (va_A (wl ad kv cy N v) sz) (wl ad kv cy N u) t) (va_A (wl ad kv cy N v) sz)) 0 0 (va_A (wl ad kv cy N v) sz) := by
  refine Met.ofW (cc := cX4_leastBehind) (maxL := 8) (ret := (some .int)) (by decide) rfl ?_
  intro p e s m args below meth c s₁ B hml hv
  obtain ⟨rfl, hsz, hE, hP, hK, hD0⟩ := hv
  have hx := B.exec
  have hb := B.bytes
  have hr := B.returns
  have hts := atoms_spec (ws := wsX4_leastBehind) B.pre
  have hown : s.vm.findClass RX4 = some m.cls := findClass_of_methodNamed B.named
  have hlocks := B.notSynchronized
  subst hsz
  have hD := hD0.self (sz := s.heap.size)
  generalize hAe : va_A (wl ad kv cy N v) s.heap.size = A at hD ⊢
  have hA : ∀ q : Nat, s.heap.size ≤ q → A q := fun q h => by rw [← hAe]; exact Or.inr h
  have hS : va_S A s.heap s.heap [] := va_S.rf
  have hP : va_P (dC, dI) vwCl (wl ad kv cy N v) s.heap := hP
  have hl := lv_entry ([.ref (ad 1), .int x0]) (n := 8) (Nat.le_of_ble_eq_true rfl)
  rw [lg_entry_eq]
  generalize (lg_sl ([.ref (ad 1), .int x0]) ++ List.replicate (8 - (lg_sl ([.ref (ad 1), .int x0])).length) Slot.unset).toArray = ls at hl ⊢
  have hl : lv_has ls 8 [(0, .ref (ad 1)), (1, .int x0)] := hl
  have hfr : Fz v v := Fz.rf
  refine lv_iconst (v := 0) hx hb dX4_leastBehind_0 (by decide) ?_
  refine lv_istore_n (lv' := [(2, .int 0), (0, .ref (ad 1)), (1, .int x0)]) hx hb dX4_leastBehind_1 rfl hl (by decide) rfl (fun ls hl => ?_)
  refine lv_iconst (v := 0) hx hb dX4_leastBehind_2 (by decide) ?_
  refine lv_istore_n (lv' := [(3, .int 0), (2, .int 0), (0, .ref (ad 1)), (1, .int x0)]) hx hb dX4_leastBehind_3 rfl hl (by decide) rfl (fun ls hl => ?_)
  refine lv_aload_n hx hb dX4_leastBehind_4 rfl (lv_at hl 2 rfl) ?_
  refine va_get (D := (dC, dI)) (ci := 4) (v := .ref (ad 9)) (C := RX4) (T := TX4) (N := 11) hx hb hts iwX4_leastBehind_X4 hown hK hP (1) (wl_at (by omega) (ce_1 (by decide))) rfl 10 (by decide) (hts (.fieldLink RX4 33 "QuietStairs$Planner" "sittings" "[I") fwX4_leastBehind_1) (fun _ h9 => h9) rfl dX4_leastBehind_5 ?_
  refine lv_iconst (v := 0) hx hb dX4_leastBehind_8 (by decide) ?_
  refine va_iald hx hb hK hP (9) 0 (wl_at (by omega) (ce_18 (by decide))) rfl (by unfold vp_in; decide) dX4_leastBehind_9 ?_
  refine lv_topi (fun x_1 ex_1 => ?_)
  refine lv_istore (lv' := [(4, .int x_1), (3, .int 0), (2, .int 0), (0, .ref (ad 1)), (1, .int x0)]) hx hb dX4_leastBehind_10 hl (by decide) rfl (fun ls hl => ?_)
  refine lv_iconst (v := 0) hx hb dX4_leastBehind_12 (by decide) ?_
  refine lv_istore (lv' := [(5, .int 0), (4, .int x_1), (3, .int 0), (2, .int 0), (0, .ref (ad 1)), (1, .int x0)]) hx hb dX4_leastBehind_13 hl (by decide) rfl (fun ls hl => ?_)
  have k_0 : (0 : Int32).toInt = 0 := by decide
  have hloop_2 : ∀ (n : Nat) (y2_5 y2_2 y2_3 y2_4 : Int32) (u2 : Nat → Nat → Int32) (H : Heap) (locs : List Loc), 0 ≤ y2_5.toInt → y2_5.toInt ≤ 4 → 0 ≤ y2_3.toInt → y2_3.toInt ≤ 3 → (4 - y2_5.toInt).toNat < n → Iv u2 → Fz v u2 → va_P (dC, dI) vwCl (wl ad kv cy N u2) H → va_D A (wl ad kv cy N u2) → va_S A s.heap H locs → ∀ ls : Array Slot, lv_has ls 8 [(5, .int y2_5), (4, .int y2_4), (3, .int y2_3), (2, .int y2_2), (0, .ref (ad 1)), (1, .int x0)] → W p l e (headSpec wsX4_leastBehind ({ frames := 0, cells := 0, slots := 0, locals := 0 })).room s m [Value.ref (ad 1), Value.int x0].toArray below meth c H locs 0 0 (MQ below (va_Qi (fun (r : Int32) (u : Nat → Nat → Int32) => Iv u ∧ Fz v u) (fun u t => ex_Pst dC dI A (wl ad kv cy N u) t) A) [Value.ref (ad 1), Value.int x0].toArray s 0 0 A) (F0 m 15 ls []) := by
    intro n
    induction n with
    | zero =>
      intro y2_5 y2_2 y2_3 y2_4 u2 H locs ay2_5 by2_5 ay2_3 by2_3 hm_2 hv hfr hP hD hS ls hl
      exact absurd hm_2 (by omega)
    | succ n ih_2 =>
      intro y2_5 y2_2 y2_3 y2_4 u2 H locs ay2_5 by2_5 ay2_3 by2_3 hm_2 hv hfr hP hD hS ls hl
      refine lv_iload hx hb dX4_leastBehind_15 (lv_at hl 0 rfl) ?_
      refine lv_aload_n hx hb dX4_leastBehind_17 rfl (lv_at hl 4 rfl) ?_
      refine va_get (D := (dC, dI)) (ci := 4) (v := .int (u2 (1) 1)) (C := RX4) (T := TX4) (N := 11) hx hb hts iwX4_leastBehind_X4 hown hK hP (1) (wl_at (by omega) (ce_1 (by decide))) rfl 1 (by decide) (hts (.fieldLink RX4 61 "QuietStairs$Planner" "count" "I") fwX4_leastBehind_2) (fun _ h9 => h9) rfl dX4_leastBehind_18 ?_
      refine lv_topi (fun x_3 ex_3 => ?_)
      have bx_3 : 0 ≤ x_3.toInt ∧ x_3.toInt ≤ 4 := by rw [ex_3]; exact hv.at (K := 1) (by decide) rfl
      refine lv_icmp_ge (tgt := 140) hx hb dX4_leastBehind_21 (by decide) (fun c_4 => ?_) (fun c_4 => ?_)
      · have tc_4 : y2_5.toInt ≥ x_3.toInt := Int32.le_iff_toInt_le.mp c_4
        refine lv_iload_n hx hb dX4_leastBehind_140 rfl (lv_at hl 3 rfl) ?_
        exact W.iret (v := y2_2) hx hb hr (fun t ht hW => ⟨⟨y2_2, u2, rfl, ⟨hv, hfr⟩, by rw [ht]; exact hP, hD⟩, hS.F ht⟩) hS.2.2 dX4_leastBehind_141
      · have tc_4 : y2_5.toInt < x_3.toInt := Int32.lt_iff_toInt_lt.mp (Int32.not_le.mp c_4)
        refine lv_aload_n hx hb dX4_leastBehind_24 rfl (lv_at hl 4 rfl) ?_
        refine va_get (D := (dC, dI)) (ci := 4) (v := .ref (ad 5)) (C := RX4) (T := TX4) (N := 11) hx hb hts iwX4_leastBehind_X4 hown hK hP (1) (wl_at (by omega) (ce_1 (by decide))) rfl 6 (by decide) (hts (.fieldLink RX4 21 "QuietStairs$Planner" "heaviestFirst" "[I") fwX4_leastBehind_3) (fun _ h9 => h9) rfl dX4_leastBehind_25 ?_
        refine lv_iload hx hb dX4_leastBehind_28 (lv_at hl 0 rfl) ?_
        obtain ⟨pi5, i5, hi5, ni5, mi5⟩ := t_in (x := y2_5) (n := 4) ⟨by omega, by omega⟩
        refine va_iald hx hb hK hP (5) 0 (wl_at (by omega) (ce_21 (by decide))) rfl pi5 dX4_leastBehind_30 ?_
        refine lv_topi (fun x_6 ex_6 => ?_)
        have bx_6 : 0 ≤ x_6.toInt ∧ x_6.toInt ≤ 3 := by rw [ex_6]; exact hv.at (K := 21) (by decide) rfl
        refine lv_istore (lv' := [(6, .int x_6), (5, .int y2_5), (4, .int y2_4), (3, .int y2_3), (2, .int y2_2), (0, .ref (ad 1)), (1, .int x0)]) hx hb dX4_leastBehind_31 hl (by decide) rfl (fun ls hl => ?_)
        refine lv_iload hx hb dX4_leastBehind_33 (lv_at hl 0 rfl) ?_
        refine lv_iload_n hx hb dX4_leastBehind_35 rfl (lv_at hl 6 rfl) ?_
        refine lv_icmp_lt (tgt := 134) hx hb dX4_leastBehind_36 (by decide) (fun c_7 => ?_) (fun c_7 => ?_)
        · have tc_7 : x_6.toInt < x0.toInt := Int32.lt_iff_toInt_lt.mp c_7
          obtain ⟨x_8, ex_8⟩ : ∃ y : Int32, y = y2_5 + 1 := ⟨_, rfl⟩
          refine lv_iinc (v := x_8) (lv' := [(5, .int x_8), (6, .int x_6), (4, .int y2_4), (3, .int y2_3), (2, .int y2_2), (0, .ref (ad 1)), (1, .int x0)]) hx hb dX4_leastBehind_134 hl (k := 1) rfl (by rw [ex_8]; rfl) (by decide) rfl (fun ls hl => ?_)
          have k_1 : (1 : Int32).toInt = 1 := by decide
          have tx_8 : x_8.toInt = y2_5.toInt + (1 : Int32).toInt := by rw [ex_8]; exact t_add ⟨by omega, by omega⟩
          refine lv_goto (tgt := 15) hx hb dX4_leastBehind_137 (by decide) ?_
          exact ih_2 x_8 y2_2 y2_3 y2_4 u2 H locs (by omega) (by omega) (by omega) (by omega) (by omega) hv hfr hP hD hS ls (lv_sub hl [0, 2, 3, 4, 5, 6] rfl)
        · have tc_7 : x_6.toInt ≥ x0.toInt := Int32.le_iff_toInt_le.mp (Int32.not_lt.mp c_7)
          have hloop_8 : ∀ (n : Nat) (y8_3 y8_4 : Int32) (u8 : Nat → Nat → Int32) (H : Heap) (locs : List Loc), 0 ≤ y8_3.toInt → y8_3.toInt ≤ 3 → (3 - y8_3.toInt).toNat < n → Iv u8 → Fz v u8 → va_P (dC, dI) vwCl (wl ad kv cy N u8) H → va_D A (wl ad kv cy N u8) → va_S A s.heap H locs → ∀ ls : Array Slot, lv_has ls 8 [(6, .int x_6), (5, .int y2_5), (4, .int y8_4), (3, .int y8_3), (2, .int y2_2), (0, .ref (ad 1)), (1, .int x0)] → W p l e (headSpec wsX4_leastBehind ({ frames := 0, cells := 0, slots := 0, locals := 0 })).room s m [Value.ref (ad 1), Value.int x0].toArray below meth c H locs 0 0 (MQ below (va_Qi (fun (r : Int32) (u : Nat → Nat → Int32) => Iv u ∧ Fz v u) (fun u t => ex_Pst dC dI A (wl ad kv cy N u) t) A) [Value.ref (ad 1), Value.int x0].toArray s 0 0 A) (F0 m 39 ls []) := by
            intro n
            induction n with
            | zero =>
              intro y8_3 y8_4 u8 H locs ay8_3 by8_3 hm_8 hv hfr hP hD hS ls hl
              exact absurd hm_8 (by omega)
            | succ n ih_8 =>
              intro y8_3 y8_4 u8 H locs ay8_3 by8_3 hm_8 hv hfr hP hD hS ls hl
              refine lv_iload_n hx hb dX4_leastBehind_39 rfl (lv_at hl 3 rfl) ?_
              refine lv_iconst (v := 3) hx hb dX4_leastBehind_40 (by decide) ?_
              have k_3 : (3 : Int32).toInt = 3 := by decide
              refine lv_icmp_ge (tgt := 76) hx hb dX4_leastBehind_41 (by decide) (fun c_9 => ?_) (fun c_9 => ?_)
              · have tc_9 : y8_3.toInt ≥ (3 : Int32).toInt := Int32.le_iff_toInt_le.mp c_9
                refine lv_iload_n hx hb dX4_leastBehind_76 rfl (lv_at hl 3 rfl) ?_
                refine lv_iconst (v := 3) hx hb dX4_leastBehind_77 (by decide) ?_
                refine lv_icmp_ge (tgt := 95) hx hb dX4_leastBehind_78 (by decide) (fun c_10 => ?_) (fun c_10 => ?_)
                · have tc_10 : y8_3.toInt ≥ (3 : Int32).toInt := Int32.le_iff_toInt_le.mp c_10
                  refine lv_iconst (v := 0) hx hb dX4_leastBehind_95 (by decide) ?_
                  refine lv_istore (lv' := [(7, .int 0), (6, .int x_6), (5, .int y2_5), (4, .int y8_4), (3, .int y8_3), (2, .int y2_2), (0, .ref (ad 1)), (1, .int x0)]) hx hb dX4_leastBehind_96 hl (by decide) rfl (fun ls hl => ?_)
                  refine lv_iload_n hx hb dX4_leastBehind_98 rfl (lv_at hl 5 rfl) ?_
                  refine lv_aload_n hx hb dX4_leastBehind_99 rfl (lv_at hl 6 rfl) ?_
                  refine va_get (D := (dC, dI)) (ci := 4) (v := .ref (ad 3)) (C := RX4) (T := TX4) (N := 11) hx hb hts iwX4_leastBehind_X4 hown hK hP (1) (wl_at (by omega) (ce_1 (by decide))) rfl 4 (by decide) (hts (.fieldLink RX4 15 "QuietStairs$Planner" "weights" "[I") fwX4_leastBehind_6) (fun _ h9 => h9) rfl dX4_leastBehind_100 ?_
                  refine lv_iload hx hb dX4_leastBehind_103 (lv_at hl 1 rfl) ?_
                  obtain ⟨pi11, i11, hi11, ni11, mi11⟩ := t_in (x := x_6) (n := 4) ⟨by omega, by omega⟩
                  refine va_iald hx hb hK hP (3) 0 (wl_at (by omega) (ce_17 (by decide))) rfl pi11 dX4_leastBehind_105 ?_
                  refine lv_topi (fun x_12 ex_12 => ?_)
                  refine lv_iload hx hb dX4_leastBehind_106 (lv_at hl 0 rfl) ?_
                  refine lv_if_eq (tgt := 115) hx hb dX4_leastBehind_108 (by decide) (fun _ => ?_) (fun c9 => absurd c9 (by decide))
                  refine lv_iconst (v := 4) hx hb dX4_leastBehind_115 (by decide) ?_
                  refine lv_imul hx hb dX4_leastBehind_116 ?_
                  refine lv_topi (fun x_13 ex_13 => ?_)
                  refine lv_iadd hx hb dX4_leastBehind_117 ?_
                  refine lv_topi (fun x_14 ex_14 => ?_)
                  refine lv_istore_n (lv' := [(2, .int x_14), (7, .int 0), (6, .int x_6), (5, .int y2_5), (4, .int y8_4), (3, .int y8_3), (0, .ref (ad 1)), (1, .int x0)]) hx hb dX4_leastBehind_118 rfl hl (by decide) rfl (fun ls hl => ?_)
                  refine lv_iload hx hb dX4_leastBehind_119 (lv_at hl 4 rfl) ?_
                  refine lv_iload hx hb dX4_leastBehind_121 (lv_at hl 1 rfl) ?_
                  refine lv_if_eq (tgt := 130) hx hb dX4_leastBehind_123 (by decide) (fun _ => ?_) (fun c9 => absurd c9 (by decide))
                  refine lv_iconst (v := 0) hx hb dX4_leastBehind_130 (by decide) ?_
                  refine lv_iadd hx hb dX4_leastBehind_131 ?_
                  refine lv_topi (fun x_15 ex_15 => ?_)
                  refine lv_istore (lv' := [(4, .int x_15), (2, .int x_14), (7, .int 0), (6, .int x_6), (5, .int y2_5), (3, .int y8_3), (0, .ref (ad 1)), (1, .int x0)]) hx hb dX4_leastBehind_132 hl (by decide) rfl (fun ls hl => ?_)
                  obtain ⟨x_16, ex_16⟩ : ∃ y : Int32, y = y2_5 + 1 := ⟨_, rfl⟩
                  refine lv_iinc (v := x_16) (lv' := [(5, .int x_16), (4, .int x_15), (2, .int x_14), (7, .int 0), (6, .int x_6), (3, .int y8_3), (0, .ref (ad 1)), (1, .int x0)]) hx hb dX4_leastBehind_134 hl (k := 4) rfl (by rw [ex_16]; rfl) (by decide) rfl (fun ls hl => ?_)
                  have k_1 : (1 : Int32).toInt = 1 := by decide
                  have tx_16 : x_16.toInt = y2_5.toInt + (1 : Int32).toInt := by rw [ex_16]; exact t_add ⟨by omega, by omega⟩
                  refine lv_goto (tgt := 15) hx hb dX4_leastBehind_137 (by decide) ?_
                  exact ih_2 x_16 x_14 y8_3 x_15 u8 H locs (by omega) (by omega) (by omega) (by omega) (by omega) hv hfr hP hD hS ls (lv_sub hl [0, 1, 5, 2, 6, 7] rfl)
                · have tc_10 : y8_3.toInt < (3 : Int32).toInt := Int32.lt_iff_toInt_lt.mp (Int32.not_le.mp c_10)
                  refine lv_aload_n hx hb dX4_leastBehind_81 rfl (lv_at hl 5 rfl) ?_
                  refine va_get (D := (dC, dI)) (ci := 4) (v := .ref (ad 4)) (C := RX4) (T := TX4) (N := 11) hx hb hts iwX4_leastBehind_X4 hown hK hP (1) (wl_at (by omega) (ce_1 (by decide))) rfl 5 (by decide) (hts (.fieldLink RX4 18 "QuietStairs$Planner" "pairBits" "[I") fwX4_leastBehind_5) (fun _ h9 => h9) rfl dX4_leastBehind_82 ?_
                  refine lv_iload hx hb dX4_leastBehind_85 (lv_at hl 0 rfl) ?_
                  obtain ⟨pi11, i11, hi11, ni11, mi11⟩ := t_in (x := x_6) (n := 4) ⟨by omega, by omega⟩
                  refine va_iald hx hb hK hP (4) 0 (wl_at (by omega) (ce_17 (by decide))) rfl pi11 dX4_leastBehind_87 ?_
                  refine lv_topi (fun x_12 ex_12 => ?_)
                  refine lv_if_eq (tgt := 95) hx hb dX4_leastBehind_88 (by decide) (fun c_13 => ?_) (fun c_13 => ?_)
                  · have tc_13 : x_12.toInt = (0 : Int32).toInt := by rw [c_13]
                    refine lv_iconst (v := 0) hx hb dX4_leastBehind_95 (by decide) ?_
                    refine lv_istore (lv' := [(7, .int 0), (6, .int x_6), (5, .int y2_5), (4, .int y8_4), (3, .int y8_3), (2, .int y2_2), (0, .ref (ad 1)), (1, .int x0)]) hx hb dX4_leastBehind_96 hl (by decide) rfl (fun ls hl => ?_)
                    refine lv_iload_n hx hb dX4_leastBehind_98 rfl (lv_at hl 5 rfl) ?_
                    refine lv_aload_n hx hb dX4_leastBehind_99 rfl (lv_at hl 6 rfl) ?_
                    refine va_get (D := (dC, dI)) (ci := 4) (v := .ref (ad 3)) (C := RX4) (T := TX4) (N := 11) hx hb hts iwX4_leastBehind_X4 hown hK hP (1) (wl_at (by omega) (ce_1 (by decide))) rfl 4 (by decide) (hts (.fieldLink RX4 15 "QuietStairs$Planner" "weights" "[I") fwX4_leastBehind_6) (fun _ h9 => h9) rfl dX4_leastBehind_100 ?_
                    refine lv_iload hx hb dX4_leastBehind_103 (lv_at hl 1 rfl) ?_
                    refine va_iald hx hb hK hP (3) 0 (wl_at (by omega) (ce_17 (by decide))) rfl pi11 dX4_leastBehind_105 ?_
                    refine lv_topi (fun x_14 ex_14 => ?_)
                    refine lv_iload hx hb dX4_leastBehind_106 (lv_at hl 0 rfl) ?_
                    refine lv_if_eq (tgt := 115) hx hb dX4_leastBehind_108 (by decide) (fun _ => ?_) (fun c9 => absurd c9 (by decide))
                    refine lv_iconst (v := 4) hx hb dX4_leastBehind_115 (by decide) ?_
                    refine lv_imul hx hb dX4_leastBehind_116 ?_
                    refine lv_topi (fun x_15 ex_15 => ?_)
                    refine lv_iadd hx hb dX4_leastBehind_117 ?_
                    refine lv_topi (fun x_16 ex_16 => ?_)
                    refine lv_istore_n (lv' := [(2, .int x_16), (7, .int 0), (6, .int x_6), (5, .int y2_5), (4, .int y8_4), (3, .int y8_3), (0, .ref (ad 1)), (1, .int x0)]) hx hb dX4_leastBehind_118 rfl hl (by decide) rfl (fun ls hl => ?_)
                    refine lv_iload hx hb dX4_leastBehind_119 (lv_at hl 4 rfl) ?_
                    refine lv_iload hx hb dX4_leastBehind_121 (lv_at hl 1 rfl) ?_
                    refine lv_if_eq (tgt := 130) hx hb dX4_leastBehind_123 (by decide) (fun _ => ?_) (fun c9 => absurd c9 (by decide))
                    refine lv_iconst (v := 0) hx hb dX4_leastBehind_130 (by decide) ?_
                    refine lv_iadd hx hb dX4_leastBehind_131 ?_
                    refine lv_topi (fun x_17 ex_17 => ?_)
                    refine lv_istore (lv' := [(4, .int x_17), (2, .int x_16), (7, .int 0), (6, .int x_6), (5, .int y2_5), (3, .int y8_3), (0, .ref (ad 1)), (1, .int x0)]) hx hb dX4_leastBehind_132 hl (by decide) rfl (fun ls hl => ?_)
                    obtain ⟨x_18, ex_18⟩ : ∃ y : Int32, y = y2_5 + 1 := ⟨_, rfl⟩
                    refine lv_iinc (v := x_18) (lv' := [(5, .int x_18), (4, .int x_17), (2, .int x_16), (7, .int 0), (6, .int x_6), (3, .int y8_3), (0, .ref (ad 1)), (1, .int x0)]) hx hb dX4_leastBehind_134 hl (k := 4) rfl (by rw [ex_18]; rfl) (by decide) rfl (fun ls hl => ?_)
                    have k_1 : (1 : Int32).toInt = 1 := by decide
                    have tx_18 : x_18.toInt = y2_5.toInt + (1 : Int32).toInt := by rw [ex_18]; exact t_add ⟨by omega, by omega⟩
                    refine lv_goto (tgt := 15) hx hb dX4_leastBehind_137 (by decide) ?_
                    exact ih_2 x_18 x_16 y8_3 x_17 u8 H locs (by omega) (by omega) (by omega) (by omega) (by omega) hv hfr hP hD hS ls (lv_sub hl [0, 1, 5, 2, 6, 7] rfl)
                  · have tc_13 : x_12.toInt ≠ (0 : Int32).toInt := fun q => absurd (Int32.toInt_inj.mp q) c_13
                    refine lv_iconst (v := 1) hx hb dX4_leastBehind_91 (by decide) ?_
                    refine lv_goto (tgt := 96) hx hb dX4_leastBehind_92 (by decide) ?_
                    refine lv_istore (lv' := [(7, .int 1), (6, .int x_6), (5, .int y2_5), (4, .int y8_4), (3, .int y8_3), (2, .int y2_2), (0, .ref (ad 1)), (1, .int x0)]) hx hb dX4_leastBehind_96 hl (by decide) rfl (fun ls hl => ?_)
                    refine lv_iload_n hx hb dX4_leastBehind_98 rfl (lv_at hl 5 rfl) ?_
                    refine lv_aload_n hx hb dX4_leastBehind_99 rfl (lv_at hl 6 rfl) ?_
                    refine va_get (D := (dC, dI)) (ci := 4) (v := .ref (ad 3)) (C := RX4) (T := TX4) (N := 11) hx hb hts iwX4_leastBehind_X4 hown hK hP (1) (wl_at (by omega) (ce_1 (by decide))) rfl 4 (by decide) (hts (.fieldLink RX4 15 "QuietStairs$Planner" "weights" "[I") fwX4_leastBehind_6) (fun _ h9 => h9) rfl dX4_leastBehind_100 ?_
                    refine lv_iload hx hb dX4_leastBehind_103 (lv_at hl 1 rfl) ?_
                    refine va_iald hx hb hK hP (3) 0 (wl_at (by omega) (ce_17 (by decide))) rfl pi11 dX4_leastBehind_105 ?_
                    refine lv_topi (fun x_14 ex_14 => ?_)
                    refine lv_iload hx hb dX4_leastBehind_106 (lv_at hl 0 rfl) ?_
                    refine lv_if_eq (tgt := 115) hx hb dX4_leastBehind_108 (by decide) (fun c9 => absurd c9 (by decide)) (fun _ => ?_)
                    refine lv_iload_n hx hb dX4_leastBehind_111 rfl (lv_at hl 4 rfl) ?_
                    refine lv_goto (tgt := 116) hx hb dX4_leastBehind_112 (by decide) ?_
                    refine lv_imul hx hb dX4_leastBehind_116 ?_
                    refine lv_topi (fun x_15 ex_15 => ?_)
                    refine lv_iadd hx hb dX4_leastBehind_117 ?_
                    refine lv_topi (fun x_16 ex_16 => ?_)
                    refine lv_istore_n (lv' := [(2, .int x_16), (7, .int 1), (6, .int x_6), (5, .int y2_5), (4, .int y8_4), (3, .int y8_3), (0, .ref (ad 1)), (1, .int x0)]) hx hb dX4_leastBehind_118 rfl hl (by decide) rfl (fun ls hl => ?_)
                    refine lv_iload hx hb dX4_leastBehind_119 (lv_at hl 4 rfl) ?_
                    refine lv_iload hx hb dX4_leastBehind_121 (lv_at hl 1 rfl) ?_
                    refine lv_if_eq (tgt := 130) hx hb dX4_leastBehind_123 (by decide) (fun c9 => absurd c9 (by decide)) (fun _ => ?_)
                    refine lv_iconst (v := 1) hx hb dX4_leastBehind_126 (by decide) ?_
                    refine lv_goto (tgt := 131) hx hb dX4_leastBehind_127 (by decide) ?_
                    have k_1 : (1 : Int32).toInt = 1 := by decide
                    refine lv_iadd hx hb dX4_leastBehind_131 ?_
                    refine lv_topi (fun x_17 ex_17 => ?_)
                    refine lv_istore (lv' := [(4, .int x_17), (2, .int x_16), (7, .int 1), (6, .int x_6), (5, .int y2_5), (3, .int y8_3), (0, .ref (ad 1)), (1, .int x0)]) hx hb dX4_leastBehind_132 hl (by decide) rfl (fun ls hl => ?_)
                    obtain ⟨x_18, ex_18⟩ : ∃ y : Int32, y = y2_5 + 1 := ⟨_, rfl⟩
                    refine lv_iinc (v := x_18) (lv' := [(5, .int x_18), (4, .int x_17), (2, .int x_16), (7, .int 1), (6, .int x_6), (3, .int y8_3), (0, .ref (ad 1)), (1, .int x0)]) hx hb dX4_leastBehind_134 hl (k := 4) rfl (by rw [ex_18]; rfl) (by decide) rfl (fun ls hl => ?_)
                    have tx_18 : x_18.toInt = y2_5.toInt + (1 : Int32).toInt := by rw [ex_18]; exact t_add ⟨by omega, by omega⟩
                    refine lv_goto (tgt := 15) hx hb dX4_leastBehind_137 (by decide) ?_
                    exact ih_2 x_18 x_16 y8_3 x_17 u8 H locs (by omega) (by omega) (by omega) (by omega) (by omega) hv hfr hP hD hS ls (lv_sub hl [0, 1, 5, 2, 6, 7] rfl)
              · have tc_9 : y8_3.toInt < (3 : Int32).toInt := Int32.lt_iff_toInt_lt.mp (Int32.not_le.mp c_9)
                refine lv_iload hx hb dX4_leastBehind_44 (lv_at hl 2 rfl) ?_
                refine lv_aload_n hx hb dX4_leastBehind_46 rfl (lv_at hl 5 rfl) ?_
                refine va_get (D := (dC, dI)) (ci := 4) (v := .int (u8 (1) 2)) (C := RX4) (T := TX4) (N := 11) hx hb hts iwX4_leastBehind_X4 hown hK hP (1) (wl_at (by omega) (ce_1 (by decide))) rfl 2 (by decide) (hts (.fieldLink RX4 48 "QuietStairs$Planner" "seatsADay" "I") fwX4_leastBehind_4) (fun _ h9 => h9) rfl dX4_leastBehind_47 ?_
                refine lv_topi (fun x_10 ex_10 => ?_)
                refine lv_icmp_lt (tgt := 76) hx hb dX4_leastBehind_50 (by decide) (fun c_11 => ?_) (fun c_11 => ?_)
                · have tc_11 : y8_4.toInt < x_10.toInt := Int32.lt_iff_toInt_lt.mp c_11
                  refine lv_iload_n hx hb dX4_leastBehind_76 rfl (lv_at hl 3 rfl) ?_
                  refine lv_iconst (v := 3) hx hb dX4_leastBehind_77 (by decide) ?_
                  refine lv_icmp_ge (tgt := 95) hx hb dX4_leastBehind_78 (by decide) (fun c_12 => ?_) (fun c_12 => ?_)
                  · have tc_12 : y8_3.toInt ≥ (3 : Int32).toInt := Int32.le_iff_toInt_le.mp c_12
                    refine lv_iconst (v := 0) hx hb dX4_leastBehind_95 (by decide) ?_
                    refine lv_istore (lv' := [(7, .int 0), (6, .int x_6), (5, .int y2_5), (4, .int y8_4), (3, .int y8_3), (2, .int y2_2), (0, .ref (ad 1)), (1, .int x0)]) hx hb dX4_leastBehind_96 hl (by decide) rfl (fun ls hl => ?_)
                    refine lv_iload_n hx hb dX4_leastBehind_98 rfl (lv_at hl 5 rfl) ?_
                    refine lv_aload_n hx hb dX4_leastBehind_99 rfl (lv_at hl 6 rfl) ?_
                    refine va_get (D := (dC, dI)) (ci := 4) (v := .ref (ad 3)) (C := RX4) (T := TX4) (N := 11) hx hb hts iwX4_leastBehind_X4 hown hK hP (1) (wl_at (by omega) (ce_1 (by decide))) rfl 4 (by decide) (hts (.fieldLink RX4 15 "QuietStairs$Planner" "weights" "[I") fwX4_leastBehind_6) (fun _ h9 => h9) rfl dX4_leastBehind_100 ?_
                    refine lv_iload hx hb dX4_leastBehind_103 (lv_at hl 1 rfl) ?_
                    obtain ⟨pi13, i13, hi13, ni13, mi13⟩ := t_in (x := x_6) (n := 4) ⟨by omega, by omega⟩
                    refine va_iald hx hb hK hP (3) 0 (wl_at (by omega) (ce_17 (by decide))) rfl pi13 dX4_leastBehind_105 ?_
                    refine lv_topi (fun x_14 ex_14 => ?_)
                    refine lv_iload hx hb dX4_leastBehind_106 (lv_at hl 0 rfl) ?_
                    refine lv_if_eq (tgt := 115) hx hb dX4_leastBehind_108 (by decide) (fun _ => ?_) (fun c9 => absurd c9 (by decide))
                    refine lv_iconst (v := 4) hx hb dX4_leastBehind_115 (by decide) ?_
                    refine lv_imul hx hb dX4_leastBehind_116 ?_
                    refine lv_topi (fun x_15 ex_15 => ?_)
                    refine lv_iadd hx hb dX4_leastBehind_117 ?_
                    refine lv_topi (fun x_16 ex_16 => ?_)
                    refine lv_istore_n (lv' := [(2, .int x_16), (7, .int 0), (6, .int x_6), (5, .int y2_5), (4, .int y8_4), (3, .int y8_3), (0, .ref (ad 1)), (1, .int x0)]) hx hb dX4_leastBehind_118 rfl hl (by decide) rfl (fun ls hl => ?_)
                    refine lv_iload hx hb dX4_leastBehind_119 (lv_at hl 4 rfl) ?_
                    refine lv_iload hx hb dX4_leastBehind_121 (lv_at hl 1 rfl) ?_
                    refine lv_if_eq (tgt := 130) hx hb dX4_leastBehind_123 (by decide) (fun _ => ?_) (fun c9 => absurd c9 (by decide))
                    refine lv_iconst (v := 0) hx hb dX4_leastBehind_130 (by decide) ?_
                    refine lv_iadd hx hb dX4_leastBehind_131 ?_
                    refine lv_topi (fun x_17 ex_17 => ?_)
                    refine lv_istore (lv' := [(4, .int x_17), (2, .int x_16), (7, .int 0), (6, .int x_6), (5, .int y2_5), (3, .int y8_3), (0, .ref (ad 1)), (1, .int x0)]) hx hb dX4_leastBehind_132 hl (by decide) rfl (fun ls hl => ?_)
                    obtain ⟨x_18, ex_18⟩ : ∃ y : Int32, y = y2_5 + 1 := ⟨_, rfl⟩
                    refine lv_iinc (v := x_18) (lv' := [(5, .int x_18), (4, .int x_17), (2, .int x_16), (7, .int 0), (6, .int x_6), (3, .int y8_3), (0, .ref (ad 1)), (1, .int x0)]) hx hb dX4_leastBehind_134 hl (k := 4) rfl (by rw [ex_18]; rfl) (by decide) rfl (fun ls hl => ?_)
                    have k_1 : (1 : Int32).toInt = 1 := by decide
                    have tx_18 : x_18.toInt = y2_5.toInt + (1 : Int32).toInt := by rw [ex_18]; exact t_add ⟨by omega, by omega⟩
                    refine lv_goto (tgt := 15) hx hb dX4_leastBehind_137 (by decide) ?_
                    exact ih_2 x_18 x_16 y8_3 x_17 u8 H locs (by omega) (by omega) (by omega) (by omega) (by omega) hv hfr hP hD hS ls (lv_sub hl [0, 1, 5, 2, 6, 7] rfl)
                  · have tc_12 : y8_3.toInt < (3 : Int32).toInt := Int32.lt_iff_toInt_lt.mp (Int32.not_le.mp c_12)
                    refine lv_aload_n hx hb dX4_leastBehind_81 rfl (lv_at hl 5 rfl) ?_
                    refine va_get (D := (dC, dI)) (ci := 4) (v := .ref (ad 4)) (C := RX4) (T := TX4) (N := 11) hx hb hts iwX4_leastBehind_X4 hown hK hP (1) (wl_at (by omega) (ce_1 (by decide))) rfl 5 (by decide) (hts (.fieldLink RX4 18 "QuietStairs$Planner" "pairBits" "[I") fwX4_leastBehind_5) (fun _ h9 => h9) rfl dX4_leastBehind_82 ?_
                    refine lv_iload hx hb dX4_leastBehind_85 (lv_at hl 0 rfl) ?_
                    obtain ⟨pi13, i13, hi13, ni13, mi13⟩ := t_in (x := x_6) (n := 4) ⟨by omega, by omega⟩
                    refine va_iald hx hb hK hP (4) 0 (wl_at (by omega) (ce_17 (by decide))) rfl pi13 dX4_leastBehind_87 ?_
                    refine lv_topi (fun x_14 ex_14 => ?_)
                    refine lv_if_eq (tgt := 95) hx hb dX4_leastBehind_88 (by decide) (fun c_15 => ?_) (fun c_15 => ?_)
                    · have tc_15 : x_14.toInt = (0 : Int32).toInt := by rw [c_15]
                      refine lv_iconst (v := 0) hx hb dX4_leastBehind_95 (by decide) ?_
                      refine lv_istore (lv' := [(7, .int 0), (6, .int x_6), (5, .int y2_5), (4, .int y8_4), (3, .int y8_3), (2, .int y2_2), (0, .ref (ad 1)), (1, .int x0)]) hx hb dX4_leastBehind_96 hl (by decide) rfl (fun ls hl => ?_)
                      refine lv_iload_n hx hb dX4_leastBehind_98 rfl (lv_at hl 5 rfl) ?_
                      refine lv_aload_n hx hb dX4_leastBehind_99 rfl (lv_at hl 6 rfl) ?_
                      refine va_get (D := (dC, dI)) (ci := 4) (v := .ref (ad 3)) (C := RX4) (T := TX4) (N := 11) hx hb hts iwX4_leastBehind_X4 hown hK hP (1) (wl_at (by omega) (ce_1 (by decide))) rfl 4 (by decide) (hts (.fieldLink RX4 15 "QuietStairs$Planner" "weights" "[I") fwX4_leastBehind_6) (fun _ h9 => h9) rfl dX4_leastBehind_100 ?_
                      refine lv_iload hx hb dX4_leastBehind_103 (lv_at hl 1 rfl) ?_
                      refine va_iald hx hb hK hP (3) 0 (wl_at (by omega) (ce_17 (by decide))) rfl pi13 dX4_leastBehind_105 ?_
                      refine lv_topi (fun x_16 ex_16 => ?_)
                      refine lv_iload hx hb dX4_leastBehind_106 (lv_at hl 0 rfl) ?_
                      refine lv_if_eq (tgt := 115) hx hb dX4_leastBehind_108 (by decide) (fun _ => ?_) (fun c9 => absurd c9 (by decide))
                      refine lv_iconst (v := 4) hx hb dX4_leastBehind_115 (by decide) ?_
                      refine lv_imul hx hb dX4_leastBehind_116 ?_
                      refine lv_topi (fun x_17 ex_17 => ?_)
                      refine lv_iadd hx hb dX4_leastBehind_117 ?_
                      refine lv_topi (fun x_18 ex_18 => ?_)
                      refine lv_istore_n (lv' := [(2, .int x_18), (7, .int 0), (6, .int x_6), (5, .int y2_5), (4, .int y8_4), (3, .int y8_3), (0, .ref (ad 1)), (1, .int x0)]) hx hb dX4_leastBehind_118 rfl hl (by decide) rfl (fun ls hl => ?_)
                      refine lv_iload hx hb dX4_leastBehind_119 (lv_at hl 4 rfl) ?_
                      refine lv_iload hx hb dX4_leastBehind_121 (lv_at hl 1 rfl) ?_
                      refine lv_if_eq (tgt := 130) hx hb dX4_leastBehind_123 (by decide) (fun _ => ?_) (fun c9 => absurd c9 (by decide))
                      refine lv_iconst (v := 0) hx hb dX4_leastBehind_130 (by decide) ?_
                      refine lv_iadd hx hb dX4_leastBehind_131 ?_
                      refine lv_topi (fun x_19 ex_19 => ?_)
                      refine lv_istore (lv' := [(4, .int x_19), (2, .int x_18), (7, .int 0), (6, .int x_6), (5, .int y2_5), (3, .int y8_3), (0, .ref (ad 1)), (1, .int x0)]) hx hb dX4_leastBehind_132 hl (by decide) rfl (fun ls hl => ?_)
                      obtain ⟨x_20, ex_20⟩ : ∃ y : Int32, y = y2_5 + 1 := ⟨_, rfl⟩
                      refine lv_iinc (v := x_20) (lv' := [(5, .int x_20), (4, .int x_19), (2, .int x_18), (7, .int 0), (6, .int x_6), (3, .int y8_3), (0, .ref (ad 1)), (1, .int x0)]) hx hb dX4_leastBehind_134 hl (k := 4) rfl (by rw [ex_20]; rfl) (by decide) rfl (fun ls hl => ?_)
                      have k_1 : (1 : Int32).toInt = 1 := by decide
                      have tx_20 : x_20.toInt = y2_5.toInt + (1 : Int32).toInt := by rw [ex_20]; exact t_add ⟨by omega, by omega⟩
                      refine lv_goto (tgt := 15) hx hb dX4_leastBehind_137 (by decide) ?_
                      exact ih_2 x_20 x_18 y8_3 x_19 u8 H locs (by omega) (by omega) (by omega) (by omega) (by omega) hv hfr hP hD hS ls (lv_sub hl [0, 1, 5, 2, 6, 7] rfl)
                    · have tc_15 : x_14.toInt ≠ (0 : Int32).toInt := fun q => absurd (Int32.toInt_inj.mp q) c_15
                      refine lv_iconst (v := 1) hx hb dX4_leastBehind_91 (by decide) ?_
                      refine lv_goto (tgt := 96) hx hb dX4_leastBehind_92 (by decide) ?_
                      refine lv_istore (lv' := [(7, .int 1), (6, .int x_6), (5, .int y2_5), (4, .int y8_4), (3, .int y8_3), (2, .int y2_2), (0, .ref (ad 1)), (1, .int x0)]) hx hb dX4_leastBehind_96 hl (by decide) rfl (fun ls hl => ?_)
                      refine lv_iload_n hx hb dX4_leastBehind_98 rfl (lv_at hl 5 rfl) ?_
                      refine lv_aload_n hx hb dX4_leastBehind_99 rfl (lv_at hl 6 rfl) ?_
                      refine va_get (D := (dC, dI)) (ci := 4) (v := .ref (ad 3)) (C := RX4) (T := TX4) (N := 11) hx hb hts iwX4_leastBehind_X4 hown hK hP (1) (wl_at (by omega) (ce_1 (by decide))) rfl 4 (by decide) (hts (.fieldLink RX4 15 "QuietStairs$Planner" "weights" "[I") fwX4_leastBehind_6) (fun _ h9 => h9) rfl dX4_leastBehind_100 ?_
                      refine lv_iload hx hb dX4_leastBehind_103 (lv_at hl 1 rfl) ?_
                      refine va_iald hx hb hK hP (3) 0 (wl_at (by omega) (ce_17 (by decide))) rfl pi13 dX4_leastBehind_105 ?_
                      refine lv_topi (fun x_16 ex_16 => ?_)
                      refine lv_iload hx hb dX4_leastBehind_106 (lv_at hl 0 rfl) ?_
                      refine lv_if_eq (tgt := 115) hx hb dX4_leastBehind_108 (by decide) (fun c9 => absurd c9 (by decide)) (fun _ => ?_)
                      refine lv_iload_n hx hb dX4_leastBehind_111 rfl (lv_at hl 4 rfl) ?_
                      refine lv_goto (tgt := 116) hx hb dX4_leastBehind_112 (by decide) ?_
                      refine lv_imul hx hb dX4_leastBehind_116 ?_
                      refine lv_topi (fun x_17 ex_17 => ?_)
                      refine lv_iadd hx hb dX4_leastBehind_117 ?_
                      refine lv_topi (fun x_18 ex_18 => ?_)
                      refine lv_istore_n (lv' := [(2, .int x_18), (7, .int 1), (6, .int x_6), (5, .int y2_5), (4, .int y8_4), (3, .int y8_3), (0, .ref (ad 1)), (1, .int x0)]) hx hb dX4_leastBehind_118 rfl hl (by decide) rfl (fun ls hl => ?_)
                      refine lv_iload hx hb dX4_leastBehind_119 (lv_at hl 4 rfl) ?_
                      refine lv_iload hx hb dX4_leastBehind_121 (lv_at hl 1 rfl) ?_
                      refine lv_if_eq (tgt := 130) hx hb dX4_leastBehind_123 (by decide) (fun c9 => absurd c9 (by decide)) (fun _ => ?_)
                      refine lv_iconst (v := 1) hx hb dX4_leastBehind_126 (by decide) ?_
                      refine lv_goto (tgt := 131) hx hb dX4_leastBehind_127 (by decide) ?_
                      have k_1 : (1 : Int32).toInt = 1 := by decide
                      refine lv_iadd hx hb dX4_leastBehind_131 ?_
                      refine lv_topi (fun x_19 ex_19 => ?_)
                      refine lv_istore (lv' := [(4, .int x_19), (2, .int x_18), (7, .int 1), (6, .int x_6), (5, .int y2_5), (3, .int y8_3), (0, .ref (ad 1)), (1, .int x0)]) hx hb dX4_leastBehind_132 hl (by decide) rfl (fun ls hl => ?_)
                      obtain ⟨x_20, ex_20⟩ : ∃ y : Int32, y = y2_5 + 1 := ⟨_, rfl⟩
                      refine lv_iinc (v := x_20) (lv' := [(5, .int x_20), (4, .int x_19), (2, .int x_18), (7, .int 1), (6, .int x_6), (3, .int y8_3), (0, .ref (ad 1)), (1, .int x0)]) hx hb dX4_leastBehind_134 hl (k := 4) rfl (by rw [ex_20]; rfl) (by decide) rfl (fun ls hl => ?_)
                      have tx_20 : x_20.toInt = y2_5.toInt + (1 : Int32).toInt := by rw [ex_20]; exact t_add ⟨by omega, by omega⟩
                      refine lv_goto (tgt := 15) hx hb dX4_leastBehind_137 (by decide) ?_
                      exact ih_2 x_20 x_18 y8_3 x_19 u8 H locs (by omega) (by omega) (by omega) (by omega) (by omega) hv hfr hP hD hS ls (lv_sub hl [0, 1, 5, 2, 6, 7] rfl)
                · have tc_11 : y8_4.toInt ≥ x_10.toInt := Int32.le_iff_toInt_le.mp (Int32.not_lt.mp c_11)
                  obtain ⟨x_12, ex_12⟩ : ∃ y : Int32, y = y8_3 + 1 := ⟨_, rfl⟩
                  refine lv_iinc (v := x_12) (lv' := [(3, .int x_12), (6, .int x_6), (5, .int y2_5), (4, .int y8_4), (2, .int y2_2), (0, .ref (ad 1)), (1, .int x0)]) hx hb dX4_leastBehind_53 hl (k := 3) rfl (by rw [ex_12]; rfl) (by decide) rfl (fun ls hl => ?_)
                  have k_1 : (1 : Int32).toInt = 1 := by decide
                  have tx_12 : x_12.toInt = y8_3.toInt + (1 : Int32).toInt := by rw [ex_12]; exact t_add ⟨by omega, by omega⟩
                  refine lv_iload_n hx hb dX4_leastBehind_56 rfl (lv_at hl 0 rfl) ?_
                  refine lv_iconst (v := 3) hx hb dX4_leastBehind_57 (by decide) ?_
                  refine lv_icmp_ge (tgt := 70) hx hb dX4_leastBehind_58 (by decide) (fun c_13 => ?_) (fun c_13 => ?_)
                  · have tc_13 : x_12.toInt ≥ (3 : Int32).toInt := Int32.le_iff_toInt_le.mp c_13
                    refine lv_iconst (v := 0) hx hb dX4_leastBehind_70 (by decide) ?_
                    refine lv_istore (lv' := [(4, .int 0), (3, .int x_12), (6, .int x_6), (5, .int y2_5), (2, .int y2_2), (0, .ref (ad 1)), (1, .int x0)]) hx hb dX4_leastBehind_71 hl (by decide) rfl (fun ls hl => ?_)
                    refine lv_goto (tgt := 39) hx hb dX4_leastBehind_73 (by decide) ?_
                    exact ih_8 x_12 0 u8 H locs (by omega) (by omega) (by omega) hv hfr hP hD hS ls (lv_sub hl [2, 3, 0, 1, 4, 5, 6] rfl)
                  · have tc_13 : x_12.toInt < (3 : Int32).toInt := Int32.lt_iff_toInt_lt.mp (Int32.not_le.mp c_13)
                    refine lv_aload_n hx hb dX4_leastBehind_61 rfl (lv_at hl 5 rfl) ?_
                    refine va_get (D := (dC, dI)) (ci := 4) (v := .ref (ad 9)) (C := RX4) (T := TX4) (N := 11) hx hb hts iwX4_leastBehind_X4 hown hK hP (1) (wl_at (by omega) (ce_1 (by decide))) rfl 10 (by decide) (hts (.fieldLink RX4 33 "QuietStairs$Planner" "sittings" "[I") fwX4_leastBehind_1) (fun _ h9 => h9) rfl dX4_leastBehind_62 ?_
                    refine lv_iload_n hx hb dX4_leastBehind_65 rfl (lv_at hl 0 rfl) ?_
                    obtain ⟨pi14, i14, hi14, ni14, mi14⟩ := t_in (x := x_12) (n := 3) ⟨by omega, by omega⟩
                    refine va_iald hx hb hK hP (9) 0 (wl_at (by omega) (ce_18 (by decide))) rfl pi14 dX4_leastBehind_66 ?_
                    refine lv_topi (fun x_15 ex_15 => ?_)
                    refine lv_goto (tgt := 71) hx hb dX4_leastBehind_67 (by decide) ?_
                    refine lv_istore (lv' := [(4, .int x_15), (3, .int x_12), (6, .int x_6), (5, .int y2_5), (2, .int y2_2), (0, .ref (ad 1)), (1, .int x0)]) hx hb dX4_leastBehind_71 hl (by decide) rfl (fun ls hl => ?_)
                    refine lv_goto (tgt := 39) hx hb dX4_leastBehind_73 (by decide) ?_
                    exact ih_8 x_12 x_15 u8 H locs (by omega) (by omega) (by omega) hv hfr hP hD hS ls (lv_sub hl [2, 3, 0, 1, 4, 5, 6] rfl)
          exact hloop_8 ((3 - (y2_3 : Int32).toInt).toNat + 1) y2_3 y2_4 u2 _ _ (by omega) (by omega) (by omega) hv hfr hP hD hS ls hl
  exact hloop_2 ((4 - (0 : Int32).toInt).toNat + 1) 0 0 0 x_1 v _ _ (by omega) (by omega) (by omega) (by omega) (by omega) hv hfr hP hD hS ls hl

set_option maxHeartbeats 4000000 in
set_option maxRecDepth 100000 in
theorem g_X4_seatOf (l : Launch) (dC : Nat → ClassId) (dI : Nat → Nat → Nat) (cy : Nat → ClassId) (sz : Nat) (ad : Nat → Nat) (kv : Value) (N : Nat) (hN : 119 ≤ N) (v : Nat → Nat → Int32) (hv : Iv v) (x0 : Int32) : Met l yX4_seatOf wsX4_seatOf ({ frames := 0, cells := 0, slots := 0, locals := 0 }) (va_Pc [.ref (ad 1), .int x0] (ex_Pre dC dI cy sz (wl ad kv cy N v))) (va_Qi (fun (r : Int32) (u : Nat → Nat → Int32) => Iv u ∧ Fz v u) (fun u t => ex_Pst dC dI (va_A (wl ad kv cy N v) sz) (wl ad kv cy N u) t) (va_A (wl ad kv cy N v) sz)) 0 0 (va_A (wl ad kv cy N v) sz) := by
  refine Met.ofW (cc := cX4_seatOf) (maxL := 3) (ret := (some .int)) (by decide) rfl ?_
  intro p e s m args below meth c s₁ B hml hv
  obtain ⟨rfl, hsz, hE, hP, hK, hD0⟩ := hv
  have hx := B.exec
  have hb := B.bytes
  have hr := B.returns
  have hts := atoms_spec (ws := wsX4_seatOf) B.pre
  have hown : s.vm.findClass RX4 = some m.cls := findClass_of_methodNamed B.named
  have hlocks := B.notSynchronized
  subst hsz
  have hD := hD0.self (sz := s.heap.size)
  generalize hAe : va_A (wl ad kv cy N v) s.heap.size = A at hD ⊢
  have hA : ∀ q : Nat, s.heap.size ≤ q → A q := fun q h => by rw [← hAe]; exact Or.inr h
  have hS : va_S A s.heap s.heap [] := va_S.rf
  have hP : va_P (dC, dI) vwCl (wl ad kv cy N v) s.heap := hP
  have hl := lv_entry ([.ref (ad 1), .int x0]) (n := 3) (Nat.le_of_ble_eq_true rfl)
  rw [lg_entry_eq]
  generalize (lg_sl ([.ref (ad 1), .int x0]) ++ List.replicate (3 - (lg_sl ([.ref (ad 1), .int x0])).length) Slot.unset).toArray = ls at hl ⊢
  have hl : lv_has ls 3 [(0, .ref (ad 1)), (1, .int x0)] := hl
  have hfr : Fz v v := Fz.rf
  refine lv_iconst (v := 0) hx hb dX4_seatOf_0 (by decide) ?_
  refine lv_istore_n (lv' := [(2, .int 0), (0, .ref (ad 1)), (1, .int x0)]) hx hb dX4_seatOf_1 rfl hl (by decide) rfl (fun ls hl => ?_)
  have k_0 : (0 : Int32).toInt = 0 := by decide
  have hloop_1 : ∀ (n : Nat) (y1_2 : Int32) (u1 : Nat → Nat → Int32) (H : Heap) (locs : List Loc), 0 ≤ y1_2.toInt → y1_2.toInt ≤ 4 → (4 - y1_2.toInt).toNat < n → Iv u1 → Fz v u1 → va_P (dC, dI) vwCl (wl ad kv cy N u1) H → va_D A (wl ad kv cy N u1) → va_S A s.heap H locs → ∀ ls : Array Slot, lv_has ls 3 [(2, .int y1_2), (0, .ref (ad 1)), (1, .int x0)] → W p l e (headSpec wsX4_seatOf ({ frames := 0, cells := 0, slots := 0, locals := 0 })).room s m [Value.ref (ad 1), Value.int x0].toArray below meth c H locs 0 0 (MQ below (va_Qi (fun (r : Int32) (u : Nat → Nat → Int32) => Iv u ∧ Fz v u) (fun u t => ex_Pst dC dI A (wl ad kv cy N u) t) A) [Value.ref (ad 1), Value.int x0].toArray s 0 0 A) (F0 m 2 ls []) := by
    intro n
    induction n with
    | zero =>
      intro y1_2 u1 H locs ay1_2 by1_2 hm_1 hv hfr hP hD hS ls hl
      exact absurd hm_1 (by omega)
    | succ n ih_1 =>
      intro y1_2 u1 H locs ay1_2 by1_2 hm_1 hv hfr hP hD hS ls hl
      refine lv_iload_n hx hb dX4_seatOf_2 rfl (lv_at hl 0 rfl) ?_
      refine lv_aload_n hx hb dX4_seatOf_3 rfl (lv_at hl 1 rfl) ?_
      refine va_get (D := (dC, dI)) (ci := 4) (v := .int (u1 (1) 1)) (C := RX4) (T := TX4) (N := 11) hx hb hts iwX4_seatOf_X4 hown hK hP (1) (wl_at (by omega) (ce_1 (by decide))) rfl 1 (by decide) (hts (.fieldLink RX4 61 "QuietStairs$Planner" "count" "I") fwX4_seatOf_1) (fun _ h9 => h9) rfl dX4_seatOf_4 ?_
      refine lv_topi (fun x_2 ex_2 => ?_)
      have bx_2 : 0 ≤ x_2.toInt ∧ x_2.toInt ≤ 4 := by rw [ex_2]; exact hv.at (K := 1) (by decide) rfl
      refine lv_icmp_ge (tgt := 44) hx hb dX4_seatOf_7 (by decide) (fun c_3 => ?_) (fun c_3 => ?_)
      · have tc_3 : y1_2.toInt ≥ x_2.toInt := Int32.le_iff_toInt_le.mp c_3
        refine lv_bipush (v := (-5)) hx hb dX4_seatOf_44 (by decide) ?_
        exact W.iret (v := (-5)) hx hb hr (fun t ht hW => ⟨⟨(-5), u1, rfl, ⟨hv, hfr⟩, by rw [ht]; exact hP, hD⟩, hS.F ht⟩) hS.2.2 dX4_seatOf_46
      · have tc_3 : y1_2.toInt < x_2.toInt := Int32.lt_iff_toInt_lt.mp (Int32.not_le.mp c_3)
        refine lv_aload_n hx hb dX4_seatOf_10 rfl (lv_at hl 1 rfl) ?_
        refine va_get (D := (dC, dI)) (ci := 4) (v := .ref (ad 2)) (C := RX4) (T := TX4) (N := 11) hx hb hts iwX4_seatOf_X4 hown hK hP (1) (wl_at (by omega) (ce_1 (by decide))) rfl 3 (by decide) (hts (.fieldLink RX4 9 "QuietStairs$Planner" "numbers" "[I") fwX4_seatOf_2) (fun _ h9 => h9) rfl dX4_seatOf_11 ?_
        refine lv_iload_n hx hb dX4_seatOf_14 rfl (lv_at hl 0 rfl) ?_
        obtain ⟨pi4, i4, hi4, ni4, mi4⟩ := t_in (x := y1_2) (n := 4) ⟨by omega, by omega⟩
        refine va_iald hx hb hK hP (2) 0 (wl_at (by omega) (ce_17 (by decide))) rfl pi4 dX4_seatOf_15 ?_
        refine lv_topi (fun x_5 ex_5 => ?_)
        refine lv_iload_n hx hb dX4_seatOf_16 rfl (lv_at hl 2 rfl) ?_
        refine lv_icmp_ne (tgt := 38) hx hb dX4_seatOf_17 (by decide) (fun c_6 => ?_) (fun c_6 => ?_)
        · have tc_6 : x_5.toInt ≠ x0.toInt := fun q => absurd (Int32.toInt_inj.mp q) c_6
          obtain ⟨x_7, ex_7⟩ : ∃ y : Int32, y = y1_2 + 1 := ⟨_, rfl⟩
          refine lv_iinc (v := x_7) (lv' := [(2, .int x_7), (0, .ref (ad 1)), (1, .int x0)]) hx hb dX4_seatOf_38 hl (k := 0) rfl (by rw [ex_7]; rfl) (by decide) rfl (fun ls hl => ?_)
          have k_1 : (1 : Int32).toInt = 1 := by decide
          have tx_7 : x_7.toInt = y1_2.toInt + (1 : Int32).toInt := by rw [ex_7]; exact t_add ⟨by omega, by omega⟩
          refine lv_goto (tgt := 2) hx hb dX4_seatOf_41 (by decide) ?_
          exact ih_1 x_7 u1 H locs (by omega) (by omega) (by omega) hv hfr hP hD hS ls (lv_sub hl [0, 1, 2] rfl)
        · have tc_6 : x_5.toInt = x0.toInt := by rw [c_6]
          refine lv_aload_n hx hb dX4_seatOf_20 rfl (lv_at hl 1 rfl) ?_
          refine va_get (D := (dC, dI)) (ci := 4) (v := .ref (ad 7)) (C := RX4) (T := TX4) (N := 11) hx hb hts iwX4_seatOf_X4 hown hK hP (1) (wl_at (by omega) (ce_1 (by decide))) rfl 8 (by decide) (hts (.fieldLink RX4 27 "QuietStairs$Planner" "bestSeats" "[I") fwX4_seatOf_3) (fun _ h9 => h9) rfl dX4_seatOf_21 ?_
          refine lv_iload_n hx hb dX4_seatOf_24 rfl (lv_at hl 0 rfl) ?_
          refine va_iald hx hb hK hP (7) 0 (wl_at (by omega) (ce_17 (by decide))) rfl pi4 dX4_seatOf_25 ?_
          refine lv_topi (fun x_7 ex_7 => ?_)
          refine lv_bipush (v := 18) hx hb dX4_seatOf_26 (by decide) ?_
          have k_18 : (18 : Int32).toInt = 18 := by decide
          refine lv_icmp_eq (tgt := 38) hx hb dX4_seatOf_28 (by decide) (fun c_8 => ?_) (fun c_8 => ?_)
          · have tc_8 : x_7.toInt = (18 : Int32).toInt := by rw [c_8]
            obtain ⟨x_9, ex_9⟩ : ∃ y : Int32, y = y1_2 + 1 := ⟨_, rfl⟩
            refine lv_iinc (v := x_9) (lv' := [(2, .int x_9), (0, .ref (ad 1)), (1, .int x0)]) hx hb dX4_seatOf_38 hl (k := 0) rfl (by rw [ex_9]; rfl) (by decide) rfl (fun ls hl => ?_)
            have k_1 : (1 : Int32).toInt = 1 := by decide
            have tx_9 : x_9.toInt = y1_2.toInt + (1 : Int32).toInt := by rw [ex_9]; exact t_add ⟨by omega, by omega⟩
            refine lv_goto (tgt := 2) hx hb dX4_seatOf_41 (by decide) ?_
            exact ih_1 x_9 u1 H locs (by omega) (by omega) (by omega) hv hfr hP hD hS ls (lv_sub hl [0, 1, 2] rfl)
          · have tc_8 : x_7.toInt ≠ (18 : Int32).toInt := fun q => absurd (Int32.toInt_inj.mp q) c_8
            refine lv_aload_n hx hb dX4_seatOf_31 rfl (lv_at hl 1 rfl) ?_
            refine va_get (D := (dC, dI)) (ci := 4) (v := .ref (ad 7)) (C := RX4) (T := TX4) (N := 11) hx hb hts iwX4_seatOf_X4 hown hK hP (1) (wl_at (by omega) (ce_1 (by decide))) rfl 8 (by decide) (hts (.fieldLink RX4 27 "QuietStairs$Planner" "bestSeats" "[I") fwX4_seatOf_3) (fun _ h9 => h9) rfl dX4_seatOf_32 ?_
            refine lv_iload_n hx hb dX4_seatOf_35 rfl (lv_at hl 0 rfl) ?_
            refine va_iald hx hb hK hP (7) 0 (wl_at (by omega) (ce_17 (by decide))) rfl pi4 dX4_seatOf_36 ?_
            refine lv_topi (fun x_9 ex_9 => ?_)
            exact W.iret (v := x_9) hx hb hr (fun t ht hW => ⟨⟨x_9, u1, rfl, ⟨hv, hfr⟩, by rw [ht]; exact hP, hD⟩, hS.F ht⟩) hS.2.2 dX4_seatOf_37
  exact hloop_1 ((4 - (0 : Int32).toInt).toNat + 1) 0 v _ _ (by omega) (by omega) (by omega) hv hfr hP hD hS ls hl
