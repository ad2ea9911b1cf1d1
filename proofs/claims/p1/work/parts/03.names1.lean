theorem dX4_gather_61 : decode cX4_gather 61 = .ok (.getfield 18, 3) := by decide +kernel
theorem dX4_gather_64 : decode cX4_gather 64 = .ok (.aload_n 0, 1) := by decide +kernel
theorem dX4_gather_65 : decode cX4_gather 65 = .ok (.getfield 61, 3) := by decide +kernel
theorem dX4_gather_68 : decode cX4_gather 68 = .ok (.aload_n 1, 1) := by decide +kernel
theorem dX4_gather_69 : decode cX4_gather 69 = .ok (.aload_n 3, 1) := by decide +kernel
theorem dX4_gather_70 : decode cX4_gather 70 = .ok (.invokestatic 83, 3) := by decide +kernel
theorem dX4_gather_73 : decode cX4_gather 73 = .ok (.iastore, 1) := by decide +kernel
theorem dX4_gather_74 : decode cX4_gather 74 = .ok (.aload_n 0, 1) := by decide +kernel
theorem dX4_gather_75 : decode cX4_gather 75 = .ok (.dup, 1) := by decide +kernel
theorem dX4_gather_76 : decode cX4_gather 76 = .ok (.getfield 61, 3) := by decide +kernel
theorem dX4_gather_79 : decode cX4_gather 79 = .ok (.iconst 1, 1) := by decide +kernel
theorem dX4_gather_80 : decode cX4_gather 80 = .ok (.iadd, 1) := by decide +kernel
theorem dX4_gather_81 : decode cX4_gather 81 = .ok (.putfield 61, 3) := by decide +kernel
theorem dX4_gather_84 : decode cX4_gather 84 = .ok (.iinc 2 1, 3) := by decide +kernel
theorem dX4_gather_87 : decode cX4_gather 87 = .ok (.goto (-80), 3) := by decide +kernel
theorem dX4_gather_90 : decode cX4_gather 90 = .ok (.return_, 1) := by decide +kernel
set_option maxRecDepth 20000 in
theorem ggX4_fittingPairs_X1_hasPair : GoodIn wsX4_fittingPairs wsX1_hasPair := goodIn_r _ [5, 6, 26, 27, 28, 29, 30, 31, 32] (by decide +kernel) (by decide +kernel)
set_option maxRecDepth 20000 in
theorem gX4_fittingPairs_X1_hasPair : GoodIn wsX4_fittingPairs (wsV RX4 87 RX1 yX1_hasPair wsX1_hasPair) := goodIn_app (goodIn_of _ (by decide +kernel)) ggX4_fittingPairs_X1_hasPair
set_option maxRecDepth 20000 in
theorem ggX4_fittingPairs_X1_pairFits : GoodIn wsX4_fittingPairs wsX1_pairFits := goodIn_r _ [10, 11, 12, 13, 14, 15, 16, 17, 18, 19, 20, 21, 4, 22, 23, 24, 25, 26, 27, 28, 29, 30, 31, 32, 33, 34, 35, 36, 37, 38, 39, 40, 41, 42, 43, 44, 45, 46, 47, 48] (by decide +kernel) (by decide +kernel)
set_option maxRecDepth 20000 in
theorem gX4_fittingPairs_X1_pairFits : GoodIn wsX4_fittingPairs (wsV RX4 91 RX1 yX1_pairFits wsX1_pairFits) := goodIn_app (goodIn_of _ (by decide +kernel)) ggX4_fittingPairs_X1_pairFits
theorem dX4_fittingPairs_0 : decode cX4_fittingPairs 0 = .ok (.iconst 0, 1) := by decide +kernel
theorem dX4_fittingPairs_1 : decode cX4_fittingPairs 1 = .ok (.istore_n 2, 1) := by decide +kernel
theorem dX4_fittingPairs_2 : decode cX4_fittingPairs 2 = .ok (.iconst 0, 1) := by decide +kernel
theorem dX4_fittingPairs_3 : decode cX4_fittingPairs 3 = .ok (.istore_n 3, 1) := by decide +kernel
theorem dX4_fittingPairs_4 : decode cX4_fittingPairs 4 = .ok (.iload_n 3, 1) := by decide +kernel
theorem dX4_fittingPairs_5 : decode cX4_fittingPairs 5 = .ok (.bipush 6, 2) := by decide +kernel
theorem dX4_fittingPairs_7 : decode cX4_fittingPairs 7 = .ok (.if_icmp .ge 32, 3) := by decide +kernel
theorem dX4_fittingPairs_10 : decode cX4_fittingPairs 10 = .ok (.aload_n 0, 1) := by decide +kernel
theorem dX4_fittingPairs_11 : decode cX4_fittingPairs 11 = .ok (.iload_n 3, 1) := by decide +kernel
theorem dX4_fittingPairs_12 : decode cX4_fittingPairs 12 = .ok (.invokevirtual 87, 3) := by decide +kernel
theorem dX4_fittingPairs_15 : decode cX4_fittingPairs 15 = .ok (.ifCond .eq 18, 3) := by decide +kernel
theorem dX4_fittingPairs_18 : decode cX4_fittingPairs 18 = .ok (.aload_n 0, 1) := by decide +kernel
theorem dX4_fittingPairs_19 : decode cX4_fittingPairs 19 = .ok (.iload_n 3, 1) := by decide +kernel
theorem dX4_fittingPairs_20 : decode cX4_fittingPairs 20 = .ok (.aload_n 1, 1) := by decide +kernel
theorem dX4_fittingPairs_21 : decode cX4_fittingPairs 21 = .ok (.invokevirtual 91, 3) := by decide +kernel
theorem dX4_fittingPairs_24 : decode cX4_fittingPairs 24 = .ok (.ifCond .eq 9, 3) := by decide +kernel
theorem dX4_fittingPairs_27 : decode cX4_fittingPairs 27 = .ok (.iload_n 2, 1) := by decide +kernel
theorem dX4_fittingPairs_28 : decode cX4_fittingPairs 28 = .ok (.iconst 1, 1) := by decide +kernel
theorem dX4_fittingPairs_29 : decode cX4_fittingPairs 29 = .ok (.iload_n 3, 1) := by decide +kernel
theorem dX4_fittingPairs_30 : decode cX4_fittingPairs 30 = .ok (.ishl, 1) := by decide +kernel
theorem dX4_fittingPairs_31 : decode cX4_fittingPairs 31 = .ok (.ior, 1) := by decide +kernel
theorem dX4_fittingPairs_32 : decode cX4_fittingPairs 32 = .ok (.istore_n 2, 1) := by decide +kernel
theorem dX4_fittingPairs_33 : decode cX4_fittingPairs 33 = .ok (.iinc 3 1, 3) := by decide +kernel
theorem dX4_fittingPairs_36 : decode cX4_fittingPairs 36 = .ok (.goto (-32), 3) := by decide +kernel
theorem dX4_fittingPairs_39 : decode cX4_fittingPairs 39 = .ok (.iload_n 2, 1) := by decide +kernel
theorem dX4_fittingPairs_40 : decode cX4_fittingPairs 40 = .ok (.ireturn, 1) := by decide +kernel
theorem dX4_sortByWeight_0 : decode cX4_sortByWeight 0 = .ok (.iconst 0, 1) := by decide +kernel
theorem dX4_sortByWeight_1 : decode cX4_sortByWeight 1 = .ok (.istore_n 1, 1) := by decide +kernel
theorem dX4_sortByWeight_2 : decode cX4_sortByWeight 2 = .ok (.iload_n 1, 1) := by decide +kernel
theorem dX4_sortByWeight_3 : decode cX4_sortByWeight 3 = .ok (.aload_n 0, 1) := by decide +kernel
theorem dX4_sortByWeight_4 : decode cX4_sortByWeight 4 = .ok (.getfield 61, 3) := by decide +kernel
theorem dX4_sortByWeight_7 : decode cX4_sortByWeight 7 = .ok (.if_icmp .ge 64, 3) := by decide +kernel
theorem dX4_sortByWeight_10 : decode cX4_sortByWeight 10 = .ok (.iload_n 1, 1) := by decide +kernel
theorem dX4_sortByWeight_11 : decode cX4_sortByWeight 11 = .ok (.istore_n 2, 1) := by decide +kernel
theorem dX4_sortByWeight_12 : decode cX4_sortByWeight 12 = .ok (.iload_n 2, 1) := by decide +kernel
theorem dX4_sortByWeight_13 : decode cX4_sortByWeight 13 = .ok (.ifCond .le 45, 3) := by decide +kernel
theorem dX4_sortByWeight_16 : decode cX4_sortByWeight 16 = .ok (.aload_n 0, 1) := by decide +kernel
theorem dX4_sortByWeight_17 : decode cX4_sortByWeight 17 = .ok (.getfield 15, 3) := by decide +kernel
theorem dX4_sortByWeight_20 : decode cX4_sortByWeight 20 = .ok (.aload_n 0, 1) := by decide +kernel
theorem dX4_sortByWeight_21 : decode cX4_sortByWeight 21 = .ok (.getfield 21, 3) := by decide +kernel
theorem dX4_sortByWeight_24 : decode cX4_sortByWeight 24 = .ok (.iload_n 2, 1) := by decide +kernel
theorem dX4_sortByWeight_25 : decode cX4_sortByWeight 25 = .ok (.iconst 1, 1) := by decide +kernel
theorem dX4_sortByWeight_26 : decode cX4_sortByWeight 26 = .ok (.isub, 1) := by decide +kernel
theorem dX4_sortByWeight_27 : decode cX4_sortByWeight 27 = .ok (.iaload, 1) := by decide +kernel
theorem dX4_sortByWeight_28 : decode cX4_sortByWeight 28 = .ok (.iaload, 1) := by decide +kernel
theorem dX4_sortByWeight_29 : decode cX4_sortByWeight 29 = .ok (.aload_n 0, 1) := by decide +kernel
theorem dX4_sortByWeight_30 : decode cX4_sortByWeight 30 = .ok (.getfield 15, 3) := by decide +kernel
theorem dX4_sortByWeight_33 : decode cX4_sortByWeight 33 = .ok (.iload_n 1, 1) := by decide +kernel
theorem dX4_sortByWeight_34 : decode cX4_sortByWeight 34 = .ok (.iaload, 1) := by decide +kernel
theorem dX4_sortByWeight_35 : decode cX4_sortByWeight 35 = .ok (.if_icmp .ge 23, 3) := by decide +kernel
theorem dX4_sortByWeight_38 : decode cX4_sortByWeight 38 = .ok (.aload_n 0, 1) := by decide +kernel
theorem dX4_sortByWeight_39 : decode cX4_sortByWeight 39 = .ok (.getfield 21, 3) := by decide +kernel
theorem dX4_sortByWeight_42 : decode cX4_sortByWeight 42 = .ok (.iload_n 2, 1) := by decide +kernel
theorem dX4_sortByWeight_43 : decode cX4_sortByWeight 43 = .ok (.aload_n 0, 1) := by decide +kernel
theorem dX4_sortByWeight_44 : decode cX4_sortByWeight 44 = .ok (.getfield 21, 3) := by decide +kernel
theorem dX4_sortByWeight_47 : decode cX4_sortByWeight 47 = .ok (.iload_n 2, 1) := by decide +kernel
theorem dX4_sortByWeight_48 : decode cX4_sortByWeight 48 = .ok (.iconst 1, 1) := by decide +kernel
theorem dX4_sortByWeight_49 : decode cX4_sortByWeight 49 = .ok (.isub, 1) := by decide +kernel
theorem dX4_sortByWeight_50 : decode cX4_sortByWeight 50 = .ok (.iaload, 1) := by decide +kernel
theorem dX4_sortByWeight_51 : decode cX4_sortByWeight 51 = .ok (.iastore, 1) := by decide +kernel
theorem dX4_sortByWeight_52 : decode cX4_sortByWeight 52 = .ok (.iinc 2 (-1), 3) := by decide +kernel
theorem dX4_sortByWeight_55 : decode cX4_sortByWeight 55 = .ok (.goto (-43), 3) := by decide +kernel
theorem dX4_sortByWeight_58 : decode cX4_sortByWeight 58 = .ok (.aload_n 0, 1) := by decide +kernel
theorem dX4_sortByWeight_59 : decode cX4_sortByWeight 59 = .ok (.getfield 21, 3) := by decide +kernel
theorem dX4_sortByWeight_62 : decode cX4_sortByWeight 62 = .ok (.iload_n 2, 1) := by decide +kernel
theorem dX4_sortByWeight_63 : decode cX4_sortByWeight 63 = .ok (.iload_n 1, 1) := by decide +kernel
theorem dX4_sortByWeight_64 : decode cX4_sortByWeight 64 = .ok (.iastore, 1) := by decide +kernel
theorem dX4_sortByWeight_65 : decode cX4_sortByWeight 65 = .ok (.iinc 1 1, 3) := by decide +kernel
theorem dX4_sortByWeight_68 : decode cX4_sortByWeight 68 = .ok (.goto (-66), 3) := by decide +kernel
theorem dX4_sortByWeight_71 : decode cX4_sortByWeight 71 = .ok (.return_, 1) := by decide +kernel
set_option maxRecDepth 20000 in
theorem ggX4_search_X4_leastBehind : GoodIn wsX4_search wsX4_leastBehind := goodIn_r _ [16, 9, 2, 17, 10, 18, 11, 30, 31, 32, 33, 34, 35, 36, 37, 38, 39, 40] (by decide +kernel) (by decide +kernel)
set_option maxRecDepth 20000 in
theorem gX4_search_X4_leastBehind : GoodIn wsX4_search (wsV RX4 95 RX4 yX4_leastBehind wsX4_leastBehind) := goodIn_app (goodIn_of _ (by decide +kernel)) ggX4_search_X4_leastBehind
set_option maxRecDepth 20000 in
theorem ggX4_search_X4_searchDay : GoodIn wsX4_search wsX4_searchDay := goodIn_r _ [25, 18, 26, 3, 9, 27, 28, 29, 22, 23, 24, 15, 0, 1, 2, 4, 5, 6, 7, 8, 10, 11, 12, 13, 14, 16, 17, 19, 20, 21, 30, 31, 32, 33, 34, 35, 36, 37, 38, 39, 40] (by decide +kernel) (by decide +kernel)
set_option maxRecDepth 20000 in
theorem gX4_search_X4_searchDay : GoodIn wsX4_search (wsV RX4 105 RX4 yX4_searchDay wsX4_searchDay) := goodIn_app (goodIn_of _ (by decide +kernel)) ggX4_search_X4_searchDay
set_option maxRecDepth 20000 in
theorem ggX4_search_X4_search : GoodIn wsX4_search wsX4_search := goodIn_r _ [0, 1, 2, 3, 4, 5, 6, 7, 8, 9, 10, 11, 12, 13, 14, 15, 16, 17, 18, 19, 20, 21, 22, 23, 24, 25, 26, 27, 28, 29, 30, 31, 32, 33, 34, 35, 36, 37, 38, 39, 40] (by decide +kernel) (by decide +kernel)
set_option maxRecDepth 20000 in
theorem gX4_search_X4_search : GoodIn wsX4_search (wsV RX4 64 RX4 yX4_search wsX4_search) := goodIn_app (goodIn_of _ (by decide +kernel)) ggX4_search_X4_search
theorem dX4_search_0 : decode cX4_search 0 = .ok (.iload_n 2, 1) := by decide +kernel
theorem dX4_search_1 : decode cX4_search 1 = .ok (.aload_n 0, 1) := by decide +kernel
theorem dX4_search_2 : decode cX4_search 2 = .ok (.iload_n 1, 1) := by decide +kernel
theorem dX4_search_3 : decode cX4_search 3 = .ok (.invokevirtual 95, 3) := by decide +kernel
theorem dX4_search_6 : decode cX4_search 6 = .ok (.iadd, 1) := by decide +kernel
theorem dX4_search_7 : decode cX4_search 7 = .ok (.aload_n 0, 1) := by decide +kernel
theorem dX4_search_8 : decode cX4_search 8 = .ok (.getfield 58, 3) := by decide +kernel
theorem dX4_search_11 : decode cX4_search 11 = .ok (.if_icmp .lt 4, 3) := by decide +kernel
theorem dX4_search_14 : decode cX4_search 14 = .ok (.return_, 1) := by decide +kernel
theorem dX4_search_15 : decode cX4_search 15 = .ok (.iload_n 1, 1) := by decide +kernel
theorem dX4_search_16 : decode cX4_search 16 = .ok (.aload_n 0, 1) := by decide +kernel
theorem dX4_search_17 : decode cX4_search 17 = .ok (.getfield 61, 3) := by decide +kernel
theorem dX4_search_20 : decode cX4_search 20 = .ok (.if_icmp .lt 26, 3) := by decide +kernel
theorem dX4_search_23 : decode cX4_search 23 = .ok (.aload_n 0, 1) := by decide +kernel
theorem dX4_search_24 : decode cX4_search 24 = .ok (.iload_n 2, 1) := by decide +kernel
theorem dX4_search_25 : decode cX4_search 25 = .ok (.putfield 58, 3) := by decide +kernel
theorem dX4_search_28 : decode cX4_search 28 = .ok (.aload_n 0, 1) := by decide +kernel
theorem dX4_search_29 : decode cX4_search 29 = .ok (.getfield 24, 3) := by decide +kernel
theorem dX4_search_32 : decode cX4_search 32 = .ok (.iconst 0, 1) := by decide +kernel
theorem dX4_search_33 : decode cX4_search 33 = .ok (.aload_n 0, 1) := by decide +kernel
theorem dX4_search_34 : decode cX4_search 34 = .ok (.getfield 27, 3) := by decide +kernel
theorem dX4_search_37 : decode cX4_search 37 = .ok (.iconst 0, 1) := by decide +kernel
theorem dX4_search_38 : decode cX4_search 38 = .ok (.aload_n 0, 1) := by decide +kernel
theorem dX4_search_39 : decode cX4_search 39 = .ok (.getfield 61, 3) := by decide +kernel
theorem dX4_search_42 : decode cX4_search 42 = .ok (.invokestatic 99, 3) := by decide +kernel
theorem dX4_search_45 : decode cX4_search 45 = .ok (.return_, 1) := by decide +kernel
theorem dX4_search_46 : decode cX4_search 46 = .ok (.iconst 0, 1) := by decide +kernel
theorem dX4_search_47 : decode cX4_search 47 = .ok (.istore_n 3, 1) := by decide +kernel
theorem dX4_search_48 : decode cX4_search 48 = .ok (.iload_n 3, 1) := by decide +kernel
theorem dX4_search_49 : decode cX4_search 49 = .ok (.iconst 3, 1) := by decide +kernel
theorem dX4_search_50 : decode cX4_search 50 = .ok (.if_icmp .ge 38, 3) := by decide +kernel
theorem dX4_search_53 : decode cX4_search 53 = .ok (.aload_n 0, 1) := by decide +kernel
theorem dX4_search_54 : decode cX4_search 54 = .ok (.getfield 33, 3) := by decide +kernel
theorem dX4_search_57 : decode cX4_search 57 = .ok (.iload_n 3, 1) := by decide +kernel
theorem dX4_search_58 : decode cX4_search 58 = .ok (.iaload, 1) := by decide +kernel
theorem dX4_search_59 : decode cX4_search 59 = .ok (.aload_n 0, 1) := by decide +kernel
theorem dX4_search_60 : decode cX4_search 60 = .ok (.getfield 48, 3) := by decide +kernel
theorem dX4_search_63 : decode cX4_search 63 = .ok (.if_icmp .ge 19, 3) := by decide +kernel
theorem dX4_search_66 : decode cX4_search 66 = .ok (.aload_n 0, 1) := by decide +kernel
theorem dX4_search_67 : decode cX4_search 67 = .ok (.iload_n 1, 1) := by decide +kernel
theorem dX4_search_68 : decode cX4_search 68 = .ok (.iload_n 2, 1) := by decide +kernel
theorem dX4_search_69 : decode cX4_search 69 = .ok (.aload_n 0, 1) := by decide +kernel
theorem dX4_search_70 : decode cX4_search 70 = .ok (.getfield 15, 3) := by decide +kernel
theorem dX4_search_73 : decode cX4_search 73 = .ok (.iload_n 1, 1) := by decide +kernel
theorem dX4_search_74 : decode cX4_search 74 = .ok (.iaload, 1) := by decide +kernel
theorem dX4_search_75 : decode cX4_search 75 = .ok (.iload_n 3, 1) := by decide +kernel
theorem dX4_search_76 : decode cX4_search 76 = .ok (.imul, 1) := by decide +kernel
theorem dX4_search_77 : decode cX4_search 77 = .ok (.iadd, 1) := by decide +kernel
theorem dX4_search_78 : decode cX4_search 78 = .ok (.iload_n 3, 1) := by decide +kernel
theorem dX4_search_79 : decode cX4_search 79 = .ok (.invokevirtual 105, 3) := by decide +kernel
theorem dX4_search_82 : decode cX4_search 82 = .ok (.iinc 3 1, 3) := by decide +kernel
theorem dX4_search_85 : decode cX4_search 85 = .ok (.goto (-37), 3) := by decide +kernel
theorem dX4_search_88 : decode cX4_search 88 = .ok (.aload_n 0, 1) := by decide +kernel
theorem dX4_search_89 : decode cX4_search 89 = .ok (.getfield 24, 3) := by decide +kernel
theorem dX4_search_92 : decode cX4_search 92 = .ok (.iload_n 1, 1) := by decide +kernel
theorem dX4_search_93 : decode cX4_search 93 = .ok (.bipush 18, 2) := by decide +kernel
theorem dX4_search_95 : decode cX4_search 95 = .ok (.iastore, 1) := by decide +kernel
theorem dX4_search_96 : decode cX4_search 96 = .ok (.aload_n 0, 1) := by decide +kernel
theorem dX4_search_97 : decode cX4_search 97 = .ok (.iload_n 1, 1) := by decide +kernel
theorem dX4_search_98 : decode cX4_search 98 = .ok (.iconst 1, 1) := by decide +kernel
theorem dX4_search_99 : decode cX4_search 99 = .ok (.iadd, 1) := by decide +kernel
theorem dX4_search_100 : decode cX4_search 100 = .ok (.iload_n 2, 1) := by decide +kernel
theorem dX4_search_101 : decode cX4_search 101 = .ok (.aload_n 0, 1) := by decide +kernel
theorem dX4_search_102 : decode cX4_search 102 = .ok (.getfield 15, 3) := by decide +kernel
theorem dX4_search_105 : decode cX4_search 105 = .ok (.iload_n 1, 1) := by decide +kernel
theorem dX4_search_106 : decode cX4_search 106 = .ok (.iaload, 1) := by decide +kernel
theorem dX4_search_107 : decode cX4_search 107 = .ok (.iconst 4, 1) := by decide +kernel
theorem dX4_search_108 : decode cX4_search 108 = .ok (.imul, 1) := by decide +kernel
theorem dX4_search_109 : decode cX4_search 109 = .ok (.iadd, 1) := by decide +kernel
theorem dX4_search_110 : decode cX4_search 110 = .ok (.invokevirtual 64, 3) := by decide +kernel
theorem dX4_search_113 : decode cX4_search 113 = .ok (.return_, 1) := by decide +kernel
set_option maxRecDepth 20000 in
theorem ggX4_searchDay_X7_hasBit : GoodIn wsX4_searchDay wsX7_hasBit := goodIn_r _ [7] (by decide +kernel) (by decide +kernel)
set_option maxRecDepth 20000 in
theorem gX4_searchDay_X7_hasBit_n115 : GoodIn wsX4_searchDay (wsX7_hasBit) := ggX4_searchDay_X7_hasBit
set_option maxRecDepth 20000 in
theorem ggX4_searchDay_X4_search : GoodIn wsX4_searchDay wsX4_search := goodIn_r _ [12, 13, 14, 3, 15, 16, 17, 18, 19, 4, 20, 21, 22, 23, 24, 11, 25, 26, 1, 27, 28, 29, 8, 9, 10, 0, 2, 5, 6, 7, 30, 31, 32, 33, 34, 35, 36, 37, 38, 39, 40] (by decide +kernel) (by decide +kernel)
set_option maxRecDepth 20000 in
theorem gX4_searchDay_X4_search : GoodIn wsX4_searchDay (wsV RX4 64 RX4 yX4_search wsX4_search) := goodIn_app (goodIn_of _ (by decide +kernel)) ggX4_searchDay_X4_search
theorem dX4_searchDay_0 : decode cX4_searchDay 0 = .ok (.iconst 0, 1) := by decide +kernel
theorem dX4_searchDay_1 : decode cX4_searchDay 1 = .ok (.istore 4, 2) := by decide +kernel
theorem dX4_searchDay_3 : decode cX4_searchDay 3 = .ok (.iload 4, 2) := by decide +kernel
theorem dX4_searchDay_5 : decode cX4_searchDay 5 = .ok (.bipush 6, 2) := by decide +kernel
theorem dX4_searchDay_7 : decode cX4_searchDay 7 = .ok (.if_icmp .ge 117, 3) := by decide +kernel
theorem dX4_searchDay_10 : decode cX4_searchDay 10 = .ok (.iconst 1, 1) := by decide +kernel
theorem dX4_searchDay_11 : decode cX4_searchDay 11 = .ok (.getstatic 109, 3) := by decide +kernel
theorem dX4_searchDay_14 : decode cX4_searchDay 14 = .ok (.iload 4, 2) := by decide +kernel
theorem dX4_searchDay_16 : decode cX4_searchDay 16 = .ok (.iaload, 1) := by decide +kernel
theorem dX4_searchDay_17 : decode cX4_searchDay 17 = .ok (.ishl, 1) := by decide +kernel
theorem dX4_searchDay_18 : decode cX4_searchDay 18 = .ok (.iconst 1, 1) := by decide +kernel
theorem dX4_searchDay_19 : decode cX4_searchDay 19 = .ok (.getstatic 112, 3) := by decide +kernel
theorem dX4_searchDay_22 : decode cX4_searchDay 22 = .ok (.iload 4, 2) := by decide +kernel
theorem dX4_searchDay_24 : decode cX4_searchDay 24 = .ok (.iaload, 1) := by decide +kernel
theorem dX4_searchDay_25 : decode cX4_searchDay 25 = .ok (.ishl, 1) := by decide +kernel
theorem dX4_searchDay_26 : decode cX4_searchDay 26 = .ok (.ior, 1) := by decide +kernel
theorem dX4_searchDay_27 : decode cX4_searchDay 27 = .ok (.istore 5, 2) := by decide +kernel
theorem dX4_searchDay_29 : decode cX4_searchDay 29 = .ok (.aload_n 0, 1) := by decide +kernel
theorem dX4_searchDay_30 : decode cX4_searchDay 30 = .ok (.getfield 18, 3) := by decide +kernel
theorem dX4_searchDay_33 : decode cX4_searchDay 33 = .ok (.iload_n 1, 1) := by decide +kernel
theorem dX4_searchDay_34 : decode cX4_searchDay 34 = .ok (.iaload, 1) := by decide +kernel
theorem dX4_searchDay_35 : decode cX4_searchDay 35 = .ok (.iload 4, 2) := by decide +kernel
theorem dX4_searchDay_37 : decode cX4_searchDay 37 = .ok (.invokestatic 115, 3) := by decide +kernel
theorem dX4_searchDay_40 : decode cX4_searchDay 40 = .ok (.ifCond .eq 78, 3) := by decide +kernel
theorem dX4_searchDay_43 : decode cX4_searchDay 43 = .ok (.aload_n 0, 1) := by decide +kernel
theorem dX4_searchDay_44 : decode cX4_searchDay 44 = .ok (.getfield 30, 3) := by decide +kernel
theorem dX4_searchDay_47 : decode cX4_searchDay 47 = .ok (.iload_n 3, 1) := by decide +kernel
theorem dX4_searchDay_48 : decode cX4_searchDay 48 = .ok (.iaload, 1) := by decide +kernel
theorem dX4_searchDay_49 : decode cX4_searchDay 49 = .ok (.iload 5, 2) := by decide +kernel
theorem dX4_searchDay_51 : decode cX4_searchDay 51 = .ok (.iand, 1) := by decide +kernel
theorem dX4_searchDay_52 : decode cX4_searchDay 52 = .ok (.ifCond .ne 66, 3) := by decide +kernel
theorem dX4_searchDay_55 : decode cX4_searchDay 55 = .ok (.aload_n 0, 1) := by decide +kernel
theorem dX4_searchDay_56 : decode cX4_searchDay 56 = .ok (.getfield 24, 3) := by decide +kernel
theorem dX4_searchDay_59 : decode cX4_searchDay 59 = .ok (.iload_n 1, 1) := by decide +kernel
theorem dX4_searchDay_60 : decode cX4_searchDay 60 = .ok (.bipush 6, 2) := by decide +kernel
theorem dX4_searchDay_62 : decode cX4_searchDay 62 = .ok (.iload_n 3, 1) := by decide +kernel
theorem dX4_searchDay_63 : decode cX4_searchDay 63 = .ok (.imul, 1) := by decide +kernel
theorem dX4_searchDay_64 : decode cX4_searchDay 64 = .ok (.iload 4, 2) := by decide +kernel
theorem dX4_searchDay_66 : decode cX4_searchDay 66 = .ok (.iadd, 1) := by decide +kernel
theorem dX4_searchDay_67 : decode cX4_searchDay 67 = .ok (.iastore, 1) := by decide +kernel
theorem dX4_searchDay_68 : decode cX4_searchDay 68 = .ok (.aload_n 0, 1) := by decide +kernel
theorem dX4_searchDay_69 : decode cX4_searchDay 69 = .ok (.getfield 30, 3) := by decide +kernel
theorem dX4_searchDay_72 : decode cX4_searchDay 72 = .ok (.iload_n 3, 1) := by decide +kernel
theorem dX4_searchDay_73 : decode cX4_searchDay 73 = .ok (.dup2, 1) := by decide +kernel
theorem dX4_searchDay_74 : decode cX4_searchDay 74 = .ok (.iaload, 1) := by decide +kernel
theorem dX4_searchDay_75 : decode cX4_searchDay 75 = .ok (.iload 5, 2) := by decide +kernel
theorem dX4_searchDay_77 : decode cX4_searchDay 77 = .ok (.ior, 1) := by decide +kernel
theorem dX4_searchDay_78 : decode cX4_searchDay 78 = .ok (.iastore, 1) := by decide +kernel
theorem dX4_searchDay_79 : decode cX4_searchDay 79 = .ok (.aload_n 0, 1) := by decide +kernel
theorem dX4_searchDay_80 : decode cX4_searchDay 80 = .ok (.getfield 33, 3) := by decide +kernel
theorem dX4_searchDay_83 : decode cX4_searchDay 83 = .ok (.iload_n 3, 1) := by decide +kernel
theorem dX4_searchDay_84 : decode cX4_searchDay 84 = .ok (.dup2, 1) := by decide +kernel
theorem dX4_searchDay_85 : decode cX4_searchDay 85 = .ok (.iaload, 1) := by decide +kernel
theorem dX4_searchDay_86 : decode cX4_searchDay 86 = .ok (.iconst 1, 1) := by decide +kernel
theorem dX4_searchDay_87 : decode cX4_searchDay 87 = .ok (.iadd, 1) := by decide +kernel
theorem dX4_searchDay_88 : decode cX4_searchDay 88 = .ok (.iastore, 1) := by decide +kernel
theorem dX4_searchDay_89 : decode cX4_searchDay 89 = .ok (.aload_n 0, 1) := by decide +kernel
theorem dX4_searchDay_90 : decode cX4_searchDay 90 = .ok (.iload_n 1, 1) := by decide +kernel
theorem dX4_searchDay_91 : decode cX4_searchDay 91 = .ok (.iconst 1, 1) := by decide +kernel
theorem dX4_searchDay_92 : decode cX4_searchDay 92 = .ok (.iadd, 1) := by decide +kernel
theorem dX4_searchDay_93 : decode cX4_searchDay 93 = .ok (.iload_n 2, 1) := by decide +kernel
theorem dX4_searchDay_94 : decode cX4_searchDay 94 = .ok (.invokevirtual 64, 3) := by decide +kernel
theorem dX4_searchDay_97 : decode cX4_searchDay 97 = .ok (.aload_n 0, 1) := by decide +kernel
theorem dX4_searchDay_98 : decode cX4_searchDay 98 = .ok (.getfield 33, 3) := by decide +kernel
theorem dX4_searchDay_101 : decode cX4_searchDay 101 = .ok (.iload_n 3, 1) := by decide +kernel
theorem dX4_searchDay_102 : decode cX4_searchDay 102 = .ok (.dup2, 1) := by decide +kernel
theorem dX4_searchDay_103 : decode cX4_searchDay 103 = .ok (.iaload, 1) := by decide +kernel
theorem dX4_searchDay_104 : decode cX4_searchDay 104 = .ok (.iconst 1, 1) := by decide +kernel
theorem dX4_searchDay_105 : decode cX4_searchDay 105 = .ok (.isub, 1) := by decide +kernel
theorem dX4_searchDay_106 : decode cX4_searchDay 106 = .ok (.iastore, 1) := by decide +kernel
theorem dX4_searchDay_107 : decode cX4_searchDay 107 = .ok (.aload_n 0, 1) := by decide +kernel
theorem dX4_searchDay_108 : decode cX4_searchDay 108 = .ok (.getfield 30, 3) := by decide +kernel
theorem dX4_searchDay_111 : decode cX4_searchDay 111 = .ok (.iload_n 3, 1) := by decide +kernel
theorem dX4_searchDay_112 : decode cX4_searchDay 112 = .ok (.dup2, 1) := by decide +kernel
theorem dX4_searchDay_113 : decode cX4_searchDay 113 = .ok (.iaload, 1) := by decide +kernel
theorem dX4_searchDay_114 : decode cX4_searchDay 114 = .ok (.iload 5, 2) := by decide +kernel
theorem dX4_searchDay_116 : decode cX4_searchDay 116 = .ok (.ixor, 1) := by decide +kernel
theorem dX4_searchDay_117 : decode cX4_searchDay 117 = .ok (.iastore, 1) := by decide +kernel
theorem dX4_searchDay_118 : decode cX4_searchDay 118 = .ok (.iinc 4 1, 3) := by decide +kernel
theorem dX4_searchDay_121 : decode cX4_searchDay 121 = .ok (.goto (-118), 3) := by decide +kernel
theorem dX4_searchDay_124 : decode cX4_searchDay 124 = .ok (.return_, 1) := by decide +kernel
theorem dX4_leastBehind_0 : decode cX4_leastBehind 0 = .ok (.iconst 0, 1) := by decide +kernel
theorem dX4_leastBehind_1 : decode cX4_leastBehind 1 = .ok (.istore_n 2, 1) := by decide +kernel
theorem dX4_leastBehind_2 : decode cX4_leastBehind 2 = .ok (.iconst 0, 1) := by decide +kernel
theorem dX4_leastBehind_3 : decode cX4_leastBehind 3 = .ok (.istore_n 3, 1) := by decide +kernel
theorem dX4_leastBehind_4 : decode cX4_leastBehind 4 = .ok (.aload_n 0, 1) := by decide +kernel
theorem dX4_leastBehind_5 : decode cX4_leastBehind 5 = .ok (.getfield 33, 3) := by decide +kernel
theorem dX4_leastBehind_8 : decode cX4_leastBehind 8 = .ok (.iconst 0, 1) := by decide +kernel
theorem dX4_leastBehind_9 : decode cX4_leastBehind 9 = .ok (.iaload, 1) := by decide +kernel
theorem dX4_leastBehind_10 : decode cX4_leastBehind 10 = .ok (.istore 4, 2) := by decide +kernel
theorem dX4_leastBehind_12 : decode cX4_leastBehind 12 = .ok (.iconst 0, 1) := by decide +kernel
theorem dX4_leastBehind_13 : decode cX4_leastBehind 13 = .ok (.istore 5, 2) := by decide +kernel
theorem dX4_leastBehind_15 : decode cX4_leastBehind 15 = .ok (.iload 5, 2) := by decide +kernel
theorem dX4_leastBehind_17 : decode cX4_leastBehind 17 = .ok (.aload_n 0, 1) := by decide +kernel
theorem dX4_leastBehind_18 : decode cX4_leastBehind 18 = .ok (.getfield 61, 3) := by decide +kernel
theorem dX4_leastBehind_21 : decode cX4_leastBehind 21 = .ok (.if_icmp .ge 119, 3) := by decide +kernel
theorem dX4_leastBehind_24 : decode cX4_leastBehind 24 = .ok (.aload_n 0, 1) := by decide +kernel
theorem dX4_leastBehind_25 : decode cX4_leastBehind 25 = .ok (.getfield 21, 3) := by decide +kernel
theorem dX4_leastBehind_28 : decode cX4_leastBehind 28 = .ok (.iload 5, 2) := by decide +kernel
theorem dX4_leastBehind_30 : decode cX4_leastBehind 30 = .ok (.iaload, 1) := by decide +kernel
theorem dX4_leastBehind_31 : decode cX4_leastBehind 31 = .ok (.istore 6, 2) := by decide +kernel
theorem dX4_leastBehind_33 : decode cX4_leastBehind 33 = .ok (.iload 6, 2) := by decide +kernel
theorem dX4_leastBehind_35 : decode cX4_leastBehind 35 = .ok (.iload_n 1, 1) := by decide +kernel
theorem dX4_leastBehind_36 : decode cX4_leastBehind 36 = .ok (.if_icmp .lt 98, 3) := by decide +kernel
theorem dX4_leastBehind_39 : decode cX4_leastBehind 39 = .ok (.iload_n 3, 1) := by decide +kernel
theorem dX4_leastBehind_40 : decode cX4_leastBehind 40 = .ok (.iconst 3, 1) := by decide +kernel
theorem dX4_leastBehind_41 : decode cX4_leastBehind 41 = .ok (.if_icmp .ge 35, 3) := by decide +kernel
theorem dX4_leastBehind_44 : decode cX4_leastBehind 44 = .ok (.iload 4, 2) := by decide +kernel
theorem dX4_leastBehind_46 : decode cX4_leastBehind 46 = .ok (.aload_n 0, 1) := by decide +kernel
theorem dX4_leastBehind_47 : decode cX4_leastBehind 47 = .ok (.getfield 48, 3) := by decide +kernel
theorem dX4_leastBehind_50 : decode cX4_leastBehind 50 = .ok (.if_icmp .lt 26, 3) := by decide +kernel
theorem dX4_leastBehind_53 : decode cX4_leastBehind 53 = .ok (.iinc 3 1, 3) := by decide +kernel
theorem dX4_leastBehind_56 : decode cX4_leastBehind 56 = .ok (.iload_n 3, 1) := by decide +kernel
theorem dX4_leastBehind_57 : decode cX4_leastBehind 57 = .ok (.iconst 3, 1) := by decide +kernel
theorem dX4_leastBehind_58 : decode cX4_leastBehind 58 = .ok (.if_icmp .ge 12, 3) := by decide +kernel
theorem dX4_leastBehind_61 : decode cX4_leastBehind 61 = .ok (.aload_n 0, 1) := by decide +kernel
theorem dX4_leastBehind_62 : decode cX4_leastBehind 62 = .ok (.getfield 33, 3) := by decide +kernel
theorem dX4_leastBehind_65 : decode cX4_leastBehind 65 = .ok (.iload_n 3, 1) := by decide +kernel
theorem dX4_leastBehind_66 : decode cX4_leastBehind 66 = .ok (.iaload, 1) := by decide +kernel
theorem dX4_leastBehind_67 : decode cX4_leastBehind 67 = .ok (.goto 4, 3) := by decide +kernel
theorem dX4_leastBehind_70 : decode cX4_leastBehind 70 = .ok (.iconst 0, 1) := by decide +kernel
theorem dX4_leastBehind_71 : decode cX4_leastBehind 71 = .ok (.istore 4, 2) := by decide +kernel
theorem dX4_leastBehind_73 : decode cX4_leastBehind 73 = .ok (.goto (-34), 3) := by decide +kernel
theorem dX4_leastBehind_76 : decode cX4_leastBehind 76 = .ok (.iload_n 3, 1) := by decide +kernel
theorem dX4_leastBehind_77 : decode cX4_leastBehind 77 = .ok (.iconst 3, 1) := by decide +kernel
theorem dX4_leastBehind_78 : decode cX4_leastBehind 78 = .ok (.if_icmp .ge 17, 3) := by decide +kernel
theorem dX4_leastBehind_81 : decode cX4_leastBehind 81 = .ok (.aload_n 0, 1) := by decide +kernel
theorem dX4_leastBehind_82 : decode cX4_leastBehind 82 = .ok (.getfield 18, 3) := by decide +kernel
theorem dX4_leastBehind_85 : decode cX4_leastBehind 85 = .ok (.iload 6, 2) := by decide +kernel
theorem dX4_leastBehind_87 : decode cX4_leastBehind 87 = .ok (.iaload, 1) := by decide +kernel
theorem dX4_leastBehind_88 : decode cX4_leastBehind 88 = .ok (.ifCond .eq 7, 3) := by decide +kernel
theorem dX4_leastBehind_91 : decode cX4_leastBehind 91 = .ok (.iconst 1, 1) := by decide +kernel
theorem dX4_leastBehind_92 : decode cX4_leastBehind 92 = .ok (.goto 4, 3) := by decide +kernel
theorem dX4_leastBehind_95 : decode cX4_leastBehind 95 = .ok (.iconst 0, 1) := by decide +kernel
theorem dX4_leastBehind_96 : decode cX4_leastBehind 96 = .ok (.istore 7, 2) := by decide +kernel
theorem dX4_leastBehind_98 : decode cX4_leastBehind 98 = .ok (.iload_n 2, 1) := by decide +kernel
theorem dX4_leastBehind_99 : decode cX4_leastBehind 99 = .ok (.aload_n 0, 1) := by decide +kernel
theorem dX4_leastBehind_100 : decode cX4_leastBehind 100 = .ok (.getfield 15, 3) := by decide +kernel
theorem dX4_leastBehind_103 : decode cX4_leastBehind 103 = .ok (.iload 6, 2) := by decide +kernel
theorem dX4_leastBehind_105 : decode cX4_leastBehind 105 = .ok (.iaload, 1) := by decide +kernel
theorem dX4_leastBehind_106 : decode cX4_leastBehind 106 = .ok (.iload 7, 2) := by decide +kernel
theorem dX4_leastBehind_108 : decode cX4_leastBehind 108 = .ok (.ifCond .eq 7, 3) := by decide +kernel
theorem dX4_leastBehind_111 : decode cX4_leastBehind 111 = .ok (.iload_n 3, 1) := by decide +kernel
theorem dX4_leastBehind_112 : decode cX4_leastBehind 112 = .ok (.goto 4, 3) := by decide +kernel
theorem dX4_leastBehind_115 : decode cX4_leastBehind 115 = .ok (.iconst 4, 1) := by decide +kernel
theorem dX4_leastBehind_116 : decode cX4_leastBehind 116 = .ok (.imul, 1) := by decide +kernel
theorem dX4_leastBehind_117 : decode cX4_leastBehind 117 = .ok (.iadd, 1) := by decide +kernel
theorem dX4_leastBehind_118 : decode cX4_leastBehind 118 = .ok (.istore_n 2, 1) := by decide +kernel
theorem dX4_leastBehind_119 : decode cX4_leastBehind 119 = .ok (.iload 4, 2) := by decide +kernel
theorem dX4_leastBehind_121 : decode cX4_leastBehind 121 = .ok (.iload 7, 2) := by decide +kernel
theorem dX4_leastBehind_123 : decode cX4_leastBehind 123 = .ok (.ifCond .eq 7, 3) := by decide +kernel
theorem dX4_leastBehind_126 : decode cX4_leastBehind 126 = .ok (.iconst 1, 1) := by decide +kernel
theorem dX4_leastBehind_127 : decode cX4_leastBehind 127 = .ok (.goto 4, 3) := by decide +kernel
theorem dX4_leastBehind_130 : decode cX4_leastBehind 130 = .ok (.iconst 0, 1) := by decide +kernel
theorem dX4_leastBehind_131 : decode cX4_leastBehind 131 = .ok (.iadd, 1) := by decide +kernel
theorem dX4_leastBehind_132 : decode cX4_leastBehind 132 = .ok (.istore 4, 2) := by decide +kernel
theorem dX4_leastBehind_134 : decode cX4_leastBehind 134 = .ok (.iinc 5 1, 3) := by decide +kernel
theorem dX4_leastBehind_137 : decode cX4_leastBehind 137 = .ok (.goto (-122), 3) := by decide +kernel
theorem dX4_leastBehind_140 : decode cX4_leastBehind 140 = .ok (.iload_n 2, 1) := by decide +kernel
theorem dX4_leastBehind_141 : decode cX4_leastBehind 141 = .ok (.ireturn, 1) := by decide +kernel
theorem dX5_init_0 : decode cX5_init 0 = .ok (.aload_n 0, 1) := by decide +kernel
theorem dX5_init_1 : decode cX5_init 1 = .ok (.invokespecial 3, 3) := by decide +kernel
theorem dX5_init_4 : decode cX5_init 4 = .ok (.aload_n 0, 1) := by decide +kernel
theorem dX5_init_5 : decode cX5_init 5 = .ok (.iconst 5, 1) := by decide +kernel
theorem dX5_init_6 : decode cX5_init 6 = .ok (.newarray .int, 2) := by decide +kernel
theorem dX5_init_8 : decode cX5_init 8 = .ok (.putfield 9, 3) := by decide +kernel
theorem dX5_init_11 : decode cX5_init 11 = .ok (.aload_n 0, 1) := by decide +kernel
theorem dX5_init_12 : decode cX5_init 12 = .ok (.iconst 5, 1) := by decide +kernel
theorem dX5_init_13 : decode cX5_init 13 = .ok (.newarray .int, 2) := by decide +kernel
theorem dX5_init_15 : decode cX5_init 15 = .ok (.putfield 15, 3) := by decide +kernel
theorem dX5_init_18 : decode cX5_init 18 = .ok (.return_, 1) := by decide +kernel
set_option maxRecDepth 20000 in
theorem ggX5_read_X5_allowedHours : GoodIn wsX5_read wsX5_allowedHours := goodIn_r _ [10, 2, 3, 4, 11, 12, 13, 14, 15, 16, 17, 18, 22, 23, 24, 25, 26, 27, 28, 29, 30, 31, 32, 33, 34, 35, 36, 37] (by decide +kernel) (by decide +kernel)
set_option maxRecDepth 20000 in
theorem gX5_read_X5_allowedHours : GoodIn wsX5_read (va_wsS RX5 37 yX5_allowedHours wsX5_allowedHours) := goodIn_app (goodIn_of _ (by decide +kernel)) ggX5_read_X5_allowedHours
theorem dX5_read_0 : decode cX5_read 0 = .ok (.aload_n 0, 1) := by decide +kernel
theorem dX5_read_1 : decode cX5_read 1 = .ok (.iconst 0, 1) := by decide +kernel
theorem dX5_read_2 : decode cX5_read 2 = .ok (.putfield 18, 3) := by decide +kernel
theorem dX5_read_5 : decode cX5_read 5 = .ok (.iconst 0, 1) := by decide +kernel
theorem dX5_read_6 : decode cX5_read 6 = .ok (.istore 4, 2) := by decide +kernel
theorem dX5_read_8 : decode cX5_read 8 = .ok (.iload 4, 2) := by decide +kernel
theorem dX5_read_10 : decode cX5_read 10 = .ok (.iload_n 3, 1) := by decide +kernel
theorem dX5_read_11 : decode cX5_read 11 = .ok (.if_icmp .ge 72, 3) := by decide +kernel
theorem dX5_read_14 : decode cX5_read 14 = .ok (.aload_n 1, 1) := by decide +kernel
theorem dX5_read_15 : decode cX5_read 15 = .ok (.getfield 22, 3) := by decide +kernel
theorem dX5_read_18 : decode cX5_read 18 = .ok (.iload 4, 2) := by decide +kernel
theorem dX5_read_20 : decode cX5_read 20 = .ok (.aaload, 1) := by decide +kernel
theorem dX5_read_21 : decode cX5_read 21 = .ok (.astore 5, 2) := by decide +kernel
theorem dX5_read_23 : decode cX5_read 23 = .ok (.aload 5, 2) := by decide +kernel
theorem dX5_read_25 : decode cX5_read 25 = .ok (.getfield 28, 3) := by decide +kernel
theorem dX5_read_28 : decode cX5_read 28 = .ok (.iload_n 2, 1) := by decide +kernel
theorem dX5_read_29 : decode cX5_read 29 = .ok (.if_icmp .ne 48, 3) := by decide +kernel
theorem dX5_read_32 : decode cX5_read 32 = .ok (.aload 5, 2) := by decide +kernel
theorem dX5_read_34 : decode cX5_read 34 = .ok (.getfield 33, 3) := by decide +kernel
theorem dX5_read_37 : decode cX5_read 37 = .ok (.ifCond .eq 40, 3) := by decide +kernel
theorem dX5_read_40 : decode cX5_read 40 = .ok (.aload_n 0, 1) := by decide +kernel
theorem dX5_read_41 : decode cX5_read 41 = .ok (.getfield 9, 3) := by decide +kernel
theorem dX5_read_44 : decode cX5_read 44 = .ok (.aload_n 0, 1) := by decide +kernel
theorem dX5_read_45 : decode cX5_read 45 = .ok (.getfield 18, 3) := by decide +kernel
theorem dX5_read_48 : decode cX5_read 48 = .ok (.iload 4, 2) := by decide +kernel
theorem dX5_read_50 : decode cX5_read 50 = .ok (.iastore, 1) := by decide +kernel
theorem dX5_read_51 : decode cX5_read 51 = .ok (.aload_n 0, 1) := by decide +kernel
theorem dX5_read_52 : decode cX5_read 52 = .ok (.getfield 15, 3) := by decide +kernel
theorem dX5_read_55 : decode cX5_read 55 = .ok (.aload_n 0, 1) := by decide +kernel
theorem dX5_read_56 : decode cX5_read 56 = .ok (.getfield 18, 3) := by decide +kernel
theorem dX5_read_59 : decode cX5_read 59 = .ok (.aload_n 1, 1) := by decide +kernel
theorem dX5_read_60 : decode cX5_read 60 = .ok (.aload 5, 2) := by decide +kernel
theorem dX5_read_62 : decode cX5_read 62 = .ok (.iload_n 3, 1) := by decide +kernel
theorem dX5_read_63 : decode cX5_read 63 = .ok (.invokestatic 37, 3) := by decide +kernel
theorem dX5_read_66 : decode cX5_read 66 = .ok (.iastore, 1) := by decide +kernel
theorem dX5_read_67 : decode cX5_read 67 = .ok (.aload_n 0, 1) := by decide +kernel
theorem dX5_read_68 : decode cX5_read 68 = .ok (.dup, 1) := by decide +kernel
theorem dX5_read_69 : decode cX5_read 69 = .ok (.getfield 18, 3) := by decide +kernel
theorem dX5_read_72 : decode cX5_read 72 = .ok (.iconst 1, 1) := by decide +kernel
theorem dX5_read_73 : decode cX5_read 73 = .ok (.iadd, 1) := by decide +kernel
theorem dX5_read_74 : decode cX5_read 74 = .ok (.putfield 18, 3) := by decide +kernel
theorem dX5_read_77 : decode cX5_read 77 = .ok (.iinc 4 1, 3) := by decide +kernel
theorem dX5_read_80 : decode cX5_read 80 = .ok (.goto (-72), 3) := by decide +kernel
theorem dX5_read_83 : decode cX5_read 83 = .ok (.return_, 1) := by decide +kernel
set_option maxRecDepth 20000 in
theorem ggX5_allowedHours_X6_hourBits : GoodIn wsX5_allowedHours wsX6_hourBits := goodIn_r _ [9, 10, 11, 23, 24, 25, 26, 27] (by decide +kernel) (by decide +kernel)
set_option maxRecDepth 20000 in
theorem gX5_allowedHours_X6_hourBits : GoodIn wsX5_allowedHours (wsV RX5 41 RX6 yX6_hourBits wsX6_hourBits) := goodIn_app (goodIn_of _ (by decide +kernel)) ggX5_allowedHours_X6_hourBits
theorem dX5_allowedHours_0 : decode cX5_allowedHours 0 = .ok (.aload_n 1, 1) := by decide +kernel
theorem dX5_allowedHours_1 : decode cX5_allowedHours 1 = .ok (.invokevirtual 41, 3) := by decide +kernel
theorem dX5_allowedHours_4 : decode cX5_allowedHours 4 = .ok (.istore_n 3, 1) := by decide +kernel
theorem dX5_allowedHours_5 : decode cX5_allowedHours 5 = .ok (.iconst 0, 1) := by decide +kernel
theorem dX5_allowedHours_6 : decode cX5_allowedHours 6 = .ok (.istore 4, 2) := by decide +kernel
theorem dX5_allowedHours_8 : decode cX5_allowedHours 8 = .ok (.iload 4, 2) := by decide +kernel
theorem dX5_allowedHours_10 : decode cX5_allowedHours 10 = .ok (.iload_n 2, 1) := by decide +kernel
theorem dX5_allowedHours_11 : decode cX5_allowedHours 11 = .ok (.if_icmp .ge 60, 3) := by decide +kernel
theorem dX5_allowedHours_14 : decode cX5_allowedHours 14 = .ok (.aload_n 0, 1) := by decide +kernel
theorem dX5_allowedHours_15 : decode cX5_allowedHours 15 = .ok (.getfield 22, 3) := by decide +kernel
theorem dX5_allowedHours_18 : decode cX5_allowedHours 18 = .ok (.iload 4, 2) := by decide +kernel
theorem dX5_allowedHours_20 : decode cX5_allowedHours 20 = .ok (.aaload, 1) := by decide +kernel
theorem dX5_allowedHours_21 : decode cX5_allowedHours 21 = .ok (.astore 5, 2) := by decide +kernel
theorem dX5_allowedHours_23 : decode cX5_allowedHours 23 = .ok (.aload 5, 2) := by decide +kernel
theorem dX5_allowedHours_25 : decode cX5_allowedHours 25 = .ok (.getfield 28, 3) := by decide +kernel
theorem dX5_allowedHours_28 : decode cX5_allowedHours 28 = .ok (.aload_n 1, 1) := by decide +kernel
theorem dX5_allowedHours_29 : decode cX5_allowedHours 29 = .ok (.getfield 28, 3) := by decide +kernel
theorem dX5_allowedHours_32 : decode cX5_allowedHours 32 = .ok (.if_icmp .ne 33, 3) := by decide +kernel
theorem dX5_allowedHours_35 : decode cX5_allowedHours 35 = .ok (.aload 5, 2) := by decide +kernel
theorem dX5_allowedHours_37 : decode cX5_allowedHours 37 = .ok (.getfield 33, 3) := by decide +kernel
theorem dX5_allowedHours_40 : decode cX5_allowedHours 40 = .ok (.ifCond .ne 25, 3) := by decide +kernel
theorem dX5_allowedHours_43 : decode cX5_allowedHours 43 = .ok (.aload 5, 2) := by decide +kernel
theorem dX5_allowedHours_45 : decode cX5_allowedHours 45 = .ok (.getfield 44, 3) := by decide +kernel
theorem dX5_allowedHours_48 : decode cX5_allowedHours 48 = .ok (.aload_n 1, 1) := by decide +kernel
theorem dX5_allowedHours_49 : decode cX5_allowedHours 49 = .ok (.getfield 44, 3) := by decide +kernel
theorem dX5_allowedHours_52 : decode cX5_allowedHours 52 = .ok (.if_icmp .ne 13, 3) := by decide +kernel
theorem dX5_allowedHours_55 : decode cX5_allowedHours 55 = .ok (.iload_n 3, 1) := by decide +kernel
theorem dX5_allowedHours_56 : decode cX5_allowedHours 56 = .ok (.aload 5, 2) := by decide +kernel
theorem dX5_allowedHours_58 : decode cX5_allowedHours 58 = .ok (.invokevirtual 41, 3) := by decide +kernel
theorem dX5_allowedHours_61 : decode cX5_allowedHours 61 = .ok (.iconst (-1), 1) := by decide +kernel
theorem dX5_allowedHours_62 : decode cX5_allowedHours 62 = .ok (.ixor, 1) := by decide +kernel
theorem dX5_allowedHours_63 : decode cX5_allowedHours 63 = .ok (.iand, 1) := by decide +kernel
theorem dX5_allowedHours_64 : decode cX5_allowedHours 64 = .ok (.istore_n 3, 1) := by decide +kernel
theorem dX5_allowedHours_65 : decode cX5_allowedHours 65 = .ok (.iinc 4 1, 3) := by decide +kernel
theorem dX5_allowedHours_68 : decode cX5_allowedHours 68 = .ok (.goto (-60), 3) := by decide +kernel
theorem dX5_allowedHours_71 : decode cX5_allowedHours 71 = .ok (.iload_n 3, 1) := by decide +kernel
theorem dX5_allowedHours_72 : decode cX5_allowedHours 72 = .ok (.ireturn, 1) := by decide +kernel
set_option maxRecDepth 20000 in
theorem ggX5_stands_X7_hasBit : GoodIn wsX5_stands wsX7_hasBit := goodIn_r _ [5] (by decide +kernel) (by decide +kernel)
set_option maxRecDepth 20000 in
theorem gX5_stands_X7_hasBit_n47 : GoodIn wsX5_stands (wsX7_hasBit) := ggX5_stands_X7_hasBit
set_option maxRecDepth 20000 in
theorem ggX5_stands_J6_bitCount_0f7a4 : GoodIn wsX5_stands wsJ6_bitCount_0f7a4 := goodIn_r _ [9, 10, 11, 12] (by decide +kernel) (by decide +kernel)
set_option maxRecDepth 20000 in
theorem gX5_stands_J6_bitCount_0f7a4 : GoodIn wsX5_stands (va_wsS RX5 51 yJ6_bitCount_0f7a4 wsJ6_bitCount_0f7a4) := goodIn_app (goodIn_of _ (by decide +kernel)) ggX5_stands_J6_bitCount_0f7a4
theorem dX5_stands_0 : decode cX5_stands 0 = .ok (.iconst 1, 1) := by decide +kernel
theorem dX5_stands_1 : decode cX5_stands 1 = .ok (.istore_n 1, 1) := by decide +kernel
theorem dX5_stands_2 : decode cX5_stands 2 = .ok (.iload_n 1, 1) := by decide +kernel
theorem dX5_stands_3 : decode cX5_stands 3 = .ok (.iconst 1, 1) := by decide +kernel
theorem dX5_stands_4 : decode cX5_stands 4 = .ok (.aload_n 0, 1) := by decide +kernel
theorem dX5_stands_5 : decode cX5_stands 5 = .ok (.getfield 18, 3) := by decide +kernel
theorem dX5_stands_8 : decode cX5_stands 8 = .ok (.ishl, 1) := by decide +kernel
theorem dX5_stands_9 : decode cX5_stands 9 = .ok (.if_icmp .ge 57, 3) := by decide +kernel
theorem dX5_stands_12 : decode cX5_stands 12 = .ok (.iconst 0, 1) := by decide +kernel
theorem dX5_stands_13 : decode cX5_stands 13 = .ok (.istore_n 2, 1) := by decide +kernel
theorem dX5_stands_14 : decode cX5_stands 14 = .ok (.iconst 0, 1) := by decide +kernel
theorem dX5_stands_15 : decode cX5_stands 15 = .ok (.istore_n 3, 1) := by decide +kernel
theorem dX5_stands_16 : decode cX5_stands 16 = .ok (.iload_n 3, 1) := by decide +kernel
theorem dX5_stands_17 : decode cX5_stands 17 = .ok (.aload_n 0, 1) := by decide +kernel
theorem dX5_stands_18 : decode cX5_stands 18 = .ok (.getfield 18, 3) := by decide +kernel
theorem dX5_stands_21 : decode cX5_stands 21 = .ok (.if_icmp .ge 26, 3) := by decide +kernel
theorem dX5_stands_24 : decode cX5_stands 24 = .ok (.iload_n 1, 1) := by decide +kernel
theorem dX5_stands_25 : decode cX5_stands 25 = .ok (.iload_n 3, 1) := by decide +kernel
theorem dX5_stands_26 : decode cX5_stands 26 = .ok (.invokestatic 47, 3) := by decide +kernel
theorem dX5_stands_29 : decode cX5_stands 29 = .ok (.ifCond .eq 12, 3) := by decide +kernel
theorem dX5_stands_32 : decode cX5_stands 32 = .ok (.iload_n 2, 1) := by decide +kernel
theorem dX5_stands_33 : decode cX5_stands 33 = .ok (.aload_n 0, 1) := by decide +kernel
theorem dX5_stands_34 : decode cX5_stands 34 = .ok (.getfield 15, 3) := by decide +kernel
theorem dX5_stands_37 : decode cX5_stands 37 = .ok (.iload_n 3, 1) := by decide +kernel
theorem dX5_stands_38 : decode cX5_stands 38 = .ok (.iaload, 1) := by decide +kernel
theorem dX5_stands_39 : decode cX5_stands 39 = .ok (.ior, 1) := by decide +kernel
theorem dX5_stands_40 : decode cX5_stands 40 = .ok (.istore_n 2, 1) := by decide +kernel
theorem dX5_stands_41 : decode cX5_stands 41 = .ok (.iinc 3 1, 3) := by decide +kernel
theorem dX5_stands_44 : decode cX5_stands 44 = .ok (.goto (-28), 3) := by decide +kernel
theorem dX5_stands_47 : decode cX5_stands 47 = .ok (.iload_n 2, 1) := by decide +kernel
theorem dX5_stands_48 : decode cX5_stands 48 = .ok (.invokestatic 51, 3) := by decide +kernel
theorem dX5_stands_51 : decode cX5_stands 51 = .ok (.iload_n 1, 1) := by decide +kernel
theorem dX5_stands_52 : decode cX5_stands 52 = .ok (.invokestatic 51, 3) := by decide +kernel
theorem dX5_stands_55 : decode cX5_stands 55 = .ok (.if_icmp .ge 5, 3) := by decide +kernel
theorem dX5_stands_58 : decode cX5_stands 58 = .ok (.iconst 0, 1) := by decide +kernel
theorem dX5_stands_59 : decode cX5_stands 59 = .ok (.ireturn, 1) := by decide +kernel
theorem dX5_stands_60 : decode cX5_stands 60 = .ok (.iinc 1 1, 3) := by decide +kernel
theorem dX5_stands_63 : decode cX5_stands 63 = .ok (.goto (-61), 3) := by decide +kernel
theorem dX5_stands_66 : decode cX5_stands 66 = .ok (.iconst 1, 1) := by decide +kernel
theorem dX5_stands_67 : decode cX5_stands 67 = .ok (.ireturn, 1) := by decide +kernel
set_option maxRecDepth 20000 in
theorem ggX5_hourOf_X5_pinLeastHour : GoodIn wsX5_hourOf wsX5_pinLeastHour := goodIn_r _ [7, 8, 9, 10, 11, 12, 13, 14, 6, 15, 1, 16, 17, 18, 19, 20, 21, 22, 23, 24, 25] (by decide +kernel) (by decide +kernel)
set_option maxRecDepth 20000 in
theorem gX5_hourOf_X5_pinLeastHour : GoodIn wsX5_hourOf (wsV RX5 57 RX5 yX5_pinLeastHour wsX5_pinLeastHour) := goodIn_app (goodIn_of _ (by decide +kernel)) ggX5_hourOf_X5_pinLeastHour
theorem dX5_hourOf_0 : decode cX5_hourOf 0 = .ok (.iconst 0, 1) := by decide +kernel
theorem dX5_hourOf_1 : decode cX5_hourOf 1 = .ok (.istore_n 2, 1) := by decide +kernel
theorem dX5_hourOf_2 : decode cX5_hourOf 2 = .ok (.iload_n 2, 1) := by decide +kernel
theorem dX5_hourOf_3 : decode cX5_hourOf 3 = .ok (.aload_n 0, 1) := by decide +kernel
theorem dX5_hourOf_4 : decode cX5_hourOf 4 = .ok (.getfield 18, 3) := by decide +kernel
theorem dX5_hourOf_7 : decode cX5_hourOf 7 = .ok (.if_icmp .ge 27, 3) := by decide +kernel
theorem dX5_hourOf_10 : decode cX5_hourOf 10 = .ok (.aload_n 0, 1) := by decide +kernel
theorem dX5_hourOf_11 : decode cX5_hourOf 11 = .ok (.iload_n 2, 1) := by decide +kernel
theorem dX5_hourOf_12 : decode cX5_hourOf 12 = .ok (.invokevirtual 57, 3) := by decide +kernel
theorem dX5_hourOf_15 : decode cX5_hourOf 15 = .ok (.istore_n 3, 1) := by decide +kernel
theorem dX5_hourOf_16 : decode cX5_hourOf 16 = .ok (.aload_n 0, 1) := by decide +kernel
theorem dX5_hourOf_17 : decode cX5_hourOf 17 = .ok (.getfield 9, 3) := by decide +kernel
theorem dX5_hourOf_20 : decode cX5_hourOf 20 = .ok (.iload_n 2, 1) := by decide +kernel
theorem dX5_hourOf_21 : decode cX5_hourOf 21 = .ok (.iaload, 1) := by decide +kernel
theorem dX5_hourOf_22 : decode cX5_hourOf 22 = .ok (.iload_n 1, 1) := by decide +kernel
theorem dX5_hourOf_23 : decode cX5_hourOf 23 = .ok (.if_icmp .ne 5, 3) := by decide +kernel
theorem dX5_hourOf_26 : decode cX5_hourOf 26 = .ok (.iload_n 3, 1) := by decide +kernel
theorem dX5_hourOf_27 : decode cX5_hourOf 27 = .ok (.ireturn, 1) := by decide +kernel
theorem dX5_hourOf_28 : decode cX5_hourOf 28 = .ok (.iinc 2 1, 3) := by decide +kernel
theorem dX5_hourOf_31 : decode cX5_hourOf 31 = .ok (.goto (-29), 3) := by decide +kernel
theorem dX5_hourOf_34 : decode cX5_hourOf 34 = .ok (.bipush (-5), 2) := by decide +kernel
theorem dX5_hourOf_36 : decode cX5_hourOf 36 = .ok (.ireturn, 1) := by decide +kernel
set_option maxRecDepth 20000 in
theorem ggX5_pinLeastHour_X7_hasBit : GoodIn wsX5_pinLeastHour wsX7_hasBit := goodIn_r _ [4] (by decide +kernel) (by decide +kernel)
set_option maxRecDepth 20000 in
theorem gX5_pinLeastHour_X7_hasBit_n47 : GoodIn wsX5_pinLeastHour (wsX7_hasBit) := ggX5_pinLeastHour_X7_hasBit
set_option maxRecDepth 20000 in
theorem ggX5_pinLeastHour_X5_stands : GoodIn wsX5_pinLeastHour wsX5_stands := goodIn_r _ [9, 10, 1, 2, 3, 4, 11, 12, 13, 14, 15, 16, 17, 18, 19, 20] (by decide +kernel) (by decide +kernel)
set_option maxRecDepth 20000 in
theorem gX5_pinLeastHour_X5_stands : GoodIn wsX5_pinLeastHour (wsV RX5 60 RX5 yX5_stands wsX5_stands) := goodIn_app (goodIn_of _ (by decide +kernel)) ggX5_pinLeastHour_X5_stands
theorem dX5_pinLeastHour_0 : decode cX5_pinLeastHour 0 = .ok (.aload_n 0, 1) := by decide +kernel
theorem dX5_pinLeastHour_1 : decode cX5_pinLeastHour 1 = .ok (.getfield 15, 3) := by decide +kernel
theorem dX5_pinLeastHour_4 : decode cX5_pinLeastHour 4 = .ok (.iload_n 1, 1) := by decide +kernel
theorem dX5_pinLeastHour_5 : decode cX5_pinLeastHour 5 = .ok (.iaload, 1) := by decide +kernel
theorem dX5_pinLeastHour_6 : decode cX5_pinLeastHour 6 = .ok (.istore_n 2, 1) := by decide +kernel
theorem dX5_pinLeastHour_7 : decode cX5_pinLeastHour 7 = .ok (.iconst 0, 1) := by decide +kernel
theorem dX5_pinLeastHour_8 : decode cX5_pinLeastHour 8 = .ok (.istore_n 3, 1) := by decide +kernel
theorem dX5_pinLeastHour_9 : decode cX5_pinLeastHour 9 = .ok (.iload_n 3, 1) := by decide +kernel
theorem dX5_pinLeastHour_10 : decode cX5_pinLeastHour 10 = .ok (.bipush 24, 2) := by decide +kernel
theorem dX5_pinLeastHour_12 : decode cX5_pinLeastHour 12 = .ok (.if_icmp .ge 35, 3) := by decide +kernel
theorem dX5_pinLeastHour_15 : decode cX5_pinLeastHour 15 = .ok (.iload_n 2, 1) := by decide +kernel
theorem dX5_pinLeastHour_16 : decode cX5_pinLeastHour 16 = .ok (.iload_n 3, 1) := by decide +kernel
theorem dX5_pinLeastHour_17 : decode cX5_pinLeastHour 17 = .ok (.invokestatic 47, 3) := by decide +kernel
theorem dX5_pinLeastHour_20 : decode cX5_pinLeastHour 20 = .ok (.ifCond .eq 21, 3) := by decide +kernel
theorem dX5_pinLeastHour_23 : decode cX5_pinLeastHour 23 = .ok (.aload_n 0, 1) := by decide +kernel
theorem dX5_pinLeastHour_24 : decode cX5_pinLeastHour 24 = .ok (.getfield 15, 3) := by decide +kernel
theorem dX5_pinLeastHour_27 : decode cX5_pinLeastHour 27 = .ok (.iload_n 1, 1) := by decide +kernel
theorem dX5_pinLeastHour_28 : decode cX5_pinLeastHour 28 = .ok (.iconst 1, 1) := by decide +kernel
theorem dX5_pinLeastHour_29 : decode cX5_pinLeastHour 29 = .ok (.iload_n 3, 1) := by decide +kernel
theorem dX5_pinLeastHour_30 : decode cX5_pinLeastHour 30 = .ok (.ishl, 1) := by decide +kernel
theorem dX5_pinLeastHour_31 : decode cX5_pinLeastHour 31 = .ok (.iastore, 1) := by decide +kernel
theorem dX5_pinLeastHour_32 : decode cX5_pinLeastHour 32 = .ok (.aload_n 0, 1) := by decide +kernel
theorem dX5_pinLeastHour_33 : decode cX5_pinLeastHour 33 = .ok (.invokevirtual 60, 3) := by decide +kernel
theorem dX5_pinLeastHour_36 : decode cX5_pinLeastHour 36 = .ok (.ifCond .eq 5, 3) := by decide +kernel
theorem dX5_pinLeastHour_39 : decode cX5_pinLeastHour 39 = .ok (.iload_n 3, 1) := by decide +kernel
theorem dX5_pinLeastHour_40 : decode cX5_pinLeastHour 40 = .ok (.ireturn, 1) := by decide +kernel
theorem dX5_pinLeastHour_41 : decode cX5_pinLeastHour 41 = .ok (.iinc 3 1, 3) := by decide +kernel
theorem dX5_pinLeastHour_44 : decode cX5_pinLeastHour 44 = .ok (.goto (-35), 3) := by decide +kernel
theorem dX5_pinLeastHour_47 : decode cX5_pinLeastHour 47 = .ok (.aload_n 0, 1) := by decide +kernel
theorem dX5_pinLeastHour_48 : decode cX5_pinLeastHour 48 = .ok (.getfield 15, 3) := by decide +kernel
theorem dX5_pinLeastHour_51 : decode cX5_pinLeastHour 51 = .ok (.iload_n 1, 1) := by decide +kernel
theorem dX5_pinLeastHour_52 : decode cX5_pinLeastHour 52 = .ok (.iload_n 2, 1) := by decide +kernel
theorem dX5_pinLeastHour_53 : decode cX5_pinLeastHour 53 = .ok (.iastore, 1) := by decide +kernel
theorem dX5_pinLeastHour_54 : decode cX5_pinLeastHour 54 = .ok (.bipush (-5), 2) := by decide +kernel
theorem dX5_pinLeastHour_56 : decode cX5_pinLeastHour 56 = .ok (.ireturn, 1) := by decide +kernel
theorem dX6_init_0 : decode cX6_init 0 = .ok (.aload_n 0, 1) := by decide +kernel
theorem dX6_init_1 : decode cX6_init 1 = .ok (.invokespecial 1, 3) := by decide +kernel
theorem dX6_init_4 : decode cX6_init 4 = .ok (.return_, 1) := by decide +kernel
theorem dX6_hourBits_0 : decode cX6_hourBits 0 = .ok (.iconst 1, 1) := by decide +kernel
theorem dX6_hourBits_1 : decode cX6_hourBits 1 = .ok (.aload_n 0, 1) := by decide +kernel
theorem dX6_hourBits_2 : decode cX6_hourBits 2 = .ok (.getfield 7, 3) := by decide +kernel
theorem dX6_hourBits_5 : decode cX6_hourBits 5 = .ok (.iconst 1, 1) := by decide +kernel
theorem dX6_hourBits_6 : decode cX6_hourBits 6 = .ok (.iadd, 1) := by decide +kernel
theorem dX6_hourBits_7 : decode cX6_hourBits 7 = .ok (.ishl, 1) := by decide +kernel
theorem dX6_hourBits_8 : decode cX6_hourBits 8 = .ok (.iconst 1, 1) := by decide +kernel
theorem dX6_hourBits_9 : decode cX6_hourBits 9 = .ok (.aload_n 0, 1) := by decide +kernel
theorem dX6_hourBits_10 : decode cX6_hourBits 10 = .ok (.getfield 13, 3) := by decide +kernel
theorem dX6_hourBits_13 : decode cX6_hourBits 13 = .ok (.ishl, 1) := by decide +kernel
theorem dX6_hourBits_14 : decode cX6_hourBits 14 = .ok (.isub, 1) := by decide +kernel
theorem dX6_hourBits_15 : decode cX6_hourBits 15 = .ok (.ireturn, 1) := by decide +kernel
theorem dX6_copyFrom_0 : decode cX6_copyFrom 0 = .ok (.aload_n 0, 1) := by decide +kernel
theorem dX6_copyFrom_1 : decode cX6_copyFrom 1 = .ok (.aload_n 1, 1) := by decide +kernel
theorem dX6_copyFrom_2 : decode cX6_copyFrom 2 = .ok (.getfield 16, 3) := by decide +kernel
theorem dX6_copyFrom_5 : decode cX6_copyFrom 5 = .ok (.putfield 16, 3) := by decide +kernel
theorem dX6_copyFrom_8 : decode cX6_copyFrom 8 = .ok (.aload_n 0, 1) := by decide +kernel
theorem dX6_copyFrom_9 : decode cX6_copyFrom 9 = .ok (.aload_n 1, 1) := by decide +kernel
theorem dX6_copyFrom_10 : decode cX6_copyFrom 10 = .ok (.getfield 19, 3) := by decide +kernel
theorem dX6_copyFrom_13 : decode cX6_copyFrom 13 = .ok (.putfield 19, 3) := by decide +kernel
theorem dX6_copyFrom_16 : decode cX6_copyFrom 16 = .ok (.aload_n 0, 1) := by decide +kernel
theorem dX6_copyFrom_17 : decode cX6_copyFrom 17 = .ok (.aload_n 1, 1) := by decide +kernel
theorem dX6_copyFrom_18 : decode cX6_copyFrom 18 = .ok (.getfield 23, 3) := by decide +kernel
theorem dX6_copyFrom_21 : decode cX6_copyFrom 21 = .ok (.putfield 23, 3) := by decide +kernel
theorem dX6_copyFrom_24 : decode cX6_copyFrom 24 = .ok (.aload_n 0, 1) := by decide +kernel
theorem dX6_copyFrom_25 : decode cX6_copyFrom 25 = .ok (.aload_n 1, 1) := by decide +kernel
theorem dX6_copyFrom_26 : decode cX6_copyFrom 26 = .ok (.getfield 13, 3) := by decide +kernel
theorem dX6_copyFrom_29 : decode cX6_copyFrom 29 = .ok (.putfield 13, 3) := by decide +kernel
theorem dX6_copyFrom_32 : decode cX6_copyFrom 32 = .ok (.aload_n 0, 1) := by decide +kernel
theorem dX6_copyFrom_33 : decode cX6_copyFrom 33 = .ok (.aload_n 1, 1) := by decide +kernel
theorem dX6_copyFrom_34 : decode cX6_copyFrom 34 = .ok (.getfield 7, 3) := by decide +kernel
theorem dX6_copyFrom_37 : decode cX6_copyFrom 37 = .ok (.putfield 7, 3) := by decide +kernel
theorem dX6_copyFrom_40 : decode cX6_copyFrom 40 = .ok (.return_, 1) := by decide +kernel
set_option maxRecDepth 20000 in
theorem ggX7_init_X1_init : GoodIn wsX7_init wsX1_init := goodIn_r _ [20, 21, 2, 3, 22, 23, 24, 25, 26, 27, 28, 29, 30, 31, 32, 33, 34, 35, 36, 37, 38, 39, 40, 41, 42, 43, 44, 45, 46, 47, 48, 49, 50, 51, 52, 53, 54, 55, 56, 73, 74, 75, 76, 77, 78, 79, 99, 100, 101, 102, 103, 104, 105, 106, 107, 108, 109, 110, 111, 112, 113, 114, 115, 116, 117, 118, 119] (by decide +kernel) (by decide +kernel)
set_option maxRecDepth 20000 in
theorem gX7_init_X1_init : GoodIn wsX7_init (wsX1_init) := ggX7_init_X1_init
set_option maxRecDepth 20000 in
theorem ggX7_init_X4_init : GoodIn wsX7_init wsX4_init := goodIn_r _ [58, 59, 2, 3, 44, 60, 61, 62, 63, 64, 65, 66, 67, 85, 86, 87, 88, 89, 90, 91, 92, 93, 94, 95] (by decide +kernel) (by decide +kernel)
set_option maxRecDepth 20000 in
theorem gX7_init_X4_init_n18 : GoodIn wsX7_init (wsX4_init) := ggX7_init_X4_init
set_option maxRecDepth 20000 in
theorem ggX7_init_X5_init : GoodIn wsX7_init wsX5_init := goodIn_r _ [69, 70, 2, 3, 44, 71, 72, 96, 97, 98] (by decide +kernel) (by decide +kernel)
set_option maxRecDepth 20000 in
theorem gX7_init_X5_init_n25 : GoodIn wsX7_init (wsX5_init) := ggX7_init_X5_init
theorem dX7_init_0 : decode cX7_init 0 = .ok (.aload_n 0, 1) := by decide +kernel
theorem dX7_init_1 : decode cX7_init 1 = .ok (.invokespecial 3, 3) := by decide +kernel
theorem dX7_init_4 : decode cX7_init 4 = .ok (.aload_n 0, 1) := by decide +kernel
theorem dX7_init_5 : decode cX7_init 5 = .ok (.new 9, 3) := by decide +kernel
theorem dX7_init_8 : decode cX7_init 8 = .ok (.dup, 1) := by decide +kernel
theorem dX7_init_9 : decode cX7_init 9 = .ok (.invokespecial 11, 3) := by decide +kernel
theorem dX7_init_12 : decode cX7_init 12 = .ok (.putfield 12, 3) := by decide +kernel
theorem dX7_init_15 : decode cX7_init 15 = .ok (.aload_n 0, 1) := by decide +kernel
theorem dX7_init_16 : decode cX7_init 16 = .ok (.new 16, 3) := by decide +kernel
theorem dX7_init_19 : decode cX7_init 19 = .ok (.dup, 1) := by decide +kernel
theorem dX7_init_20 : decode cX7_init 20 = .ok (.invokespecial 18, 3) := by decide +kernel
theorem dX7_init_23 : decode cX7_init 23 = .ok (.putfield 19, 3) := by decide +kernel
theorem dX7_init_26 : decode cX7_init 26 = .ok (.aload_n 0, 1) := by decide +kernel
theorem dX7_init_27 : decode cX7_init 27 = .ok (.new 23, 3) := by decide +kernel
theorem dX7_init_30 : decode cX7_init 30 = .ok (.dup, 1) := by decide +kernel
theorem dX7_init_31 : decode cX7_init 31 = .ok (.invokespecial 25, 3) := by decide +kernel
theorem dX7_init_34 : decode cX7_init 34 = .ok (.putfield 26, 3) := by decide +kernel
theorem dX7_init_37 : decode cX7_init 37 = .ok (.aload_n 0, 1) := by decide +kernel
theorem dX7_init_38 : decode cX7_init 38 = .ok (.aconst_null, 1) := by decide +kernel
theorem dX7_init_39 : decode cX7_init 39 = .ok (.putfield 30, 3) := by decide +kernel
theorem dX7_init_42 : decode cX7_init 42 = .ok (.aload_n 0, 1) := by decide +kernel
theorem dX7_init_43 : decode cX7_init 43 = .ok (.iconst 1, 1) := by decide +kernel
theorem dX7_init_44 : decode cX7_init 44 = .ok (.putfield 33, 3) := by decide +kernel
theorem dX7_init_47 : decode cX7_init 47 = .ok (.return_, 1) := by decide +kernel
set_option maxRecDepth 20000 in
theorem ggX7_party_X7_isWithin : GoodIn wsX7_party wsX7_isWithin := goodIn_r _ [9] (by decide +kernel) (by decide +kernel)
set_option maxRecDepth 20000 in
theorem gX7_party_X7_isWithin : GoodIn wsX7_party (va_wsS RX7 37 yX7_isWithin wsX7_isWithin) := goodIn_app (goodIn_of _ (by decide +kernel)) ggX7_party_X7_isWithin
theorem dX7_party_0 : decode cX7_party 0 = .ok (.iload_n 1, 1) := by decide +kernel
theorem dX7_party_1 : decode cX7_party 1 = .ok (.iconst 0, 1) := by decide +kernel
theorem dX7_party_2 : decode cX7_party 2 = .ok (.bipush 9, 2) := by decide +kernel
theorem dX7_party_4 : decode cX7_party 4 = .ok (.invokestatic 37, 3) := by decide +kernel
theorem dX7_party_7 : decode cX7_party 7 = .ok (.ifCond .eq 12, 3) := by decide +kernel
theorem dX7_party_10 : decode cX7_party 10 = .ok (.iload_n 2, 1) := by decide +kernel
theorem dX7_party_11 : decode cX7_party 11 = .ok (.iconst 0, 1) := by decide +kernel
theorem dX7_party_12 : decode cX7_party 12 = .ok (.iconst 2, 1) := by decide +kernel
theorem dX7_party_13 : decode cX7_party 13 = .ok (.invokestatic 37, 3) := by decide +kernel
theorem dX7_party_16 : decode cX7_party 16 = .ok (.ifCond .ne 5, 3) := by decide +kernel
theorem dX7_party_19 : decode cX7_party 19 = .ok (.iconst (-1), 1) := by decide +kernel
theorem dX7_party_20 : decode cX7_party 20 = .ok (.ireturn, 1) := by decide +kernel
theorem dX7_party_21 : decode cX7_party 21 = .ok (.aload_n 0, 1) := by decide +kernel
theorem dX7_party_22 : decode cX7_party 22 = .ok (.getfield 12, 3) := by decide +kernel
theorem dX7_party_25 : decode cX7_party 25 = .ok (.getfield 41, 3) := by decide +kernel
theorem dX7_party_28 : decode cX7_party 28 = .ok (.bipush 8, 2) := by decide +kernel
theorem dX7_party_30 : decode cX7_party 30 = .ok (.if_icmp .lt 6, 3) := by decide +kernel
theorem dX7_party_33 : decode cX7_party 33 = .ok (.bipush (-2), 2) := by decide +kernel
theorem dX7_party_35 : decode cX7_party 35 = .ok (.ireturn, 1) := by decide +kernel
theorem dX7_party_36 : decode cX7_party 36 = .ok (.aload_n 0, 1) := by decide +kernel
theorem dX7_party_37 : decode cX7_party 37 = .ok (.getfield 12, 3) := by decide +kernel
theorem dX7_party_40 : decode cX7_party 40 = .ok (.getfield 44, 3) := by decide +kernel
theorem dX7_party_43 : decode cX7_party 43 = .ok (.aload_n 0, 1) := by decide +kernel
theorem dX7_party_44 : decode cX7_party 44 = .ok (.getfield 12, 3) := by decide +kernel
theorem dX7_party_47 : decode cX7_party 47 = .ok (.getfield 41, 3) := by decide +kernel
theorem dX7_party_50 : decode cX7_party 50 = .ok (.aaload, 1) := by decide +kernel
theorem dX7_party_51 : decode cX7_party 51 = .ok (.astore_n 3, 1) := by decide +kernel
theorem dX7_party_52 : decode cX7_party 52 = .ok (.aload_n 3, 1) := by decide +kernel
theorem dX7_party_53 : decode cX7_party 53 = .ok (.iload_n 1, 1) := by decide +kernel
theorem dX7_party_54 : decode cX7_party 54 = .ok (.putfield 48, 3) := by decide +kernel
theorem dX7_party_57 : decode cX7_party 57 = .ok (.aload_n 3, 1) := by decide +kernel
theorem dX7_party_58 : decode cX7_party 58 = .ok (.iload_n 2, 1) := by decide +kernel
theorem dX7_party_59 : decode cX7_party 59 = .ok (.putfield 53, 3) := by decide +kernel
theorem dX7_party_62 : decode cX7_party 62 = .ok (.aload_n 0, 1) := by decide +kernel
theorem dX7_party_63 : decode cX7_party 63 = .ok (.getfield 12, 3) := by decide +kernel
theorem dX7_party_66 : decode cX7_party 66 = .ok (.dup, 1) := by decide +kernel
theorem dX7_party_67 : decode cX7_party 67 = .ok (.getfield 41, 3) := by decide +kernel
theorem dX7_party_70 : decode cX7_party 70 = .ok (.dup_x1, 1) := by decide +kernel
theorem dX7_party_71 : decode cX7_party 71 = .ok (.iconst 1, 1) := by decide +kernel
theorem dX7_party_72 : decode cX7_party 72 = .ok (.iadd, 1) := by decide +kernel
theorem dX7_party_73 : decode cX7_party 73 = .ok (.putfield 41, 3) := by decide +kernel
theorem dX7_party_76 : decode cX7_party 76 = .ok (.ireturn, 1) := by decide +kernel
set_option maxRecDepth 20000 in
theorem ggX7_mediator_X7_isWithin : GoodIn wsX7_mediator wsX7_isWithin := goodIn_r _ [10] (by decide +kernel) (by decide +kernel)
set_option maxRecDepth 20000 in
theorem gX7_mediator_X7_isWithin : GoodIn wsX7_mediator (va_wsS RX7 37 yX7_isWithin wsX7_isWithin) := goodIn_app (goodIn_of _ (by decide +kernel)) ggX7_mediator_X7_isWithin
theorem dX7_mediator_0 : decode cX7_mediator 0 = .ok (.iload_n 1, 1) := by decide +kernel
theorem dX7_mediator_1 : decode cX7_mediator 1 = .ok (.iconst 0, 1) := by decide +kernel
theorem dX7_mediator_2 : decode cX7_mediator 2 = .ok (.bipush 9, 2) := by decide +kernel
theorem dX7_mediator_4 : decode cX7_mediator 4 = .ok (.invokestatic 37, 3) := by decide +kernel
theorem dX7_mediator_7 : decode cX7_mediator 7 = .ok (.ifCond .eq 13, 3) := by decide +kernel
theorem dX7_mediator_10 : decode cX7_mediator 10 = .ok (.iload_n 2, 1) := by decide +kernel
theorem dX7_mediator_11 : decode cX7_mediator 11 = .ok (.iconst 1, 1) := by decide +kernel
theorem dX7_mediator_12 : decode cX7_mediator 12 = .ok (.bipush 7, 2) := by decide +kernel
theorem dX7_mediator_14 : decode cX7_mediator 14 = .ok (.invokestatic 37, 3) := by decide +kernel
theorem dX7_mediator_17 : decode cX7_mediator 17 = .ok (.ifCond .ne 5, 3) := by decide +kernel
theorem dX7_mediator_20 : decode cX7_mediator 20 = .ok (.iconst (-1), 1) := by decide +kernel
theorem dX7_mediator_21 : decode cX7_mediator 21 = .ok (.ireturn, 1) := by decide +kernel
theorem dX7_mediator_22 : decode cX7_mediator 22 = .ok (.aload_n 0, 1) := by decide +kernel
theorem dX7_mediator_23 : decode cX7_mediator 23 = .ok (.getfield 12, 3) := by decide +kernel
theorem dX7_mediator_26 : decode cX7_mediator 26 = .ok (.getfield 56, 3) := by decide +kernel
theorem dX7_mediator_29 : decode cX7_mediator 29 = .ok (.iconst 4, 1) := by decide +kernel
theorem dX7_mediator_30 : decode cX7_mediator 30 = .ok (.if_icmp .lt 6, 3) := by decide +kernel
theorem dX7_mediator_33 : decode cX7_mediator 33 = .ok (.bipush (-2), 2) := by decide +kernel
theorem dX7_mediator_35 : decode cX7_mediator 35 = .ok (.ireturn, 1) := by decide +kernel
theorem dX7_mediator_36 : decode cX7_mediator 36 = .ok (.aload_n 0, 1) := by decide +kernel
theorem dX7_mediator_37 : decode cX7_mediator 37 = .ok (.getfield 12, 3) := by decide +kernel
theorem dX7_mediator_40 : decode cX7_mediator 40 = .ok (.getfield 59, 3) := by decide +kernel
theorem dX7_mediator_43 : decode cX7_mediator 43 = .ok (.aload_n 0, 1) := by decide +kernel
theorem dX7_mediator_44 : decode cX7_mediator 44 = .ok (.getfield 12, 3) := by decide +kernel
theorem dX7_mediator_47 : decode cX7_mediator 47 = .ok (.getfield 56, 3) := by decide +kernel
theorem dX7_mediator_50 : decode cX7_mediator 50 = .ok (.aaload, 1) := by decide +kernel
theorem dX7_mediator_51 : decode cX7_mediator 51 = .ok (.astore_n 3, 1) := by decide +kernel
theorem dX7_mediator_52 : decode cX7_mediator 52 = .ok (.aload_n 3, 1) := by decide +kernel
theorem dX7_mediator_53 : decode cX7_mediator 53 = .ok (.iload_n 1, 1) := by decide +kernel
theorem dX7_mediator_54 : decode cX7_mediator 54 = .ok (.putfield 63, 3) := by decide +kernel
theorem dX7_mediator_57 : decode cX7_mediator 57 = .ok (.aload_n 3, 1) := by decide +kernel
theorem dX7_mediator_58 : decode cX7_mediator 58 = .ok (.iload_n 2, 1) := by decide +kernel
theorem dX7_mediator_59 : decode cX7_mediator 59 = .ok (.putfield 66, 3) := by decide +kernel
theorem dX7_mediator_62 : decode cX7_mediator 62 = .ok (.aload_n 3, 1) := by decide +kernel
theorem dX7_mediator_63 : decode cX7_mediator 63 = .ok (.iconst 0, 1) := by decide +kernel
theorem dX7_mediator_64 : decode cX7_mediator 64 = .ok (.putfield 69, 3) := by decide +kernel
theorem dX7_mediator_67 : decode cX7_mediator 67 = .ok (.aload_n 0, 1) := by decide +kernel
theorem dX7_mediator_68 : decode cX7_mediator 68 = .ok (.getfield 12, 3) := by decide +kernel
theorem dX7_mediator_71 : decode cX7_mediator 71 = .ok (.dup, 1) := by decide +kernel
theorem dX7_mediator_72 : decode cX7_mediator 72 = .ok (.getfield 56, 3) := by decide +kernel
theorem dX7_mediator_75 : decode cX7_mediator 75 = .ok (.dup_x1, 1) := by decide +kernel
theorem dX7_mediator_76 : decode cX7_mediator 76 = .ok (.iconst 1, 1) := by decide +kernel
theorem dX7_mediator_77 : decode cX7_mediator 77 = .ok (.iadd, 1) := by decide +kernel
theorem dX7_mediator_78 : decode cX7_mediator 78 = .ok (.putfield 56, 3) := by decide +kernel
theorem dX7_mediator_81 : decode cX7_mediator 81 = .ok (.ireturn, 1) := by decide +kernel
set_option maxRecDepth 20000 in
theorem ggX7_kin_X7_isMediator : GoodIn wsX7_kin wsX7_isMediator := goodIn_r _ [8, 1, 9, 10, 11, 7, 12, 21, 22, 23, 24, 25, 26, 27, 28, 29, 30, 31, 32] (by decide +kernel) (by decide +kernel)
set_option maxRecDepth 20000 in
theorem gX7_kin_X7_isMediator : GoodIn wsX7_kin (wsV RX7 72 RX7 yX7_isMediator wsX7_isMediator) := goodIn_app (goodIn_of _ (by decide +kernel)) ggX7_kin_X7_isMediator
set_option maxRecDepth 20000 in
theorem ggX7_kin_X7_isParty : GoodIn wsX7_kin wsX7_isParty := goodIn_r _ [16, 1, 17, 10, 11, 7, 12, 21, 22, 23, 24, 25, 26, 27, 28, 29, 30, 31, 32] (by decide +kernel) (by decide +kernel)
set_option maxRecDepth 20000 in
theorem gX7_kin_X7_isParty : GoodIn wsX7_kin (wsV RX7 76 RX7 yX7_isParty wsX7_isParty) := goodIn_app (goodIn_of _ (by decide +kernel)) ggX7_kin_X7_isParty
set_option maxRecDepth 20000 in
theorem ggX7_kin_X7_hasBit : GoodIn wsX7_kin wsX7_hasBit := goodIn_r _ [20] (by decide +kernel) (by decide +kernel)
set_option maxRecDepth 20000 in
theorem gX7_kin_X7_hasBit : GoodIn wsX7_kin (va_wsS RX7 79 yX7_hasBit wsX7_hasBit) := goodIn_app (goodIn_of _ (by decide +kernel)) ggX7_kin_X7_hasBit
theorem dX7_kin_0 : decode cX7_kin 0 = .ok (.aload_n 0, 1) := by decide +kernel
theorem dX7_kin_1 : decode cX7_kin 1 = .ok (.iload_n 1, 1) := by decide +kernel
theorem dX7_kin_2 : decode cX7_kin 2 = .ok (.invokevirtual 72, 3) := by decide +kernel
theorem dX7_kin_5 : decode cX7_kin 5 = .ok (.ifCond .eq 11, 3) := by decide +kernel
theorem dX7_kin_8 : decode cX7_kin 8 = .ok (.aload_n 0, 1) := by decide +kernel
theorem dX7_kin_9 : decode cX7_kin 9 = .ok (.iload_n 2, 1) := by decide +kernel
theorem dX7_kin_10 : decode cX7_kin 10 = .ok (.invokevirtual 76, 3) := by decide +kernel
theorem dX7_kin_13 : decode cX7_kin 13 = .ok (.ifCond .ne 5, 3) := by decide +kernel
theorem dX7_kin_16 : decode cX7_kin 16 = .ok (.iconst (-1), 1) := by decide +kernel
theorem dX7_kin_17 : decode cX7_kin 17 = .ok (.ireturn, 1) := by decide +kernel
theorem dX7_kin_18 : decode cX7_kin 18 = .ok (.aload_n 0, 1) := by decide +kernel
theorem dX7_kin_19 : decode cX7_kin 19 = .ok (.getfield 12, 3) := by decide +kernel
theorem dX7_kin_22 : decode cX7_kin 22 = .ok (.getfield 59, 3) := by decide +kernel
theorem dX7_kin_25 : decode cX7_kin 25 = .ok (.iload_n 1, 1) := by decide +kernel
theorem dX7_kin_26 : decode cX7_kin 26 = .ok (.aaload, 1) := by decide +kernel
theorem dX7_kin_27 : decode cX7_kin 27 = .ok (.astore 4, 2) := by decide +kernel
theorem dX7_kin_29 : decode cX7_kin 29 = .ok (.aload 4, 2) := by decide +kernel
theorem dX7_kin_31 : decode cX7_kin 31 = .ok (.getfield 69, 3) := by decide +kernel
theorem dX7_kin_34 : decode cX7_kin 34 = .ok (.iload_n 2, 1) := by decide +kernel
theorem dX7_kin_35 : decode cX7_kin 35 = .ok (.invokestatic 79, 3) := by decide +kernel
theorem dX7_kin_38 : decode cX7_kin 38 = .ok (.iload_n 3, 1) := by decide +kernel
theorem dX7_kin_39 : decode cX7_kin 39 = .ok (.if_icmp .ne 5, 3) := by decide +kernel
theorem dX7_kin_42 : decode cX7_kin 42 = .ok (.iconst 0, 1) := by decide +kernel
theorem dX7_kin_43 : decode cX7_kin 43 = .ok (.ireturn, 1) := by decide +kernel
theorem dX7_kin_44 : decode cX7_kin 44 = .ok (.aload 4, 2) := by decide +kernel
theorem dX7_kin_46 : decode cX7_kin 46 = .ok (.dup, 1) := by decide +kernel
theorem dX7_kin_47 : decode cX7_kin 47 = .ok (.getfield 69, 3) := by decide +kernel
theorem dX7_kin_50 : decode cX7_kin 50 = .ok (.iconst 1, 1) := by decide +kernel
theorem dX7_kin_51 : decode cX7_kin 51 = .ok (.iload_n 2, 1) := by decide +kernel
theorem dX7_kin_52 : decode cX7_kin 52 = .ok (.ishl, 1) := by decide +kernel
theorem dX7_kin_53 : decode cX7_kin 53 = .ok (.ixor, 1) := by decide +kernel
theorem dX7_kin_54 : decode cX7_kin 54 = .ok (.putfield 69, 3) := by decide +kernel
theorem dX7_kin_57 : decode cX7_kin 57 = .ok (.iconst 1, 1) := by decide +kernel
theorem dX7_kin_58 : decode cX7_kin 58 = .ok (.ireturn, 1) := by decide +kernel
set_option maxRecDepth 20000 in
theorem ggX7_open_X7_isParty : GoodIn wsX7_open wsX7_isParty := goodIn_r _ [8, 1, 9, 10, 11, 7, 12, 27, 28, 29, 30, 31, 32, 33, 34, 35, 36, 37, 38] (by decide +kernel) (by decide +kernel)
set_option maxRecDepth 20000 in
theorem gX7_open_X7_isParty : GoodIn wsX7_open (wsV RX7 76 RX7 yX7_isParty wsX7_isParty) := goodIn_app (goodIn_of _ (by decide +kernel)) ggX7_open_X7_isParty
set_option maxRecDepth 20000 in
theorem ggX7_open_X0_begin : GoodIn wsX7_open wsX0_begin := goodIn_r _ [17, 18, 19, 20, 21, 22, 23, 24, 25, 26, 39, 40, 41, 42, 43, 44, 45, 46, 47, 48, 49] (by decide +kernel) (by decide +kernel)
set_option maxRecDepth 20000 in
theorem gX7_open_X0_begin : GoodIn wsX7_open (wsV RX7 90 RX0 yX0_begin wsX0_begin) := goodIn_app (goodIn_of _ (by decide +kernel)) ggX7_open_X0_begin
theorem dX7_open_0 : decode cX7_open 0 = .ok (.aload_n 0, 1) := by decide +kernel
theorem dX7_open_1 : decode cX7_open 1 = .ok (.iload_n 1, 1) := by decide +kernel
theorem dX7_open_2 : decode cX7_open 2 = .ok (.invokevirtual 76, 3) := by decide +kernel
theorem dX7_open_5 : decode cX7_open 5 = .ok (.ifCond .eq 16, 3) := by decide +kernel
theorem dX7_open_8 : decode cX7_open 8 = .ok (.aload_n 0, 1) := by decide +kernel
theorem dX7_open_9 : decode cX7_open 9 = .ok (.iload_n 2, 1) := by decide +kernel
theorem dX7_open_10 : decode cX7_open 10 = .ok (.invokevirtual 76, 3) := by decide +kernel
theorem dX7_open_13 : decode cX7_open 13 = .ok (.ifCond .eq 8, 3) := by decide +kernel
theorem dX7_open_16 : decode cX7_open 16 = .ok (.iload_n 1, 1) := by decide +kernel
theorem dX7_open_17 : decode cX7_open 17 = .ok (.iload_n 2, 1) := by decide +kernel
theorem dX7_open_18 : decode cX7_open 18 = .ok (.if_icmp .ne 5, 3) := by decide +kernel
theorem dX7_open_21 : decode cX7_open 21 = .ok (.iconst (-1), 1) := by decide +kernel
theorem dX7_open_22 : decode cX7_open 22 = .ok (.ireturn, 1) := by decide +kernel
theorem dX7_open_23 : decode cX7_open 23 = .ok (.aload_n 0, 1) := by decide +kernel
theorem dX7_open_24 : decode cX7_open 24 = .ok (.getfield 12, 3) := by decide +kernel
theorem dX7_open_27 : decode cX7_open 27 = .ok (.getfield 83, 3) := by decide +kernel
theorem dX7_open_30 : decode cX7_open 30 = .ok (.bipush 6, 2) := by decide +kernel
theorem dX7_open_32 : decode cX7_open 32 = .ok (.if_icmp .lt 6, 3) := by decide +kernel
theorem dX7_open_35 : decode cX7_open 35 = .ok (.bipush (-2), 2) := by decide +kernel
theorem dX7_open_37 : decode cX7_open 37 = .ok (.ireturn, 1) := by decide +kernel
theorem dX7_open_38 : decode cX7_open 38 = .ok (.aload_n 0, 1) := by decide +kernel
theorem dX7_open_39 : decode cX7_open 39 = .ok (.getfield 12, 3) := by decide +kernel
theorem dX7_open_42 : decode cX7_open 42 = .ok (.getfield 86, 3) := by decide +kernel
theorem dX7_open_45 : decode cX7_open 45 = .ok (.aload_n 0, 1) := by decide +kernel
theorem dX7_open_46 : decode cX7_open 46 = .ok (.getfield 12, 3) := by decide +kernel
theorem dX7_open_49 : decode cX7_open 49 = .ok (.getfield 83, 3) := by decide +kernel
theorem dX7_open_52 : decode cX7_open 52 = .ok (.aaload, 1) := by decide +kernel
theorem dX7_open_53 : decode cX7_open 53 = .ok (.iload_n 1, 1) := by decide +kernel
theorem dX7_open_54 : decode cX7_open 54 = .ok (.iload_n 2, 1) := by decide +kernel
theorem dX7_open_55 : decode cX7_open 55 = .ok (.invokevirtual 90, 3) := by decide +kernel
theorem dX7_open_58 : decode cX7_open 58 = .ok (.aload_n 0, 1) := by decide +kernel
theorem dX7_open_59 : decode cX7_open 59 = .ok (.getfield 12, 3) := by decide +kernel
theorem dX7_open_62 : decode cX7_open 62 = .ok (.dup, 1) := by decide +kernel
theorem dX7_open_63 : decode cX7_open 63 = .ok (.getfield 83, 3) := by decide +kernel
theorem dX7_open_66 : decode cX7_open 66 = .ok (.dup_x1, 1) := by decide +kernel
theorem dX7_open_67 : decode cX7_open 67 = .ok (.iconst 1, 1) := by decide +kernel
theorem dX7_open_68 : decode cX7_open 68 = .ok (.iadd, 1) := by decide +kernel
theorem dX7_open_69 : decode cX7_open 69 = .ok (.putfield 83, 3) := by decide +kernel
theorem dX7_open_72 : decode cX7_open 72 = .ok (.ireturn, 1) := by decide +kernel
set_option maxRecDepth 20000 in
theorem ggX7_close_X7_isCase : GoodIn wsX7_close wsX7_isCase := goodIn_r _ [8, 1, 9, 10, 11, 7, 12, 13, 14, 15, 16, 17, 18, 19, 20, 21, 22, 23, 24] (by decide +kernel) (by decide +kernel)
set_option maxRecDepth 20000 in
theorem gX7_close_X7_isCase : GoodIn wsX7_close (wsV RX7 96 RX7 yX7_isCase wsX7_isCase) := goodIn_app (goodIn_of _ (by decide +kernel)) ggX7_close_X7_isCase
theorem dX7_close_0 : decode cX7_close 0 = .ok (.aload_n 0, 1) := by decide +kernel
theorem dX7_close_1 : decode cX7_close 1 = .ok (.iload_n 1, 1) := by decide +kernel
theorem dX7_close_2 : decode cX7_close 2 = .ok (.invokevirtual 96, 3) := by decide +kernel
theorem dX7_close_5 : decode cX7_close 5 = .ok (.ifCond .ne 5, 3) := by decide +kernel
theorem dX7_close_8 : decode cX7_close 8 = .ok (.iconst (-1), 1) := by decide +kernel
theorem dX7_close_9 : decode cX7_close 9 = .ok (.ireturn, 1) := by decide +kernel
theorem dX7_close_10 : decode cX7_close 10 = .ok (.aload_n 0, 1) := by decide +kernel
theorem dX7_close_11 : decode cX7_close 11 = .ok (.getfield 12, 3) := by decide +kernel
theorem dX7_close_14 : decode cX7_close 14 = .ok (.getfield 86, 3) := by decide +kernel
theorem dX7_close_17 : decode cX7_close 17 = .ok (.iload_n 1, 1) := by decide +kernel
theorem dX7_close_18 : decode cX7_close 18 = .ok (.aaload, 1) := by decide +kernel
theorem dX7_close_19 : decode cX7_close 19 = .ok (.getfield 99, 3) := by decide +kernel
theorem dX7_close_22 : decode cX7_close 22 = .ok (.ifCond .eq 6, 3) := by decide +kernel
theorem dX7_close_25 : decode cX7_close 25 = .ok (.bipush (-4), 2) := by decide +kernel
theorem dX7_close_27 : decode cX7_close 27 = .ok (.ireturn, 1) := by decide +kernel
theorem dX7_close_28 : decode cX7_close 28 = .ok (.aload_n 0, 1) := by decide +kernel
theorem dX7_close_29 : decode cX7_close 29 = .ok (.getfield 12, 3) := by decide +kernel
theorem dX7_close_32 : decode cX7_close 32 = .ok (.getfield 86, 3) := by decide +kernel
theorem dX7_close_35 : decode cX7_close 35 = .ok (.iload_n 1, 1) := by decide +kernel
theorem dX7_close_36 : decode cX7_close 36 = .ok (.aaload, 1) := by decide +kernel
theorem dX7_close_37 : decode cX7_close 37 = .ok (.iconst 2, 1) := by decide +kernel
theorem dX7_close_38 : decode cX7_close 38 = .ok (.putfield 99, 3) := by decide +kernel
theorem dX7_close_41 : decode cX7_close 41 = .ok (.iconst 1, 1) := by decide +kernel
theorem dX7_close_42 : decode cX7_close 42 = .ok (.ireturn, 1) := by decide +kernel
set_option maxRecDepth 20000 in
theorem ggX7_weight_X7_isCase : GoodIn wsX7_weight wsX7_isCase := goodIn_r _ [8, 1, 9, 10, 11, 7, 12, 13, 14, 15, 16, 17, 18, 19, 20, 21, 22, 23, 24] (by decide +kernel) (by decide +kernel)
set_option maxRecDepth 20000 in
theorem gX7_weight_X7_isCase : GoodIn wsX7_weight (wsV RX7 96 RX7 yX7_isCase wsX7_isCase) := goodIn_app (goodIn_of _ (by decide +kernel)) ggX7_weight_X7_isCase
set_option maxRecDepth 20000 in
theorem ggX7_weight_X7_isWithin : GoodIn wsX7_weight wsX7_isWithin := goodIn_r _ [12] (by decide +kernel) (by decide +kernel)
set_option maxRecDepth 20000 in
theorem gX7_weight_X7_isWithin : GoodIn wsX7_weight (va_wsS RX7 37 yX7_isWithin wsX7_isWithin) := goodIn_app (goodIn_of _ (by decide +kernel)) ggX7_weight_X7_isWithin
theorem dX7_weight_0 : decode cX7_weight 0 = .ok (.aload_n 0, 1) := by decide +kernel
theorem dX7_weight_1 : decode cX7_weight 1 = .ok (.iload_n 1, 1) := by decide +kernel
theorem dX7_weight_2 : decode cX7_weight 2 = .ok (.invokevirtual 96, 3) := by decide +kernel
theorem dX7_weight_5 : decode cX7_weight 5 = .ok (.ifCond .eq 13, 3) := by decide +kernel
theorem dX7_weight_8 : decode cX7_weight 8 = .ok (.iload_n 2, 1) := by decide +kernel
theorem dX7_weight_9 : decode cX7_weight 9 = .ok (.iconst 1, 1) := by decide +kernel
theorem dX7_weight_10 : decode cX7_weight 10 = .ok (.bipush 9, 2) := by decide +kernel
theorem dX7_weight_12 : decode cX7_weight 12 = .ok (.invokestatic 37, 3) := by decide +kernel
theorem dX7_weight_15 : decode cX7_weight 15 = .ok (.ifCond .ne 5, 3) := by decide +kernel
theorem dX7_weight_18 : decode cX7_weight 18 = .ok (.iconst (-1), 1) := by decide +kernel
theorem dX7_weight_19 : decode cX7_weight 19 = .ok (.ireturn, 1) := by decide +kernel
theorem dX7_weight_20 : decode cX7_weight 20 = .ok (.aload_n 0, 1) := by decide +kernel
theorem dX7_weight_21 : decode cX7_weight 21 = .ok (.getfield 12, 3) := by decide +kernel
theorem dX7_weight_24 : decode cX7_weight 24 = .ok (.getfield 86, 3) := by decide +kernel
theorem dX7_weight_27 : decode cX7_weight 27 = .ok (.iload_n 1, 1) := by decide +kernel
theorem dX7_weight_28 : decode cX7_weight 28 = .ok (.aaload, 1) := by decide +kernel
theorem dX7_weight_29 : decode cX7_weight 29 = .ok (.getfield 102, 3) := by decide +kernel
theorem dX7_weight_32 : decode cX7_weight 32 = .ok (.istore_n 3, 1) := by decide +kernel
theorem dX7_weight_33 : decode cX7_weight 33 = .ok (.aload_n 0, 1) := by decide +kernel
theorem dX7_weight_34 : decode cX7_weight 34 = .ok (.getfield 12, 3) := by decide +kernel
theorem dX7_weight_37 : decode cX7_weight 37 = .ok (.getfield 86, 3) := by decide +kernel
theorem dX7_weight_40 : decode cX7_weight 40 = .ok (.iload_n 1, 1) := by decide +kernel
theorem dX7_weight_41 : decode cX7_weight 41 = .ok (.aaload, 1) := by decide +kernel
theorem dX7_weight_42 : decode cX7_weight 42 = .ok (.iload_n 2, 1) := by decide +kernel
theorem dX7_weight_43 : decode cX7_weight 43 = .ok (.putfield 102, 3) := by decide +kernel
theorem dX7_weight_46 : decode cX7_weight 46 = .ok (.iload_n 3, 1) := by decide +kernel
theorem dX7_weight_47 : decode cX7_weight 47 = .ok (.ireturn, 1) := by decide +kernel
set_option maxRecDepth 20000 in
theorem ggX7_mark_X7_isCase : GoodIn wsX7_mark wsX7_isCase := goodIn_r _ [9, 1, 10, 11, 12, 8, 13, 17, 18, 19, 20, 21, 22, 23, 24, 25, 26, 27, 28] (by decide +kernel) (by decide +kernel)
set_option maxRecDepth 20000 in
theorem gX7_mark_X7_isCase : GoodIn wsX7_mark (wsV RX7 96 RX7 yX7_isCase wsX7_isCase) := goodIn_app (goodIn_of _ (by decide +kernel)) ggX7_mark_X7_isCase
set_option maxRecDepth 20000 in
theorem ggX7_mark_X7_hasBit : GoodIn wsX7_mark wsX7_hasBit := goodIn_r _ [16] (by decide +kernel) (by decide +kernel)
set_option maxRecDepth 20000 in
theorem gX7_mark_X7_hasBit : GoodIn wsX7_mark (va_wsS RX7 79 yX7_hasBit wsX7_hasBit) := goodIn_app (goodIn_of _ (by decide +kernel)) ggX7_mark_X7_hasBit
theorem dX7_mark_0 : decode cX7_mark 0 = .ok (.aload_n 0, 1) := by decide +kernel
theorem dX7_mark_1 : decode cX7_mark 1 = .ok (.iload_n 1, 1) := by decide +kernel
theorem dX7_mark_2 : decode cX7_mark 2 = .ok (.invokevirtual 96, 3) := by decide +kernel
theorem dX7_mark_5 : decode cX7_mark 5 = .ok (.ifCond .eq 16, 3) := by decide +kernel
theorem dX7_mark_8 : decode cX7_mark 8 = .ok (.aload_n 0, 1) := by decide +kernel
theorem dX7_mark_9 : decode cX7_mark 9 = .ok (.iload_n 2, 1) := by decide +kernel
theorem dX7_mark_10 : decode cX7_mark 10 = .ok (.invokevirtual 96, 3) := by decide +kernel
theorem dX7_mark_13 : decode cX7_mark 13 = .ok (.ifCond .eq 8, 3) := by decide +kernel
theorem dX7_mark_16 : decode cX7_mark 16 = .ok (.iload_n 1, 1) := by decide +kernel
theorem dX7_mark_17 : decode cX7_mark 17 = .ok (.iload_n 2, 1) := by decide +kernel
theorem dX7_mark_18 : decode cX7_mark 18 = .ok (.if_icmp .ne 5, 3) := by decide +kernel
theorem dX7_mark_21 : decode cX7_mark 21 = .ok (.iconst (-1), 1) := by decide +kernel
theorem dX7_mark_22 : decode cX7_mark 22 = .ok (.ireturn, 1) := by decide +kernel
theorem dX7_mark_23 : decode cX7_mark 23 = .ok (.aload_n 0, 1) := by decide +kernel
theorem dX7_mark_24 : decode cX7_mark 24 = .ok (.getfield 12, 3) := by decide +kernel
theorem dX7_mark_27 : decode cX7_mark 27 = .ok (.getfield 86, 3) := by decide +kernel
theorem dX7_mark_30 : decode cX7_mark 30 = .ok (.iload_n 1, 1) := by decide +kernel
theorem dX7_mark_31 : decode cX7_mark 31 = .ok (.aaload, 1) := by decide +kernel
theorem dX7_mark_32 : decode cX7_mark 32 = .ok (.getfield 105, 3) := by decide +kernel
theorem dX7_mark_35 : decode cX7_mark 35 = .ok (.iload_n 2, 1) := by decide +kernel
theorem dX7_mark_36 : decode cX7_mark 36 = .ok (.invokestatic 79, 3) := by decide +kernel
theorem dX7_mark_39 : decode cX7_mark 39 = .ok (.ifCond .eq 6, 3) := by decide +kernel
theorem dX7_mark_42 : decode cX7_mark 42 = .ok (.bipush (-3), 2) := by decide +kernel
theorem dX7_mark_44 : decode cX7_mark 44 = .ok (.ireturn, 1) := by decide +kernel
theorem dX7_mark_45 : decode cX7_mark 45 = .ok (.aload_n 0, 1) := by decide +kernel
theorem dX7_mark_46 : decode cX7_mark 46 = .ok (.getfield 12, 3) := by decide +kernel
theorem dX7_mark_49 : decode cX7_mark 49 = .ok (.getfield 108, 3) := by decide +kernel
theorem dX7_mark_52 : decode cX7_mark 52 = .ok (.bipush 6, 2) := by decide +kernel
theorem dX7_mark_54 : decode cX7_mark 54 = .ok (.if_icmp .lt 6, 3) := by decide +kernel
theorem dX7_mark_57 : decode cX7_mark 57 = .ok (.bipush (-2), 2) := by decide +kernel
theorem dX7_mark_59 : decode cX7_mark 59 = .ok (.ireturn, 1) := by decide +kernel
theorem dX7_mark_60 : decode cX7_mark 60 = .ok (.aload_n 0, 1) := by decide +kernel
theorem dX7_mark_61 : decode cX7_mark 61 = .ok (.getfield 12, 3) := by decide +kernel
theorem dX7_mark_64 : decode cX7_mark 64 = .ok (.getfield 86, 3) := by decide +kernel
theorem dX7_mark_67 : decode cX7_mark 67 = .ok (.iload_n 1, 1) := by decide +kernel
theorem dX7_mark_68 : decode cX7_mark 68 = .ok (.aaload, 1) := by decide +kernel
theorem dX7_mark_69 : decode cX7_mark 69 = .ok (.dup, 1) := by decide +kernel
theorem dX7_mark_70 : decode cX7_mark 70 = .ok (.getfield 105, 3) := by decide +kernel
theorem dX7_mark_73 : decode cX7_mark 73 = .ok (.iconst 1, 1) := by decide +kernel
theorem dX7_mark_74 : decode cX7_mark 74 = .ok (.iload_n 2, 1) := by decide +kernel
theorem dX7_mark_75 : decode cX7_mark 75 = .ok (.ishl, 1) := by decide +kernel
theorem dX7_mark_76 : decode cX7_mark 76 = .ok (.ior, 1) := by decide +kernel
theorem dX7_mark_77 : decode cX7_mark 77 = .ok (.putfield 105, 3) := by decide +kernel
theorem dX7_mark_80 : decode cX7_mark 80 = .ok (.aload_n 0, 1) := by decide +kernel
theorem dX7_mark_81 : decode cX7_mark 81 = .ok (.getfield 12, 3) := by decide +kernel
theorem dX7_mark_84 : decode cX7_mark 84 = .ok (.getfield 86, 3) := by decide +kernel
theorem dX7_mark_87 : decode cX7_mark 87 = .ok (.iload_n 2, 1) := by decide +kernel
theorem dX7_mark_88 : decode cX7_mark 88 = .ok (.aaload, 1) := by decide +kernel
theorem dX7_mark_89 : decode cX7_mark 89 = .ok (.dup, 1) := by decide +kernel
theorem dX7_mark_90 : decode cX7_mark 90 = .ok (.getfield 105, 3) := by decide +kernel
theorem dX7_mark_93 : decode cX7_mark 93 = .ok (.iconst 1, 1) := by decide +kernel
theorem dX7_mark_94 : decode cX7_mark 94 = .ok (.iload_n 1, 1) := by decide +kernel
theorem dX7_mark_95 : decode cX7_mark 95 = .ok (.ishl, 1) := by decide +kernel
theorem dX7_mark_96 : decode cX7_mark 96 = .ok (.ior, 1) := by decide +kernel
theorem dX7_mark_97 : decode cX7_mark 97 = .ok (.putfield 105, 3) := by decide +kernel
theorem dX7_mark_100 : decode cX7_mark 100 = .ok (.aload_n 0, 1) := by decide +kernel
theorem dX7_mark_101 : decode cX7_mark 101 = .ok (.getfield 12, 3) := by decide +kernel
theorem dX7_mark_104 : decode cX7_mark 104 = .ok (.dup, 1) := by decide +kernel
theorem dX7_mark_105 : decode cX7_mark 105 = .ok (.getfield 108, 3) := by decide +kernel
theorem dX7_mark_108 : decode cX7_mark 108 = .ok (.iconst 1, 1) := by decide +kernel
theorem dX7_mark_109 : decode cX7_mark 109 = .ok (.iadd, 1) := by decide +kernel
theorem dX7_mark_110 : decode cX7_mark 110 = .ok (.putfield 108, 3) := by decide +kernel
theorem dX7_mark_113 : decode cX7_mark 113 = .ok (.aload_n 0, 1) := by decide +kernel
theorem dX7_mark_114 : decode cX7_mark 114 = .ok (.getfield 12, 3) := by decide +kernel
theorem dX7_mark_117 : decode cX7_mark 117 = .ok (.getfield 108, 3) := by decide +kernel
theorem dX7_mark_120 : decode cX7_mark 120 = .ok (.ireturn, 1) := by decide +kernel
set_option maxRecDepth 20000 in
theorem ggX7_of_X7_isCase : GoodIn wsX7_of wsX7_isCase := goodIn_r _ [12, 1, 13, 14, 15, 11, 16, 39, 40, 41, 42, 43, 44, 45, 46, 47, 48, 49, 50] (by decide +kernel) (by decide +kernel)
set_option maxRecDepth 20000 in
theorem gX7_of_X7_isCase : GoodIn wsX7_of (wsV RX7 96 RX7 yX7_isCase wsX7_isCase) := goodIn_app (goodIn_of _ (by decide +kernel)) ggX7_of_X7_isCase
set_option maxRecDepth 20000 in
theorem ggX7_of_X1_headOfQuarrel : GoodIn wsX7_of wsX1_headOfQuarrel := goodIn_r _ [21, 22, 23, 24, 20, 25, 26, 27, 28, 29, 11, 30, 44, 45, 46, 47, 48, 49, 50, 51, 52, 53, 54, 55, 56, 57, 58, 59, 60, 61] (by decide +kernel) (by decide +kernel)
set_option maxRecDepth 20000 in
theorem gX7_of_X1_headOfQuarrel : GoodIn wsX7_of (wsV RX7 120 RX1 yX1_headOfQuarrel wsX1_headOfQuarrel) := goodIn_app (goodIn_of _ (by decide +kernel)) ggX7_of_X1_headOfQuarrel
set_option maxRecDepth 20000 in
theorem ggX7_of_X1_quarrelBits : GoodIn wsX7_of wsX1_quarrelBits := goodIn_r _ [25, 26, 27, 28, 29, 11, 30, 44, 45, 46, 47, 48, 49, 50, 51, 52, 53, 54, 55, 56, 57, 58, 59, 60, 61] (by decide +kernel) (by decide +kernel)
set_option maxRecDepth 20000 in
theorem gX7_of_X1_quarrelBits : GoodIn wsX7_of (wsV RX7 124 RX1 yX1_quarrelBits wsX1_quarrelBits) := goodIn_app (goodIn_of _ (by decide +kernel)) ggX7_of_X1_quarrelBits
set_option maxRecDepth 20000 in
theorem ggX7_of_J6_bitCount_0f7a4 : GoodIn wsX7_of wsJ6_bitCount_0f7a4 := goodIn_r _ [35, 36, 37, 38] (by decide +kernel) (by decide +kernel)
set_option maxRecDepth 20000 in
theorem gX7_of_J6_bitCount_0f7a4 : GoodIn wsX7_of (va_wsS RX7 127 yJ6_bitCount_0f7a4 wsJ6_bitCount_0f7a4) := goodIn_app (goodIn_of _ (by decide +kernel)) ggX7_of_J6_bitCount_0f7a4
theorem dX7_of_0 : decode cX7_of 0 = .ok (.aload_n 0, 1) := by decide +kernel
theorem dX7_of_1 : decode cX7_of 1 = .ok (.iload_n 1, 1) := by decide +kernel
theorem dX7_of_2 : decode cX7_of 2 = .ok (.invokevirtual 96, 3) := by decide +kernel
theorem dX7_of_5 : decode cX7_of 5 = .ok (.ifCond .ne 5, 3) := by decide +kernel
theorem dX7_of_8 : decode cX7_of 8 = .ok (.iconst (-1), 1) := by decide +kernel
theorem dX7_of_9 : decode cX7_of 9 = .ok (.ireturn, 1) := by decide +kernel
theorem dX7_of_10 : decode cX7_of 10 = .ok (.aload_n 0, 1) := by decide +kernel
theorem dX7_of_11 : decode cX7_of 11 = .ok (.getfield 12, 3) := by decide +kernel
theorem dX7_of_14 : decode cX7_of 14 = .ok (.getfield 86, 3) := by decide +kernel
theorem dX7_of_17 : decode cX7_of 17 = .ok (.iload_n 1, 1) := by decide +kernel
theorem dX7_of_18 : decode cX7_of 18 = .ok (.aaload, 1) := by decide +kernel
theorem dX7_of_19 : decode cX7_of 19 = .ok (.astore_n 3, 1) := by decide +kernel
theorem dX7_of_20 : decode cX7_of 20 = .ok (.iload_n 2, 1) := by decide +kernel
theorem dX7_of_21 : decode cX7_of 21 = .ok (.tableswitch 115 0 7 #[47, 54, 61, 66, 84, 89, 98, 110], 47) := by decide +kernel
theorem dX7_of_68 : decode cX7_of 68 = .ok (.aload_n 3, 1) := by decide +kernel
theorem dX7_of_69 : decode cX7_of 69 = .ok (.getfield 111, 3) := by decide +kernel
theorem dX7_of_72 : decode cX7_of 72 = .ok (.iconst 0, 1) := by decide +kernel
theorem dX7_of_73 : decode cX7_of 73 = .ok (.iaload, 1) := by decide +kernel
theorem dX7_of_74 : decode cX7_of 74 = .ok (.ireturn, 1) := by decide +kernel
theorem dX7_of_75 : decode cX7_of 75 = .ok (.aload_n 3, 1) := by decide +kernel
theorem dX7_of_76 : decode cX7_of 76 = .ok (.getfield 111, 3) := by decide +kernel
theorem dX7_of_79 : decode cX7_of 79 = .ok (.iconst 1, 1) := by decide +kernel
theorem dX7_of_80 : decode cX7_of 80 = .ok (.iaload, 1) := by decide +kernel
theorem dX7_of_81 : decode cX7_of 81 = .ok (.ireturn, 1) := by decide +kernel
theorem dX7_of_82 : decode cX7_of 82 = .ok (.aload_n 3, 1) := by decide +kernel
theorem dX7_of_83 : decode cX7_of 83 = .ok (.getfield 99, 3) := by decide +kernel
