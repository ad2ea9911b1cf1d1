theorem dX1_copyFrom_0 : decode cX1_copyFrom 0 = .ok (.aload_n 0, 1) := by decide +kernel
theorem dX1_copyFrom_1 : decode cX1_copyFrom 1 = .ok (.aload_n 1, 1) := by decide +kernel
theorem dX1_copyFrom_2 : decode cX1_copyFrom 2 = .ok (.getfield 88, 3) := by decide +kernel
theorem dX1_copyFrom_5 : decode cX1_copyFrom 5 = .ok (.putfield 88, 3) := by decide +kernel
theorem dX1_copyFrom_8 : decode cX1_copyFrom 8 = .ok (.aload_n 0, 1) := by decide +kernel
theorem dX1_copyFrom_9 : decode cX1_copyFrom 9 = .ok (.aload_n 1, 1) := by decide +kernel
theorem dX1_copyFrom_10 : decode cX1_copyFrom 10 = .ok (.getfield 36, 3) := by decide +kernel
theorem dX1_copyFrom_13 : decode cX1_copyFrom 13 = .ok (.putfield 36, 3) := by decide +kernel
theorem dX1_copyFrom_16 : decode cX1_copyFrom 16 = .ok (.aload_n 0, 1) := by decide +kernel
theorem dX1_copyFrom_17 : decode cX1_copyFrom 17 = .ok (.aload_n 1, 1) := by decide +kernel
theorem dX1_copyFrom_18 : decode cX1_copyFrom 18 = .ok (.getfield 66, 3) := by decide +kernel
theorem dX1_copyFrom_21 : decode cX1_copyFrom 21 = .ok (.putfield 66, 3) := by decide +kernel
theorem dX1_copyFrom_24 : decode cX1_copyFrom 24 = .ok (.aload_n 0, 1) := by decide +kernel
theorem dX1_copyFrom_25 : decode cX1_copyFrom 25 = .ok (.aload_n 1, 1) := by decide +kernel
theorem dX1_copyFrom_26 : decode cX1_copyFrom 26 = .ok (.getfield 91, 3) := by decide +kernel
theorem dX1_copyFrom_29 : decode cX1_copyFrom 29 = .ok (.putfield 91, 3) := by decide +kernel
theorem dX1_copyFrom_32 : decode cX1_copyFrom 32 = .ok (.iconst 0, 1) := by decide +kernel
theorem dX1_copyFrom_33 : decode cX1_copyFrom 33 = .ok (.istore_n 2, 1) := by decide +kernel
theorem dX1_copyFrom_34 : decode cX1_copyFrom 34 = .ok (.iload_n 2, 1) := by decide +kernel
theorem dX1_copyFrom_35 : decode cX1_copyFrom 35 = .ok (.aload_n 0, 1) := by decide +kernel
theorem dX1_copyFrom_36 : decode cX1_copyFrom 36 = .ok (.getfield 88, 3) := by decide +kernel
theorem dX1_copyFrom_39 : decode cX1_copyFrom 39 = .ok (.if_icmp .ge 24, 3) := by decide +kernel
theorem dX1_copyFrom_63 : decode cX1_copyFrom 63 = .ok (.iconst 0, 1) := by decide +kernel
theorem dX1_copyFrom_64 : decode cX1_copyFrom 64 = .ok (.istore_n 2, 1) := by decide +kernel
theorem dX1_copyFrom_65 : decode cX1_copyFrom 65 = .ok (.iload_n 2, 1) := by decide +kernel
theorem dX1_copyFrom_66 : decode cX1_copyFrom 66 = .ok (.aload_n 0, 1) := by decide +kernel
theorem dX1_copyFrom_67 : decode cX1_copyFrom 67 = .ok (.getfield 36, 3) := by decide +kernel
theorem dX1_copyFrom_70 : decode cX1_copyFrom 70 = .ok (.if_icmp .ge 24, 3) := by decide +kernel
theorem dX1_copyFrom_94 : decode cX1_copyFrom 94 = .ok (.iconst 0, 1) := by decide +kernel
theorem dX1_copyFrom_95 : decode cX1_copyFrom 95 = .ok (.istore_n 2, 1) := by decide +kernel
theorem dX1_copyFrom_96 : decode cX1_copyFrom 96 = .ok (.iload_n 2, 1) := by decide +kernel
theorem dX1_copyFrom_97 : decode cX1_copyFrom 97 = .ok (.aload_n 0, 1) := by decide +kernel
theorem dX1_copyFrom_98 : decode cX1_copyFrom 98 = .ok (.getfield 66, 3) := by decide +kernel
theorem dX1_copyFrom_101 : decode cX1_copyFrom 101 = .ok (.if_icmp .ge 24, 3) := by decide +kernel
theorem dX1_copyFrom_125 : decode cX1_copyFrom 125 = .ok (.return_, 1) := by decide +kernel
theorem dX7_keep_0 : decode cX7_keep 0 = .ok (.aload_n 0, 1) := by decide +kernel
theorem dX7_keep_1 : decode cX7_keep 1 = .ok (.getfield 30, 3) := by decide +kernel
theorem dX7_keep_4 : decode cX7_keep 4 = .ok (.ifnonnull 14, 3) := by decide +kernel
theorem dX7_keep_7 : decode cX7_keep 7 = .ok (.aload_n 0, 1) := by decide +kernel
theorem dX7_keep_8 : decode cX7_keep 8 = .ok (.new 9, 3) := by decide +kernel
theorem dX7_keep_11 : decode cX7_keep 11 = .ok (.dup, 1) := by decide +kernel
set_option maxRecDepth 20000 in
theorem ggX7_keep_X1_init : GoodIn wsX7_keep wsX1_init := goodIn_r _ [8, 9, 10, 11, 12, 13, 14, 15, 16, 17, 18, 19, 20, 21, 22, 23, 24, 25, 26, 27, 28, 29, 30, 31, 32, 33, 34, 35, 36, 37, 38, 39, 40, 41, 42, 43, 44, 45, 46, 96, 97, 98, 99, 100, 101, 102, 103, 104, 105, 106, 107, 108, 109, 110, 111, 112, 113, 114, 115, 116, 117, 118, 119, 120, 121, 122, 123] (by decide +kernel) (by decide +kernel)
set_option maxRecDepth 20000 in
theorem gX7_keep_X1_init : GoodIn wsX7_keep (wsX1_init) := ggX7_keep_X1_init
theorem dX7_keep_12 : decode cX7_keep 12 = .ok (.invokespecial 11, 3) := by decide +kernel
theorem dX7_keep_15 : decode cX7_keep 15 = .ok (.putfield 30, 3) := by decide +kernel
theorem dX7_keep_18 : decode cX7_keep 18 = .ok (.aload_n 0, 1) := by decide +kernel
theorem dX7_keep_19 : decode cX7_keep 19 = .ok (.getfield 30, 3) := by decide +kernel
theorem dX7_keep_22 : decode cX7_keep 22 = .ok (.aload_n 0, 1) := by decide +kernel
theorem dX7_keep_23 : decode cX7_keep 23 = .ok (.getfield 12, 3) := by decide +kernel
set_option maxRecDepth 20000 in
theorem ggX7_keep_X1_copyFrom : GoodIn wsX7_keep wsX1_copyFrom := goodIn_r _ [50, 51, 52, 53, 54, 13, 15, 17, 55, 56, 57, 19, 58, 59, 60, 61, 62, 63, 21, 64, 65, 66, 67, 68, 69, 70, 23, 71, 72, 73, 74, 75, 76, 77, 35, 36, 38, 78, 79, 80, 81, 39, 41, 82, 83, 84, 43, 85, 86, 87, 88, 89, 90, 96, 97, 98, 99, 100, 101, 102, 103, 104, 105, 106, 107, 108, 109, 110, 111, 112, 113, 114, 115, 116, 117, 118, 119, 120, 121, 122, 123] (by decide +kernel) (by decide +kernel)
set_option maxRecDepth 20000 in
theorem gX7_keep_X1_copyFrom : GoodIn wsX7_keep (wsV RX7 227 RX1 yX1_copyFrom wsX1_copyFrom) := goodIn_app (goodIn_of _ (by decide +kernel)) ggX7_keep_X1_copyFrom
theorem dX7_keep_26 : decode cX7_keep 26 = .ok (.invokevirtual 227, 3) := by decide +kernel
theorem dX7_keep_29 : decode cX7_keep 29 = .ok (.iconst 1, 1) := by decide +kernel
theorem dX7_keep_30 : decode cX7_keep 30 = .ok (.ireturn, 1) := by decide +kernel
theorem dX4_gather_0 : decode cX4_gather 0 = .ok (.aload_n 0, 1) := by decide +kernel
theorem dX4_gather_1 : decode cX4_gather 1 = .ok (.iconst 0, 1) := by decide +kernel
theorem dX4_gather_2 : decode cX4_gather 2 = .ok (.putfield 61, 3) := by decide +kernel
theorem dX4_gather_5 : decode cX4_gather 5 = .ok (.iconst 0, 1) := by decide +kernel
theorem dX4_gather_6 : decode cX4_gather 6 = .ok (.istore_n 2, 1) := by decide +kernel
theorem dX4_gather_7 : decode cX4_gather 7 = .ok (.iload_n 2, 1) := by decide +kernel
theorem dX4_gather_8 : decode cX4_gather 8 = .ok (.aload_n 1, 1) := by decide +kernel
theorem dX4_gather_9 : decode cX4_gather 9 = .ok (.getfield 68, 3) := by decide +kernel
theorem dX4_gather_12 : decode cX4_gather 12 = .ok (.if_icmp .ge 78, 3) := by decide +kernel
theorem dX4_gather_90 : decode cX4_gather 90 = .ok (.return_, 1) := by decide +kernel
theorem dX4_sortByWeight_0 : decode cX4_sortByWeight 0 = .ok (.iconst 0, 1) := by decide +kernel
theorem dX4_sortByWeight_1 : decode cX4_sortByWeight 1 = .ok (.istore_n 1, 1) := by decide +kernel
theorem dX4_sortByWeight_2 : decode cX4_sortByWeight 2 = .ok (.iload_n 1, 1) := by decide +kernel
theorem dX4_sortByWeight_3 : decode cX4_sortByWeight 3 = .ok (.aload_n 0, 1) := by decide +kernel
theorem dX4_sortByWeight_4 : decode cX4_sortByWeight 4 = .ok (.getfield 61, 3) := by decide +kernel
theorem dX4_sortByWeight_7 : decode cX4_sortByWeight 7 = .ok (.if_icmp .ge 64, 3) := by decide +kernel
theorem dX4_sortByWeight_71 : decode cX4_sortByWeight 71 = .ok (.return_, 1) := by decide +kernel
theorem dX4_leastBehind_0 : decode cX4_leastBehind 0 = .ok (.iconst 0, 1) := by decide +kernel
theorem dX4_leastBehind_1 : decode cX4_leastBehind 1 = .ok (.istore_n 2, 1) := by decide +kernel
theorem dX4_leastBehind_2 : decode cX4_leastBehind 2 = .ok (.iconst 0, 1) := by decide +kernel
theorem dX4_leastBehind_3 : decode cX4_leastBehind 3 = .ok (.istore_n 3, 1) := by decide +kernel
theorem dX4_leastBehind_4 : decode cX4_leastBehind 4 = .ok (.aload_n 0, 1) := by decide +kernel
theorem dX4_leastBehind_5 : decode cX4_leastBehind 5 = .ok (.getfield 33, 3) := by decide +kernel
theorem dX4_leastBehind_8 : decode cX4_leastBehind 8 = .ok (.iconst 0, 1) := by decide +kernel
theorem dX4_leastBehind_9 : decode cX4_leastBehind 9 = .ok (.iaload, 1) := by decide +kernel
theorem dX4_leastBehind_10 : decode cX4_leastBehind 10 = .ok (.istore 4, 2) := by decide +kernel
theorem dX4_leastBehind_12 : decode cX4_leastBehind 12 = .ok (.iconst 0, 1) := by decide +kernel
theorem dX4_leastBehind_13 : decode cX4_leastBehind 13 = .ok (.istore 5, 2) := by decide +kernel
theorem dX4_leastBehind_15 : decode cX4_leastBehind 15 = .ok (.iload 5, 2) := by decide +kernel
theorem dX4_leastBehind_17 : decode cX4_leastBehind 17 = .ok (.aload_n 0, 1) := by decide +kernel
theorem dX4_leastBehind_18 : decode cX4_leastBehind 18 = .ok (.getfield 61, 3) := by decide +kernel
theorem dX4_leastBehind_21 : decode cX4_leastBehind 21 = .ok (.if_icmp .ge 119, 3) := by decide +kernel
theorem dX4_leastBehind_140 : decode cX4_leastBehind 140 = .ok (.iload_n 2, 1) := by decide +kernel
theorem dX4_leastBehind_141 : decode cX4_leastBehind 141 = .ok (.ireturn, 1) := by decide +kernel
theorem dX4_search_0 : decode cX4_search 0 = .ok (.iload_n 2, 1) := by decide +kernel
theorem dX4_search_1 : decode cX4_search 1 = .ok (.aload_n 0, 1) := by decide +kernel
theorem dX4_search_2 : decode cX4_search 2 = .ok (.iload_n 1, 1) := by decide +kernel
set_option maxRecDepth 20000 in
theorem ggX4_search_X4_leastBehind : GoodIn wsX4_search wsX4_leastBehind := goodIn_r _ [16, 9, 2, 17, 10, 18, 11, 30, 31, 32, 33, 34, 35, 36, 37, 38, 39, 40] (by decide +kernel) (by decide +kernel)
set_option maxRecDepth 20000 in
theorem gX4_search_X4_leastBehind : GoodIn wsX4_search (wsV RX4 95 RX4 yX4_leastBehind wsX4_leastBehind) := goodIn_app (goodIn_of _ (by decide +kernel)) ggX4_search_X4_leastBehind
theorem dX4_search_3 : decode cX4_search 3 = .ok (.invokevirtual 95, 3) := by decide +kernel
theorem dX4_search_6 : decode cX4_search 6 = .ok (.iadd, 1) := by decide +kernel
theorem dX4_search_7 : decode cX4_search 7 = .ok (.aload_n 0, 1) := by decide +kernel
theorem dX4_search_8 : decode cX4_search 8 = .ok (.getfield 58, 3) := by decide +kernel
theorem dX4_search_11 : decode cX4_search 11 = .ok (.if_icmp .lt 4, 3) := by decide +kernel
theorem dX4_search_15 : decode cX4_search 15 = .ok (.iload_n 1, 1) := by decide +kernel
theorem dX4_search_16 : decode cX4_search 16 = .ok (.aload_n 0, 1) := by decide +kernel
theorem dX4_search_17 : decode cX4_search 17 = .ok (.getfield 61, 3) := by decide +kernel
theorem dX4_search_20 : decode cX4_search 20 = .ok (.if_icmp .lt 26, 3) := by decide +kernel
theorem dX4_search_23 : decode cX4_search 23 = .ok (.aload_n 0, 1) := by decide +kernel
theorem dX4_search_24 : decode cX4_search 24 = .ok (.iload_n 2, 1) := by decide +kernel
theorem dX4_search_25 : decode cX4_search 25 = .ok (.putfield 58, 3) := by decide +kernel
theorem dX4_search_28 : decode cX4_search 28 = .ok (.aload_n 0, 1) := by decide +kernel
theorem dX4_search_29 : decode cX4_search 29 = .ok (.getfield 24, 3) := by decide +kernel
theorem dX4_search_32 : decode cX4_search 32 = .ok (.iconst 0, 1) := by decide +kernel
theorem dX4_search_33 : decode cX4_search 33 = .ok (.aload_n 0, 1) := by decide +kernel
theorem dX4_search_34 : decode cX4_search 34 = .ok (.getfield 27, 3) := by decide +kernel
theorem dX4_search_37 : decode cX4_search 37 = .ok (.iconst 0, 1) := by decide +kernel
theorem dX4_search_38 : decode cX4_search 38 = .ok (.aload_n 0, 1) := by decide +kernel
theorem dX4_search_39 : decode cX4_search 39 = .ok (.getfield 61, 3) := by decide +kernel
theorem dX4_search_42 : decode cX4_search 42 = .ok (.invokestatic 99, 3) := by decide +kernel
theorem dX4_search_45 : decode cX4_search 45 = .ok (.return_, 1) := by decide +kernel
theorem dX4_findPlan_0 : decode cX4_findPlan 0 = .ok (.aload_n 0, 1) := by decide +kernel
theorem dX4_findPlan_1 : decode cX4_findPlan 1 = .ok (.iload_n 2, 1) := by decide +kernel
theorem dX4_findPlan_2 : decode cX4_findPlan 2 = .ok (.aload_n 1, 1) := by decide +kernel
theorem dX4_findPlan_3 : decode cX4_findPlan 3 = .ok (.getfield 36, 3) := by decide +kernel
theorem dX4_findPlan_6 : decode cX4_findPlan 6 = .ok (.iconst 2, 1) := by decide +kernel
theorem dX4_findPlan_7 : decode cX4_findPlan 7 = .ok (.idiv, 1) := by decide +kernel
theorem dX4_findPlan_8 : decode cX4_findPlan 8 = .ok (.invokestatic 42, 3) := by decide +kernel
theorem dX4_findPlan_11 : decode cX4_findPlan 11 = .ok (.putfield 48, 3) := by decide +kernel
theorem dX4_findPlan_14 : decode cX4_findPlan 14 = .ok (.aload_n 0, 1) := by decide +kernel
theorem dX4_findPlan_15 : decode cX4_findPlan 15 = .ok (.aload_n 1, 1) := by decide +kernel
set_option maxRecDepth 20000 in
theorem ggX4_findPlan_X4_gather : GoodIn wsX4_findPlan wsX4_gather := goodIn_r _ [16, 8, 17, 18, 19, 20, 9, 21, 22, 23, 24, 15, 25, 26, 27, 28, 29, 30, 31, 32, 33, 34, 35, 36, 37, 38, 39, 40, 41, 42, 43, 44, 45, 46, 47, 48, 49, 50, 81, 82, 83, 84, 85, 86, 87, 88, 89, 90, 91, 74, 75, 76, 77, 78, 79, 80, 92, 93, 94, 95, 96, 97, 98, 99, 100, 101, 102, 103, 104, 105, 106, 107] (by decide +kernel) (by decide +kernel)
set_option maxRecDepth 20000 in
theorem gX4_findPlan_X4_gather : GoodIn wsX4_findPlan (wsV RX4 51 RX4 yX4_gather wsX4_gather) := goodIn_app (goodIn_of _ (by decide +kernel)) ggX4_findPlan_X4_gather
theorem dX4_findPlan_16 : decode cX4_findPlan 16 = .ok (.invokevirtual 51, 3) := by decide +kernel
theorem dX4_findPlan_19 : decode cX4_findPlan 19 = .ok (.aload_n 0, 1) := by decide +kernel
set_option maxRecDepth 20000 in
theorem ggX4_findPlan_X4_sortByWeight : GoodIn wsX4_findPlan wsX4_sortByWeight := goodIn_r _ [54, 8, 9, 55, 81, 82, 83, 84, 85, 86, 87, 88, 89, 90, 91] (by decide +kernel) (by decide +kernel)
set_option maxRecDepth 20000 in
theorem gX4_findPlan_X4_sortByWeight : GoodIn wsX4_findPlan (wsV RX4 55 RX4 yX4_sortByWeight wsX4_sortByWeight) := goodIn_app (goodIn_of _ (by decide +kernel)) ggX4_findPlan_X4_sortByWeight
theorem dX4_findPlan_20 : decode cX4_findPlan 20 = .ok (.invokevirtual 55, 3) := by decide +kernel
theorem dX4_findPlan_23 : decode cX4_findPlan 23 = .ok (.aload_n 0, 1) := by decide +kernel
theorem dX4_findPlan_24 : decode cX4_findPlan 24 = .ok (.iconst 1, 1) := by decide +kernel
theorem dX4_findPlan_25 : decode cX4_findPlan 25 = .ok (.putfield 58, 3) := by decide +kernel
theorem dX4_findPlan_28 : decode cX4_findPlan 28 = .ok (.iconst 0, 1) := by decide +kernel
theorem dX4_findPlan_29 : decode cX4_findPlan 29 = .ok (.istore_n 3, 1) := by decide +kernel
theorem dX4_findPlan_30 : decode cX4_findPlan 30 = .ok (.iload_n 3, 1) := by decide +kernel
theorem dX4_findPlan_31 : decode cX4_findPlan 31 = .ok (.aload_n 0, 1) := by decide +kernel
theorem dX4_findPlan_32 : decode cX4_findPlan 32 = .ok (.getfield 61, 3) := by decide +kernel
theorem dX4_findPlan_35 : decode cX4_findPlan 35 = .ok (.if_icmp .ge 26, 3) := by decide +kernel
theorem dX4_findPlan_61 : decode cX4_findPlan 61 = .ok (.iconst 0, 1) := by decide +kernel
theorem dX4_findPlan_62 : decode cX4_findPlan 62 = .ok (.istore_n 3, 1) := by decide +kernel
theorem dX4_findPlan_63 : decode cX4_findPlan 63 = .ok (.iload_n 3, 1) := by decide +kernel
theorem dX4_findPlan_64 : decode cX4_findPlan 64 = .ok (.iconst 3, 1) := by decide +kernel
theorem dX4_findPlan_65 : decode cX4_findPlan 65 = .ok (.if_icmp .ge 23, 3) := by decide +kernel
theorem dX4_findPlan_68 : decode cX4_findPlan 68 = .ok (.aload_n 0, 1) := by decide +kernel
theorem dX4_findPlan_69 : decode cX4_findPlan 69 = .ok (.getfield 30, 3) := by decide +kernel
theorem dX4_findPlan_72 : decode cX4_findPlan 72 = .ok (.iload_n 3, 1) := by decide +kernel
theorem dX4_findPlan_73 : decode cX4_findPlan 73 = .ok (.iconst 0, 1) := by decide +kernel
theorem dX4_findPlan_74 : decode cX4_findPlan 74 = .ok (.iastore, 1) := by decide +kernel
theorem dX4_findPlan_75 : decode cX4_findPlan 75 = .ok (.aload_n 0, 1) := by decide +kernel
theorem dX4_findPlan_76 : decode cX4_findPlan 76 = .ok (.getfield 33, 3) := by decide +kernel
theorem dX4_findPlan_79 : decode cX4_findPlan 79 = .ok (.iload_n 3, 1) := by decide +kernel
theorem dX4_findPlan_80 : decode cX4_findPlan 80 = .ok (.iconst 0, 1) := by decide +kernel
theorem dX4_findPlan_81 : decode cX4_findPlan 81 = .ok (.iastore, 1) := by decide +kernel
theorem dX4_findPlan_82 : decode cX4_findPlan 82 = .ok (.iinc 3 1, 3) := by decide +kernel
theorem dX4_findPlan_85 : decode cX4_findPlan 85 = .ok (.goto (-22), 3) := by decide +kernel
theorem dX4_findPlan_88 : decode cX4_findPlan 88 = .ok (.aload_n 0, 1) := by decide +kernel
theorem dX4_findPlan_89 : decode cX4_findPlan 89 = .ok (.iconst 0, 1) := by decide +kernel
theorem dX4_findPlan_90 : decode cX4_findPlan 90 = .ok (.iconst 0, 1) := by decide +kernel
set_option maxRecDepth 20000 in
theorem ggX4_findPlan_X4_search : GoodIn wsX4_findPlan wsX4_search := goodIn_r _ [59, 7, 8, 60, 61, 62, 63, 64, 65, 11, 6, 9, 66, 67, 68, 15, 69, 55, 22, 70, 71, 72, 56, 57, 58, 73, 10, 41, 42, 43, 81, 82, 83, 84, 85, 86, 87, 88, 89, 90, 91] (by decide +kernel) (by decide +kernel)
set_option maxRecDepth 20000 in
theorem gX4_findPlan_X4_search : GoodIn wsX4_findPlan (wsV RX4 64 RX4 yX4_search wsX4_search) := goodIn_app (goodIn_of _ (by decide +kernel)) ggX4_findPlan_X4_search
theorem dX4_findPlan_91 : decode cX4_findPlan 91 = .ok (.invokevirtual 64, 3) := by decide +kernel
theorem dX4_findPlan_94 : decode cX4_findPlan 94 = .ok (.return_, 1) := by decide +kernel
theorem dX7_waits_0 : decode cX7_waits 0 = .ok (.aload_n 0, 1) := by decide +kernel
theorem dX7_waits_1 : decode cX7_waits 1 = .ok (.getfield 19, 3) := by decide +kernel
theorem dX7_waits_4 : decode cX7_waits 4 = .ok (.aload_n 0, 1) := by decide +kernel
theorem dX7_waits_5 : decode cX7_waits 5 = .ok (.getfield 12, 3) := by decide +kernel
theorem dX7_waits_8 : decode cX7_waits 8 = .ok (.aload_n 0, 1) := by decide +kernel
theorem dX7_waits_9 : decode cX7_waits 9 = .ok (.getfield 33, 3) := by decide +kernel
set_option maxRecDepth 20000 in
theorem ggX7_waits_X4_findPlan : GoodIn wsX7_waits wsX4_findPlan := goodIn_r _ [9, 10, 11, 12, 13, 14, 15, 16, 17, 18, 19, 20, 21, 22, 23, 8, 24, 25, 26, 27, 28, 29, 30, 31, 32, 33, 34, 35, 36, 37, 38, 39, 40, 41, 42, 43, 44, 45, 46, 47, 48, 49, 50, 51, 52, 53, 54, 55, 56, 57, 58, 59, 60, 61, 62, 63, 64, 65, 66, 67, 68, 69, 70, 71, 72, 73, 74, 75, 76, 77, 78, 79, 80, 81, 98, 99, 100, 101, 102, 103, 104, 87, 88, 89, 90, 91, 92, 93, 94, 95, 96, 97, 105, 106, 107, 108, 109, 110, 111, 112, 113, 114, 115, 116, 117, 118, 119, 120] (by decide +kernel) (by decide +kernel)
set_option maxRecDepth 20000 in
theorem gX7_waits_X4_findPlan : GoodIn wsX7_waits (wsV RX7 156 RX4 yX4_findPlan wsX4_findPlan) := goodIn_app (goodIn_of _ (by decide +kernel)) ggX7_waits_X4_findPlan
theorem dX7_waits_12 : decode cX7_waits 12 = .ok (.invokevirtual 156, 3) := by decide +kernel
theorem dX7_waits_15 : decode cX7_waits 15 = .ok (.aload_n 0, 1) := by decide +kernel
theorem dX7_waits_16 : decode cX7_waits 16 = .ok (.getfield 19, 3) := by decide +kernel
theorem dX7_waits_19 : decode cX7_waits 19 = .ok (.getfield 163, 3) := by decide +kernel
theorem dX7_waits_22 : decode cX7_waits 22 = .ok (.ireturn, 1) := by decide +kernel
set_option maxHeartbeats 4000000 in
set_option maxRecDepth 100000 in
theorem c0_X1_copyFrom (l : Launch) (dC : Nat → ClassId) (dI : Nat → Nat → Nat) (cy : Nat → ClassId) (sz : Nat) (k0 k4 k5 k6 h1 h4 h5 h6 : Nat) : Met l yX1_copyFrom wsX1_copyFrom ({ frames := 3, cells := 0, slots := 0, locals := 192 }) (va_Pc [.ref k0, .ref h1] (ex_Pre dC dI cy sz [(k0, .inr (1, [.int 0, .int 0, .int 0, .int 0, .ref k4, .ref k5, .ref k6])), (h1, .inr (1, [.int 0, .int 0, .int 0, .int 0, .ref h4, .ref h5, .ref h6]))])) (va_Qv (fun (u : Unit) => True) (fun u t => ex_Pst dC dI (va_A [(k0, .inr (1, [.int 0, .int 0, .int 0, .int 0, .ref k4, .ref k5, .ref k6])), (h1, .inr (1, [.int 0, .int 0, .int 0, .int 0, .ref h4, .ref h5, .ref h6]))] sz) ([]) t) (va_A [(k0, .inr (1, [.int 0, .int 0, .int 0, .int 0, .ref k4, .ref k5, .ref k6])), (h1, .inr (1, [.int 0, .int 0, .int 0, .int 0, .ref h4, .ref h5, .ref h6]))] sz)) 0 0 (va_A [(k0, .inr (1, [.int 0, .int 0, .int 0, .int 0, .ref k4, .ref k5, .ref k6])), (h1, .inr (1, [.int 0, .int 0, .int 0, .int 0, .ref h4, .ref h5, .ref h6]))] sz) := by
  refine Met.ofW (cc := cX1_copyFrom) (maxL := 3) (ret := none) (by decide) rfl ?_
  intro p e s m args below meth c s₁ B hml hv
  obtain ⟨rfl, hsz, hE, hP, hK, hD0⟩ := hv
  have hx := B.exec
  have hb := B.bytes
  have hr := B.returns
  have hts := atoms_spec (ws := wsX1_copyFrom) B.pre
  have hown : s.vm.findClass RX1 = some m.cls := findClass_of_methodNamed B.named
  have hlocks := B.notSynchronized
  subst hsz
  have hD := hD0.self (sz := s.heap.size)
  generalize hAe : va_A [(k0, .inr (1, [.int 0, .int 0, .int 0, .int 0, .ref k4, .ref k5, .ref k6])), (h1, .inr (1, [.int 0, .int 0, .int 0, .int 0, .ref h4, .ref h5, .ref h6]))] s.heap.size = A at hD ⊢
  have hA : ∀ q : Nat, s.heap.size ≤ q → A q := fun q h => by rw [← hAe]; exact Or.inr h
  have hS : va_S A s.heap s.heap [] := va_S.rf
  have hP : va_P (dC, dI) vwCl [(k0, .inr (1, [.int 0, .int 0, .int 0, .int 0, .ref k4, .ref k5, .ref k6])), (h1, .inr (1, [.int 0, .int 0, .int 0, .int 0, .ref h4, .ref h5, .ref h6]))] s.heap := hP
  have hl := lv_entry ([.ref k0, .ref h1]) (n := 3) (Nat.le_of_ble_eq_true rfl)
  rw [lg_entry_eq]
  generalize (lg_sl ([.ref k0, .ref h1]) ++ List.replicate (3 - (lg_sl ([.ref k0, .ref h1])).length) Slot.unset).toArray = ls at hl ⊢
  have hl : lv_has ls 3 [(0, .ref k0), (1, .ref h1)] := hl
  refine lv_aload_n hx hb dX1_copyFrom_0 rfl (lv_at hl 0 rfl) ?_
  refine lv_aload_n hx hb dX1_copyFrom_1 rfl (lv_at hl 1 rfl) ?_
  refine va_get (D := (dC, dI)) (ci := 1) (v := .int 0) (C := RX1) (T := TX1) (N := 7) hx hb hts (by decide +kernel) hown hK hP 1 rfl rfl 0 (by decide) (hts (.fieldLink RX1 88 "QuietStairs$House" "partyCount" "I") (by decide +kernel)) (fun _ h9 => h9) rfl dX1_copyFrom_2 ?_
  refine va_put (D := (dC, dI)) (ci := 1) (v := .int 0) (ty := .int) (C := RX1) (T := TX1) (N := 7) hx hb hts (by decide +kernel) tyX1 tyX1_ok nmX1 hown hK hP hD hS 0 rfl rfl 0 (by decide) (hts (.fieldLink RX1 88 "QuietStairs$House" "partyCount" "I") (by decide +kernel)) (fun _ h9 => h9) rfl (by decide +kernel) rfl rfl (Nat.le_of_ble_eq_true rfl) dX1_copyFrom_5 (fun H locs hP hD hS => ?_)
  have hP : va_P (dC, dI) vwCl [(k0, .inr (1, [.int 0, .int 0, .int 0, .int 0, .ref k4, .ref k5, .ref k6])), (h1, .inr (1, [.int 0, .int 0, .int 0, .int 0, .ref h4, .ref h5, .ref h6]))] H := hP
  have hD : va_D A [(k0, .inr (1, [.int 0, .int 0, .int 0, .int 0, .ref k4, .ref k5, .ref k6])), (h1, .inr (1, [.int 0, .int 0, .int 0, .int 0, .ref h4, .ref h5, .ref h6]))] := hD
  refine lv_aload_n hx hb dX1_copyFrom_8 rfl (lv_at hl 0 rfl) ?_
  refine lv_aload_n hx hb dX1_copyFrom_9 rfl (lv_at hl 1 rfl) ?_
  refine va_get (D := (dC, dI)) (ci := 1) (v := .int 0) (C := RX1) (T := TX1) (N := 7) hx hb hts (by decide +kernel) hown hK hP 1 rfl rfl 1 (by decide) (hts (.fieldLink RX1 36 "QuietStairs$House" "mediatorCount" "I") (by decide +kernel)) (fun _ h9 => h9) rfl dX1_copyFrom_10 ?_
  refine va_put (D := (dC, dI)) (ci := 1) (v := .int 0) (ty := .int) (C := RX1) (T := TX1) (N := 7) hx hb hts (by decide +kernel) tyX1 tyX1_ok nmX1 hown hK hP hD hS 0 rfl rfl 1 (by decide) (hts (.fieldLink RX1 36 "QuietStairs$House" "mediatorCount" "I") (by decide +kernel)) (fun _ h9 => h9) rfl (by decide +kernel) rfl rfl (Nat.le_of_ble_eq_true rfl) dX1_copyFrom_13 (fun H locs hP hD hS => ?_)
  have hP : va_P (dC, dI) vwCl [(k0, .inr (1, [.int 0, .int 0, .int 0, .int 0, .ref k4, .ref k5, .ref k6])), (h1, .inr (1, [.int 0, .int 0, .int 0, .int 0, .ref h4, .ref h5, .ref h6]))] H := hP
  have hD : va_D A [(k0, .inr (1, [.int 0, .int 0, .int 0, .int 0, .ref k4, .ref k5, .ref k6])), (h1, .inr (1, [.int 0, .int 0, .int 0, .int 0, .ref h4, .ref h5, .ref h6]))] := hD
  refine lv_aload_n hx hb dX1_copyFrom_16 rfl (lv_at hl 0 rfl) ?_
  refine lv_aload_n hx hb dX1_copyFrom_17 rfl (lv_at hl 1 rfl) ?_
  refine va_get (D := (dC, dI)) (ci := 1) (v := .int 0) (C := RX1) (T := TX1) (N := 7) hx hb hts (by decide +kernel) hown hK hP 1 rfl rfl 2 (by decide) (hts (.fieldLink RX1 66 "QuietStairs$House" "caseCount" "I") (by decide +kernel)) (fun _ h9 => h9) rfl dX1_copyFrom_18 ?_
  refine va_put (D := (dC, dI)) (ci := 1) (v := .int 0) (ty := .int) (C := RX1) (T := TX1) (N := 7) hx hb hts (by decide +kernel) tyX1 tyX1_ok nmX1 hown hK hP hD hS 0 rfl rfl 2 (by decide) (hts (.fieldLink RX1 66 "QuietStairs$House" "caseCount" "I") (by decide +kernel)) (fun _ h9 => h9) rfl (by decide +kernel) rfl rfl (Nat.le_of_ble_eq_true rfl) dX1_copyFrom_21 (fun H locs hP hD hS => ?_)
  have hP : va_P (dC, dI) vwCl [(k0, .inr (1, [.int 0, .int 0, .int 0, .int 0, .ref k4, .ref k5, .ref k6])), (h1, .inr (1, [.int 0, .int 0, .int 0, .int 0, .ref h4, .ref h5, .ref h6]))] H := hP
  have hD : va_D A [(k0, .inr (1, [.int 0, .int 0, .int 0, .int 0, .ref k4, .ref k5, .ref k6])), (h1, .inr (1, [.int 0, .int 0, .int 0, .int 0, .ref h4, .ref h5, .ref h6]))] := hD
  refine lv_aload_n hx hb dX1_copyFrom_24 rfl (lv_at hl 0 rfl) ?_
  refine lv_aload_n hx hb dX1_copyFrom_25 rfl (lv_at hl 1 rfl) ?_
  refine va_get (D := (dC, dI)) (ci := 1) (v := .int 0) (C := RX1) (T := TX1) (N := 7) hx hb hts (by decide +kernel) hown hK hP 1 rfl rfl 3 (by decide) (hts (.fieldLink RX1 91 "QuietStairs$House" "markCount" "I") (by decide +kernel)) (fun _ h9 => h9) rfl dX1_copyFrom_26 ?_
  refine va_put (D := (dC, dI)) (ci := 1) (v := .int 0) (ty := .int) (C := RX1) (T := TX1) (N := 7) hx hb hts (by decide +kernel) tyX1 tyX1_ok nmX1 hown hK hP hD hS 0 rfl rfl 3 (by decide) (hts (.fieldLink RX1 91 "QuietStairs$House" "markCount" "I") (by decide +kernel)) (fun _ h9 => h9) rfl (by decide +kernel) rfl rfl (Nat.le_of_ble_eq_true rfl) dX1_copyFrom_29 (fun H locs hP hD hS => ?_)
  have hP : va_P (dC, dI) vwCl [(k0, .inr (1, [.int 0, .int 0, .int 0, .int 0, .ref k4, .ref k5, .ref k6])), (h1, .inr (1, [.int 0, .int 0, .int 0, .int 0, .ref h4, .ref h5, .ref h6]))] H := hP
  have hD : va_D A [(k0, .inr (1, [.int 0, .int 0, .int 0, .int 0, .ref k4, .ref k5, .ref k6])), (h1, .inr (1, [.int 0, .int 0, .int 0, .int 0, .ref h4, .ref h5, .ref h6]))] := hD
  refine lv_iconst (v := 0) hx hb dX1_copyFrom_32 (by decide) ?_
  refine lv_istore_n (lv' := [(2, .int 0), (0, .ref k0), (1, .ref h1)]) hx hb dX1_copyFrom_33 rfl hl (by decide) rfl (fun ls hl => ?_)
  refine lv_iload_n hx hb dX1_copyFrom_34 rfl (lv_at hl 0 rfl) ?_
  refine lv_aload_n hx hb dX1_copyFrom_35 rfl (lv_at hl 1 rfl) ?_
  refine va_get (D := (dC, dI)) (ci := 1) (v := .int 0) (C := RX1) (T := TX1) (N := 7) hx hb hts (by decide +kernel) hown hK hP 0 rfl rfl 0 (by decide) (hts (.fieldLink RX1 88 "QuietStairs$House" "partyCount" "I") (by decide +kernel)) (fun _ h9 => h9) rfl dX1_copyFrom_36 ?_
  refine lv_icmp_ge (tgt := 63) hx hb dX1_copyFrom_39 (by decide) (fun _ => ?_) (fun c9 => absurd c9 (by decide))
  refine lv_iconst (v := 0) hx hb dX1_copyFrom_63 (by decide) ?_
  refine lv_istore_n (lv' := [(2, .int 0), (0, .ref k0), (1, .ref h1)]) hx hb dX1_copyFrom_64 rfl hl (by decide) rfl (fun ls hl => ?_)
  refine lv_iload_n hx hb dX1_copyFrom_65 rfl (lv_at hl 0 rfl) ?_
  refine lv_aload_n hx hb dX1_copyFrom_66 rfl (lv_at hl 1 rfl) ?_
  refine va_get (D := (dC, dI)) (ci := 1) (v := .int 0) (C := RX1) (T := TX1) (N := 7) hx hb hts (by decide +kernel) hown hK hP 0 rfl rfl 1 (by decide) (hts (.fieldLink RX1 36 "QuietStairs$House" "mediatorCount" "I") (by decide +kernel)) (fun _ h9 => h9) rfl dX1_copyFrom_67 ?_
  refine lv_icmp_ge (tgt := 94) hx hb dX1_copyFrom_70 (by decide) (fun _ => ?_) (fun c9 => absurd c9 (by decide))
  refine lv_iconst (v := 0) hx hb dX1_copyFrom_94 (by decide) ?_
  refine lv_istore_n (lv' := [(2, .int 0), (0, .ref k0), (1, .ref h1)]) hx hb dX1_copyFrom_95 rfl hl (by decide) rfl (fun ls hl => ?_)
  refine lv_iload_n hx hb dX1_copyFrom_96 rfl (lv_at hl 0 rfl) ?_
  refine lv_aload_n hx hb dX1_copyFrom_97 rfl (lv_at hl 1 rfl) ?_
  refine va_get (D := (dC, dI)) (ci := 1) (v := .int 0) (C := RX1) (T := TX1) (N := 7) hx hb hts (by decide +kernel) hown hK hP 0 rfl rfl 2 (by decide) (hts (.fieldLink RX1 66 "QuietStairs$House" "caseCount" "I") (by decide +kernel)) (fun _ h9 => h9) rfl dX1_copyFrom_98 ?_
  refine lv_icmp_ge (tgt := 125) hx hb dX1_copyFrom_101 (by decide) (fun _ => ?_) (fun c9 => absurd c9 (by decide))
  have hP9 := hP.sub (ws' := []) [] rfl
  have hD9 := hD.sub (ws' := []) [] (by decide) rfl
  exact W.vret hx hb hr (fun t ht hW => ⟨⟨(), rfl, trivial, by rw [ht]; exact hP9, hD9⟩, hS.F ht⟩) hS.2.2 dX1_copyFrom_125

set_option maxHeartbeats 4000000 in
set_option maxRecDepth 100000 in
theorem c0_X7_keep (l : Launch) (dC : Nat → ClassId) (dI : Nat → Nat → Nat) (cy : Nat → ClassId) (sz : Nat) (h0 h1 h2 h3 h4 h5 h6 : Nat) : Met l yX7_keep wsX7_keep ({ frames := 4, cells := 106, slots := 695, locals := 256 }) (va_Pc [.ref h0] (ex_Pre dC dI cy sz [(h0, .inr (7, [.ref h1, .ref h2, .ref h3, .null, .int 1])), (h1, .inr (1, [.int 0, .int 0, .int 0, .int 0, .ref h4, .ref h5, .ref h6]))])) (va_Qi (fun (r : Int32) (u : Unit) => r = 1) (fun u t => ex_Pst dC dI (va_A [(h0, .inr (7, [.ref h1, .ref h2, .ref h3, .null, .int 1])), (h1, .inr (1, [.int 0, .int 0, .int 0, .int 0, .ref h4, .ref h5, .ref h6]))] sz) ([]) t) (va_A [(h0, .inr (7, [.ref h1, .ref h2, .ref h3, .null, .int 1])), (h1, .inr (1, [.int 0, .int 0, .int 0, .int 0, .ref h4, .ref h5, .ref h6]))] sz)) 106 695 (va_A [(h0, .inr (7, [.ref h1, .ref h2, .ref h3, .null, .int 1])), (h1, .inr (1, [.int 0, .int 0, .int 0, .int 0, .ref h4, .ref h5, .ref h6]))] sz) := by
  refine Met.ofW (cc := cX7_keep) (maxL := 1) (ret := (some .int)) (by decide) rfl ?_
  intro p e s m args below meth c s₁ B hml hv
  obtain ⟨rfl, hsz, hE, hP, hK, hD0⟩ := hv
  have hx := B.exec
  have hb := B.bytes
  have hr := B.returns
  have hts := atoms_spec (ws := wsX7_keep) B.pre
  have hown : s.vm.findClass RX7 = some m.cls := findClass_of_methodNamed B.named
  have hlocks := B.notSynchronized
  subst hsz
  have hD := hD0.self (sz := s.heap.size)
  generalize hAe : va_A [(h0, .inr (7, [.ref h1, .ref h2, .ref h3, .null, .int 1])), (h1, .inr (1, [.int 0, .int 0, .int 0, .int 0, .ref h4, .ref h5, .ref h6]))] s.heap.size = A at hD ⊢
  have hA : ∀ q : Nat, s.heap.size ≤ q → A q := fun q h => by rw [← hAe]; exact Or.inr h
  have hS : va_S A s.heap s.heap [] := va_S.rf
  have hP : va_P (dC, dI) vwCl [(h0, .inr (7, [.ref h1, .ref h2, .ref h3, .null, .int 1])), (h1, .inr (1, [.int 0, .int 0, .int 0, .int 0, .ref h4, .ref h5, .ref h6]))] s.heap := hP
  have hl := lv_entry ([.ref h0]) (n := 1) (Nat.le_of_ble_eq_true rfl)
  rw [lg_entry_eq]
  generalize (lg_sl ([.ref h0]) ++ List.replicate (1 - (lg_sl ([.ref h0])).length) Slot.unset).toArray = ls at hl ⊢
  have hl : lv_has ls 1 [(0, .ref h0)] := hl
  refine lv_aload_n hx hb dX7_keep_0 rfl (lv_at hl 0 rfl) ?_
  refine va_get (D := (dC, dI)) (ci := 7) (v := .null) (C := RX7) (T := TX7) (N := 5) hx hb hts (by decide +kernel) hown hK hP 0 rfl rfl 3 (by decide) (hts (.fieldLink RX7 30 "QuietStairs" "kept" "LQuietStairs$House;") (by decide +kernel)) (fun _ h9 => h9) rfl dX7_keep_1 ?_
  refine lv_ifnonnullN hx hb dX7_keep_4 ?_
  refine lv_aload_n hx hb dX7_keep_7 rfl (lv_at hl 0 rfl) ?_
  refine va_new (ci := 1) (fs := [.int 0, .int 0, .int 0, .int 0, .null, .null, .null]) (C := RX1) (T := TX1) (N := 7) hx hb hts (by decide +kernel) tyX1 tyX1_ok hown (hts (.classLink RX7 9 RX1) (by decide +kernel)) (hts (.instantiable RX1 7) (by decide +kernel)) (hts (.initialized RX1) (by decide +kernel)) hK hP hD hS hA rfl (fun j hj => by rcases (show j = 0 ∨ j = 1 ∨ j = 2 ∨ j = 3 ∨ j = 4 ∨ j = 5 ∨ j = 6 by omega) with rfl | rfl | rfl | rfl | rfl | rfl | rfl <;> rfl) (Nat.le_of_ble_eq_true rfl) (Nat.le_of_ble_eq_true rfl) dX7_keep_8 (fun k0 H hP hD hS => ?_)
  have hP : va_P (dC, dI) vwCl [(h0, .inr (7, [.ref h1, .ref h2, .ref h3, .null, .int 1])), (h1, .inr (1, [.int 0, .int 0, .int 0, .int 0, .ref h4, .ref h5, .ref h6])), (k0, .inr (1, [.int 0, .int 0, .int 0, .int 0, .null, .null, .null]))] H := hP
  have hD : va_D A [(h0, .inr (7, [.ref h1, .ref h2, .ref h3, .null, .int 1])), (h1, .inr (1, [.int 0, .int 0, .int 0, .int 0, .ref h4, .ref h5, .ref h6])), (k0, .inr (1, [.int 0, .int 0, .int 0, .int 0, .null, .null, .null]))] := hD
  refine W.widen (k := 1) (n := 7) (by omega) (by omega) ?_
  refine lv_dup hx hb dX7_keep_11 rfl ?_
  refine yc_v (wc := [(k0, .inr (1, [.int 0, .int 0, .int 0, .int 0, .null, .null, .null]))]) (wr := [(h0, .inr (7, [.ref h1, .ref h2, .ref h3, .null, .int 1])), (h1, .inr (1, [.int 0, .int 0, .int 0, .int 0, .ref h4, .ref h5, .ref h6]))]) (w1 := fun (u : Nat × Nat × Nat × Nat × Nat × (Nat → Option Nat) × (Nat → Option Nat)) => [(k0, .inr (1, [.int 0, .int 0, .int 0, .int 0, .ref u.1, .ref u.2.1, .ref u.2.2.1])), (u.1, .inl (cy 1, 8, .inr (.inr (.inr (.inr u.2.2.2.2.2.1))))), (u.2.2.2.1, .inr (3, [.int 0, .int 0])), (u.2.1, .inl (cy 2, 4, .inr (.inr (.inr (.inr u.2.2.2.2.2.2))))), (u.2.2.2.2.1, .inr (2, [.int 0, .int 0, .int 0]))]) hP hD hS hA [2] [0, 1] rfl rfl (by decide) (by decide) (va_runI (As := []) (rest := [.ref k0, .ref h0]) ⟨hx, hb, hml, hown, hts⟩ (c_X1_init l dC dI cy _ k0) (cwI 0 hts gX7_keep_X1_init rfl rfl rfl (hts (.initialized RX1) (by decide +kernel)) (hts (.methodLink RX7 11 yX1_init) (by decide +kernel)) (hts (.instanceMethod yX1_init) (by decide +kernel)) rfl (by decide +kernel) ⟨Nat.le_of_ble_eq_true rfl, Nat.le_of_ble_eq_true rfl⟩) (ex_preS hE hK hP hD [2] (by decide) rfl) rfl rfl hl.1 rfl (lv_room (Nat.le_of_ble_eq_true rfl)) dX7_keep_12 ⟨Nat.le_of_ble_eq_true rfl, Nat.le_of_ble_eq_true rfl⟩) (fun u_1 H locs hw_1 hP hD hS => ?_)
  obtain ⟨k4, k5, k6, p9, m9, f, g⟩ := u_1
  have hP : va_P (dC, dI) vwCl [(h0, .inr (7, [.ref h1, .ref h2, .ref h3, .null, .int 1])), (h1, .inr (1, [.int 0, .int 0, .int 0, .int 0, .ref h4, .ref h5, .ref h6])), (k0, .inr (1, [.int 0, .int 0, .int 0, .int 0, .ref k4, .ref k5, .ref k6])), (k4, .inl (cy 1, 8, .inr (.inr (.inr (.inr f))))), (p9, .inr (3, [.int 0, .int 0])), (k5, .inl (cy 2, 4, .inr (.inr (.inr (.inr g))))), (m9, .inr (2, [.int 0, .int 0, .int 0]))] H := hP
  have hD : va_D A [(h0, .inr (7, [.ref h1, .ref h2, .ref h3, .null, .int 1])), (h1, .inr (1, [.int 0, .int 0, .int 0, .int 0, .ref h4, .ref h5, .ref h6])), (k0, .inr (1, [.int 0, .int 0, .int 0, .int 0, .ref k4, .ref k5, .ref k6])), (k4, .inl (cy 1, 8, .inr (.inr (.inr (.inr f))))), (p9, .inr (3, [.int 0, .int 0])), (k5, .inl (cy 2, 4, .inr (.inr (.inr (.inr g))))), (m9, .inr (2, [.int 0, .int 0, .int 0]))] := hD
  refine W.widen (k := 106) (n := 695) (by omega) (by omega) ?_
  have hP := hP.sub (ws' := [(h0, .inr (7, [.ref h1, .ref h2, .ref h3, .null, .int 1])), (h1, .inr (1, [.int 0, .int 0, .int 0, .int 0, .ref h4, .ref h5, .ref h6])), (k0, .inr (1, [.int 0, .int 0, .int 0, .int 0, .ref k4, .ref k5, .ref k6]))]) [0, 1, 2] rfl
  have hD := hD.sub (ws' := [(h0, .inr (7, [.ref h1, .ref h2, .ref h3, .null, .int 1])), (h1, .inr (1, [.int 0, .int 0, .int 0, .int 0, .ref h4, .ref h5, .ref h6])), (k0, .inr (1, [.int 0, .int 0, .int 0, .int 0, .ref k4, .ref k5, .ref k6]))]) [0, 1, 2] (by decide) rfl
  refine va_put (D := (dC, dI)) (ci := 7) (v := .ref k0) (ty := .object "QuietStairs$House") (C := RX7) (T := TX7) (N := 5) hx hb hts (by decide +kernel) tyX7 tyX7_ok nmX7 hown hK hP hD hS 0 rfl rfl 3 (by decide) (hts (.fieldLink RX7 30 "QuietStairs" "kept" "LQuietStairs$House;") (by decide +kernel)) (fun _ h9 => h9) rfl (by decide +kernel) rfl rfl (Nat.le_of_ble_eq_true rfl) dX7_keep_15 (fun H locs hP hD hS => ?_)
  have hP : va_P (dC, dI) vwCl [(h0, .inr (7, [.ref h1, .ref h2, .ref h3, .ref k0, .int 1])), (h1, .inr (1, [.int 0, .int 0, .int 0, .int 0, .ref h4, .ref h5, .ref h6])), (k0, .inr (1, [.int 0, .int 0, .int 0, .int 0, .ref k4, .ref k5, .ref k6]))] H := hP
  have hD : va_D A [(h0, .inr (7, [.ref h1, .ref h2, .ref h3, .ref k0, .int 1])), (h1, .inr (1, [.int 0, .int 0, .int 0, .int 0, .ref h4, .ref h5, .ref h6])), (k0, .inr (1, [.int 0, .int 0, .int 0, .int 0, .ref k4, .ref k5, .ref k6]))] := hD
  refine lv_aload_n hx hb dX7_keep_18 rfl (lv_at hl 0 rfl) ?_
  refine va_get (D := (dC, dI)) (ci := 7) (v := .ref k0) (C := RX7) (T := TX7) (N := 5) hx hb hts (by decide +kernel) hown hK hP 0 rfl rfl 3 (by decide) (hts (.fieldLink RX7 30 "QuietStairs" "kept" "LQuietStairs$House;") (by decide +kernel)) (fun _ h9 => h9) rfl dX7_keep_19 ?_
  refine lv_aload_n hx hb dX7_keep_22 rfl (lv_at hl 0 rfl) ?_
  refine va_get (D := (dC, dI)) (ci := 7) (v := .ref h1) (C := RX7) (T := TX7) (N := 5) hx hb hts (by decide +kernel) hown hK hP 0 rfl rfl 0 (by decide) (hts (.fieldLink RX7 12 "QuietStairs" "now" "LQuietStairs$House;") (by decide +kernel)) (fun _ h9 => h9) rfl dX7_keep_23 ?_
  refine yc_v (wc := [(k0, .inr (1, [.int 0, .int 0, .int 0, .int 0, .ref k4, .ref k5, .ref k6])), (h1, .inr (1, [.int 0, .int 0, .int 0, .int 0, .ref h4, .ref h5, .ref h6]))]) (wr := [(h0, .inr (7, [.ref h1, .ref h2, .ref h3, .ref k0, .int 1]))]) (w1 := fun _ => []) hP hD hS hA [2, 1] [0] rfl rfl (by decide) (by decide) (va_runV (As := [.ref h1]) (rest := []) ⟨hx, hb, hml, hown, hts⟩ (c0_X1_copyFrom l dC dI cy _ k0 k4 k5 k6 h1 h4 h5 h6) (cwV 1 hts gX7_keep_X1_copyFrom rfl rfl rfl (by decide +kernel) ⟨Nat.le_of_ble_eq_true rfl, Nat.le_of_ble_eq_true rfl⟩) (ex_preV hE hK hP hD [2, 1] (by decide) rfl (ci := 1) (q0 := 2) rfl rfl) rfl rfl hl.1 rfl (lv_room (Nat.le_of_ble_eq_true rfl)) dX7_keep_26 ⟨Nat.le_of_ble_eq_true rfl, Nat.le_of_ble_eq_true rfl⟩) (fun u_2 H locs hw_2 hP hD hS => ?_)
  have hP : va_P (dC, dI) vwCl [(h0, .inr (7, [.ref h1, .ref h2, .ref h3, .ref k0, .int 1]))] H := hP
  have hD : va_D A [(h0, .inr (7, [.ref h1, .ref h2, .ref h3, .ref k0, .int 1]))] := hD
  refine lv_iconst (v := 1) hx hb dX7_keep_29 (by decide) ?_
  have hP9 := hP.sub (ws' := []) [] rfl
  have hD9 := hD.sub (ws' := []) [] (by decide) rfl
  exact W.iret (v := 1) hx hb hr (fun t ht hW => ⟨⟨1, (), rfl, rfl, by rw [ht]; exact hP9, hD9⟩, hS.F ht⟩) hS.2.2 dX7_keep_30

set_option maxHeartbeats 4000000 in
set_option maxRecDepth 100000 in
theorem c0_X4_gather (l : Launch) (dC : Nat → ClassId) (dI : Nat → Nat → Nat) (cy : Nat → ClassId) (sz : Nat) (h2 q1 q2 q3 q4 q5 q6 q7 q8 : Nat) (h1 h4 h5 h6 : Nat) : Met l yX4_gather wsX4_gather ({ frames := 1, cells := 0, slots := 0, locals := 64 }) (va_Pc [.ref h2, .ref h1] (ex_Pre dC dI cy sz [(h2, .inr (4, [.int 0, .int 0, .int 0, .ref q1, .ref q2, .ref q3, .ref q4, .ref q5, .ref q6, .ref q7, .ref q8])), (h1, .inr (1, [.int 0, .int 0, .int 0, .int 0, .ref h4, .ref h5, .ref h6]))])) (va_Qv (fun (u : Unit) => True) (fun u t => ex_Pst dC dI (va_A [(h2, .inr (4, [.int 0, .int 0, .int 0, .ref q1, .ref q2, .ref q3, .ref q4, .ref q5, .ref q6, .ref q7, .ref q8])), (h1, .inr (1, [.int 0, .int 0, .int 0, .int 0, .ref h4, .ref h5, .ref h6]))] sz) ([(h2, .inr (4, [.int 0, .int 0, .int 0, .ref q1, .ref q2, .ref q3, .ref q4, .ref q5, .ref q6, .ref q7, .ref q8])), (h1, .inr (1, [.int 0, .int 0, .int 0, .int 0, .ref h4, .ref h5, .ref h6]))]) t) (va_A [(h2, .inr (4, [.int 0, .int 0, .int 0, .ref q1, .ref q2, .ref q3, .ref q4, .ref q5, .ref q6, .ref q7, .ref q8])), (h1, .inr (1, [.int 0, .int 0, .int 0, .int 0, .ref h4, .ref h5, .ref h6]))] sz)) 0 0 (va_A [(h2, .inr (4, [.int 0, .int 0, .int 0, .ref q1, .ref q2, .ref q3, .ref q4, .ref q5, .ref q6, .ref q7, .ref q8])), (h1, .inr (1, [.int 0, .int 0, .int 0, .int 0, .ref h4, .ref h5, .ref h6]))] sz) := by
  refine Met.ofW (cc := cX4_gather) (maxL := 4) (ret := none) (by decide) rfl ?_
  intro p e s m args below meth c s₁ B hml hv
  obtain ⟨rfl, hsz, hE, hP, hK, hD0⟩ := hv
  have hx := B.exec
  have hb := B.bytes
  have hr := B.returns
  have hts := atoms_spec (ws := wsX4_gather) B.pre
  have hown : s.vm.findClass RX4 = some m.cls := findClass_of_methodNamed B.named
  have hlocks := B.notSynchronized
  subst hsz
  have hD := hD0.self (sz := s.heap.size)
  generalize hAe : va_A [(h2, .inr (4, [.int 0, .int 0, .int 0, .ref q1, .ref q2, .ref q3, .ref q4, .ref q5, .ref q6, .ref q7, .ref q8])), (h1, .inr (1, [.int 0, .int 0, .int 0, .int 0, .ref h4, .ref h5, .ref h6]))] s.heap.size = A at hD ⊢
  have hA : ∀ q : Nat, s.heap.size ≤ q → A q := fun q h => by rw [← hAe]; exact Or.inr h
  have hS : va_S A s.heap s.heap [] := va_S.rf
  have hP : va_P (dC, dI) vwCl [(h2, .inr (4, [.int 0, .int 0, .int 0, .ref q1, .ref q2, .ref q3, .ref q4, .ref q5, .ref q6, .ref q7, .ref q8])), (h1, .inr (1, [.int 0, .int 0, .int 0, .int 0, .ref h4, .ref h5, .ref h6]))] s.heap := hP
  have hl := lv_entry ([.ref h2, .ref h1]) (n := 4) (Nat.le_of_ble_eq_true rfl)
  rw [lg_entry_eq]
  generalize (lg_sl ([.ref h2, .ref h1]) ++ List.replicate (4 - (lg_sl ([.ref h2, .ref h1])).length) Slot.unset).toArray = ls at hl ⊢
  have hl : lv_has ls 4 [(0, .ref h2), (1, .ref h1)] := hl
  refine lv_aload_n hx hb dX4_gather_0 rfl (lv_at hl 0 rfl) ?_
  refine lv_iconst (v := 0) hx hb dX4_gather_1 (by decide) ?_
  refine va_put (D := (dC, dI)) (ci := 4) (v := .int 0) (ty := .int) (C := RX4) (T := TX4) (N := 11) hx hb hts (by decide +kernel) tyX4 tyX4_ok nmX4 hown hK hP hD hS 0 rfl rfl 1 (by decide) (hts (.fieldLink RX4 61 "QuietStairs$Planner" "count" "I") (by decide +kernel)) (fun _ h9 => h9) rfl (by decide +kernel) rfl rfl (Nat.le_of_ble_eq_true rfl) dX4_gather_2 (fun H locs hP hD hS => ?_)
  have hP : va_P (dC, dI) vwCl [(h2, .inr (4, [.int 0, .int 0, .int 0, .ref q1, .ref q2, .ref q3, .ref q4, .ref q5, .ref q6, .ref q7, .ref q8])), (h1, .inr (1, [.int 0, .int 0, .int 0, .int 0, .ref h4, .ref h5, .ref h6]))] H := hP
  have hD : va_D A [(h2, .inr (4, [.int 0, .int 0, .int 0, .ref q1, .ref q2, .ref q3, .ref q4, .ref q5, .ref q6, .ref q7, .ref q8])), (h1, .inr (1, [.int 0, .int 0, .int 0, .int 0, .ref h4, .ref h5, .ref h6]))] := hD
  refine lv_iconst (v := 0) hx hb dX4_gather_5 (by decide) ?_
  refine lv_istore_n (lv' := [(2, .int 0), (0, .ref h2), (1, .ref h1)]) hx hb dX4_gather_6 rfl hl (by decide) rfl (fun ls hl => ?_)
  refine lv_iload_n hx hb dX4_gather_7 rfl (lv_at hl 0 rfl) ?_
  refine lv_aload_n hx hb dX4_gather_8 rfl (lv_at hl 2 rfl) ?_
  refine va_get (D := (dC, dI)) (ci := 1) (v := .int 0) (C := RX1) (T := TX1) (N := 7) hx hb hts (by decide +kernel) hown hK hP 1 rfl rfl 2 (by decide) (hts (.fieldLink RX4 68 "QuietStairs$House" "caseCount" "I") (by decide +kernel)) (fun _ h9 => h9) rfl dX4_gather_9 ?_
  refine lv_icmp_ge (tgt := 90) hx hb dX4_gather_12 (by decide) (fun _ => ?_) (fun c9 => absurd c9 (by decide))
  have hP9 := hP.sub (ws' := [(h2, .inr (4, [.int 0, .int 0, .int 0, .ref q1, .ref q2, .ref q3, .ref q4, .ref q5, .ref q6, .ref q7, .ref q8])), (h1, .inr (1, [.int 0, .int 0, .int 0, .int 0, .ref h4, .ref h5, .ref h6]))]) [0, 1] rfl
  have hD9 := hD.sub (ws' := [(h2, .inr (4, [.int 0, .int 0, .int 0, .ref q1, .ref q2, .ref q3, .ref q4, .ref q5, .ref q6, .ref q7, .ref q8])), (h1, .inr (1, [.int 0, .int 0, .int 0, .int 0, .ref h4, .ref h5, .ref h6]))]) [0, 1] (by decide) rfl
  exact W.vret hx hb hr (fun t ht hW => ⟨⟨(), rfl, trivial, by rw [ht]; exact hP9, hD9⟩, hS.F ht⟩) hS.2.2 dX4_gather_90

set_option maxHeartbeats 4000000 in
set_option maxRecDepth 100000 in
theorem c0_X4_sortByWeight (l : Launch) (dC : Nat → ClassId) (dI : Nat → Nat → Nat) (cy : Nat → ClassId) (sz : Nat) (h2 q1 q2 q3 q4 q5 q6 q7 q8 : Nat) : Met l yX4_sortByWeight wsX4_sortByWeight ({ frames := 1, cells := 0, slots := 0, locals := 64 }) (va_Pc [.ref h2] (ex_Pre dC dI cy sz [(h2, .inr (4, [.int 0, .int 0, .int 0, .ref q1, .ref q2, .ref q3, .ref q4, .ref q5, .ref q6, .ref q7, .ref q8]))])) (va_Qv (fun (u : Unit) => True) (fun u t => ex_Pst dC dI (va_A [(h2, .inr (4, [.int 0, .int 0, .int 0, .ref q1, .ref q2, .ref q3, .ref q4, .ref q5, .ref q6, .ref q7, .ref q8]))] sz) ([(h2, .inr (4, [.int 0, .int 0, .int 0, .ref q1, .ref q2, .ref q3, .ref q4, .ref q5, .ref q6, .ref q7, .ref q8]))]) t) (va_A [(h2, .inr (4, [.int 0, .int 0, .int 0, .ref q1, .ref q2, .ref q3, .ref q4, .ref q5, .ref q6, .ref q7, .ref q8]))] sz)) 0 0 (va_A [(h2, .inr (4, [.int 0, .int 0, .int 0, .ref q1, .ref q2, .ref q3, .ref q4, .ref q5, .ref q6, .ref q7, .ref q8]))] sz) := by
  refine Met.ofW (cc := cX4_sortByWeight) (maxL := 3) (ret := none) (by decide) rfl ?_
  intro p e s m args below meth c s₁ B hml hv
  obtain ⟨rfl, hsz, hE, hP, hK, hD0⟩ := hv
  have hx := B.exec
  have hb := B.bytes
  have hr := B.returns
  have hts := atoms_spec (ws := wsX4_sortByWeight) B.pre
  have hown : s.vm.findClass RX4 = some m.cls := findClass_of_methodNamed B.named
  have hlocks := B.notSynchronized
  subst hsz
  have hD := hD0.self (sz := s.heap.size)
  generalize hAe : va_A [(h2, .inr (4, [.int 0, .int 0, .int 0, .ref q1, .ref q2, .ref q3, .ref q4, .ref q5, .ref q6, .ref q7, .ref q8]))] s.heap.size = A at hD ⊢
  have hA : ∀ q : Nat, s.heap.size ≤ q → A q := fun q h => by rw [← hAe]; exact Or.inr h
  have hS : va_S A s.heap s.heap [] := va_S.rf
  have hP : va_P (dC, dI) vwCl [(h2, .inr (4, [.int 0, .int 0, .int 0, .ref q1, .ref q2, .ref q3, .ref q4, .ref q5, .ref q6, .ref q7, .ref q8]))] s.heap := hP
  have hl := lv_entry ([.ref h2]) (n := 3) (Nat.le_of_ble_eq_true rfl)
  rw [lg_entry_eq]
  generalize (lg_sl ([.ref h2]) ++ List.replicate (3 - (lg_sl ([.ref h2])).length) Slot.unset).toArray = ls at hl ⊢
  have hl : lv_has ls 3 [(0, .ref h2)] := hl
  refine lv_iconst (v := 0) hx hb dX4_sortByWeight_0 (by decide) ?_
  refine lv_istore_n (lv' := [(1, .int 0), (0, .ref h2)]) hx hb dX4_sortByWeight_1 rfl hl (by decide) rfl (fun ls hl => ?_)
  refine lv_iload_n hx hb dX4_sortByWeight_2 rfl (lv_at hl 0 rfl) ?_
  refine lv_aload_n hx hb dX4_sortByWeight_3 rfl (lv_at hl 1 rfl) ?_
  refine va_get (D := (dC, dI)) (ci := 4) (v := .int 0) (C := RX4) (T := TX4) (N := 11) hx hb hts (by decide +kernel) hown hK hP 0 rfl rfl 1 (by decide) (hts (.fieldLink RX4 61 "QuietStairs$Planner" "count" "I") (by decide +kernel)) (fun _ h9 => h9) rfl dX4_sortByWeight_4 ?_
  refine lv_icmp_ge (tgt := 71) hx hb dX4_sortByWeight_7 (by decide) (fun _ => ?_) (fun c9 => absurd c9 (by decide))
  have hP9 := hP.sub (ws' := [(h2, .inr (4, [.int 0, .int 0, .int 0, .ref q1, .ref q2, .ref q3, .ref q4, .ref q5, .ref q6, .ref q7, .ref q8]))]) [0] rfl
  have hD9 := hD.sub (ws' := [(h2, .inr (4, [.int 0, .int 0, .int 0, .ref q1, .ref q2, .ref q3, .ref q4, .ref q5, .ref q6, .ref q7, .ref q8]))]) [0] (by decide) rfl
  exact W.vret hx hb hr (fun t ht hW => ⟨⟨(), rfl, trivial, by rw [ht]; exact hP9, hD9⟩, hS.F ht⟩) hS.2.2 dX4_sortByWeight_71

set_option maxHeartbeats 4000000 in
set_option maxRecDepth 100000 in
theorem c0_X4_leastBehind (l : Launch) (dC : Nat → ClassId) (dI : Nat → Nat → Nat) (cy : Nat → ClassId) (sz : Nat) (h2 q1 q2 q3 q4 q5 q6 q7 q8 : Nat) (f : Nat → Int32) : Met l yX4_leastBehind wsX4_leastBehind ({ frames := 1, cells := 0, slots := 0, locals := 64 }) (va_Pc [.ref h2, .int 0] (ex_Pre dC dI cy sz [(h2, .inr (4, [.int 1, .int 0, .int 0, .ref q1, .ref q2, .ref q3, .ref q4, .ref q5, .ref q6, .ref q7, .ref q8])), (q8, .inl (cy 0, 3, .inl f))])) (va_Qi (fun (r : Int32) (u : Unit) => r = 0) (fun u t => ex_Pst dC dI (va_A [(h2, .inr (4, [.int 1, .int 0, .int 0, .ref q1, .ref q2, .ref q3, .ref q4, .ref q5, .ref q6, .ref q7, .ref q8])), (q8, .inl (cy 0, 3, .inl f))] sz) ([(h2, .inr (4, [.int 1, .int 0, .int 0, .ref q1, .ref q2, .ref q3, .ref q4, .ref q5, .ref q6, .ref q7, .ref q8])), (q8, .inl (cy 0, 3, .inl f))]) t) (va_A [(h2, .inr (4, [.int 1, .int 0, .int 0, .ref q1, .ref q2, .ref q3, .ref q4, .ref q5, .ref q6, .ref q7, .ref q8])), (q8, .inl (cy 0, 3, .inl f))] sz)) 0 0 (va_A [(h2, .inr (4, [.int 1, .int 0, .int 0, .ref q1, .ref q2, .ref q3, .ref q4, .ref q5, .ref q6, .ref q7, .ref q8])), (q8, .inl (cy 0, 3, .inl f))] sz) := by
  refine Met.ofW (cc := cX4_leastBehind) (maxL := 8) (ret := (some .int)) (by decide) rfl ?_
  intro p e s m args below meth c s₁ B hml hv
  obtain ⟨rfl, hsz, hE, hP, hK, hD0⟩ := hv
  have hx := B.exec
  have hb := B.bytes
  have hr := B.returns
  have hts := atoms_spec (ws := wsX4_leastBehind) B.pre
  have hown : s.vm.findClass RX4 = some m.cls := findClass_of_methodNamed B.named
  have hlocks := B.notSynchronized
  subst hsz
  have hD := hD0.self (sz := s.heap.size)
  generalize hAe : va_A [(h2, .inr (4, [.int 1, .int 0, .int 0, .ref q1, .ref q2, .ref q3, .ref q4, .ref q5, .ref q6, .ref q7, .ref q8])), (q8, .inl (cy 0, 3, .inl f))] s.heap.size = A at hD ⊢
  have hA : ∀ q : Nat, s.heap.size ≤ q → A q := fun q h => by rw [← hAe]; exact Or.inr h
  have hS : va_S A s.heap s.heap [] := va_S.rf
  have hP : va_P (dC, dI) vwCl [(h2, .inr (4, [.int 1, .int 0, .int 0, .ref q1, .ref q2, .ref q3, .ref q4, .ref q5, .ref q6, .ref q7, .ref q8])), (q8, .inl (cy 0, 3, .inl f))] s.heap := hP
  have hl := lv_entry ([.ref h2, .int 0]) (n := 8) (Nat.le_of_ble_eq_true rfl)
  rw [lg_entry_eq]
  generalize (lg_sl ([.ref h2, .int 0]) ++ List.replicate (8 - (lg_sl ([.ref h2, .int 0])).length) Slot.unset).toArray = ls at hl ⊢
  have hl : lv_has ls 8 [(0, .ref h2), (1, .int 0)] := hl
  refine lv_iconst (v := 0) hx hb dX4_leastBehind_0 (by decide) ?_
  refine lv_istore_n (lv' := [(2, .int 0), (0, .ref h2), (1, .int 0)]) hx hb dX4_leastBehind_1 rfl hl (by decide) rfl (fun ls hl => ?_)
  refine lv_iconst (v := 0) hx hb dX4_leastBehind_2 (by decide) ?_
  refine lv_istore_n (lv' := [(3, .int 0), (2, .int 0), (0, .ref h2), (1, .int 0)]) hx hb dX4_leastBehind_3 rfl hl (by decide) rfl (fun ls hl => ?_)
  refine lv_aload_n hx hb dX4_leastBehind_4 rfl (lv_at hl 2 rfl) ?_
  refine va_get (D := (dC, dI)) (ci := 4) (v := .ref q8) (C := RX4) (T := TX4) (N := 11) hx hb hts (by decide +kernel) hown hK hP 0 rfl rfl 10 (by decide) (hts (.fieldLink RX4 33 "QuietStairs$Planner" "sittings" "[I") (by decide +kernel)) (fun _ h9 => h9) rfl dX4_leastBehind_5 ?_
  refine lv_iconst (v := 0) hx hb dX4_leastBehind_8 (by decide) ?_
  refine va_iald hx hb hK hP 1 0 rfl rfl (by unfold vp_in; decide) dX4_leastBehind_9 ?_
  refine lv_topi (fun x_1 ex_1 => ?_)
  refine lv_istore (lv' := [(4, .int x_1), (3, .int 0), (2, .int 0), (0, .ref h2), (1, .int 0)]) hx hb dX4_leastBehind_10 hl (by decide) rfl (fun ls hl => ?_)
  refine lv_iconst (v := 0) hx hb dX4_leastBehind_12 (by decide) ?_
  refine lv_istore (lv' := [(5, .int 0), (4, .int x_1), (3, .int 0), (2, .int 0), (0, .ref h2), (1, .int 0)]) hx hb dX4_leastBehind_13 hl (by decide) rfl (fun ls hl => ?_)
  refine lv_iload hx hb dX4_leastBehind_15 (lv_at hl 0 rfl) ?_
  refine lv_aload_n hx hb dX4_leastBehind_17 rfl (lv_at hl 4 rfl) ?_
  refine va_get (D := (dC, dI)) (ci := 4) (v := .int 0) (C := RX4) (T := TX4) (N := 11) hx hb hts (by decide +kernel) hown hK hP 0 rfl rfl 1 (by decide) (hts (.fieldLink RX4 61 "QuietStairs$Planner" "count" "I") (by decide +kernel)) (fun _ h9 => h9) rfl dX4_leastBehind_18 ?_
  refine lv_icmp_ge (tgt := 140) hx hb dX4_leastBehind_21 (by decide) (fun _ => ?_) (fun c9 => absurd c9 (by decide))
  refine lv_iload_n hx hb dX4_leastBehind_140 rfl (lv_at hl 3 rfl) ?_
  have hP9 := hP.sub (ws' := [(h2, .inr (4, [.int 1, .int 0, .int 0, .ref q1, .ref q2, .ref q3, .ref q4, .ref q5, .ref q6, .ref q7, .ref q8])), (q8, .inl (cy 0, 3, .inl f))]) [0, 1] rfl
  have hD9 := hD.sub (ws' := [(h2, .inr (4, [.int 1, .int 0, .int 0, .ref q1, .ref q2, .ref q3, .ref q4, .ref q5, .ref q6, .ref q7, .ref q8])), (q8, .inl (cy 0, 3, .inl f))]) [0, 1] (by decide) rfl
  exact W.iret (v := 0) hx hb hr (fun t ht hW => ⟨⟨0, (), rfl, rfl, by rw [ht]; exact hP9, hD9⟩, hS.F ht⟩) hS.2.2 dX4_leastBehind_141

set_option maxHeartbeats 4000000 in
set_option maxRecDepth 100000 in
theorem c0_X4_search (l : Launch) (dC : Nat → ClassId) (dI : Nat → Nat → Nat) (cy : Nat → ClassId) (sz : Nat) (h2 q1 q2 q3 q4 q5 q6 q7 q8 : Nat) (f : Nat → Int32) : Met l yX4_search wsX4_search ({ frames := 2, cells := 0, slots := 0, locals := 128 }) (va_Pc [.ref h2, .int 0, .int 0] (ex_Pre dC dI cy sz [(h2, .inr (4, [.int 1, .int 0, .int 0, .ref q1, .ref q2, .ref q3, .ref q4, .ref q5, .ref q6, .ref q7, .ref q8])), (q5, .inl (cy 0, 4, .inl (fun _ => 0))), (q6, .inl (cy 0, 4, .inl (fun _ => 0))), (q8, .inl (cy 0, 3, .inl f))])) (va_Qv (fun (u : Unit) => True) (fun u t => ex_Pst dC dI (va_A [(h2, .inr (4, [.int 1, .int 0, .int 0, .ref q1, .ref q2, .ref q3, .ref q4, .ref q5, .ref q6, .ref q7, .ref q8])), (q5, .inl (cy 0, 4, .inl (fun _ => 0))), (q6, .inl (cy 0, 4, .inl (fun _ => 0))), (q8, .inl (cy 0, 3, .inl f))] sz) ([(h2, .inr (4, [.int 0, .int 0, .int 0, .ref q1, .ref q2, .ref q3, .ref q4, .ref q5, .ref q6, .ref q7, .ref q8]))]) t) (va_A [(h2, .inr (4, [.int 1, .int 0, .int 0, .ref q1, .ref q2, .ref q3, .ref q4, .ref q5, .ref q6, .ref q7, .ref q8])), (q5, .inl (cy 0, 4, .inl (fun _ => 0))), (q6, .inl (cy 0, 4, .inl (fun _ => 0))), (q8, .inl (cy 0, 3, .inl f))] sz)) 0 0 (va_A [(h2, .inr (4, [.int 1, .int 0, .int 0, .ref q1, .ref q2, .ref q3, .ref q4, .ref q5, .ref q6, .ref q7, .ref q8])), (q5, .inl (cy 0, 4, .inl (fun _ => 0))), (q6, .inl (cy 0, 4, .inl (fun _ => 0))), (q8, .inl (cy 0, 3, .inl f))] sz) := by
  refine Met.ofW (cc := cX4_search) (maxL := 4) (ret := none) (by decide) rfl ?_
  intro p e s m args below meth c s₁ B hml hv
  obtain ⟨rfl, hsz, hE, hP, hK, hD0⟩ := hv
  have hx := B.exec
  have hb := B.bytes
  have hr := B.returns
  have hts := atoms_spec (ws := wsX4_search) B.pre
  have hown : s.vm.findClass RX4 = some m.cls := findClass_of_methodNamed B.named
  have hlocks := B.notSynchronized
  subst hsz
  have hD := hD0.self (sz := s.heap.size)
  generalize hAe : va_A [(h2, .inr (4, [.int 1, .int 0, .int 0, .ref q1, .ref q2, .ref q3, .ref q4, .ref q5, .ref q6, .ref q7, .ref q8])), (q5, .inl (cy 0, 4, .inl (fun _ => 0))), (q6, .inl (cy 0, 4, .inl (fun _ => 0))), (q8, .inl (cy 0, 3, .inl f))] s.heap.size = A at hD ⊢
  have hA : ∀ q : Nat, s.heap.size ≤ q → A q := fun q h => by rw [← hAe]; exact Or.inr h
  have hS : va_S A s.heap s.heap [] := va_S.rf
  have hP : va_P (dC, dI) vwCl [(h2, .inr (4, [.int 1, .int 0, .int 0, .ref q1, .ref q2, .ref q3, .ref q4, .ref q5, .ref q6, .ref q7, .ref q8])), (q5, .inl (cy 0, 4, .inl (fun _ => 0))), (q6, .inl (cy 0, 4, .inl (fun _ => 0))), (q8, .inl (cy 0, 3, .inl f))] s.heap := hP
  have hl := lv_entry ([.ref h2, .int 0, .int 0]) (n := 4) (Nat.le_of_ble_eq_true rfl)
  rw [lg_entry_eq]
  generalize (lg_sl ([.ref h2, .int 0, .int 0]) ++ List.replicate (4 - (lg_sl ([.ref h2, .int 0, .int 0])).length) Slot.unset).toArray = ls at hl ⊢
  have hl : lv_has ls 4 [(0, .ref h2), (1, .int 0), (2, .int 0)] := hl
  refine lv_iload_n hx hb dX4_search_0 rfl (lv_at hl 2 rfl) ?_
  refine lv_aload_n hx hb dX4_search_1 rfl (lv_at hl 0 rfl) ?_
  refine lv_iload_n hx hb dX4_search_2 rfl (lv_at hl 1 rfl) ?_
  refine yc_i (wc := [(h2, .inr (4, [.int 1, .int 0, .int 0, .ref q1, .ref q2, .ref q3, .ref q4, .ref q5, .ref q6, .ref q7, .ref q8])), (q8, .inl (cy 0, 3, .inl f))]) (wr := [(q5, .inl (cy 0, 4, .inl (fun _ => 0))), (q6, .inl (cy 0, 4, .inl (fun _ => 0)))]) (w1 := fun _ => [(h2, .inr (4, [.int 1, .int 0, .int 0, .ref q1, .ref q2, .ref q3, .ref q4, .ref q5, .ref q6, .ref q7, .ref q8])), (q8, .inl (cy 0, 3, .inl f))]) hP hD hS hA [0, 3] [1, 2] rfl rfl (by decide) (by decide) (va_runV (As := [.int 0]) (rest := [.int 0]) ⟨hx, hb, hml, hown, hts⟩ (c0_X4_leastBehind l dC dI cy _ h2 q1 q2 q3 q4 q5 q6 q7 q8 f) (cwV 1 hts gX4_search_X4_leastBehind rfl rfl rfl (by decide +kernel) ⟨Nat.le_of_ble_eq_true rfl, Nat.le_of_ble_eq_true rfl⟩) (ex_preV hE hK hP hD [0, 3] (by decide) rfl (ci := 4) (q0 := 0) rfl rfl) rfl rfl hl.1 rfl (lv_room (Nat.le_of_ble_eq_true rfl)) dX4_search_3 ⟨Nat.le_of_ble_eq_true rfl, Nat.le_of_ble_eq_true rfl⟩) (fun r_1 u_1 H locs hw_1 hP hD hS => ?_)
  have hP : va_P (dC, dI) vwCl [(q5, .inl (cy 0, 4, .inl (fun _ => 0))), (q6, .inl (cy 0, 4, .inl (fun _ => 0))), (h2, .inr (4, [.int 1, .int 0, .int 0, .ref q1, .ref q2, .ref q3, .ref q4, .ref q5, .ref q6, .ref q7, .ref q8])), (q8, .inl (cy 0, 3, .inl f))] H := hP
  have hD : va_D A [(q5, .inl (cy 0, 4, .inl (fun _ => 0))), (q6, .inl (cy 0, 4, .inl (fun _ => 0))), (h2, .inr (4, [.int 1, .int 0, .int 0, .ref q1, .ref q2, .ref q3, .ref q4, .ref q5, .ref q6, .ref q7, .ref q8])), (q8, .inl (cy 0, 3, .inl f))] := hD
  subst hw_1
  refine lv_iadd hx hb dX4_search_6 ?_
  refine lv_topi (fun x_2 ex_2 => ?_)
  obtain rfl : x_2 = 0 := ex_2.trans (by decide)
  refine lv_aload_n hx hb dX4_search_7 rfl (lv_at hl 0 rfl) ?_
  refine va_get (D := (dC, dI)) (ci := 4) (v := .int 1) (C := RX4) (T := TX4) (N := 11) hx hb hts (by decide +kernel) hown hK hP 2 rfl rfl 0 (by decide) (hts (.fieldLink RX4 58 "QuietStairs$Planner" "leastWait" "I") (by decide +kernel)) (fun _ h9 => h9) rfl dX4_search_8 ?_
  refine lv_icmp_lt (tgt := 15) hx hb dX4_search_11 (by decide) (fun _ => ?_) (fun c9 => absurd c9 (by decide))
  refine lv_iload_n hx hb dX4_search_15 rfl (lv_at hl 1 rfl) ?_
  refine lv_aload_n hx hb dX4_search_16 rfl (lv_at hl 0 rfl) ?_
  refine va_get (D := (dC, dI)) (ci := 4) (v := .int 0) (C := RX4) (T := TX4) (N := 11) hx hb hts (by decide +kernel) hown hK hP 2 rfl rfl 1 (by decide) (hts (.fieldLink RX4 61 "QuietStairs$Planner" "count" "I") (by decide +kernel)) (fun _ h9 => h9) rfl dX4_search_17 ?_
  refine lv_icmp_lt (tgt := 46) hx hb dX4_search_20 (by decide) (fun c9 => absurd c9 (by decide)) (fun _ => ?_)
  refine lv_aload_n hx hb dX4_search_23 rfl (lv_at hl 0 rfl) ?_
  refine lv_iload_n hx hb dX4_search_24 rfl (lv_at hl 2 rfl) ?_
  refine va_put (D := (dC, dI)) (ci := 4) (v := .int 0) (ty := .int) (C := RX4) (T := TX4) (N := 11) hx hb hts (by decide +kernel) tyX4 tyX4_ok nmX4 hown hK hP hD hS 2 rfl rfl 0 (by decide) (hts (.fieldLink RX4 58 "QuietStairs$Planner" "leastWait" "I") (by decide +kernel)) (fun _ h9 => h9) rfl (by decide +kernel) rfl rfl (Nat.le_of_ble_eq_true rfl) dX4_search_25 (fun H locs hP hD hS => ?_)
  have hP : va_P (dC, dI) vwCl [(q5, .inl (cy 0, 4, .inl (fun _ => 0))), (q6, .inl (cy 0, 4, .inl (fun _ => 0))), (h2, .inr (4, [.int 0, .int 0, .int 0, .ref q1, .ref q2, .ref q3, .ref q4, .ref q5, .ref q6, .ref q7, .ref q8])), (q8, .inl (cy 0, 3, .inl f))] H := hP
  have hD : va_D A [(q5, .inl (cy 0, 4, .inl (fun _ => 0))), (q6, .inl (cy 0, 4, .inl (fun _ => 0))), (h2, .inr (4, [.int 0, .int 0, .int 0, .ref q1, .ref q2, .ref q3, .ref q4, .ref q5, .ref q6, .ref q7, .ref q8])), (q8, .inl (cy 0, 3, .inl f))] := hD
  refine lv_aload_n hx hb dX4_search_28 rfl (lv_at hl 0 rfl) ?_
  refine va_get (D := (dC, dI)) (ci := 4) (v := .ref q5) (C := RX4) (T := TX4) (N := 11) hx hb hts (by decide +kernel) hown hK hP 2 rfl rfl 7 (by decide) (hts (.fieldLink RX4 24 "QuietStairs$Planner" "seats" "[I") (by decide +kernel)) (fun _ h9 => h9) rfl dX4_search_29 ?_
  refine lv_iconst (v := 0) hx hb dX4_search_32 (by decide) ?_
  refine lv_aload_n hx hb dX4_search_33 rfl (lv_at hl 0 rfl) ?_
  refine va_get (D := (dC, dI)) (ci := 4) (v := .ref q6) (C := RX4) (T := TX4) (N := 11) hx hb hts (by decide +kernel) hown hK hP 2 rfl rfl 8 (by decide) (hts (.fieldLink RX4 27 "QuietStairs$Planner" "bestSeats" "[I") (by decide +kernel)) (fun _ h9 => h9) rfl dX4_search_34 ?_
  refine lv_iconst (v := 0) hx hb dX4_search_37 (by decide) ?_
  refine lv_aload_n hx hb dX4_search_38 rfl (lv_at hl 0 rfl) ?_
  refine va_get (D := (dC, dI)) (ci := 4) (v := .int 0) (C := RX4) (T := TX4) (N := 11) hx hb hts (by decide +kernel) hown hK hP 2 rfl rfl 1 (by decide) (hts (.fieldLink RX4 61 "QuietStairs$Planner" "count" "I") (by decide +kernel)) (fun _ h9 => h9) rfl dX4_search_39 ?_
  refine va_copyi hx hb (hml.trans hl.1.symm) hown (hts (.methodLink RX4 99 arraycopyName) (by decide +kernel)) (hts (.native arraycopyName) (by decide +kernel)) (hts (.static arraycopyName) (by decide +kernel)) (hts (.initialized "java/lang/System") (by decide +kernel)) hK hP hD hS 0 1 0 0 rfl rfl rfl rfl rfl (by decide) (by decide) (by decide) (by decide) (by decide) (fun i hi => rfl) (Nat.le_of_ble_eq_true rfl) (Nat.le_of_ble_eq_true rfl) dX4_search_42 (fun H locs hP hD hS => ?_)
  have hP : va_P (dC, dI) vwCl [(q5, .inl (cy 0, 4, .inl (fun _ => 0))), (q6, .inl (cy 0, 4, .inl (va_cpy (fun _ => 0) (fun _ => 0) (0 : Int32).toNatClampNeg (0 : Int32).toNatClampNeg (0 : Int32).toNatClampNeg))), (h2, .inr (4, [.int 0, .int 0, .int 0, .ref q1, .ref q2, .ref q3, .ref q4, .ref q5, .ref q6, .ref q7, .ref q8])), (q8, .inl (cy 0, 3, .inl f))] H := hP
  have hD : va_D A [(q5, .inl (cy 0, 4, .inl (fun _ => 0))), (q6, .inl (cy 0, 4, .inl (va_cpy (fun _ => 0) (fun _ => 0) (0 : Int32).toNatClampNeg (0 : Int32).toNatClampNeg (0 : Int32).toNatClampNeg))), (h2, .inr (4, [.int 0, .int 0, .int 0, .ref q1, .ref q2, .ref q3, .ref q4, .ref q5, .ref q6, .ref q7, .ref q8])), (q8, .inl (cy 0, 3, .inl f))] := hD
  have hP9 := hP.sub (ws' := [(h2, .inr (4, [.int 0, .int 0, .int 0, .ref q1, .ref q2, .ref q3, .ref q4, .ref q5, .ref q6, .ref q7, .ref q8]))]) [2] rfl
  have hD9 := hD.sub (ws' := [(h2, .inr (4, [.int 0, .int 0, .int 0, .ref q1, .ref q2, .ref q3, .ref q4, .ref q5, .ref q6, .ref q7, .ref q8]))]) [2] (by decide) rfl
  exact W.vret hx hb hr (fun t ht hW => ⟨⟨(), rfl, trivial, by rw [ht]; exact hP9, hD9⟩, hS.F ht⟩) hS.2.2 dX4_search_45

set_option maxHeartbeats 4000000 in
set_option maxRecDepth 100000 in
theorem c0_X4_findPlan (l : Launch) (dC : Nat → ClassId) (dI : Nat → Nat → Nat) (cy : Nat → ClassId) (sz : Nat) (h2 q1 q2 q3 q4 q5 q6 q7 q8 : Nat) (h1 h4 h5 h6 : Nat) : Met l yX4_findPlan wsX4_findPlan ({ frames := 3, cells := 0, slots := 0, locals := 192 }) (va_Pc [.ref h2, .ref h1, .int 1] (ex_Pre dC dI cy sz [(h2, .inr (4, [.int 0, .int 0, .int 0, .ref q1, .ref q2, .ref q3, .ref q4, .ref q5, .ref q6, .ref q7, .ref q8])), (q1, .inl (cy 0, 4, .inl (fun _ => 0))), (q2, .inl (cy 0, 4, .inl (fun _ => 0))), (q3, .inl (cy 0, 4, .inl (fun _ => 0))), (q4, .inl (cy 0, 4, .inl (fun _ => 0))), (q5, .inl (cy 0, 4, .inl (fun _ => 0))), (q6, .inl (cy 0, 4, .inl (fun _ => 0))), (q7, .inl (cy 0, 3, .inl (fun _ => 0))), (q8, .inl (cy 0, 3, .inl (fun _ => 0))), (h1, .inr (1, [.int 0, .int 0, .int 0, .int 0, .ref h4, .ref h5, .ref h6]))])) (va_Qv (fun (u : Unit) => True) (fun u t => ex_Pst dC dI (va_A [(h2, .inr (4, [.int 0, .int 0, .int 0, .ref q1, .ref q2, .ref q3, .ref q4, .ref q5, .ref q6, .ref q7, .ref q8])), (q1, .inl (cy 0, 4, .inl (fun _ => 0))), (q2, .inl (cy 0, 4, .inl (fun _ => 0))), (q3, .inl (cy 0, 4, .inl (fun _ => 0))), (q4, .inl (cy 0, 4, .inl (fun _ => 0))), (q5, .inl (cy 0, 4, .inl (fun _ => 0))), (q6, .inl (cy 0, 4, .inl (fun _ => 0))), (q7, .inl (cy 0, 3, .inl (fun _ => 0))), (q8, .inl (cy 0, 3, .inl (fun _ => 0))), (h1, .inr (1, [.int 0, .int 0, .int 0, .int 0, .ref h4, .ref h5, .ref h6]))] sz) ([(h2, .inr (4, [.int 0, .int 0, .int 0, .ref q1, .ref q2, .ref q3, .ref q4, .ref q5, .ref q6, .ref q7, .ref q8]))]) t) (va_A [(h2, .inr (4, [.int 0, .int 0, .int 0, .ref q1, .ref q2, .ref q3, .ref q4, .ref q5, .ref q6, .ref q7, .ref q8])), (q1, .inl (cy 0, 4, .inl (fun _ => 0))), (q2, .inl (cy 0, 4, .inl (fun _ => 0))), (q3, .inl (cy 0, 4, .inl (fun _ => 0))), (q4, .inl (cy 0, 4, .inl (fun _ => 0))), (q5, .inl (cy 0, 4, .inl (fun _ => 0))), (q6, .inl (cy 0, 4, .inl (fun _ => 0))), (q7, .inl (cy 0, 3, .inl (fun _ => 0))), (q8, .inl (cy 0, 3, .inl (fun _ => 0))), (h1, .inr (1, [.int 0, .int 0, .int 0, .int 0, .ref h4, .ref h5, .ref h6]))] sz)) 0 0 (va_A [(h2, .inr (4, [.int 0, .int 0, .int 0, .ref q1, .ref q2, .ref q3, .ref q4, .ref q5, .ref q6, .ref q7, .ref q8])), (q1, .inl (cy 0, 4, .inl (fun _ => 0))), (q2, .inl (cy 0, 4, .inl (fun _ => 0))), (q3, .inl (cy 0, 4, .inl (fun _ => 0))), (q4, .inl (cy 0, 4, .inl (fun _ => 0))), (q5, .inl (cy 0, 4, .inl (fun _ => 0))), (q6, .inl (cy 0, 4, .inl (fun _ => 0))), (q7, .inl (cy 0, 3, .inl (fun _ => 0))), (q8, .inl (cy 0, 3, .inl (fun _ => 0))), (h1, .inr (1, [.int 0, .int 0, .int 0, .int 0, .ref h4, .ref h5, .ref h6]))] sz) := by
  refine Met.ofW (cc := cX4_findPlan) (maxL := 4) (ret := none) (by decide) rfl ?_
  intro p e s m args below meth c s₁ B hml hv
  obtain ⟨rfl, hsz, hE, hP, hK, hD0⟩ := hv
  have hx := B.exec
  have hb := B.bytes
  have hr := B.returns
  have hts := atoms_spec (ws := wsX4_findPlan) B.pre
  have hown : s.vm.findClass RX4 = some m.cls := findClass_of_methodNamed B.named
  have hlocks := B.notSynchronized
  subst hsz
  have hD := hD0.self (sz := s.heap.size)
  generalize hAe : va_A [(h2, .inr (4, [.int 0, .int 0, .int 0, .ref q1, .ref q2, .ref q3, .ref q4, .ref q5, .ref q6, .ref q7, .ref q8])), (q1, .inl (cy 0, 4, .inl (fun _ => 0))), (q2, .inl (cy 0, 4, .inl (fun _ => 0))), (q3, .inl (cy 0, 4, .inl (fun _ => 0))), (q4, .inl (cy 0, 4, .inl (fun _ => 0))), (q5, .inl (cy 0, 4, .inl (fun _ => 0))), (q6, .inl (cy 0, 4, .inl (fun _ => 0))), (q7, .inl (cy 0, 3, .inl (fun _ => 0))), (q8, .inl (cy 0, 3, .inl (fun _ => 0))), (h1, .inr (1, [.int 0, .int 0, .int 0, .int 0, .ref h4, .ref h5, .ref h6]))] s.heap.size = A at hD ⊢
  have hA : ∀ q : Nat, s.heap.size ≤ q → A q := fun q h => by rw [← hAe]; exact Or.inr h
  have hS : va_S A s.heap s.heap [] := va_S.rf
  have hP : va_P (dC, dI) vwCl [(h2, .inr (4, [.int 0, .int 0, .int 0, .ref q1, .ref q2, .ref q3, .ref q4, .ref q5, .ref q6, .ref q7, .ref q8])), (q1, .inl (cy 0, 4, .inl (fun _ => 0))), (q2, .inl (cy 0, 4, .inl (fun _ => 0))), (q3, .inl (cy 0, 4, .inl (fun _ => 0))), (q4, .inl (cy 0, 4, .inl (fun _ => 0))), (q5, .inl (cy 0, 4, .inl (fun _ => 0))), (q6, .inl (cy 0, 4, .inl (fun _ => 0))), (q7, .inl (cy 0, 3, .inl (fun _ => 0))), (q8, .inl (cy 0, 3, .inl (fun _ => 0))), (h1, .inr (1, [.int 0, .int 0, .int 0, .int 0, .ref h4, .ref h5, .ref h6]))] s.heap := hP
  have hl := lv_entry ([.ref h2, .ref h1, .int 1]) (n := 4) (Nat.le_of_ble_eq_true rfl)
  rw [lg_entry_eq]
  generalize (lg_sl ([.ref h2, .ref h1, .int 1]) ++ List.replicate (4 - (lg_sl ([.ref h2, .ref h1, .int 1])).length) Slot.unset).toArray = ls at hl ⊢
  have hl : lv_has ls 4 [(0, .ref h2), (1, .ref h1), (2, .int 1)] := hl
  refine lv_aload_n hx hb dX4_findPlan_0 rfl (lv_at hl 0 rfl) ?_
  refine lv_iload_n hx hb dX4_findPlan_1 rfl (lv_at hl 2 rfl) ?_
  refine lv_aload_n hx hb dX4_findPlan_2 rfl (lv_at hl 1 rfl) ?_
  refine va_get (D := (dC, dI)) (ci := 1) (v := .int 0) (C := RX1) (T := TX1) (N := 7) hx hb hts (by decide +kernel) hown hK hP 9 rfl rfl 1 (by decide) (hts (.fieldLink RX4 36 "QuietStairs$House" "mediatorCount" "I") (by decide +kernel)) (fun _ h9 => h9) rfl dX4_findPlan_3 ?_
  refine lv_iconst (v := 2) hx hb dX4_findPlan_6 (by decide) ?_
  refine lv_idiv hx hb dX4_findPlan_7 (by decide) ?_
  refine lv_topi (fun x_1 ex_1 => ?_)
  obtain rfl : x_1 = 0 := ex_1.trans (by decide)
  refine va_mmin hx hb (hml.trans hl.1.symm) hown (hts (.methodLink RX4 42 Lib.Math.min.name) (by decide +kernel)) (hts (.static Lib.Math.min.name) (by decide +kernel)) (hts (.initialized "java/lang/Math") (by decide +kernel)) (hts (.code Lib.Math.min.name Lib.Math.min.code 2 (some .int)) (by decide +kernel)) (Nat.le_of_ble_eq_true rfl) (Nat.le_of_ble_eq_true rfl) (Nat.le_of_ble_eq_true rfl) (Nat.le_of_ble_eq_true rfl) dX4_findPlan_8 ?_
  refine lv_topi (fun x_2 ex_2 => ?_)
  obtain rfl : x_2 = 0 := ex_2.trans (by decide)
  refine va_put (D := (dC, dI)) (ci := 4) (v := .int 0) (ty := .int) (C := RX4) (T := TX4) (N := 11) hx hb hts (by decide +kernel) tyX4 tyX4_ok nmX4 hown hK hP hD hS 0 rfl rfl 2 (by decide) (hts (.fieldLink RX4 48 "QuietStairs$Planner" "seatsADay" "I") (by decide +kernel)) (fun _ h9 => h9) rfl (by decide +kernel) rfl rfl (Nat.le_of_ble_eq_true rfl) dX4_findPlan_11 (fun H locs hP hD hS => ?_)
  have hP : va_P (dC, dI) vwCl [(h2, .inr (4, [.int 0, .int 0, .int 0, .ref q1, .ref q2, .ref q3, .ref q4, .ref q5, .ref q6, .ref q7, .ref q8])), (q1, .inl (cy 0, 4, .inl (fun _ => 0))), (q2, .inl (cy 0, 4, .inl (fun _ => 0))), (q3, .inl (cy 0, 4, .inl (fun _ => 0))), (q4, .inl (cy 0, 4, .inl (fun _ => 0))), (q5, .inl (cy 0, 4, .inl (fun _ => 0))), (q6, .inl (cy 0, 4, .inl (fun _ => 0))), (q7, .inl (cy 0, 3, .inl (fun _ => 0))), (q8, .inl (cy 0, 3, .inl (fun _ => 0))), (h1, .inr (1, [.int 0, .int 0, .int 0, .int 0, .ref h4, .ref h5, .ref h6]))] H := hP
  have hD : va_D A [(h2, .inr (4, [.int 0, .int 0, .int 0, .ref q1, .ref q2, .ref q3, .ref q4, .ref q5, .ref q6, .ref q7, .ref q8])), (q1, .inl (cy 0, 4, .inl (fun _ => 0))), (q2, .inl (cy 0, 4, .inl (fun _ => 0))), (q3, .inl (cy 0, 4, .inl (fun _ => 0))), (q4, .inl (cy 0, 4, .inl (fun _ => 0))), (q5, .inl (cy 0, 4, .inl (fun _ => 0))), (q6, .inl (cy 0, 4, .inl (fun _ => 0))), (q7, .inl (cy 0, 3, .inl (fun _ => 0))), (q8, .inl (cy 0, 3, .inl (fun _ => 0))), (h1, .inr (1, [.int 0, .int 0, .int 0, .int 0, .ref h4, .ref h5, .ref h6]))] := hD
  refine lv_aload_n hx hb dX4_findPlan_14 rfl (lv_at hl 0 rfl) ?_
  refine lv_aload_n hx hb dX4_findPlan_15 rfl (lv_at hl 1 rfl) ?_
  refine yc_v (wc := [(h2, .inr (4, [.int 0, .int 0, .int 0, .ref q1, .ref q2, .ref q3, .ref q4, .ref q5, .ref q6, .ref q7, .ref q8])), (h1, .inr (1, [.int 0, .int 0, .int 0, .int 0, .ref h4, .ref h5, .ref h6]))]) (wr := [(q1, .inl (cy 0, 4, .inl (fun _ => 0))), (q2, .inl (cy 0, 4, .inl (fun _ => 0))), (q3, .inl (cy 0, 4, .inl (fun _ => 0))), (q4, .inl (cy 0, 4, .inl (fun _ => 0))), (q5, .inl (cy 0, 4, .inl (fun _ => 0))), (q6, .inl (cy 0, 4, .inl (fun _ => 0))), (q7, .inl (cy 0, 3, .inl (fun _ => 0))), (q8, .inl (cy 0, 3, .inl (fun _ => 0)))]) (w1 := fun _ => [(h2, .inr (4, [.int 0, .int 0, .int 0, .ref q1, .ref q2, .ref q3, .ref q4, .ref q5, .ref q6, .ref q7, .ref q8])), (h1, .inr (1, [.int 0, .int 0, .int 0, .int 0, .ref h4, .ref h5, .ref h6]))]) hP hD hS hA [0, 9] [1, 2, 3, 4, 5, 6, 7, 8] rfl rfl (by decide) (by decide) (va_runV (As := [.ref h1]) (rest := []) ⟨hx, hb, hml, hown, hts⟩ (c0_X4_gather l dC dI cy _ h2 q1 q2 q3 q4 q5 q6 q7 q8 h1 h4 h5 h6) (cwV 1 hts gX4_findPlan_X4_gather rfl rfl rfl (by decide +kernel) ⟨Nat.le_of_ble_eq_true rfl, Nat.le_of_ble_eq_true rfl⟩) (ex_preV hE hK hP hD [0, 9] (by decide) rfl (ci := 4) (q0 := 0) rfl rfl) rfl rfl hl.1 rfl (lv_room (Nat.le_of_ble_eq_true rfl)) dX4_findPlan_16 ⟨Nat.le_of_ble_eq_true rfl, Nat.le_of_ble_eq_true rfl⟩) (fun u_3 H locs hw_3 hP hD hS => ?_)
  have hP : va_P (dC, dI) vwCl [(q1, .inl (cy 0, 4, .inl (fun _ => 0))), (q2, .inl (cy 0, 4, .inl (fun _ => 0))), (q3, .inl (cy 0, 4, .inl (fun _ => 0))), (q4, .inl (cy 0, 4, .inl (fun _ => 0))), (q5, .inl (cy 0, 4, .inl (fun _ => 0))), (q6, .inl (cy 0, 4, .inl (fun _ => 0))), (q7, .inl (cy 0, 3, .inl (fun _ => 0))), (q8, .inl (cy 0, 3, .inl (fun _ => 0))), (h2, .inr (4, [.int 0, .int 0, .int 0, .ref q1, .ref q2, .ref q3, .ref q4, .ref q5, .ref q6, .ref q7, .ref q8])), (h1, .inr (1, [.int 0, .int 0, .int 0, .int 0, .ref h4, .ref h5, .ref h6]))] H := hP
  have hD : va_D A [(q1, .inl (cy 0, 4, .inl (fun _ => 0))), (q2, .inl (cy 0, 4, .inl (fun _ => 0))), (q3, .inl (cy 0, 4, .inl (fun _ => 0))), (q4, .inl (cy 0, 4, .inl (fun _ => 0))), (q5, .inl (cy 0, 4, .inl (fun _ => 0))), (q6, .inl (cy 0, 4, .inl (fun _ => 0))), (q7, .inl (cy 0, 3, .inl (fun _ => 0))), (q8, .inl (cy 0, 3, .inl (fun _ => 0))), (h2, .inr (4, [.int 0, .int 0, .int 0, .ref q1, .ref q2, .ref q3, .ref q4, .ref q5, .ref q6, .ref q7, .ref q8])), (h1, .inr (1, [.int 0, .int 0, .int 0, .int 0, .ref h4, .ref h5, .ref h6]))] := hD
  refine lv_aload_n hx hb dX4_findPlan_19 rfl (lv_at hl 0 rfl) ?_
  refine yc_v (wc := [(h2, .inr (4, [.int 0, .int 0, .int 0, .ref q1, .ref q2, .ref q3, .ref q4, .ref q5, .ref q6, .ref q7, .ref q8]))]) (wr := [(q1, .inl (cy 0, 4, .inl (fun _ => 0))), (q2, .inl (cy 0, 4, .inl (fun _ => 0))), (q3, .inl (cy 0, 4, .inl (fun _ => 0))), (q4, .inl (cy 0, 4, .inl (fun _ => 0))), (q5, .inl (cy 0, 4, .inl (fun _ => 0))), (q6, .inl (cy 0, 4, .inl (fun _ => 0))), (q7, .inl (cy 0, 3, .inl (fun _ => 0))), (q8, .inl (cy 0, 3, .inl (fun _ => 0))), (h1, .inr (1, [.int 0, .int 0, .int 0, .int 0, .ref h4, .ref h5, .ref h6]))]) (w1 := fun _ => [(h2, .inr (4, [.int 0, .int 0, .int 0, .ref q1, .ref q2, .ref q3, .ref q4, .ref q5, .ref q6, .ref q7, .ref q8]))]) hP hD hS hA [8] [0, 1, 2, 3, 4, 5, 6, 7, 9] rfl rfl (by decide) (by decide) (va_runV (As := []) (rest := []) ⟨hx, hb, hml, hown, hts⟩ (c0_X4_sortByWeight l dC dI cy _ h2 q1 q2 q3 q4 q5 q6 q7 q8) (cwV 0 hts gX4_findPlan_X4_sortByWeight rfl rfl rfl (by decide +kernel) ⟨Nat.le_of_ble_eq_true rfl, Nat.le_of_ble_eq_true rfl⟩) (ex_preV hE hK hP hD [8] (by decide) rfl (ci := 4) (q0 := 8) rfl rfl) rfl rfl hl.1 rfl (lv_room (Nat.le_of_ble_eq_true rfl)) dX4_findPlan_20 ⟨Nat.le_of_ble_eq_true rfl, Nat.le_of_ble_eq_true rfl⟩) (fun u_4 H locs hw_4 hP hD hS => ?_)
  have hP : va_P (dC, dI) vwCl [(q1, .inl (cy 0, 4, .inl (fun _ => 0))), (q2, .inl (cy 0, 4, .inl (fun _ => 0))), (q3, .inl (cy 0, 4, .inl (fun _ => 0))), (q4, .inl (cy 0, 4, .inl (fun _ => 0))), (q5, .inl (cy 0, 4, .inl (fun _ => 0))), (q6, .inl (cy 0, 4, .inl (fun _ => 0))), (q7, .inl (cy 0, 3, .inl (fun _ => 0))), (q8, .inl (cy 0, 3, .inl (fun _ => 0))), (h1, .inr (1, [.int 0, .int 0, .int 0, .int 0, .ref h4, .ref h5, .ref h6])), (h2, .inr (4, [.int 0, .int 0, .int 0, .ref q1, .ref q2, .ref q3, .ref q4, .ref q5, .ref q6, .ref q7, .ref q8]))] H := hP
  have hD : va_D A [(q1, .inl (cy 0, 4, .inl (fun _ => 0))), (q2, .inl (cy 0, 4, .inl (fun _ => 0))), (q3, .inl (cy 0, 4, .inl (fun _ => 0))), (q4, .inl (cy 0, 4, .inl (fun _ => 0))), (q5, .inl (cy 0, 4, .inl (fun _ => 0))), (q6, .inl (cy 0, 4, .inl (fun _ => 0))), (q7, .inl (cy 0, 3, .inl (fun _ => 0))), (q8, .inl (cy 0, 3, .inl (fun _ => 0))), (h1, .inr (1, [.int 0, .int 0, .int 0, .int 0, .ref h4, .ref h5, .ref h6])), (h2, .inr (4, [.int 0, .int 0, .int 0, .ref q1, .ref q2, .ref q3, .ref q4, .ref q5, .ref q6, .ref q7, .ref q8]))] := hD
  refine lv_aload_n hx hb dX4_findPlan_23 rfl (lv_at hl 0 rfl) ?_
  refine lv_iconst (v := 1) hx hb dX4_findPlan_24 (by decide) ?_
  refine va_put (D := (dC, dI)) (ci := 4) (v := .int 1) (ty := .int) (C := RX4) (T := TX4) (N := 11) hx hb hts (by decide +kernel) tyX4 tyX4_ok nmX4 hown hK hP hD hS 9 rfl rfl 0 (by decide) (hts (.fieldLink RX4 58 "QuietStairs$Planner" "leastWait" "I") (by decide +kernel)) (fun _ h9 => h9) rfl (by decide +kernel) rfl rfl (Nat.le_of_ble_eq_true rfl) dX4_findPlan_25 (fun H locs hP hD hS => ?_)
  have hP : va_P (dC, dI) vwCl [(q1, .inl (cy 0, 4, .inl (fun _ => 0))), (q2, .inl (cy 0, 4, .inl (fun _ => 0))), (q3, .inl (cy 0, 4, .inl (fun _ => 0))), (q4, .inl (cy 0, 4, .inl (fun _ => 0))), (q5, .inl (cy 0, 4, .inl (fun _ => 0))), (q6, .inl (cy 0, 4, .inl (fun _ => 0))), (q7, .inl (cy 0, 3, .inl (fun _ => 0))), (q8, .inl (cy 0, 3, .inl (fun _ => 0))), (h1, .inr (1, [.int 0, .int 0, .int 0, .int 0, .ref h4, .ref h5, .ref h6])), (h2, .inr (4, [.int 1, .int 0, .int 0, .ref q1, .ref q2, .ref q3, .ref q4, .ref q5, .ref q6, .ref q7, .ref q8]))] H := hP
  have hD : va_D A [(q1, .inl (cy 0, 4, .inl (fun _ => 0))), (q2, .inl (cy 0, 4, .inl (fun _ => 0))), (q3, .inl (cy 0, 4, .inl (fun _ => 0))), (q4, .inl (cy 0, 4, .inl (fun _ => 0))), (q5, .inl (cy 0, 4, .inl (fun _ => 0))), (q6, .inl (cy 0, 4, .inl (fun _ => 0))), (q7, .inl (cy 0, 3, .inl (fun _ => 0))), (q8, .inl (cy 0, 3, .inl (fun _ => 0))), (h1, .inr (1, [.int 0, .int 0, .int 0, .int 0, .ref h4, .ref h5, .ref h6])), (h2, .inr (4, [.int 1, .int 0, .int 0, .ref q1, .ref q2, .ref q3, .ref q4, .ref q5, .ref q6, .ref q7, .ref q8]))] := hD
  refine lv_iconst (v := 0) hx hb dX4_findPlan_28 (by decide) ?_
  refine lv_istore_n (lv' := [(3, .int 0), (0, .ref h2), (1, .ref h1), (2, .int 1)]) hx hb dX4_findPlan_29 rfl hl (by decide) rfl (fun ls hl => ?_)
  refine lv_iload_n hx hb dX4_findPlan_30 rfl (lv_at hl 0 rfl) ?_
  refine lv_aload_n hx hb dX4_findPlan_31 rfl (lv_at hl 1 rfl) ?_
  refine va_get (D := (dC, dI)) (ci := 4) (v := .int 0) (C := RX4) (T := TX4) (N := 11) hx hb hts (by decide +kernel) hown hK hP 9 rfl rfl 1 (by decide) (hts (.fieldLink RX4 61 "QuietStairs$Planner" "count" "I") (by decide +kernel)) (fun _ h9 => h9) rfl dX4_findPlan_32 ?_
  refine lv_icmp_ge (tgt := 61) hx hb dX4_findPlan_35 (by decide) (fun _ => ?_) (fun c9 => absurd c9 (by decide))
  refine lv_iconst (v := 0) hx hb dX4_findPlan_61 (by decide) ?_
  refine lv_istore_n (lv' := [(3, .int 0), (0, .ref h2), (1, .ref h1), (2, .int 1)]) hx hb dX4_findPlan_62 rfl hl (by decide) rfl (fun ls hl => ?_)
  refine lv_iload_n hx hb dX4_findPlan_63 rfl (lv_at hl 0 rfl) ?_
  refine lv_iconst (v := 3) hx hb dX4_findPlan_64 (by decide) ?_
  refine lv_icmp_ge (tgt := 88) hx hb dX4_findPlan_65 (by decide) (fun c9 => absurd c9 (by decide)) (fun _ => ?_)
  refine lv_aload_n hx hb dX4_findPlan_68 rfl (lv_at hl 1 rfl) ?_
  refine va_get (D := (dC, dI)) (ci := 4) (v := .ref q7) (C := RX4) (T := TX4) (N := 11) hx hb hts (by decide +kernel) hown hK hP 9 rfl rfl 9 (by decide) (hts (.fieldLink RX4 30 "QuietStairs$Planner" "busyBits" "[I") (by decide +kernel)) (fun _ h9 => h9) rfl dX4_findPlan_69 ?_
  refine lv_iload_n hx hb dX4_findPlan_72 rfl (lv_at hl 0 rfl) ?_
  refine lv_iconst (v := 0) hx hb dX4_findPlan_73 (by decide) ?_
  refine va_iast hx hb hK hP hD hS 6 0 rfl rfl (by unfold vp_in; decide) dX4_findPlan_74 (fun H locs hP hD hS => ?_)
  have hP : va_P (dC, dI) vwCl [(q1, .inl (cy 0, 4, .inl (fun _ => 0))), (q2, .inl (cy 0, 4, .inl (fun _ => 0))), (q3, .inl (cy 0, 4, .inl (fun _ => 0))), (q4, .inl (cy 0, 4, .inl (fun _ => 0))), (q5, .inl (cy 0, 4, .inl (fun _ => 0))), (q6, .inl (cy 0, 4, .inl (fun _ => 0))), (q7, .inl (cy 0, 3, .inl (upd (fun _ => 0) (0 : Int32).toNatClampNeg 0))), (q8, .inl (cy 0, 3, .inl (fun _ => 0))), (h1, .inr (1, [.int 0, .int 0, .int 0, .int 0, .ref h4, .ref h5, .ref h6])), (h2, .inr (4, [.int 1, .int 0, .int 0, .ref q1, .ref q2, .ref q3, .ref q4, .ref q5, .ref q6, .ref q7, .ref q8]))] H := hP
  have hD : va_D A [(q1, .inl (cy 0, 4, .inl (fun _ => 0))), (q2, .inl (cy 0, 4, .inl (fun _ => 0))), (q3, .inl (cy 0, 4, .inl (fun _ => 0))), (q4, .inl (cy 0, 4, .inl (fun _ => 0))), (q5, .inl (cy 0, 4, .inl (fun _ => 0))), (q6, .inl (cy 0, 4, .inl (fun _ => 0))), (q7, .inl (cy 0, 3, .inl (upd (fun _ => 0) (0 : Int32).toNatClampNeg 0))), (q8, .inl (cy 0, 3, .inl (fun _ => 0))), (h1, .inr (1, [.int 0, .int 0, .int 0, .int 0, .ref h4, .ref h5, .ref h6])), (h2, .inr (4, [.int 1, .int 0, .int 0, .ref q1, .ref q2, .ref q3, .ref q4, .ref q5, .ref q6, .ref q7, .ref q8]))] := hD
  refine lv_aload_n hx hb dX4_findPlan_75 rfl (lv_at hl 1 rfl) ?_
  refine va_get (D := (dC, dI)) (ci := 4) (v := .ref q8) (C := RX4) (T := TX4) (N := 11) hx hb hts (by decide +kernel) hown hK hP 9 rfl rfl 10 (by decide) (hts (.fieldLink RX4 33 "QuietStairs$Planner" "sittings" "[I") (by decide +kernel)) (fun _ h9 => h9) rfl dX4_findPlan_76 ?_
  refine lv_iload_n hx hb dX4_findPlan_79 rfl (lv_at hl 0 rfl) ?_
  refine lv_iconst (v := 0) hx hb dX4_findPlan_80 (by decide) ?_
  refine va_iast hx hb hK hP hD hS 7 0 rfl rfl (by unfold vp_in; decide) dX4_findPlan_81 (fun H locs hP hD hS => ?_)
  have hP : va_P (dC, dI) vwCl [(q1, .inl (cy 0, 4, .inl (fun _ => 0))), (q2, .inl (cy 0, 4, .inl (fun _ => 0))), (q3, .inl (cy 0, 4, .inl (fun _ => 0))), (q4, .inl (cy 0, 4, .inl (fun _ => 0))), (q5, .inl (cy 0, 4, .inl (fun _ => 0))), (q6, .inl (cy 0, 4, .inl (fun _ => 0))), (q7, .inl (cy 0, 3, .inl (upd (fun _ => 0) (0 : Int32).toNatClampNeg 0))), (q8, .inl (cy 0, 3, .inl (upd (fun _ => 0) (0 : Int32).toNatClampNeg 0))), (h1, .inr (1, [.int 0, .int 0, .int 0, .int 0, .ref h4, .ref h5, .ref h6])), (h2, .inr (4, [.int 1, .int 0, .int 0, .ref q1, .ref q2, .ref q3, .ref q4, .ref q5, .ref q6, .ref q7, .ref q8]))] H := hP
  have hD : va_D A [(q1, .inl (cy 0, 4, .inl (fun _ => 0))), (q2, .inl (cy 0, 4, .inl (fun _ => 0))), (q3, .inl (cy 0, 4, .inl (fun _ => 0))), (q4, .inl (cy 0, 4, .inl (fun _ => 0))), (q5, .inl (cy 0, 4, .inl (fun _ => 0))), (q6, .inl (cy 0, 4, .inl (fun _ => 0))), (q7, .inl (cy 0, 3, .inl (upd (fun _ => 0) (0 : Int32).toNatClampNeg 0))), (q8, .inl (cy 0, 3, .inl (upd (fun _ => 0) (0 : Int32).toNatClampNeg 0))), (h1, .inr (1, [.int 0, .int 0, .int 0, .int 0, .ref h4, .ref h5, .ref h6])), (h2, .inr (4, [.int 1, .int 0, .int 0, .ref q1, .ref q2, .ref q3, .ref q4, .ref q5, .ref q6, .ref q7, .ref q8]))] := hD
  refine lv_iinc (v := 1) (lv' := [(3, .int 1), (0, .ref h2), (1, .ref h1), (2, .int 1)]) hx hb dX4_findPlan_82 hl (k := 0) rfl (by decide) (by decide) rfl (fun ls hl => ?_)
  refine lv_goto (tgt := 63) hx hb dX4_findPlan_85 (by decide) ?_
  refine lv_iload_n hx hb dX4_findPlan_63 rfl (lv_at hl 0 rfl) ?_
  refine lv_iconst (v := 3) hx hb dX4_findPlan_64 (by decide) ?_
  refine lv_icmp_ge (tgt := 88) hx hb dX4_findPlan_65 (by decide) (fun c9 => absurd c9 (by decide)) (fun _ => ?_)
  refine lv_aload_n hx hb dX4_findPlan_68 rfl (lv_at hl 1 rfl) ?_
  refine va_get (D := (dC, dI)) (ci := 4) (v := .ref q7) (C := RX4) (T := TX4) (N := 11) hx hb hts (by decide +kernel) hown hK hP 9 rfl rfl 9 (by decide) (hts (.fieldLink RX4 30 "QuietStairs$Planner" "busyBits" "[I") (by decide +kernel)) (fun _ h9 => h9) rfl dX4_findPlan_69 ?_
  refine lv_iload_n hx hb dX4_findPlan_72 rfl (lv_at hl 0 rfl) ?_
  refine lv_iconst (v := 0) hx hb dX4_findPlan_73 (by decide) ?_
  refine va_iast hx hb hK hP hD hS 6 0 rfl rfl (by unfold vp_in; decide) dX4_findPlan_74 (fun H locs hP hD hS => ?_)
  have hP : va_P (dC, dI) vwCl [(q1, .inl (cy 0, 4, .inl (fun _ => 0))), (q2, .inl (cy 0, 4, .inl (fun _ => 0))), (q3, .inl (cy 0, 4, .inl (fun _ => 0))), (q4, .inl (cy 0, 4, .inl (fun _ => 0))), (q5, .inl (cy 0, 4, .inl (fun _ => 0))), (q6, .inl (cy 0, 4, .inl (fun _ => 0))), (q7, .inl (cy 0, 3, .inl (upd (upd (fun _ => 0) (0 : Int32).toNatClampNeg 0) (1 : Int32).toNatClampNeg 0))), (q8, .inl (cy 0, 3, .inl (upd (fun _ => 0) (0 : Int32).toNatClampNeg 0))), (h1, .inr (1, [.int 0, .int 0, .int 0, .int 0, .ref h4, .ref h5, .ref h6])), (h2, .inr (4, [.int 1, .int 0, .int 0, .ref q1, .ref q2, .ref q3, .ref q4, .ref q5, .ref q6, .ref q7, .ref q8]))] H := hP
  have hD : va_D A [(q1, .inl (cy 0, 4, .inl (fun _ => 0))), (q2, .inl (cy 0, 4, .inl (fun _ => 0))), (q3, .inl (cy 0, 4, .inl (fun _ => 0))), (q4, .inl (cy 0, 4, .inl (fun _ => 0))), (q5, .inl (cy 0, 4, .inl (fun _ => 0))), (q6, .inl (cy 0, 4, .inl (fun _ => 0))), (q7, .inl (cy 0, 3, .inl (upd (upd (fun _ => 0) (0 : Int32).toNatClampNeg 0) (1 : Int32).toNatClampNeg 0))), (q8, .inl (cy 0, 3, .inl (upd (fun _ => 0) (0 : Int32).toNatClampNeg 0))), (h1, .inr (1, [.int 0, .int 0, .int 0, .int 0, .ref h4, .ref h5, .ref h6])), (h2, .inr (4, [.int 1, .int 0, .int 0, .ref q1, .ref q2, .ref q3, .ref q4, .ref q5, .ref q6, .ref q7, .ref q8]))] := hD
  refine lv_aload_n hx hb dX4_findPlan_75 rfl (lv_at hl 1 rfl) ?_
  refine va_get (D := (dC, dI)) (ci := 4) (v := .ref q8) (C := RX4) (T := TX4) (N := 11) hx hb hts (by decide +kernel) hown hK hP 9 rfl rfl 10 (by decide) (hts (.fieldLink RX4 33 "QuietStairs$Planner" "sittings" "[I") (by decide +kernel)) (fun _ h9 => h9) rfl dX4_findPlan_76 ?_
  refine lv_iload_n hx hb dX4_findPlan_79 rfl (lv_at hl 0 rfl) ?_
  refine lv_iconst (v := 0) hx hb dX4_findPlan_80 (by decide) ?_
  refine va_iast hx hb hK hP hD hS 7 0 rfl rfl (by unfold vp_in; decide) dX4_findPlan_81 (fun H locs hP hD hS => ?_)
  have hP : va_P (dC, dI) vwCl [(q1, .inl (cy 0, 4, .inl (fun _ => 0))), (q2, .inl (cy 0, 4, .inl (fun _ => 0))), (q3, .inl (cy 0, 4, .inl (fun _ => 0))), (q4, .inl (cy 0, 4, .inl (fun _ => 0))), (q5, .inl (cy 0, 4, .inl (fun _ => 0))), (q6, .inl (cy 0, 4, .inl (fun _ => 0))), (q7, .inl (cy 0, 3, .inl (upd (upd (fun _ => 0) (0 : Int32).toNatClampNeg 0) (1 : Int32).toNatClampNeg 0))), (q8, .inl (cy 0, 3, .inl (upd (upd (fun _ => 0) (0 : Int32).toNatClampNeg 0) (1 : Int32).toNatClampNeg 0))), (h1, .inr (1, [.int 0, .int 0, .int 0, .int 0, .ref h4, .ref h5, .ref h6])), (h2, .inr (4, [.int 1, .int 0, .int 0, .ref q1, .ref q2, .ref q3, .ref q4, .ref q5, .ref q6, .ref q7, .ref q8]))] H := hP
  have hD : va_D A [(q1, .inl (cy 0, 4, .inl (fun _ => 0))), (q2, .inl (cy 0, 4, .inl (fun _ => 0))), (q3, .inl (cy 0, 4, .inl (fun _ => 0))), (q4, .inl (cy 0, 4, .inl (fun _ => 0))), (q5, .inl (cy 0, 4, .inl (fun _ => 0))), (q6, .inl (cy 0, 4, .inl (fun _ => 0))), (q7, .inl (cy 0, 3, .inl (upd (upd (fun _ => 0) (0 : Int32).toNatClampNeg 0) (1 : Int32).toNatClampNeg 0))), (q8, .inl (cy 0, 3, .inl (upd (upd (fun _ => 0) (0 : Int32).toNatClampNeg 0) (1 : Int32).toNatClampNeg 0))), (h1, .inr (1, [.int 0, .int 0, .int 0, .int 0, .ref h4, .ref h5, .ref h6])), (h2, .inr (4, [.int 1, .int 0, .int 0, .ref q1, .ref q2, .ref q3, .ref q4, .ref q5, .ref q6, .ref q7, .ref q8]))] := hD
  refine lv_iinc (v := 2) (lv' := [(3, .int 2), (0, .ref h2), (1, .ref h1), (2, .int 1)]) hx hb dX4_findPlan_82 hl (k := 0) rfl (by decide) (by decide) rfl (fun ls hl => ?_)
  refine lv_goto (tgt := 63) hx hb dX4_findPlan_85 (by decide) ?_
  refine lv_iload_n hx hb dX4_findPlan_63 rfl (lv_at hl 0 rfl) ?_
  refine lv_iconst (v := 3) hx hb dX4_findPlan_64 (by decide) ?_
  refine lv_icmp_ge (tgt := 88) hx hb dX4_findPlan_65 (by decide) (fun c9 => absurd c9 (by decide)) (fun _ => ?_)
  refine lv_aload_n hx hb dX4_findPlan_68 rfl (lv_at hl 1 rfl) ?_
  refine va_get (D := (dC, dI)) (ci := 4) (v := .ref q7) (C := RX4) (T := TX4) (N := 11) hx hb hts (by decide +kernel) hown hK hP 9 rfl rfl 9 (by decide) (hts (.fieldLink RX4 30 "QuietStairs$Planner" "busyBits" "[I") (by decide +kernel)) (fun _ h9 => h9) rfl dX4_findPlan_69 ?_
  refine lv_iload_n hx hb dX4_findPlan_72 rfl (lv_at hl 0 rfl) ?_
  refine lv_iconst (v := 0) hx hb dX4_findPlan_73 (by decide) ?_
  refine va_iast hx hb hK hP hD hS 6 0 rfl rfl (by unfold vp_in; decide) dX4_findPlan_74 (fun H locs hP hD hS => ?_)
  have hP : va_P (dC, dI) vwCl [(q1, .inl (cy 0, 4, .inl (fun _ => 0))), (q2, .inl (cy 0, 4, .inl (fun _ => 0))), (q3, .inl (cy 0, 4, .inl (fun _ => 0))), (q4, .inl (cy 0, 4, .inl (fun _ => 0))), (q5, .inl (cy 0, 4, .inl (fun _ => 0))), (q6, .inl (cy 0, 4, .inl (fun _ => 0))), (q7, .inl (cy 0, 3, .inl (upd (upd (upd (fun _ => 0) (0 : Int32).toNatClampNeg 0) (1 : Int32).toNatClampNeg 0) (2 : Int32).toNatClampNeg 0))), (q8, .inl (cy 0, 3, .inl (upd (upd (fun _ => 0) (0 : Int32).toNatClampNeg 0) (1 : Int32).toNatClampNeg 0))), (h1, .inr (1, [.int 0, .int 0, .int 0, .int 0, .ref h4, .ref h5, .ref h6])), (h2, .inr (4, [.int 1, .int 0, .int 0, .ref q1, .ref q2, .ref q3, .ref q4, .ref q5, .ref q6, .ref q7, .ref q8]))] H := hP
  have hD : va_D A [(q1, .inl (cy 0, 4, .inl (fun _ => 0))), (q2, .inl (cy 0, 4, .inl (fun _ => 0))), (q3, .inl (cy 0, 4, .inl (fun _ => 0))), (q4, .inl (cy 0, 4, .inl (fun _ => 0))), (q5, .inl (cy 0, 4, .inl (fun _ => 0))), (q6, .inl (cy 0, 4, .inl (fun _ => 0))), (q7, .inl (cy 0, 3, .inl (upd (upd (upd (fun _ => 0) (0 : Int32).toNatClampNeg 0) (1 : Int32).toNatClampNeg 0) (2 : Int32).toNatClampNeg 0))), (q8, .inl (cy 0, 3, .inl (upd (upd (fun _ => 0) (0 : Int32).toNatClampNeg 0) (1 : Int32).toNatClampNeg 0))), (h1, .inr (1, [.int 0, .int 0, .int 0, .int 0, .ref h4, .ref h5, .ref h6])), (h2, .inr (4, [.int 1, .int 0, .int 0, .ref q1, .ref q2, .ref q3, .ref q4, .ref q5, .ref q6, .ref q7, .ref q8]))] := hD
  refine lv_aload_n hx hb dX4_findPlan_75 rfl (lv_at hl 1 rfl) ?_
  refine va_get (D := (dC, dI)) (ci := 4) (v := .ref q8) (C := RX4) (T := TX4) (N := 11) hx hb hts (by decide +kernel) hown hK hP 9 rfl rfl 10 (by decide) (hts (.fieldLink RX4 33 "QuietStairs$Planner" "sittings" "[I") (by decide +kernel)) (fun _ h9 => h9) rfl dX4_findPlan_76 ?_
  refine lv_iload_n hx hb dX4_findPlan_79 rfl (lv_at hl 0 rfl) ?_
  refine lv_iconst (v := 0) hx hb dX4_findPlan_80 (by decide) ?_
  refine va_iast hx hb hK hP hD hS 7 0 rfl rfl (by unfold vp_in; decide) dX4_findPlan_81 (fun H locs hP hD hS => ?_)
  have hP : va_P (dC, dI) vwCl [(q1, .inl (cy 0, 4, .inl (fun _ => 0))), (q2, .inl (cy 0, 4, .inl (fun _ => 0))), (q3, .inl (cy 0, 4, .inl (fun _ => 0))), (q4, .inl (cy 0, 4, .inl (fun _ => 0))), (q5, .inl (cy 0, 4, .inl (fun _ => 0))), (q6, .inl (cy 0, 4, .inl (fun _ => 0))), (q7, .inl (cy 0, 3, .inl (upd (upd (upd (fun _ => 0) (0 : Int32).toNatClampNeg 0) (1 : Int32).toNatClampNeg 0) (2 : Int32).toNatClampNeg 0))), (q8, .inl (cy 0, 3, .inl (upd (upd (upd (fun _ => 0) (0 : Int32).toNatClampNeg 0) (1 : Int32).toNatClampNeg 0) (2 : Int32).toNatClampNeg 0))), (h1, .inr (1, [.int 0, .int 0, .int 0, .int 0, .ref h4, .ref h5, .ref h6])), (h2, .inr (4, [.int 1, .int 0, .int 0, .ref q1, .ref q2, .ref q3, .ref q4, .ref q5, .ref q6, .ref q7, .ref q8]))] H := hP
  have hD : va_D A [(q1, .inl (cy 0, 4, .inl (fun _ => 0))), (q2, .inl (cy 0, 4, .inl (fun _ => 0))), (q3, .inl (cy 0, 4, .inl (fun _ => 0))), (q4, .inl (cy 0, 4, .inl (fun _ => 0))), (q5, .inl (cy 0, 4, .inl (fun _ => 0))), (q6, .inl (cy 0, 4, .inl (fun _ => 0))), (q7, .inl (cy 0, 3, .inl (upd (upd (upd (fun _ => 0) (0 : Int32).toNatClampNeg 0) (1 : Int32).toNatClampNeg 0) (2 : Int32).toNatClampNeg 0))), (q8, .inl (cy 0, 3, .inl (upd (upd (upd (fun _ => 0) (0 : Int32).toNatClampNeg 0) (1 : Int32).toNatClampNeg 0) (2 : Int32).toNatClampNeg 0))), (h1, .inr (1, [.int 0, .int 0, .int 0, .int 0, .ref h4, .ref h5, .ref h6])), (h2, .inr (4, [.int 1, .int 0, .int 0, .ref q1, .ref q2, .ref q3, .ref q4, .ref q5, .ref q6, .ref q7, .ref q8]))] := hD
  refine lv_iinc (v := 3) (lv' := [(3, .int 3), (0, .ref h2), (1, .ref h1), (2, .int 1)]) hx hb dX4_findPlan_82 hl (k := 0) rfl (by decide) (by decide) rfl (fun ls hl => ?_)
  refine lv_goto (tgt := 63) hx hb dX4_findPlan_85 (by decide) ?_
  refine lv_iload_n hx hb dX4_findPlan_63 rfl (lv_at hl 0 rfl) ?_
  refine lv_iconst (v := 3) hx hb dX4_findPlan_64 (by decide) ?_
  refine lv_icmp_ge (tgt := 88) hx hb dX4_findPlan_65 (by decide) (fun _ => ?_) (fun c9 => absurd c9 (by decide))
  refine lv_aload_n hx hb dX4_findPlan_88 rfl (lv_at hl 1 rfl) ?_
  refine lv_iconst (v := 0) hx hb dX4_findPlan_89 (by decide) ?_
  refine lv_iconst (v := 0) hx hb dX4_findPlan_90 (by decide) ?_
  refine yc_v (wc := [(h2, .inr (4, [.int 1, .int 0, .int 0, .ref q1, .ref q2, .ref q3, .ref q4, .ref q5, .ref q6, .ref q7, .ref q8])), (q5, .inl (cy 0, 4, .inl (fun _ => 0))), (q6, .inl (cy 0, 4, .inl (fun _ => 0))), (q8, .inl (cy 0, 3, .inl (upd (upd (upd (fun _ => 0) (0 : Int32).toNatClampNeg 0) (1 : Int32).toNatClampNeg 0) (2 : Int32).toNatClampNeg 0)))]) (wr := [(q1, .inl (cy 0, 4, .inl (fun _ => 0))), (q2, .inl (cy 0, 4, .inl (fun _ => 0))), (q3, .inl (cy 0, 4, .inl (fun _ => 0))), (q4, .inl (cy 0, 4, .inl (fun _ => 0))), (q7, .inl (cy 0, 3, .inl (upd (upd (upd (fun _ => 0) (0 : Int32).toNatClampNeg 0) (1 : Int32).toNatClampNeg 0) (2 : Int32).toNatClampNeg 0))), (h1, .inr (1, [.int 0, .int 0, .int 0, .int 0, .ref h4, .ref h5, .ref h6]))]) (w1 := fun _ => [(h2, .inr (4, [.int 0, .int 0, .int 0, .ref q1, .ref q2, .ref q3, .ref q4, .ref q5, .ref q6, .ref q7, .ref q8]))]) hP hD hS hA [9, 4, 5, 7] [0, 1, 2, 3, 6, 8] rfl rfl (by decide) (by decide) (va_runV (As := [.int 0, .int 0]) (rest := []) ⟨hx, hb, hml, hown, hts⟩ (c0_X4_search l dC dI cy _ h2 q1 q2 q3 q4 q5 q6 q7 q8 (upd (upd (upd (fun _ => 0) (0 : Int32).toNatClampNeg 0) (1 : Int32).toNatClampNeg 0) (2 : Int32).toNatClampNeg 0)) (cwV 2 hts gX4_findPlan_X4_search rfl rfl rfl (by decide +kernel) ⟨Nat.le_of_ble_eq_true rfl, Nat.le_of_ble_eq_true rfl⟩) (ex_preV hE hK hP hD [9, 4, 5, 7] (by decide) rfl (ci := 4) (q0 := 9) rfl rfl) rfl rfl hl.1 rfl (lv_room (Nat.le_of_ble_eq_true rfl)) dX4_findPlan_91 ⟨Nat.le_of_ble_eq_true rfl, Nat.le_of_ble_eq_true rfl⟩) (fun u_5 H locs hw_5 hP hD hS => ?_)
  have hP : va_P (dC, dI) vwCl [(q1, .inl (cy 0, 4, .inl (fun _ => 0))), (q2, .inl (cy 0, 4, .inl (fun _ => 0))), (q3, .inl (cy 0, 4, .inl (fun _ => 0))), (q4, .inl (cy 0, 4, .inl (fun _ => 0))), (q7, .inl (cy 0, 3, .inl (upd (upd (upd (fun _ => 0) (0 : Int32).toNatClampNeg 0) (1 : Int32).toNatClampNeg 0) (2 : Int32).toNatClampNeg 0))), (h1, .inr (1, [.int 0, .int 0, .int 0, .int 0, .ref h4, .ref h5, .ref h6])), (h2, .inr (4, [.int 0, .int 0, .int 0, .ref q1, .ref q2, .ref q3, .ref q4, .ref q5, .ref q6, .ref q7, .ref q8]))] H := hP
  have hD : va_D A [(q1, .inl (cy 0, 4, .inl (fun _ => 0))), (q2, .inl (cy 0, 4, .inl (fun _ => 0))), (q3, .inl (cy 0, 4, .inl (fun _ => 0))), (q4, .inl (cy 0, 4, .inl (fun _ => 0))), (q7, .inl (cy 0, 3, .inl (upd (upd (upd (fun _ => 0) (0 : Int32).toNatClampNeg 0) (1 : Int32).toNatClampNeg 0) (2 : Int32).toNatClampNeg 0))), (h1, .inr (1, [.int 0, .int 0, .int 0, .int 0, .ref h4, .ref h5, .ref h6])), (h2, .inr (4, [.int 0, .int 0, .int 0, .ref q1, .ref q2, .ref q3, .ref q4, .ref q5, .ref q6, .ref q7, .ref q8]))] := hD
  have hP9 := hP.sub (ws' := [(h2, .inr (4, [.int 0, .int 0, .int 0, .ref q1, .ref q2, .ref q3, .ref q4, .ref q5, .ref q6, .ref q7, .ref q8]))]) [6] rfl
  have hD9 := hD.sub (ws' := [(h2, .inr (4, [.int 0, .int 0, .int 0, .ref q1, .ref q2, .ref q3, .ref q4, .ref q5, .ref q6, .ref q7, .ref q8]))]) [6] (by decide) rfl
  exact W.vret hx hb hr (fun t ht hW => ⟨⟨(), rfl, trivial, by rw [ht]; exact hP9, hD9⟩, hS.F ht⟩) hS.2.2 dX4_findPlan_94

set_option maxHeartbeats 4000000 in
set_option maxRecDepth 100000 in
theorem c0_X7_waits (l : Launch) (dC : Nat → ClassId) (dI : Nat → Nat → Nat) (cy : Nat → ClassId) (sz : Nat) (h0 h1 h2 h3 h4 h5 h6 : Nat) (q1 q2 q3 q4 q5 q6 q7 q8 : Nat) : Met l yX7_waits wsX7_waits ({ frames := 4, cells := 0, slots := 0, locals := 256 }) (va_Pc [.ref h0] (ex_Pre dC dI cy sz [(h0, .inr (7, [.ref h1, .ref h2, .ref h3, .null, .int 1])), (h1, .inr (1, [.int 0, .int 0, .int 0, .int 0, .ref h4, .ref h5, .ref h6])), (h2, .inr (4, [.int 0, .int 0, .int 0, .ref q1, .ref q2, .ref q3, .ref q4, .ref q5, .ref q6, .ref q7, .ref q8])), (q1, .inl (cy 0, 4, .inl (fun _ => 0))), (q2, .inl (cy 0, 4, .inl (fun _ => 0))), (q3, .inl (cy 0, 4, .inl (fun _ => 0))), (q4, .inl (cy 0, 4, .inl (fun _ => 0))), (q5, .inl (cy 0, 4, .inl (fun _ => 0))), (q6, .inl (cy 0, 4, .inl (fun _ => 0))), (q7, .inl (cy 0, 3, .inl (fun _ => 0))), (q8, .inl (cy 0, 3, .inl (fun _ => 0)))])) (va_Qi (fun (r : Int32) (u : Unit) => r = 0) (fun u t => ex_Pst dC dI (va_A [(h0, .inr (7, [.ref h1, .ref h2, .ref h3, .null, .int 1])), (h1, .inr (1, [.int 0, .int 0, .int 0, .int 0, .ref h4, .ref h5, .ref h6])), (h2, .inr (4, [.int 0, .int 0, .int 0, .ref q1, .ref q2, .ref q3, .ref q4, .ref q5, .ref q6, .ref q7, .ref q8])), (q1, .inl (cy 0, 4, .inl (fun _ => 0))), (q2, .inl (cy 0, 4, .inl (fun _ => 0))), (q3, .inl (cy 0, 4, .inl (fun _ => 0))), (q4, .inl (cy 0, 4, .inl (fun _ => 0))), (q5, .inl (cy 0, 4, .inl (fun _ => 0))), (q6, .inl (cy 0, 4, .inl (fun _ => 0))), (q7, .inl (cy 0, 3, .inl (fun _ => 0))), (q8, .inl (cy 0, 3, .inl (fun _ => 0)))] sz) ([]) t) (va_A [(h0, .inr (7, [.ref h1, .ref h2, .ref h3, .null, .int 1])), (h1, .inr (1, [.int 0, .int 0, .int 0, .int 0, .ref h4, .ref h5, .ref h6])), (h2, .inr (4, [.int 0, .int 0, .int 0, .ref q1, .ref q2, .ref q3, .ref q4, .ref q5, .ref q6, .ref q7, .ref q8])), (q1, .inl (cy 0, 4, .inl (fun _ => 0))), (q2, .inl (cy 0, 4, .inl (fun _ => 0))), (q3, .inl (cy 0, 4, .inl (fun _ => 0))), (q4, .inl (cy 0, 4, .inl (fun _ => 0))), (q5, .inl (cy 0, 4, .inl (fun _ => 0))), (q6, .inl (cy 0, 4, .inl (fun _ => 0))), (q7, .inl (cy 0, 3, .inl (fun _ => 0))), (q8, .inl (cy 0, 3, .inl (fun _ => 0)))] sz)) 0 0 (va_A [(h0, .inr (7, [.ref h1, .ref h2, .ref h3, .null, .int 1])), (h1, .inr (1, [.int 0, .int 0, .int 0, .int 0, .ref h4, .ref h5, .ref h6])), (h2, .inr (4, [.int 0, .int 0, .int 0, .ref q1, .ref q2, .ref q3, .ref q4, .ref q5, .ref q6, .ref q7, .ref q8])), (q1, .inl (cy 0, 4, .inl (fun _ => 0))), (q2, .inl (cy 0, 4, .inl (fun _ => 0))), (q3, .inl (cy 0, 4, .inl (fun _ => 0))), (q4, .inl (cy 0, 4, .inl (fun _ => 0))), (q5, .inl (cy 0, 4, .inl (fun _ => 0))), (q6, .inl (cy 0, 4, .inl (fun _ => 0))), (q7, .inl (cy 0, 3, .inl (fun _ => 0))), (q8, .inl (cy 0, 3, .inl (fun _ => 0)))] sz) := by
  refine Met.ofW (cc := cX7_waits) (maxL := 1) (ret := (some .int)) (by decide) rfl ?_
  intro p e s m args below meth c s₁ B hml hv
  obtain ⟨rfl, hsz, hE, hP, hK, hD0⟩ := hv
  have hx := B.exec
  have hb := B.bytes
  have hr := B.returns
  have hts := atoms_spec (ws := wsX7_waits) B.pre
  have hown : s.vm.findClass RX7 = some m.cls := findClass_of_methodNamed B.named
  have hlocks := B.notSynchronized
  subst hsz
  have hD := hD0.self (sz := s.heap.size)
  generalize hAe : va_A [(h0, .inr (7, [.ref h1, .ref h2, .ref h3, .null, .int 1])), (h1, .inr (1, [.int 0, .int 0, .int 0, .int 0, .ref h4, .ref h5, .ref h6])), (h2, .inr (4, [.int 0, .int 0, .int 0, .ref q1, .ref q2, .ref q3, .ref q4, .ref q5, .ref q6, .ref q7, .ref q8])), (q1, .inl (cy 0, 4, .inl (fun _ => 0))), (q2, .inl (cy 0, 4, .inl (fun _ => 0))), (q3, .inl (cy 0, 4, .inl (fun _ => 0))), (q4, .inl (cy 0, 4, .inl (fun _ => 0))), (q5, .inl (cy 0, 4, .inl (fun _ => 0))), (q6, .inl (cy 0, 4, .inl (fun _ => 0))), (q7, .inl (cy 0, 3, .inl (fun _ => 0))), (q8, .inl (cy 0, 3, .inl (fun _ => 0)))] s.heap.size = A at hD ⊢
  have hA : ∀ q : Nat, s.heap.size ≤ q → A q := fun q h => by rw [← hAe]; exact Or.inr h
  have hS : va_S A s.heap s.heap [] := va_S.rf
  have hP : va_P (dC, dI) vwCl [(h0, .inr (7, [.ref h1, .ref h2, .ref h3, .null, .int 1])), (h1, .inr (1, [.int 0, .int 0, .int 0, .int 0, .ref h4, .ref h5, .ref h6])), (h2, .inr (4, [.int 0, .int 0, .int 0, .ref q1, .ref q2, .ref q3, .ref q4, .ref q5, .ref q6, .ref q7, .ref q8])), (q1, .inl (cy 0, 4, .inl (fun _ => 0))), (q2, .inl (cy 0, 4, .inl (fun _ => 0))), (q3, .inl (cy 0, 4, .inl (fun _ => 0))), (q4, .inl (cy 0, 4, .inl (fun _ => 0))), (q5, .inl (cy 0, 4, .inl (fun _ => 0))), (q6, .inl (cy 0, 4, .inl (fun _ => 0))), (q7, .inl (cy 0, 3, .inl (fun _ => 0))), (q8, .inl (cy 0, 3, .inl (fun _ => 0)))] s.heap := hP
  have hl := lv_entry ([.ref h0]) (n := 1) (Nat.le_of_ble_eq_true rfl)
  rw [lg_entry_eq]
  generalize (lg_sl ([.ref h0]) ++ List.replicate (1 - (lg_sl ([.ref h0])).length) Slot.unset).toArray = ls at hl ⊢
  have hl : lv_has ls 1 [(0, .ref h0)] := hl
  refine lv_aload_n hx hb dX7_waits_0 rfl (lv_at hl 0 rfl) ?_
  refine va_get (D := (dC, dI)) (ci := 7) (v := .ref h2) (C := RX7) (T := TX7) (N := 5) hx hb hts (by decide +kernel) hown hK hP 0 rfl rfl 1 (by decide) (hts (.fieldLink RX7 19 "QuietStairs" "planner" "LQuietStairs$Planner;") (by decide +kernel)) (fun _ h9 => h9) rfl dX7_waits_1 ?_
  refine lv_aload_n hx hb dX7_waits_4 rfl (lv_at hl 0 rfl) ?_
  refine va_get (D := (dC, dI)) (ci := 7) (v := .ref h1) (C := RX7) (T := TX7) (N := 5) hx hb hts (by decide +kernel) hown hK hP 0 rfl rfl 0 (by decide) (hts (.fieldLink RX7 12 "QuietStairs" "now" "LQuietStairs$House;") (by decide +kernel)) (fun _ h9 => h9) rfl dX7_waits_5 ?_
  refine lv_aload_n hx hb dX7_waits_8 rfl (lv_at hl 0 rfl) ?_
  refine va_get (D := (dC, dI)) (ci := 7) (v := .int 1) (C := RX7) (T := TX7) (N := 5) hx hb hts (by decide +kernel) hown hK hP 0 rfl rfl 4 (by decide) (hts (.fieldLink RX7 33 "QuietStairs" "roomCount" "I") (by decide +kernel)) (fun _ h9 => h9) rfl dX7_waits_9 ?_
  refine yc_v (wc := [(h2, .inr (4, [.int 0, .int 0, .int 0, .ref q1, .ref q2, .ref q3, .ref q4, .ref q5, .ref q6, .ref q7, .ref q8])), (q1, .inl (cy 0, 4, .inl (fun _ => 0))), (q2, .inl (cy 0, 4, .inl (fun _ => 0))), (q3, .inl (cy 0, 4, .inl (fun _ => 0))), (q4, .inl (cy 0, 4, .inl (fun _ => 0))), (q5, .inl (cy 0, 4, .inl (fun _ => 0))), (q6, .inl (cy 0, 4, .inl (fun _ => 0))), (q7, .inl (cy 0, 3, .inl (fun _ => 0))), (q8, .inl (cy 0, 3, .inl (fun _ => 0))), (h1, .inr (1, [.int 0, .int 0, .int 0, .int 0, .ref h4, .ref h5, .ref h6]))]) (wr := [(h0, .inr (7, [.ref h1, .ref h2, .ref h3, .null, .int 1]))]) (w1 := fun _ => [(h2, .inr (4, [.int 0, .int 0, .int 0, .ref q1, .ref q2, .ref q3, .ref q4, .ref q5, .ref q6, .ref q7, .ref q8]))]) hP hD hS hA [2, 3, 4, 5, 6, 7, 8, 9, 10, 1] [0] rfl rfl (by decide) (by decide) (va_runV (As := [.ref h1, .int 1]) (rest := []) ⟨hx, hb, hml, hown, hts⟩ (c0_X4_findPlan l dC dI cy _ h2 q1 q2 q3 q4 q5 q6 q7 q8 h1 h4 h5 h6) (cwV 2 hts gX7_waits_X4_findPlan rfl rfl rfl (by decide +kernel) ⟨Nat.le_of_ble_eq_true rfl, Nat.le_of_ble_eq_true rfl⟩) (ex_preV hE hK hP hD [2, 3, 4, 5, 6, 7, 8, 9, 10, 1] (by decide) rfl (ci := 4) (q0 := 2) rfl rfl) rfl rfl hl.1 rfl (lv_room (Nat.le_of_ble_eq_true rfl)) dX7_waits_12 ⟨Nat.le_of_ble_eq_true rfl, Nat.le_of_ble_eq_true rfl⟩) (fun u_1 H locs hw_1 hP hD hS => ?_)
  have hP : va_P (dC, dI) vwCl [(h0, .inr (7, [.ref h1, .ref h2, .ref h3, .null, .int 1])), (h2, .inr (4, [.int 0, .int 0, .int 0, .ref q1, .ref q2, .ref q3, .ref q4, .ref q5, .ref q6, .ref q7, .ref q8]))] H := hP
  have hD : va_D A [(h0, .inr (7, [.ref h1, .ref h2, .ref h3, .null, .int 1])), (h2, .inr (4, [.int 0, .int 0, .int 0, .ref q1, .ref q2, .ref q3, .ref q4, .ref q5, .ref q6, .ref q7, .ref q8]))] := hD
  refine lv_aload_n hx hb dX7_waits_15 rfl (lv_at hl 0 rfl) ?_
  refine va_get (D := (dC, dI)) (ci := 7) (v := .ref h2) (C := RX7) (T := TX7) (N := 5) hx hb hts (by decide +kernel) hown hK hP 0 rfl rfl 1 (by decide) (hts (.fieldLink RX7 19 "QuietStairs" "planner" "LQuietStairs$Planner;") (by decide +kernel)) (fun _ h9 => h9) rfl dX7_waits_16 ?_
  refine va_get (D := (dC, dI)) (ci := 4) (v := .int 0) (C := RX4) (T := TX4) (N := 11) hx hb hts (by decide +kernel) hown hK hP 1 rfl rfl 0 (by decide) (hts (.fieldLink RX7 163 "QuietStairs$Planner" "leastWait" "I") (by decide +kernel)) (fun _ h9 => h9) rfl dX7_waits_19 ?_
  have hP9 := hP.sub (ws' := []) [] rfl
  have hD9 := hD.sub (ws' := []) [] (by decide) rfl
  exact W.iret (v := 0) hx hb hr (fun t ht hW => ⟨⟨0, (), rfl, rfl, by rw [ht]; exact hP9, hD9⟩, hS.F ht⟩) hS.2.2 dX7_waits_22
