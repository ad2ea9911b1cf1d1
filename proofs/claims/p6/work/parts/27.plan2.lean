set_option maxRecDepth 20000 in
theorem db_X4_findPlan_0 : (decode cX4_findPlan 0 = .ok (.aload_n 0, 1)) ∧ (decode cX4_findPlan 1 = .ok (.iload_n 2, 1)) ∧ (decode cX4_findPlan 2 = .ok (.aload_n 1, 1)) ∧ (decode cX4_findPlan 3 = .ok (.getfield 36, 3)) ∧ (decode cX4_findPlan 6 = .ok (.iconst 2, 1)) ∧ (decode cX4_findPlan 7 = .ok (.idiv, 1)) ∧ (decode cX4_findPlan 8 = .ok (.invokestatic 42, 3)) ∧ (decode cX4_findPlan 11 = .ok (.putfield 48, 3)) := by decide +kernel
theorem dX4_findPlan_0 : decode cX4_findPlan 0 = .ok (.aload_n 0, 1) := db_X4_findPlan_0.1
theorem dX4_findPlan_1 : decode cX4_findPlan 1 = .ok (.iload_n 2, 1) := db_X4_findPlan_0.2.1
theorem dX4_findPlan_2 : decode cX4_findPlan 2 = .ok (.aload_n 1, 1) := db_X4_findPlan_0.2.2.1
theorem dX4_findPlan_3 : decode cX4_findPlan 3 = .ok (.getfield 36, 3) := db_X4_findPlan_0.2.2.2.1
theorem dX4_findPlan_6 : decode cX4_findPlan 6 = .ok (.iconst 2, 1) := db_X4_findPlan_0.2.2.2.2.1
theorem dX4_findPlan_7 : decode cX4_findPlan 7 = .ok (.idiv, 1) := db_X4_findPlan_0.2.2.2.2.2.1
theorem dX4_findPlan_8 : decode cX4_findPlan 8 = .ok (.invokestatic 42, 3) := db_X4_findPlan_0.2.2.2.2.2.2.1
theorem dX4_findPlan_11 : decode cX4_findPlan 11 = .ok (.putfield 48, 3) := db_X4_findPlan_0.2.2.2.2.2.2.2
set_option maxRecDepth 20000 in
theorem db_X4_findPlan_14 : (decode cX4_findPlan 14 = .ok (.aload_n 0, 1)) ∧ (decode cX4_findPlan 15 = .ok (.aload_n 1, 1)) ∧ (decode cX4_findPlan 16 = .ok (.invokevirtual 51, 3)) ∧ (decode cX4_findPlan 19 = .ok (.aload_n 0, 1)) ∧ (decode cX4_findPlan 20 = .ok (.invokevirtual 55, 3)) ∧ (decode cX4_findPlan 23 = .ok (.aload_n 0, 1)) ∧ (decode cX4_findPlan 24 = .ok (.iconst 1, 1)) ∧ (decode cX4_findPlan 25 = .ok (.putfield 58, 3)) := by decide +kernel
theorem dX4_findPlan_14 : decode cX4_findPlan 14 = .ok (.aload_n 0, 1) := db_X4_findPlan_14.1
theorem dX4_findPlan_15 : decode cX4_findPlan 15 = .ok (.aload_n 1, 1) := db_X4_findPlan_14.2.1
set_option maxRecDepth 20000 in
theorem ggX4_findPlan_X4_gather : GoodIn wsX4_findPlan wsX4_gather := goodIn_r _ [16, 8, 17, 18, 19, 20, 9, 21, 22, 23, 24, 15, 25, 26, 27, 28, 29, 30, 31, 32, 33, 34, 35, 36, 37, 38, 39, 40, 41, 42, 43, 44, 45, 46, 47, 48, 49, 50, 81, 82, 83, 84, 85, 86, 87, 88, 89, 90, 91, 74, 75, 76, 77, 78, 79, 80, 92, 93, 94, 95, 96, 97, 98, 99, 100, 101, 102, 103, 104, 105, 106, 107] rfl (by decide +kernel)
set_option maxRecDepth 20000 in
theorem gX4_findPlan_X4_gather : GoodIn wsX4_findPlan (wsV RX4 51 RX4 yX4_gather wsX4_gather) := goodIn_app (goodIn_r _ [12, 13, 14, 15] rfl (by decide +kernel)) ggX4_findPlan_X4_gather
theorem dX4_findPlan_16 : decode cX4_findPlan 16 = .ok (.invokevirtual 51, 3) := db_X4_findPlan_14.2.2.1
theorem dX4_findPlan_19 : decode cX4_findPlan 19 = .ok (.aload_n 0, 1) := db_X4_findPlan_14.2.2.2.1
set_option maxRecDepth 20000 in
theorem ggX4_findPlan_X4_sortByWeight : GoodIn wsX4_findPlan wsX4_sortByWeight := goodIn_r _ [54, 8, 9, 55, 81, 82, 83, 84, 85, 86, 87, 88, 89, 90, 91] rfl (by decide +kernel)
set_option maxRecDepth 20000 in
theorem gX4_findPlan_X4_sortByWeight : GoodIn wsX4_findPlan (wsV RX4 55 RX4 yX4_sortByWeight wsX4_sortByWeight) := goodIn_app (goodIn_r _ [51, 52, 53, 15] rfl (by decide +kernel)) ggX4_findPlan_X4_sortByWeight
theorem dX4_findPlan_20 : decode cX4_findPlan 20 = .ok (.invokevirtual 55, 3) := db_X4_findPlan_14.2.2.2.2.1
theorem dX4_findPlan_23 : decode cX4_findPlan 23 = .ok (.aload_n 0, 1) := db_X4_findPlan_14.2.2.2.2.2.1
theorem dX4_findPlan_24 : decode cX4_findPlan 24 = .ok (.iconst 1, 1) := db_X4_findPlan_14.2.2.2.2.2.2.1
theorem dX4_findPlan_25 : decode cX4_findPlan 25 = .ok (.putfield 58, 3) := db_X4_findPlan_14.2.2.2.2.2.2.2
set_option maxRecDepth 20000 in
theorem db_X4_findPlan_28 : (decode cX4_findPlan 28 = .ok (.iconst 0, 1)) ∧ (decode cX4_findPlan 29 = .ok (.istore_n 3, 1)) ∧ (decode cX4_findPlan 30 = .ok (.iload_n 3, 1)) ∧ (decode cX4_findPlan 31 = .ok (.aload_n 0, 1)) ∧ (decode cX4_findPlan 32 = .ok (.getfield 61, 3)) ∧ (decode cX4_findPlan 35 = .ok (.if_icmp .ge 26, 3)) ∧ (decode cX4_findPlan 61 = .ok (.iconst 0, 1)) ∧ (decode cX4_findPlan 62 = .ok (.istore_n 3, 1)) := by decide +kernel
theorem dX4_findPlan_28 : decode cX4_findPlan 28 = .ok (.iconst 0, 1) := db_X4_findPlan_28.1
theorem dX4_findPlan_29 : decode cX4_findPlan 29 = .ok (.istore_n 3, 1) := db_X4_findPlan_28.2.1
theorem dX4_findPlan_30 : decode cX4_findPlan 30 = .ok (.iload_n 3, 1) := db_X4_findPlan_28.2.2.1
theorem dX4_findPlan_31 : decode cX4_findPlan 31 = .ok (.aload_n 0, 1) := db_X4_findPlan_28.2.2.2.1
theorem dX4_findPlan_32 : decode cX4_findPlan 32 = .ok (.getfield 61, 3) := db_X4_findPlan_28.2.2.2.2.1
theorem dX4_findPlan_35 : decode cX4_findPlan 35 = .ok (.if_icmp .ge 26, 3) := db_X4_findPlan_28.2.2.2.2.2.1
theorem dX4_findPlan_61 : decode cX4_findPlan 61 = .ok (.iconst 0, 1) := db_X4_findPlan_28.2.2.2.2.2.2.1
theorem dX4_findPlan_62 : decode cX4_findPlan 62 = .ok (.istore_n 3, 1) := db_X4_findPlan_28.2.2.2.2.2.2.2
set_option maxRecDepth 20000 in
theorem db_X4_findPlan_63 : (decode cX4_findPlan 63 = .ok (.iload_n 3, 1)) ∧ (decode cX4_findPlan 64 = .ok (.iconst 3, 1)) ∧ (decode cX4_findPlan 65 = .ok (.if_icmp .ge 23, 3)) ∧ (decode cX4_findPlan 88 = .ok (.aload_n 0, 1)) ∧ (decode cX4_findPlan 89 = .ok (.iconst 0, 1)) ∧ (decode cX4_findPlan 90 = .ok (.iconst 0, 1)) ∧ (decode cX4_findPlan 91 = .ok (.invokevirtual 64, 3)) ∧ (decode cX4_findPlan 94 = .ok (.return_, 1)) := by decide +kernel
theorem dX4_findPlan_63 : decode cX4_findPlan 63 = .ok (.iload_n 3, 1) := db_X4_findPlan_63.1
theorem dX4_findPlan_64 : decode cX4_findPlan 64 = .ok (.iconst 3, 1) := db_X4_findPlan_63.2.1
theorem dX4_findPlan_65 : decode cX4_findPlan 65 = .ok (.if_icmp .ge 23, 3) := db_X4_findPlan_63.2.2.1
theorem dX4_findPlan_88 : decode cX4_findPlan 88 = .ok (.aload_n 0, 1) := db_X4_findPlan_63.2.2.2.1
theorem dX4_findPlan_89 : decode cX4_findPlan 89 = .ok (.iconst 0, 1) := db_X4_findPlan_63.2.2.2.2.1
theorem dX4_findPlan_90 : decode cX4_findPlan 90 = .ok (.iconst 0, 1) := db_X4_findPlan_63.2.2.2.2.2.1
set_option maxRecDepth 20000 in
theorem ggX4_findPlan_X4_search : GoodIn wsX4_findPlan wsX4_search := goodIn_r _ [59, 7, 8, 60, 61, 62, 63, 64, 65, 11, 6, 9, 66, 67, 68, 15, 69, 55, 22, 70, 71, 72, 56, 57, 58, 73, 10, 41, 42, 43, 81, 82, 83, 84, 85, 86, 87, 88, 89, 90, 91] rfl (by decide +kernel)
set_option maxRecDepth 20000 in
theorem gX4_findPlan_X4_search : GoodIn wsX4_findPlan (wsV RX4 64 RX4 yX4_search wsX4_search) := goodIn_app (goodIn_r _ [56, 57, 58, 15] rfl (by decide +kernel)) ggX4_findPlan_X4_search
theorem dX4_findPlan_91 : decode cX4_findPlan 91 = .ok (.invokevirtual 64, 3) := db_X4_findPlan_63.2.2.2.2.2.2.1
theorem dX4_findPlan_94 : decode cX4_findPlan 94 = .ok (.return_, 1) := db_X4_findPlan_63.2.2.2.2.2.2.2
set_option maxRecDepth 20000 in
theorem db_X4_findPlan_68 : (decode cX4_findPlan 68 = .ok (.aload_n 0, 1)) ∧ (decode cX4_findPlan 69 = .ok (.getfield 30, 3)) ∧ (decode cX4_findPlan 72 = .ok (.iload_n 3, 1)) ∧ (decode cX4_findPlan 73 = .ok (.iconst 0, 1)) ∧ (decode cX4_findPlan 74 = .ok (.iastore, 1)) ∧ (decode cX4_findPlan 75 = .ok (.aload_n 0, 1)) ∧ (decode cX4_findPlan 76 = .ok (.getfield 33, 3)) ∧ (decode cX4_findPlan 79 = .ok (.iload_n 3, 1)) := by decide +kernel
theorem dX4_findPlan_68 : decode cX4_findPlan 68 = .ok (.aload_n 0, 1) := db_X4_findPlan_68.1
theorem dX4_findPlan_69 : decode cX4_findPlan 69 = .ok (.getfield 30, 3) := db_X4_findPlan_68.2.1
theorem dX4_findPlan_72 : decode cX4_findPlan 72 = .ok (.iload_n 3, 1) := db_X4_findPlan_68.2.2.1
theorem dX4_findPlan_73 : decode cX4_findPlan 73 = .ok (.iconst 0, 1) := db_X4_findPlan_68.2.2.2.1
theorem dX4_findPlan_74 : decode cX4_findPlan 74 = .ok (.iastore, 1) := db_X4_findPlan_68.2.2.2.2.1
theorem dX4_findPlan_75 : decode cX4_findPlan 75 = .ok (.aload_n 0, 1) := db_X4_findPlan_68.2.2.2.2.2.1
theorem dX4_findPlan_76 : decode cX4_findPlan 76 = .ok (.getfield 33, 3) := db_X4_findPlan_68.2.2.2.2.2.2.1
theorem dX4_findPlan_79 : decode cX4_findPlan 79 = .ok (.iload_n 3, 1) := db_X4_findPlan_68.2.2.2.2.2.2.2
set_option maxRecDepth 20000 in
theorem db_X4_findPlan_80 : (decode cX4_findPlan 80 = .ok (.iconst 0, 1)) ∧ (decode cX4_findPlan 81 = .ok (.iastore, 1)) ∧ (decode cX4_findPlan 82 = .ok (.iinc 3 1, 3)) ∧ (decode cX4_findPlan 85 = .ok (.goto (-22), 3)) ∧ (decode cX4_findPlan 38 = .ok (.aload_n 0, 1)) ∧ (decode cX4_findPlan 39 = .ok (.dup, 1)) ∧ (decode cX4_findPlan 40 = .ok (.getfield 58, 3)) ∧ (decode cX4_findPlan 43 = .ok (.iconst 4, 1)) := by decide +kernel
theorem dX4_findPlan_80 : decode cX4_findPlan 80 = .ok (.iconst 0, 1) := db_X4_findPlan_80.1
theorem dX4_findPlan_81 : decode cX4_findPlan 81 = .ok (.iastore, 1) := db_X4_findPlan_80.2.1
theorem dX4_findPlan_82 : decode cX4_findPlan 82 = .ok (.iinc 3 1, 3) := db_X4_findPlan_80.2.2.1
theorem dX4_findPlan_85 : decode cX4_findPlan 85 = .ok (.goto (-22), 3) := db_X4_findPlan_80.2.2.2.1
theorem dX4_findPlan_38 : decode cX4_findPlan 38 = .ok (.aload_n 0, 1) := db_X4_findPlan_80.2.2.2.2.1
theorem dX4_findPlan_39 : decode cX4_findPlan 39 = .ok (.dup, 1) := db_X4_findPlan_80.2.2.2.2.2.1
theorem dX4_findPlan_40 : decode cX4_findPlan 40 = .ok (.getfield 58, 3) := db_X4_findPlan_80.2.2.2.2.2.2.1
theorem dX4_findPlan_43 : decode cX4_findPlan 43 = .ok (.iconst 4, 1) := db_X4_findPlan_80.2.2.2.2.2.2.2
set_option maxRecDepth 20000 in
theorem db_X4_findPlan_44 : (decode cX4_findPlan 44 = .ok (.aload_n 0, 1)) ∧ (decode cX4_findPlan 45 = .ok (.getfield 15, 3)) ∧ (decode cX4_findPlan 48 = .ok (.iload_n 3, 1)) ∧ (decode cX4_findPlan 49 = .ok (.iaload, 1)) ∧ (decode cX4_findPlan 50 = .ok (.imul, 1)) ∧ (decode cX4_findPlan 51 = .ok (.iadd, 1)) ∧ (decode cX4_findPlan 52 = .ok (.putfield 58, 3)) ∧ (decode cX4_findPlan 55 = .ok (.iinc 3 1, 3)) := by decide +kernel
theorem dX4_findPlan_44 : decode cX4_findPlan 44 = .ok (.aload_n 0, 1) := db_X4_findPlan_44.1
theorem dX4_findPlan_45 : decode cX4_findPlan 45 = .ok (.getfield 15, 3) := db_X4_findPlan_44.2.1
theorem dX4_findPlan_48 : decode cX4_findPlan 48 = .ok (.iload_n 3, 1) := db_X4_findPlan_44.2.2.1
theorem dX4_findPlan_49 : decode cX4_findPlan 49 = .ok (.iaload, 1) := db_X4_findPlan_44.2.2.2.1
theorem dX4_findPlan_50 : decode cX4_findPlan 50 = .ok (.imul, 1) := db_X4_findPlan_44.2.2.2.2.1
theorem dX4_findPlan_51 : decode cX4_findPlan 51 = .ok (.iadd, 1) := db_X4_findPlan_44.2.2.2.2.2.1
theorem dX4_findPlan_52 : decode cX4_findPlan 52 = .ok (.putfield 58, 3) := db_X4_findPlan_44.2.2.2.2.2.2.1
theorem dX4_findPlan_55 : decode cX4_findPlan 55 = .ok (.iinc 3 1, 3) := db_X4_findPlan_44.2.2.2.2.2.2.2
theorem dX4_findPlan_58 : decode cX4_findPlan 58 = .ok (.goto (-28), 3) := by decide +kernel
set_option maxRecDepth 20000 in
theorem db_X7_plan_0 : (decode cX7_plan 0 = .ok (.aload_n 0, 1)) ∧ (decode cX7_plan 1 = .ok (.iload_n 1, 1)) ∧ (decode cX7_plan 2 = .ok (.invokevirtual 96, 3)) ∧ (decode cX7_plan 5 = .ok (.ifCond .ne 5, 3)) ∧ (decode cX7_plan 10 = .ok (.aload_n 0, 1)) ∧ (decode cX7_plan 11 = .ok (.getfield 12, 3)) ∧ (decode cX7_plan 14 = .ok (.getfield 86, 3)) ∧ (decode cX7_plan 17 = .ok (.iload_n 1, 1)) := by decide +kernel
theorem dX7_plan_0 : decode cX7_plan 0 = .ok (.aload_n 0, 1) := db_X7_plan_0.1
theorem dX7_plan_1 : decode cX7_plan 1 = .ok (.iload_n 1, 1) := db_X7_plan_0.2.1
set_option maxRecDepth 20000 in
theorem ggX7_plan_X7_isCase : GoodIn wsX7_plan wsX7_isCase := goodIn_r _ [10, 1, 11, 12, 13, 9, 14, 95, 96, 97, 98, 99, 100, 101, 102, 103, 104, 105, 106] rfl (by decide +kernel)
set_option maxRecDepth 20000 in
theorem gX7_plan_X7_isCase : GoodIn wsX7_plan (wsV RX7 96 RX7 yX7_isCase wsX7_isCase) := goodIn_app (goodIn_r _ [6, 7, 8, 9] rfl (by decide +kernel)) ggX7_plan_X7_isCase
theorem dX7_plan_2 : decode cX7_plan 2 = .ok (.invokevirtual 96, 3) := db_X7_plan_0.2.2.1
theorem dX7_plan_5 : decode cX7_plan 5 = .ok (.ifCond .ne 5, 3) := db_X7_plan_0.2.2.2.1
theorem dX7_plan_10 : decode cX7_plan 10 = .ok (.aload_n 0, 1) := db_X7_plan_0.2.2.2.2.1
theorem dX7_plan_11 : decode cX7_plan 11 = .ok (.getfield 12, 3) := db_X7_plan_0.2.2.2.2.2.1
theorem dX7_plan_14 : decode cX7_plan 14 = .ok (.getfield 86, 3) := db_X7_plan_0.2.2.2.2.2.2.1
theorem dX7_plan_17 : decode cX7_plan 17 = .ok (.iload_n 1, 1) := db_X7_plan_0.2.2.2.2.2.2.2
set_option maxRecDepth 20000 in
theorem db_X7_plan_18 : (decode cX7_plan 18 = .ok (.aaload, 1)) ∧ (decode cX7_plan 19 = .ok (.getfield 99, 3)) ∧ (decode cX7_plan 22 = .ok (.ifCond .eq 6, 3)) ∧ (decode cX7_plan 28 = .ok (.aload_n 0, 1)) ∧ (decode cX7_plan 29 = .ok (.getfield 19, 3)) ∧ (decode cX7_plan 32 = .ok (.aload_n 0, 1)) ∧ (decode cX7_plan 33 = .ok (.getfield 12, 3)) ∧ (decode cX7_plan 36 = .ok (.aload_n 0, 1)) := by decide +kernel
theorem dX7_plan_18 : decode cX7_plan 18 = .ok (.aaload, 1) := db_X7_plan_18.1
theorem dX7_plan_19 : decode cX7_plan 19 = .ok (.getfield 99, 3) := db_X7_plan_18.2.1
theorem dX7_plan_22 : decode cX7_plan 22 = .ok (.ifCond .eq 6, 3) := db_X7_plan_18.2.2.1
theorem dX7_plan_28 : decode cX7_plan 28 = .ok (.aload_n 0, 1) := db_X7_plan_18.2.2.2.1
theorem dX7_plan_29 : decode cX7_plan 29 = .ok (.getfield 19, 3) := db_X7_plan_18.2.2.2.2.1
theorem dX7_plan_32 : decode cX7_plan 32 = .ok (.aload_n 0, 1) := db_X7_plan_18.2.2.2.2.2.1
theorem dX7_plan_33 : decode cX7_plan 33 = .ok (.getfield 12, 3) := db_X7_plan_18.2.2.2.2.2.2.1
theorem dX7_plan_36 : decode cX7_plan 36 = .ok (.aload_n 0, 1) := db_X7_plan_18.2.2.2.2.2.2.2
set_option maxRecDepth 20000 in
theorem db_X7_plan_37 : (decode cX7_plan 37 = .ok (.getfield 33, 3)) ∧ (decode cX7_plan 40 = .ok (.invokevirtual 156, 3)) ∧ (decode cX7_plan 43 = .ok (.aload_n 0, 1)) ∧ (decode cX7_plan 44 = .ok (.getfield 19, 3)) ∧ (decode cX7_plan 47 = .ok (.iload_n 1, 1)) ∧ (decode cX7_plan 48 = .ok (.invokevirtual 160, 3)) ∧ (decode cX7_plan 51 = .ok (.ireturn, 1)) ∧ (decode cX7_plan 25 = .ok (.bipush (-4), 2)) := by decide +kernel
theorem dX7_plan_37 : decode cX7_plan 37 = .ok (.getfield 33, 3) := db_X7_plan_37.1
set_option maxRecDepth 20000 in
theorem ggX7_plan_X4_findPlan : GoodIn wsX7_plan wsX4_findPlan := goodIn_r _ [19, 20, 21, 22, 23, 24, 25, 26, 27, 28, 29, 30, 31, 32, 33, 18, 34, 35, 36, 37, 38, 39, 40, 41, 42, 43, 44, 45, 46, 47, 48, 49, 50, 51, 52, 53, 54, 55, 56, 57, 58, 59, 9, 60, 61, 62, 63, 64, 65, 66, 67, 68, 69, 70, 71, 72, 73, 74, 75, 76, 77, 78, 79, 80, 81, 82, 83, 84, 85, 86, 87, 88, 89, 90, 100, 101, 102, 103, 104, 105, 106, 118, 119, 120, 121, 122, 123, 124, 125, 126, 127, 128, 107, 108, 109, 110, 111, 112, 113, 114, 115, 116, 117, 129, 130, 131, 132, 133] rfl (by decide +kernel)
set_option maxRecDepth 20000 in
theorem gX7_plan_X4_findPlan : GoodIn wsX7_plan (wsV RX7 156 RX4 yX4_findPlan wsX4_findPlan) := goodIn_app (goodIn_r _ [15, 16, 17, 18] rfl (by decide +kernel)) ggX7_plan_X4_findPlan
theorem dX7_plan_40 : decode cX7_plan 40 = .ok (.invokevirtual 156, 3) := db_X7_plan_37.2.1
theorem dX7_plan_43 : decode cX7_plan 43 = .ok (.aload_n 0, 1) := db_X7_plan_37.2.2.1
theorem dX7_plan_44 : decode cX7_plan 44 = .ok (.getfield 19, 3) := db_X7_plan_37.2.2.2.1
theorem dX7_plan_47 : decode cX7_plan 47 = .ok (.iload_n 1, 1) := db_X7_plan_37.2.2.2.2.1
set_option maxRecDepth 20000 in
theorem ggX7_plan_X4_seatOf : GoodIn wsX7_plan wsX4_seatOf := goodIn_r _ [94, 27, 38, 78, 118, 119, 120, 121, 122, 123, 124, 125, 126, 127, 128] rfl (by decide +kernel)
set_option maxRecDepth 20000 in
theorem gX7_plan_X4_seatOf : GoodIn wsX7_plan (wsV RX7 160 RX4 yX4_seatOf wsX4_seatOf) := goodIn_app (goodIn_r _ [91, 92, 93, 18] rfl (by decide +kernel)) ggX7_plan_X4_seatOf
theorem dX7_plan_48 : decode cX7_plan 48 = .ok (.invokevirtual 160, 3) := db_X7_plan_37.2.2.2.2.2.1
theorem dX7_plan_51 : decode cX7_plan 51 = .ok (.ireturn, 1) := db_X7_plan_37.2.2.2.2.2.2.1
theorem dX7_plan_25 : decode cX7_plan 25 = .ok (.bipush (-4), 2) := db_X7_plan_37.2.2.2.2.2.2.2
set_option maxRecDepth 20000 in
theorem db_X7_plan_27 : (decode cX7_plan 27 = .ok (.ireturn, 1)) ∧ (decode cX7_plan 8 = .ok (.iconst (-1), 1)) ∧ (decode cX7_plan 9 = .ok (.ireturn, 1)) := by decide +kernel
theorem dX7_plan_27 : decode cX7_plan 27 = .ok (.ireturn, 1) := db_X7_plan_27.1
theorem dX7_plan_8 : decode cX7_plan 8 = .ok (.iconst (-1), 1) := db_X7_plan_27.2.1
theorem dX7_plan_9 : decode cX7_plan 9 = .ok (.ireturn, 1) := db_X7_plan_27.2.2
set_option maxRecDepth 20000 in
theorem db_X7_waits_0 : (decode cX7_waits 0 = .ok (.aload_n 0, 1)) ∧ (decode cX7_waits 1 = .ok (.getfield 19, 3)) ∧ (decode cX7_waits 4 = .ok (.aload_n 0, 1)) ∧ (decode cX7_waits 5 = .ok (.getfield 12, 3)) ∧ (decode cX7_waits 8 = .ok (.aload_n 0, 1)) ∧ (decode cX7_waits 9 = .ok (.getfield 33, 3)) ∧ (decode cX7_waits 12 = .ok (.invokevirtual 156, 3)) ∧ (decode cX7_waits 15 = .ok (.aload_n 0, 1)) := by decide +kernel
theorem dX7_waits_0 : decode cX7_waits 0 = .ok (.aload_n 0, 1) := db_X7_waits_0.1
theorem dX7_waits_1 : decode cX7_waits 1 = .ok (.getfield 19, 3) := db_X7_waits_0.2.1
theorem dX7_waits_4 : decode cX7_waits 4 = .ok (.aload_n 0, 1) := db_X7_waits_0.2.2.1
theorem dX7_waits_5 : decode cX7_waits 5 = .ok (.getfield 12, 3) := db_X7_waits_0.2.2.2.1
theorem dX7_waits_8 : decode cX7_waits 8 = .ok (.aload_n 0, 1) := db_X7_waits_0.2.2.2.2.1
theorem dX7_waits_9 : decode cX7_waits 9 = .ok (.getfield 33, 3) := db_X7_waits_0.2.2.2.2.2.1
set_option maxRecDepth 20000 in
theorem ggX7_waits_X4_findPlan : GoodIn wsX7_waits wsX4_findPlan := goodIn_r _ [9, 10, 11, 12, 13, 14, 15, 16, 17, 18, 19, 20, 21, 22, 23, 8, 24, 25, 26, 27, 28, 29, 30, 31, 32, 33, 34, 35, 36, 37, 38, 39, 40, 41, 42, 43, 44, 45, 46, 47, 48, 49, 50, 51, 52, 53, 54, 55, 56, 57, 58, 59, 60, 61, 62, 63, 64, 65, 66, 67, 68, 69, 70, 71, 72, 73, 74, 75, 76, 77, 78, 79, 80, 81, 98, 99, 100, 101, 102, 103, 104, 87, 88, 89, 90, 91, 92, 93, 94, 95, 96, 97, 105, 106, 107, 108, 109, 110, 111, 112, 113, 114, 115, 116, 117, 118, 119, 120] rfl (by decide +kernel)
set_option maxRecDepth 20000 in
theorem gX7_waits_X4_findPlan : GoodIn wsX7_waits (wsV RX7 156 RX4 yX4_findPlan wsX4_findPlan) := goodIn_app (goodIn_r _ [5, 6, 7, 8] rfl (by decide +kernel)) ggX7_waits_X4_findPlan
theorem dX7_waits_12 : decode cX7_waits 12 = .ok (.invokevirtual 156, 3) := db_X7_waits_0.2.2.2.2.2.2.1
theorem dX7_waits_15 : decode cX7_waits 15 = .ok (.aload_n 0, 1) := db_X7_waits_0.2.2.2.2.2.2.2
set_option maxRecDepth 20000 in
theorem db_X7_waits_16 : (decode cX7_waits 16 = .ok (.getfield 19, 3)) ∧ (decode cX7_waits 19 = .ok (.getfield 163, 3)) ∧ (decode cX7_waits 22 = .ok (.ireturn, 1)) := by decide +kernel
theorem dX7_waits_16 : decode cX7_waits 16 = .ok (.getfield 19, 3) := db_X7_waits_16.1
theorem dX7_waits_19 : decode cX7_waits 19 = .ok (.getfield 163, 3) := db_X7_waits_16.2.1
theorem dX7_waits_22 : decode cX7_waits 22 = .ok (.ireturn, 1) := db_X7_waits_16.2.2
set_option maxHeartbeats 4000000 in
set_option maxRecDepth 100000 in
theorem g_X4_findPlan (l : Launch) (dC : Nat → ClassId) (dI : Nat → Nat → Nat) (cy : Nat → ClassId) (sz : Nat) (ad : Nat → Nat) (kv : Value) (N : Nat) (hN : 119 ≤ N) (v : Nat → Nat → Int32) (hv : Iv v) (x0 : Int32) (t1 t2 : Nat) : Met l yX4_findPlan wsX4_findPlan ({ frames := 10, cells := 0, slots := 0, locals := 640 }) (va_Pc [.ref (ad 1), .ref (ad 13), .int x0] (ex_PreT dC dI cy sz (wl ad kv cy N v) t1 t2)) (va_Qv (fun (u : Nat → Nat → Int32) => Iv u ∧ Fz v u) (fun u t => ex_Pst dC dI (va_A (wl ad kv cy N v) sz) (wl ad kv cy N u) t) (va_A (wl ad kv cy N v) sz)) 0 0 (va_A (wl ad kv cy N v) sz) := by
  refine Met.ofW (cc := cX4_findPlan) (maxL := 4) (ret := none) (by decide) rfl ?_
  intro p e s m args below meth c s₁ B hml hv
  obtain ⟨rfl, ⟨hsz, hE, hP, hK, hD0⟩, hSt⟩ := hv
  have hx := B.exec
  have hb := B.bytes
  have hr := B.returns
  have hts := atoms_spec (ws := wsX4_findPlan) B.pre
  have hown : s.vm.findClass RX4 = some m.cls := findClass_of_methodNamed B.named
  have hlocks := B.notSynchronized
  subst hsz
  have hD := hD0.self (sz := s.heap.size)
  generalize hAe : va_A (wl ad kv cy N v) s.heap.size = A at hD hSt ⊢
  have hA : ∀ q : Nat, s.heap.size ≤ q → A q := fun q h => by rw [← hAe]; exact Or.inr h
  have hS : va_S A s.heap s.heap [] := va_S.rf
  have hP : va_P (dC, dI) vwCl (wl ad kv cy N v) s.heap := hP
  have hl := lv_entry ([.ref (ad 1), .ref (ad 13), .int x0]) (n := 4) (Nat.le_of_ble_eq_true rfl)
  rw [lg_entry_eq]
  generalize (lg_sl ([.ref (ad 1), .ref (ad 13), .int x0]) ++ List.replicate (4 - (lg_sl ([.ref (ad 1), .ref (ad 13), .int x0])).length) Slot.unset).toArray = ls at hl ⊢
  have hl : lv_has ls 4 [(0, .ref (ad 1)), (1, .ref (ad 13)), (2, .int x0)] := hl
  have hfr : Fz v v := Fz.rf
  refine lv_aload_n hx hb dX4_findPlan_0 rfl (lv_at hl 0 rfl) ?_
  refine lv_iload_n hx hb dX4_findPlan_1 rfl (lv_at hl 2 rfl) ?_
  refine lv_aload_n hx hb dX4_findPlan_2 rfl (lv_at hl 1 rfl) ?_
  refine va_get (D := (dC, dI)) (ci := 1) (v := .int (v (13) 1)) (C := RX1) (T := TX1) (N := 7) hx hb hts iwX4_findPlan_X1 hown hK hP (13) (wl_at (by omega) (ce_3 (by decide))) rfl 1 (by decide) (hts (.fieldLink RX4 36 "QuietStairs$House" "mediatorCount" "I") fwX4_findPlan_1) (fun _ h9 => h9) rfl dX4_findPlan_3 ?_
  refine lv_topi (fun x_1 ex_1 => ?_)
  have bx_1 : 0 ≤ x_1.toInt ∧ x_1.toInt ≤ 4 := by rw [ex_1]; exact hv.at (K := 3) (by decide) rfl
  refine lv_iconst (v := 2) hx hb dX4_findPlan_6 (by decide) ?_
  refine lv_idiv hx hb dX4_findPlan_7 (by decide) ?_
  refine lv_topi (fun x_2 ex_2 => ?_)
  refine va_mmin hx hb (hml.trans hl.1.symm) hown (hts (.methodLink RX4 42 Lib.Math.min.name) fwX4_findPlan_2) (hts (.static Lib.Math.min.name) fwX4_findPlan_3) (hts (.initialized "java/lang/Math") fwX4_findPlan_4) (hts (.code Lib.Math.min.name Lib.Math.min.code 2 (some .int)) fwX4_findPlan_5) (Nat.le_of_ble_eq_true rfl) (Nat.le_of_ble_eq_true rfl) (Nat.le_of_ble_eq_true rfl) (Nat.le_of_ble_eq_true rfl) dX4_findPlan_8 ?_
  refine lv_topi (fun x_3 ex_3 => ?_)
  refine va_put (D := (dC, dI)) (ci := 4) (v := .int x_3) (ty := .int) (C := RX4) (T := TX4) (N := 11) hx hb hts iwX4_findPlan_X4 tyX4 tyX4_ok nmX4 hown hK hP hD hS (1) (wl_at (by omega) (ce_1 (by decide))) rfl 2 (by decide) (hts (.fieldLink RX4 48 "QuietStairs$Planner" "seatsADay" "I") fwX4_findPlan_6) (fun _ h9 => h9) rfl (by decide +kernel) rfl rfl (Nat.le_of_ble_eq_true rfl) dX4_findPlan_11 (fun H locs hP hD hS => ?_)
  obtain ⟨v_4, ev_4⟩ : ∃ u : Nat → Nat → Int32, u = upr v (1) (upd (v (1)) 2 x_3) := ⟨_, rfl⟩
  have hP : va_P (dC, dI) vwCl (wl ad kv cy N v_4) H := by rw [ev_4, ← wl_put (e := _) (ce_1 (by decide))]; exact hP
  have hD : va_D A (wl ad kv cy N v_4) := by rw [ev_4, ← wl_put (e := _) (ce_1 (by decide))]; exact hD
  have hv : Iv v_4 := by rw [ev_4]; exact hv.put (K := 1) (by decide) (fun h q => by simp [bd] at q)
  have hfr : Fz v v_4 := by rw [ev_4]; exact hfr.put (by omega) (by omega) (by omega)
  refine lv_aload_n hx hb dX4_findPlan_14 rfl (lv_at hl 0 rfl) ?_
  refine lv_aload_n hx hb dX4_findPlan_15 rfl (lv_at hl 1 rfl) ?_
  refine yw_v (w1 := fun (u : Nat → Nat → Int32) => wl ad kv cy N u) hD hS hA (va_runV (As := [.ref (ad 13)]) (rest := []) ⟨hx, hb, hml, hown, hts⟩ (g_X4_gather l dC dI cy _ ad kv N hN v_4 hv t1 t2) (cwV 1 hts gX4_findPlan_X4_gather rfl rfl rfl hd_V_X4_gather_1 ⟨Nat.le_of_ble_eq_true rfl, Nat.le_of_ble_eq_true rfl⟩) ⟨ex_blindT, va_recv hK hP (ci := 4) (q0 := 1) rfl (wl_at (by omega) (ce_1 (by decide))), fun U hU hW => ⟨rfl, ((yw_preS (As := []) hE hK hP hD).2 U hU hW).2, hSt.go hS (yw_F hD hS hA) hU hW⟩⟩ rfl rfl hl.1 rfl (lv_room (Nat.le_of_ble_eq_true rfl)) dX4_findPlan_16 ⟨Nat.le_of_ble_eq_true rfl, Nat.le_of_ble_eq_true rfl⟩) (fun v_5 H locs hw_5 hP hD hS => ?_)
  obtain ⟨hv, hw_5⟩ := hw_5
  have hfr : Fz v v_5 := hfr.trans hw_5
  refine lv_aload_n hx hb dX4_findPlan_19 rfl (lv_at hl 0 rfl) ?_
  refine yw_v (w1 := fun (u : Nat → Nat → Int32) => wl ad kv cy N u) hD hS hA (va_runV (As := []) (rest := []) ⟨hx, hb, hml, hown, hts⟩ (g_X4_sortByWeight l dC dI cy _ ad kv N hN v_5 hv ) (cwV 0 hts gX4_findPlan_X4_sortByWeight rfl rfl rfl hd_V_X4_sortByWeight_0 ⟨Nat.le_of_ble_eq_true rfl, Nat.le_of_ble_eq_true rfl⟩) (yw_preV hE hK hP hD (ci := 4) (q0 := 1) rfl (wl_at (by omega) (ce_1 (by decide)))) rfl rfl hl.1 rfl (lv_room (Nat.le_of_ble_eq_true rfl)) dX4_findPlan_20 ⟨Nat.le_of_ble_eq_true rfl, Nat.le_of_ble_eq_true rfl⟩) (fun v_6 H locs hw_6 hP hD hS => ?_)
  obtain ⟨hv, hw_6⟩ := hw_6
  have hfr : Fz v v_6 := hfr.trans hw_6
  refine lv_aload_n hx hb dX4_findPlan_23 rfl (lv_at hl 0 rfl) ?_
  refine lv_iconst (v := 1) hx hb dX4_findPlan_24 (by decide) ?_
  refine va_put (D := (dC, dI)) (ci := 4) (v := .int 1) (ty := .int) (C := RX4) (T := TX4) (N := 11) hx hb hts iwX4_findPlan_X4 tyX4 tyX4_ok nmX4 hown hK hP hD hS (1) (wl_at (by omega) (ce_1 (by decide))) rfl 0 (by decide) (hts (.fieldLink RX4 58 "QuietStairs$Planner" "leastWait" "I") fwX4_findPlan_7) (fun _ h9 => h9) rfl (by decide +kernel) rfl rfl (Nat.le_of_ble_eq_true rfl) dX4_findPlan_25 (fun H locs hP hD hS => ?_)
  have k_1 : (1 : Int32).toInt = 1 := by decide
  obtain ⟨v_7, ev_7⟩ : ∃ u : Nat → Nat → Int32, u = upr v_6 (1) (upd (v_6 (1)) 0 1) := ⟨_, rfl⟩
  have hP : va_P (dC, dI) vwCl (wl ad kv cy N v_7) H := by rw [ev_7, ← wl_put (e := _) (ce_1 (by decide))]; exact hP
  have hD : va_D A (wl ad kv cy N v_7) := by rw [ev_7, ← wl_put (e := _) (ce_1 (by decide))]; exact hD
  have hv : Iv v_7 := by rw [ev_7]; exact hv.put (K := 1) (by decide) (fun h q => by simp [bd] at q)
  have hfr : Fz v v_7 := by rw [ev_7]; exact hfr.put (by omega) (by omega) (by omega)
  refine lv_iconst (v := 0) hx hb dX4_findPlan_28 (by decide) ?_
  refine lv_istore_n (lv' := [(3, .int 0), (0, .ref (ad 1)), (1, .ref (ad 13)), (2, .int x0)]) hx hb dX4_findPlan_29 rfl hl (by decide) rfl (fun ls hl => ?_)
  have k_0 : (0 : Int32).toInt = 0 := by decide
  have hloop_8 : ∀ (n : Nat) (y8_3 : Int32) (u8 : Nat → Nat → Int32) (H : Heap) (locs : List Loc), 0 ≤ y8_3.toInt → y8_3.toInt ≤ 4 → (4 - y8_3.toInt).toNat < n → Iv u8 → Fz v u8 → va_P (dC, dI) vwCl (wl ad kv cy N u8) H → va_D A (wl ad kv cy N u8) → va_S A s.heap H locs → ∀ ls : Array Slot, lv_has ls 4 [(3, .int y8_3), (0, .ref (ad 1)), (1, .ref (ad 13)), (2, .int x0)] → W p l e (headSpec wsX4_findPlan ({ frames := 10, cells := 0, slots := 0, locals := 640 })).room s m [Value.ref (ad 1), Value.ref (ad 13), Value.int x0].toArray below meth c H locs 0 0 (MQ below (va_Qv (fun (u : Nat → Nat → Int32) => Iv u ∧ Fz v u) (fun u t => ex_Pst dC dI A (wl ad kv cy N u) t) A) [Value.ref (ad 1), Value.ref (ad 13), Value.int x0].toArray s 0 0 A) (F0 m 30 ls []) := by
    intro n
    induction n with
    | zero =>
      intro y8_3 u8 H locs ay8_3 by8_3 hm_8 hv hfr hP hD hS ls hl
      exact absurd hm_8 (by omega)
    | succ n ih_8 =>
      intro y8_3 u8 H locs ay8_3 by8_3 hm_8 hv hfr hP hD hS ls hl
      refine lv_iload_n hx hb dX4_findPlan_30 rfl (lv_at hl 0 rfl) ?_
      refine lv_aload_n hx hb dX4_findPlan_31 rfl (lv_at hl 1 rfl) ?_
      refine va_get (D := (dC, dI)) (ci := 4) (v := .int (u8 (1) 1)) (C := RX4) (T := TX4) (N := 11) hx hb hts iwX4_findPlan_X4 hown hK hP (1) (wl_at (by omega) (ce_1 (by decide))) rfl 1 (by decide) (hts (.fieldLink RX4 61 "QuietStairs$Planner" "count" "I") fwX4_findPlan_8) (fun _ h9 => h9) rfl dX4_findPlan_32 ?_
      refine lv_topi (fun x_9 ex_9 => ?_)
      have bx_9 : 0 ≤ x_9.toInt ∧ x_9.toInt ≤ 4 := by rw [ex_9]; exact hv.at (K := 1) (by decide) rfl
      refine lv_icmp_ge (tgt := 61) hx hb dX4_findPlan_35 (by decide) (fun c_10 => ?_) (fun c_10 => ?_)
      · have tc_10 : y8_3.toInt ≥ x_9.toInt := Int32.le_iff_toInt_le.mp c_10
        refine lv_iconst (v := 0) hx hb dX4_findPlan_61 (by decide) ?_
        refine lv_istore_n (lv' := [(3, .int 0), (0, .ref (ad 1)), (1, .ref (ad 13)), (2, .int x0)]) hx hb dX4_findPlan_62 rfl hl (by decide) rfl (fun ls hl => ?_)
        have hloop_11 : ∀ (n : Nat) (y11_3 : Int32) (u11 : Nat → Nat → Int32) (H : Heap) (locs : List Loc), 0 ≤ y11_3.toInt → y11_3.toInt ≤ 3 → (3 - y11_3.toInt).toNat < n → Iv u11 → Fz v u11 → va_P (dC, dI) vwCl (wl ad kv cy N u11) H → va_D A (wl ad kv cy N u11) → va_S A s.heap H locs → ∀ ls : Array Slot, lv_has ls 4 [(3, .int y11_3), (0, .ref (ad 1)), (1, .ref (ad 13)), (2, .int x0)] → W p l e (headSpec wsX4_findPlan ({ frames := 10, cells := 0, slots := 0, locals := 640 })).room s m [Value.ref (ad 1), Value.ref (ad 13), Value.int x0].toArray below meth c H locs 0 0 (MQ below (va_Qv (fun (u : Nat → Nat → Int32) => Iv u ∧ Fz v u) (fun u t => ex_Pst dC dI A (wl ad kv cy N u) t) A) [Value.ref (ad 1), Value.ref (ad 13), Value.int x0].toArray s 0 0 A) (F0 m 63 ls []) := by
          intro n
          induction n with
          | zero =>
            intro y11_3 u11 H locs ay11_3 by11_3 hm_11 hv hfr hP hD hS ls hl
            exact absurd hm_11 (by omega)
          | succ n ih_11 =>
            intro y11_3 u11 H locs ay11_3 by11_3 hm_11 hv hfr hP hD hS ls hl
            refine lv_iload_n hx hb dX4_findPlan_63 rfl (lv_at hl 0 rfl) ?_
            refine lv_iconst (v := 3) hx hb dX4_findPlan_64 (by decide) ?_
            have k_3 : (3 : Int32).toInt = 3 := by decide
            refine lv_icmp_ge (tgt := 88) hx hb dX4_findPlan_65 (by decide) (fun c_12 => ?_) (fun c_12 => ?_)
            · have tc_12 : y11_3.toInt ≥ (3 : Int32).toInt := Int32.le_iff_toInt_le.mp c_12
              refine lv_aload_n hx hb dX4_findPlan_88 rfl (lv_at hl 1 rfl) ?_
              refine lv_iconst (v := 0) hx hb dX4_findPlan_89 (by decide) ?_
              refine lv_iconst (v := 0) hx hb dX4_findPlan_90 (by decide) ?_
              refine yw_v (w1 := fun (u : Nat → Nat → Int32) => wl ad kv cy N u) hD hS hA (va_runV (As := [.int 0, .int 0]) (rest := []) ⟨hx, hb, hml, hown, hts⟩ (g_X4_search_4 l dC dI cy _ ad kv N hN u11 hv 0 0 ⟨by omega, by omega⟩ t1 t2) (cwV 2 hts gX4_findPlan_X4_search rfl rfl rfl hd_V_X4_search_2 ⟨Nat.le_of_ble_eq_true rfl, Nat.le_of_ble_eq_true rfl⟩) ⟨ex_blindT, va_recv hK hP (ci := 4) (q0 := 1) rfl (wl_at (by omega) (ce_1 (by decide))), fun U hU hW => ⟨rfl, ((yw_preS (As := []) hE hK hP hD).2 U hU hW).2, hSt.go hS (yw_F hD hS hA) hU hW⟩⟩ rfl rfl hl.1 rfl (lv_room (Nat.le_of_ble_eq_true rfl)) dX4_findPlan_91 ⟨Nat.le_of_ble_eq_true rfl, Nat.le_of_ble_eq_true rfl⟩) (fun v_13 H locs hw_13 hP hD hS => ?_)
              obtain ⟨hv, hw_13⟩ := hw_13
              have hfr : Fz v v_13 := hfr.trans hw_13
              exact W.vret hx hb hr (fun t ht hW => ⟨⟨v_13, rfl, ⟨hv, hfr⟩, by rw [ht]; exact hP, hD⟩, hS.F ht⟩) hS.2.2 dX4_findPlan_94
            · have tc_12 : y11_3.toInt < (3 : Int32).toInt := Int32.lt_iff_toInt_lt.mp (Int32.not_le.mp c_12)
              refine lv_aload_n hx hb dX4_findPlan_68 rfl (lv_at hl 1 rfl) ?_
              refine va_get (D := (dC, dI)) (ci := 4) (v := .ref (ad 8)) (C := RX4) (T := TX4) (N := 11) hx hb hts iwX4_findPlan_X4 hown hK hP (1) (wl_at (by omega) (ce_1 (by decide))) rfl 9 (by decide) (hts (.fieldLink RX4 30 "QuietStairs$Planner" "busyBits" "[I") fwX4_findPlan_10) (fun _ h9 => h9) rfl dX4_findPlan_69 ?_
              refine lv_iload_n hx hb dX4_findPlan_72 rfl (lv_at hl 0 rfl) ?_
              refine lv_iconst (v := 0) hx hb dX4_findPlan_73 (by decide) ?_
              obtain ⟨pi13, i13, hi13, ni13, mi13⟩ := t_in (x := y11_3) (n := 3) ⟨by omega, by omega⟩
              refine va_iast hx hb hK hP hD hS (8) 0 (wl_at (by omega) (ce_18 (by decide))) rfl pi13 dX4_findPlan_74 (fun H locs hP hD hS => ?_)
              obtain ⟨v_14, ev_14⟩ : ∃ u : Nat → Nat → Int32, u = upr u11 (8) (upd (u11 (8)) (y11_3.toNatClampNeg) 0) := ⟨_, rfl⟩
              have hP : va_P (dC, dI) vwCl (wl ad kv cy N v_14) H := by rw [ev_14, ← wl_put (e := _) (ce_18 (by decide))]; exact hP
              have hD : va_D A (wl ad kv cy N v_14) := by rw [ev_14, ← wl_put (e := _) (ce_18 (by decide))]; exact hD
              have hv : Iv v_14 := by rw [ev_14]; exact hv.put (K := 18) (by decide) (fun h q => by simp [bd] at q)
              have hfr : Fz v v_14 := by rw [ev_14]; exact hfr.put (by omega) (by omega) (by omega)
              refine lv_aload_n hx hb dX4_findPlan_75 rfl (lv_at hl 1 rfl) ?_
              refine va_get (D := (dC, dI)) (ci := 4) (v := .ref (ad 9)) (C := RX4) (T := TX4) (N := 11) hx hb hts iwX4_findPlan_X4 hown hK hP (1) (wl_at (by omega) (ce_1 (by decide))) rfl 10 (by decide) (hts (.fieldLink RX4 33 "QuietStairs$Planner" "sittings" "[I") fwX4_findPlan_11) (fun _ h9 => h9) rfl dX4_findPlan_76 ?_
              refine lv_iload_n hx hb dX4_findPlan_79 rfl (lv_at hl 0 rfl) ?_
              refine lv_iconst (v := 0) hx hb dX4_findPlan_80 (by decide) ?_
              refine va_iast hx hb hK hP hD hS (9) 0 (wl_at (by omega) (ce_18 (by decide))) rfl pi13 dX4_findPlan_81 (fun H locs hP hD hS => ?_)
              obtain ⟨v_15, ev_15⟩ : ∃ u : Nat → Nat → Int32, u = upr v_14 (9) (upd (v_14 (9)) (y11_3.toNatClampNeg) 0) := ⟨_, rfl⟩
              have hP : va_P (dC, dI) vwCl (wl ad kv cy N v_15) H := by rw [ev_15, ← wl_put (e := _) (ce_18 (by decide))]; exact hP
              have hD : va_D A (wl ad kv cy N v_15) := by rw [ev_15, ← wl_put (e := _) (ce_18 (by decide))]; exact hD
              have hv : Iv v_15 := by rw [ev_15]; exact hv.put (K := 18) (by decide) (fun h q => by simp [bd] at q)
              have hfr : Fz v v_15 := by rw [ev_15]; exact hfr.put (by omega) (by omega) (by omega)
              obtain ⟨x_16, ex_16⟩ : ∃ y : Int32, y = y11_3 + 1 := ⟨_, rfl⟩
              refine lv_iinc (v := x_16) (lv' := [(3, .int x_16), (0, .ref (ad 1)), (1, .ref (ad 13)), (2, .int x0)]) hx hb dX4_findPlan_82 hl (k := 0) rfl (by rw [ex_16]; rfl) (by decide) rfl (fun ls hl => ?_)
              have tx_16 : x_16.toInt = y11_3.toInt + (1 : Int32).toInt := by rw [ex_16]; exact t_add ⟨by omega, by omega⟩
              refine lv_goto (tgt := 63) hx hb dX4_findPlan_85 (by decide) ?_
              exact ih_11 x_16 v_15 H locs (by omega) (by omega) (by omega) hv hfr hP hD hS ls (lv_sub hl [0, 1, 2, 3] rfl)
        exact hloop_11 ((3 - (0 : Int32).toInt).toNat + 1) 0 u8 _ _ (by omega) (by omega) (by omega) hv hfr hP hD hS ls hl
      · have tc_10 : y8_3.toInt < x_9.toInt := Int32.lt_iff_toInt_lt.mp (Int32.not_le.mp c_10)
        refine lv_aload_n hx hb dX4_findPlan_38 rfl (lv_at hl 1 rfl) ?_
        refine lv_dup hx hb dX4_findPlan_39 rfl ?_
        refine va_get (D := (dC, dI)) (ci := 4) (v := .int (u8 (1) 0)) (C := RX4) (T := TX4) (N := 11) hx hb hts iwX4_findPlan_X4 hown hK hP (1) (wl_at (by omega) (ce_1 (by decide))) rfl 0 (by decide) (hts (.fieldLink RX4 58 "QuietStairs$Planner" "leastWait" "I") fwX4_findPlan_7) (fun _ h9 => h9) rfl dX4_findPlan_40 ?_
        refine lv_topi (fun x_11 ex_11 => ?_)
        refine lv_iconst (v := 4) hx hb dX4_findPlan_43 (by decide) ?_
        refine lv_aload_n hx hb dX4_findPlan_44 rfl (lv_at hl 1 rfl) ?_
        refine va_get (D := (dC, dI)) (ci := 4) (v := .ref (ad 3)) (C := RX4) (T := TX4) (N := 11) hx hb hts iwX4_findPlan_X4 hown hK hP (1) (wl_at (by omega) (ce_1 (by decide))) rfl 4 (by decide) (hts (.fieldLink RX4 15 "QuietStairs$Planner" "weights" "[I") fwX4_findPlan_9) (fun _ h9 => h9) rfl dX4_findPlan_45 ?_
        refine lv_iload_n hx hb dX4_findPlan_48 rfl (lv_at hl 0 rfl) ?_
        obtain ⟨pi12, i12, hi12, ni12, mi12⟩ := t_in (x := y8_3) (n := 4) ⟨by omega, by omega⟩
        refine va_iald hx hb hK hP (3) 0 (wl_at (by omega) (ce_17 (by decide))) rfl pi12 dX4_findPlan_49 ?_
        refine lv_topi (fun x_13 ex_13 => ?_)
        refine lv_imul hx hb dX4_findPlan_50 ?_
        refine lv_topi (fun x_14 ex_14 => ?_)
        refine lv_iadd hx hb dX4_findPlan_51 ?_
        refine lv_topi (fun x_15 ex_15 => ?_)
        refine va_put (D := (dC, dI)) (ci := 4) (v := .int x_15) (ty := .int) (C := RX4) (T := TX4) (N := 11) hx hb hts iwX4_findPlan_X4 tyX4 tyX4_ok nmX4 hown hK hP hD hS (1) (wl_at (by omega) (ce_1 (by decide))) rfl 0 (by decide) (hts (.fieldLink RX4 58 "QuietStairs$Planner" "leastWait" "I") fwX4_findPlan_7) (fun _ h9 => h9) rfl (by decide +kernel) rfl rfl (Nat.le_of_ble_eq_true rfl) dX4_findPlan_52 (fun H locs hP hD hS => ?_)
        obtain ⟨v_16, ev_16⟩ : ∃ u : Nat → Nat → Int32, u = upr u8 (1) (upd (u8 (1)) 0 x_15) := ⟨_, rfl⟩
        have hP : va_P (dC, dI) vwCl (wl ad kv cy N v_16) H := by rw [ev_16, ← wl_put (e := _) (ce_1 (by decide))]; exact hP
        have hD : va_D A (wl ad kv cy N v_16) := by rw [ev_16, ← wl_put (e := _) (ce_1 (by decide))]; exact hD
        have hv : Iv v_16 := by rw [ev_16]; exact hv.put (K := 1) (by decide) (fun h q => by simp [bd] at q)
        have hfr : Fz v v_16 := by rw [ev_16]; exact hfr.put (by omega) (by omega) (by omega)
        obtain ⟨x_17, ex_17⟩ : ∃ y : Int32, y = y8_3 + 1 := ⟨_, rfl⟩
        refine lv_iinc (v := x_17) (lv' := [(3, .int x_17), (0, .ref (ad 1)), (1, .ref (ad 13)), (2, .int x0)]) hx hb dX4_findPlan_55 hl (k := 0) rfl (by rw [ex_17]; rfl) (by decide) rfl (fun ls hl => ?_)
        have tx_17 : x_17.toInt = y8_3.toInt + (1 : Int32).toInt := by rw [ex_17]; exact t_add ⟨by omega, by omega⟩
        refine lv_goto (tgt := 30) hx hb dX4_findPlan_58 (by decide) ?_
        exact ih_8 x_17 v_16 H locs (by omega) (by omega) (by omega) hv hfr hP hD hS ls (lv_sub hl [0, 1, 2, 3] rfl)
  exact hloop_8 ((4 - (0 : Int32).toInt).toNat + 1) 0 v_7 _ _ (by omega) (by omega) (by omega) hv hfr hP hD hS ls hl

set_option maxHeartbeats 4000000 in
set_option maxRecDepth 100000 in
theorem g_X7_plan (l : Launch) (dC : Nat → ClassId) (dI : Nat → Nat → Nat) (cy : Nat → ClassId) (sz : Nat) (ad : Nat → Nat) (kv : Value) (N : Nat) (hN : 119 ≤ N) (v : Nat → Nat → Int32) (hv : Iv v) (x0 : Int32) (t1 t2 : Nat) : Met l yX7_plan wsX7_plan ({ frames := 11, cells := 0, slots := 0, locals := 704 }) (va_Pc [.ref (ad 0), .int x0] (ex_PreT dC dI cy sz (wl ad kv cy N v) t1 t2)) (va_Qi (fun (r : Int32) (u : Nat → Nat → Int32) => Iv u ∧ Fz v u) (fun u t => ex_Pst dC dI (va_A (wl ad kv cy N v) sz) (wl ad kv cy N u) t) (va_A (wl ad kv cy N v) sz)) 0 0 (va_A (wl ad kv cy N v) sz) := by
  refine Met.ofW (cc := cX7_plan) (maxL := 2) (ret := (some .int)) (by decide) rfl ?_
  intro p e s m args below meth c s₁ B hml hv
  obtain ⟨rfl, ⟨hsz, hE, hP, hK, hD0⟩, hSt⟩ := hv
  have hx := B.exec
  have hb := B.bytes
  have hr := B.returns
  have hts := atoms_spec (ws := wsX7_plan) B.pre
  have hown : s.vm.findClass RX7 = some m.cls := findClass_of_methodNamed B.named
  have hlocks := B.notSynchronized
  subst hsz
  have hD := hD0.self (sz := s.heap.size)
  generalize hAe : va_A (wl ad kv cy N v) s.heap.size = A at hD hSt ⊢
  have hA : ∀ q : Nat, s.heap.size ≤ q → A q := fun q h => by rw [← hAe]; exact Or.inr h
  have hS : va_S A s.heap s.heap [] := va_S.rf
  have hP : va_P (dC, dI) vwCl (wl ad kv cy N v) s.heap := hP
  have hl := lv_entry ([.ref (ad 0), .int x0]) (n := 2) (Nat.le_of_ble_eq_true rfl)
  rw [lg_entry_eq]
  generalize (lg_sl ([.ref (ad 0), .int x0]) ++ List.replicate (2 - (lg_sl ([.ref (ad 0), .int x0])).length) Slot.unset).toArray = ls at hl ⊢
  have hl : lv_has ls 2 [(0, .ref (ad 0)), (1, .int x0)] := hl
  have hfr : Fz v v := Fz.rf
  refine lv_aload_n hx hb dX7_plan_0 rfl (lv_at hl 0 rfl) ?_
  refine lv_iload_n hx hb dX7_plan_1 rfl (lv_at hl 1 rfl) ?_
  refine yw_i (w1 := fun (u : Nat → Nat → Int32) => wl ad kv cy N u) hD hS hA (va_runV (As := [.int x0]) (rest := []) ⟨hx, hb, hml, hown, hts⟩ (g_X7_isCase l dC dI cy _ ad kv N hN v hv x0) (cwV 1 hts gX7_plan_X7_isCase rfl rfl rfl hd_V_X7_isCase_1 ⟨Nat.le_of_ble_eq_true rfl, Nat.le_of_ble_eq_true rfl⟩) (yw_preV hE hK hP hD (ci := 7) (q0 := 0) rfl (wl_at (by omega) (ce_0 (by decide)))) rfl rfl hl.1 rfl (lv_room (Nat.le_of_ble_eq_true rfl)) dX7_plan_2 ⟨Nat.le_of_ble_eq_true rfl, Nat.le_of_ble_eq_true rfl⟩) (fun r_1 v_1 H locs hw_1 hP hD hS => ?_)
  obtain ⟨hv, hw_1⟩ := hw_1
  obtain ⟨hu_1, hw_1⟩ := hw_1
  have hfr : Fz v v_1 := by rw [hu_1]; exact hfr
  rcases hw_1 with ⟨rfl, ha_2⟩ | ⟨rfl, -⟩
  · have hb_2 := hv.at (k := 13) (j := 2) (K := 3) (by decide) rfl
    have hb_2 : 0 ≤ x0.toInt ∧ x0.toInt < 6 := by omega
    refine lv_if_ne (tgt := 10) hx hb dX7_plan_5 (by decide) (fun _ => ?_) (fun c9 => absurd c9 (by decide))
    refine lv_aload_n hx hb dX7_plan_10 rfl (lv_at hl 0 rfl) ?_
    refine va_get (D := (dC, dI)) (ci := 7) (v := .ref (ad 13)) (C := RX7) (T := TX7) (N := 5) hx hb hts iwX7_plan_X7 hown hK hP (0) (wl_at (by omega) (ce_0 (by decide))) rfl 0 (by decide) (hts (.fieldLink RX7 12 "QuietStairs" "now" "LQuietStairs$House;") fwX7_plan_1) (fun _ h9 => h9) rfl dX7_plan_11 ?_
    refine va_get (D := (dC, dI)) (ci := 1) (v := .ref (ad 16)) (C := RX1) (T := TX1) (N := 7) hx hb hts iwX7_plan_X1 hown hK hP (13) (wl_at (by omega) (ce_3 (by decide))) rfl 6 (by decide) (hts (.fieldLink RX7 86 "QuietStairs$House" "cases" "[LQuietStairs$Case;") fwX7_plan_2) (fun _ h9 => h9) rfl dX7_plan_14 ?_
    refine lv_iload_n hx hb dX7_plan_17 rfl (lv_at hl 1 rfl) ?_
    obtain ⟨pi3, i3, hi3, ni3, mi3⟩ := t_in (x := x0) (n := 6) ⟨by omega, by omega⟩
    refine va_aldq hx hb hK hP (16) 3 (wl_at (by omega) (ce_6 (by decide))) rfl pi3 dX7_plan_18 ?_
    refine W.eq (g2 := F0 m 19 ls [.ref (ad (29 + 15 * i3))]) (by rw [ni3, if_pos hi3, show 16 + 13 + 15 * i3 = 29 + 15 * i3 from by omega]; rfl) ?_
    refine va_get (D := (dC, dI)) (ci := 0) (v := .int (v_1 (29 + 15 * i3) 0)) (C := RX0) (T := TX0) (N := 11) hx hb hts iwX7_plan_X0 hown hK hP (29 + 15 * i3) (wl_at (by omega) (ce_9 (kd_c i3 hi3).1.1)) rfl 0 (by decide) (hts (.fieldLink RX7 99 "QuietStairs$Case" "state" "I") fwX7_plan_3) (fun _ h9 => h9) rfl dX7_plan_19 ?_
    refine lv_topi (fun x_4 ex_4 => ?_)
    have k_0 : (0 : Int32).toInt = 0 := by decide
    refine lv_if_eq (tgt := 28) hx hb dX7_plan_22 (by decide) (fun c_5 => ?_) (fun c_5 => ?_)
    · have tc_5 : x_4.toInt = (0 : Int32).toInt := by rw [c_5]
      refine lv_aload_n hx hb dX7_plan_28 rfl (lv_at hl 0 rfl) ?_
      refine va_get (D := (dC, dI)) (ci := 7) (v := .ref (ad 1)) (C := RX7) (T := TX7) (N := 5) hx hb hts iwX7_plan_X7 hown hK hP (0) (wl_at (by omega) (ce_0 (by decide))) rfl 1 (by decide) (hts (.fieldLink RX7 19 "QuietStairs" "planner" "LQuietStairs$Planner;") fwX7_plan_4) (fun _ h9 => h9) rfl dX7_plan_29 ?_
      refine lv_aload_n hx hb dX7_plan_32 rfl (lv_at hl 0 rfl) ?_
      refine va_get (D := (dC, dI)) (ci := 7) (v := .ref (ad 13)) (C := RX7) (T := TX7) (N := 5) hx hb hts iwX7_plan_X7 hown hK hP (0) (wl_at (by omega) (ce_0 (by decide))) rfl 0 (by decide) (hts (.fieldLink RX7 12 "QuietStairs" "now" "LQuietStairs$House;") fwX7_plan_1) (fun _ h9 => h9) rfl dX7_plan_33 ?_
      refine lv_aload_n hx hb dX7_plan_36 rfl (lv_at hl 0 rfl) ?_
      refine va_get (D := (dC, dI)) (ci := 7) (v := .int (v_1 (0) 4)) (C := RX7) (T := TX7) (N := 5) hx hb hts iwX7_plan_X7 hown hK hP (0) (wl_at (by omega) (ce_0 (by decide))) rfl 4 (by decide) (hts (.fieldLink RX7 33 "QuietStairs" "roomCount" "I") fwX7_plan_5) (fun _ h9 => h9) rfl dX7_plan_37 ?_
      refine lv_topi (fun x_6 ex_6 => ?_)
      refine yw_v (w1 := fun (u : Nat → Nat → Int32) => wl ad kv cy N u) hD hS hA (va_runV (As := [.ref (ad 13), .int x_6]) (rest := []) ⟨hx, hb, hml, hown, hts⟩ (g_X4_findPlan l dC dI cy _ ad kv N hN v_1 hv x_6 t1 t2) (cwV 2 hts gX7_plan_X4_findPlan rfl rfl rfl hd_V_X4_findPlan_2 ⟨Nat.le_of_ble_eq_true rfl, Nat.le_of_ble_eq_true rfl⟩) ⟨ex_blindT, va_recv hK hP (ci := 4) (q0 := 1) rfl (wl_at (by omega) (ce_1 (by decide))), fun U hU hW => ⟨rfl, ((yw_preS (As := []) hE hK hP hD).2 U hU hW).2, hSt.go hS (yw_F hD hS hA) hU hW⟩⟩ rfl rfl hl.1 rfl (lv_room (Nat.le_of_ble_eq_true rfl)) dX7_plan_40 ⟨Nat.le_of_ble_eq_true rfl, Nat.le_of_ble_eq_true rfl⟩) (fun v_7 H locs hw_7 hP hD hS => ?_)
      obtain ⟨hv, hw_7⟩ := hw_7
      have hfr : Fz v v_7 := hfr.trans hw_7
      refine lv_aload_n hx hb dX7_plan_43 rfl (lv_at hl 0 rfl) ?_
      refine va_get (D := (dC, dI)) (ci := 7) (v := .ref (ad 1)) (C := RX7) (T := TX7) (N := 5) hx hb hts iwX7_plan_X7 hown hK hP (0) (wl_at (by omega) (ce_0 (by decide))) rfl 1 (by decide) (hts (.fieldLink RX7 19 "QuietStairs" "planner" "LQuietStairs$Planner;") fwX7_plan_4) (fun _ h9 => h9) rfl dX7_plan_44 ?_
      refine lv_iload_n hx hb dX7_plan_47 rfl (lv_at hl 1 rfl) ?_
      refine yw_i (w1 := fun (u : Nat → Nat → Int32) => wl ad kv cy N u) hD hS hA (va_runV (As := [.int x0]) (rest := []) ⟨hx, hb, hml, hown, hts⟩ (g_X4_seatOf l dC dI cy _ ad kv N hN v_7 hv x0) (cwV 1 hts gX7_plan_X4_seatOf rfl rfl rfl hd_V_X4_seatOf_1 ⟨Nat.le_of_ble_eq_true rfl, Nat.le_of_ble_eq_true rfl⟩) (yw_preV hE hK hP hD (ci := 4) (q0 := 1) rfl (wl_at (by omega) (ce_1 (by decide)))) rfl rfl hl.1 rfl (lv_room (Nat.le_of_ble_eq_true rfl)) dX7_plan_48 ⟨Nat.le_of_ble_eq_true rfl, Nat.le_of_ble_eq_true rfl⟩) (fun r_8 v_8 H locs hw_8 hP hD hS => ?_)
      obtain ⟨hv, hw_8⟩ := hw_8
      have hfr : Fz v v_8 := hfr.trans hw_8
      exact W.iret (v := r_8) hx hb hr (fun t ht hW => ⟨⟨r_8, v_8, rfl, ⟨hv, hfr⟩, by rw [ht]; exact hP, hD⟩, hS.F ht⟩) hS.2.2 dX7_plan_51
    · have tc_5 : x_4.toInt ≠ (0 : Int32).toInt := fun q => absurd (Int32.toInt_inj.mp q) c_5
      refine lv_bipush (v := (-4)) hx hb dX7_plan_25 (by decide) ?_
      exact W.iret (v := (-4)) hx hb hr (fun t ht hW => ⟨⟨(-4), v_1, rfl, ⟨hv, hfr⟩, by rw [ht]; exact hP, hD⟩, hS.F ht⟩) hS.2.2 dX7_plan_27
  · refine lv_if_ne (tgt := 10) hx hb dX7_plan_5 (by decide) (fun c9 => absurd c9 (by decide)) (fun _ => ?_)
    refine lv_iconst (v := (-1)) hx hb dX7_plan_8 (by decide) ?_
    exact W.iret (v := (-1)) hx hb hr (fun t ht hW => ⟨⟨(-1), v_1, rfl, ⟨hv, hfr⟩, by rw [ht]; exact hP, hD⟩, hS.F ht⟩) hS.2.2 dX7_plan_9

set_option maxHeartbeats 4000000 in
set_option maxRecDepth 100000 in
theorem g_X7_waits (l : Launch) (dC : Nat → ClassId) (dI : Nat → Nat → Nat) (cy : Nat → ClassId) (sz : Nat) (ad : Nat → Nat) (kv : Value) (N : Nat) (hN : 119 ≤ N) (v : Nat → Nat → Int32) (hv : Iv v)  (t1 t2 : Nat) : Met l yX7_waits wsX7_waits ({ frames := 11, cells := 0, slots := 0, locals := 704 }) (va_Pc [.ref (ad 0)] (ex_PreT dC dI cy sz (wl ad kv cy N v) t1 t2)) (va_Qi (fun (r : Int32) (u : Nat → Nat → Int32) => Iv u ∧ Fz v u) (fun u t => ex_Pst dC dI (va_A (wl ad kv cy N v) sz) (wl ad kv cy N u) t) (va_A (wl ad kv cy N v) sz)) 0 0 (va_A (wl ad kv cy N v) sz) := by
  refine Met.ofW (cc := cX7_waits) (maxL := 1) (ret := (some .int)) (by decide) rfl ?_
  intro p e s m args below meth c s₁ B hml hv
  obtain ⟨rfl, ⟨hsz, hE, hP, hK, hD0⟩, hSt⟩ := hv
  have hx := B.exec
  have hb := B.bytes
  have hr := B.returns
  have hts := atoms_spec (ws := wsX7_waits) B.pre
  have hown : s.vm.findClass RX7 = some m.cls := findClass_of_methodNamed B.named
  have hlocks := B.notSynchronized
  subst hsz
  have hD := hD0.self (sz := s.heap.size)
  generalize hAe : va_A (wl ad kv cy N v) s.heap.size = A at hD hSt ⊢
  have hA : ∀ q : Nat, s.heap.size ≤ q → A q := fun q h => by rw [← hAe]; exact Or.inr h
  have hS : va_S A s.heap s.heap [] := va_S.rf
  have hP : va_P (dC, dI) vwCl (wl ad kv cy N v) s.heap := hP
  have hl := lv_entry ([.ref (ad 0)]) (n := 1) (Nat.le_of_ble_eq_true rfl)
  rw [lg_entry_eq]
  generalize (lg_sl ([.ref (ad 0)]) ++ List.replicate (1 - (lg_sl ([.ref (ad 0)])).length) Slot.unset).toArray = ls at hl ⊢
  have hl : lv_has ls 1 [(0, .ref (ad 0))] := hl
  have hfr : Fz v v := Fz.rf
  refine lv_aload_n hx hb dX7_waits_0 rfl (lv_at hl 0 rfl) ?_
  refine va_get (D := (dC, dI)) (ci := 7) (v := .ref (ad 1)) (C := RX7) (T := TX7) (N := 5) hx hb hts iwX7_waits_X7 hown hK hP (0) (wl_at (by omega) (ce_0 (by decide))) rfl 1 (by decide) (hts (.fieldLink RX7 19 "QuietStairs" "planner" "LQuietStairs$Planner;") fwX7_waits_1) (fun _ h9 => h9) rfl dX7_waits_1 ?_
  refine lv_aload_n hx hb dX7_waits_4 rfl (lv_at hl 0 rfl) ?_
  refine va_get (D := (dC, dI)) (ci := 7) (v := .ref (ad 13)) (C := RX7) (T := TX7) (N := 5) hx hb hts iwX7_waits_X7 hown hK hP (0) (wl_at (by omega) (ce_0 (by decide))) rfl 0 (by decide) (hts (.fieldLink RX7 12 "QuietStairs" "now" "LQuietStairs$House;") fwX7_waits_2) (fun _ h9 => h9) rfl dX7_waits_5 ?_
  refine lv_aload_n hx hb dX7_waits_8 rfl (lv_at hl 0 rfl) ?_
  refine va_get (D := (dC, dI)) (ci := 7) (v := .int (v (0) 4)) (C := RX7) (T := TX7) (N := 5) hx hb hts iwX7_waits_X7 hown hK hP (0) (wl_at (by omega) (ce_0 (by decide))) rfl 4 (by decide) (hts (.fieldLink RX7 33 "QuietStairs" "roomCount" "I") fwX7_waits_3) (fun _ h9 => h9) rfl dX7_waits_9 ?_
  refine lv_topi (fun x_1 ex_1 => ?_)
  refine yw_v (w1 := fun (u : Nat → Nat → Int32) => wl ad kv cy N u) hD hS hA (va_runV (As := [.ref (ad 13), .int x_1]) (rest := []) ⟨hx, hb, hml, hown, hts⟩ (g_X4_findPlan l dC dI cy _ ad kv N hN v hv x_1 t1 t2) (cwV 2 hts gX7_waits_X4_findPlan rfl rfl rfl hd_V_X4_findPlan_2 ⟨Nat.le_of_ble_eq_true rfl, Nat.le_of_ble_eq_true rfl⟩) ⟨ex_blindT, va_recv hK hP (ci := 4) (q0 := 1) rfl (wl_at (by omega) (ce_1 (by decide))), fun U hU hW => ⟨rfl, ((yw_preS (As := []) hE hK hP hD).2 U hU hW).2, hSt.go hS (yw_F hD hS hA) hU hW⟩⟩ rfl rfl hl.1 rfl (lv_room (Nat.le_of_ble_eq_true rfl)) dX7_waits_12 ⟨Nat.le_of_ble_eq_true rfl, Nat.le_of_ble_eq_true rfl⟩) (fun v_2 H locs hw_2 hP hD hS => ?_)
  obtain ⟨hv, hw_2⟩ := hw_2
  have hfr : Fz v v_2 := hfr.trans hw_2
  refine lv_aload_n hx hb dX7_waits_15 rfl (lv_at hl 0 rfl) ?_
  refine va_get (D := (dC, dI)) (ci := 7) (v := .ref (ad 1)) (C := RX7) (T := TX7) (N := 5) hx hb hts iwX7_waits_X7 hown hK hP (0) (wl_at (by omega) (ce_0 (by decide))) rfl 1 (by decide) (hts (.fieldLink RX7 19 "QuietStairs" "planner" "LQuietStairs$Planner;") fwX7_waits_1) (fun _ h9 => h9) rfl dX7_waits_16 ?_
  refine va_get (D := (dC, dI)) (ci := 4) (v := .int (v_2 (1) 0)) (C := RX4) (T := TX4) (N := 11) hx hb hts iwX7_waits_X4 hown hK hP (1) (wl_at (by omega) (ce_1 (by decide))) rfl 0 (by decide) (hts (.fieldLink RX7 163 "QuietStairs$Planner" "leastWait" "I") fwX7_waits_4) (fun _ h9 => h9) rfl dX7_waits_19 ?_
  refine lv_topi (fun x_3 ex_3 => ?_)
  exact W.iret (v := x_3) hx hb hr (fun t ht hW => ⟨⟨x_3, v_2, rfl, ⟨hv, hfr⟩, by rw [ht]; exact hP, hD⟩, hS.F ht⟩) hS.2.2 dX7_waits_22
