set_option maxRecDepth 20000 in
theorem db_X4_search_0 : (decode cX4_search 0 = .ok (.iload_n 2, 1)) ∧ (decode cX4_search 1 = .ok (.aload_n 0, 1)) ∧ (decode cX4_search 2 = .ok (.iload_n 1, 1)) ∧ (decode cX4_search 3 = .ok (.invokevirtual 95, 3)) ∧ (decode cX4_search 6 = .ok (.iadd, 1)) ∧ (decode cX4_search 7 = .ok (.aload_n 0, 1)) ∧ (decode cX4_search 8 = .ok (.getfield 58, 3)) ∧ (decode cX4_search 11 = .ok (.if_icmp .lt 4, 3)) := by decide +kernel
theorem dX4_search_0 : decode cX4_search 0 = .ok (.iload_n 2, 1) := db_X4_search_0.1
theorem dX4_search_1 : decode cX4_search 1 = .ok (.aload_n 0, 1) := db_X4_search_0.2.1
theorem dX4_search_2 : decode cX4_search 2 = .ok (.iload_n 1, 1) := db_X4_search_0.2.2.1
set_option maxRecDepth 20000 in
theorem ggX4_search_X4_leastBehind : GoodIn wsX4_search wsX4_leastBehind := goodIn_r _ [16, 9, 2, 17, 10, 18, 11, 30, 31, 32, 33, 34, 35, 36, 37, 38, 39, 40] rfl (by decide +kernel)
set_option maxRecDepth 20000 in
theorem gX4_search_X4_leastBehind : GoodIn wsX4_search (wsV RX4 95 RX4 yX4_leastBehind wsX4_leastBehind) := goodIn_app (goodIn_r _ [12, 13, 14, 15] rfl (by decide +kernel)) ggX4_search_X4_leastBehind
theorem dX4_search_3 : decode cX4_search 3 = .ok (.invokevirtual 95, 3) := db_X4_search_0.2.2.2.1
theorem dX4_search_6 : decode cX4_search 6 = .ok (.iadd, 1) := db_X4_search_0.2.2.2.2.1
theorem dX4_search_7 : decode cX4_search 7 = .ok (.aload_n 0, 1) := db_X4_search_0.2.2.2.2.2.1
theorem dX4_search_8 : decode cX4_search 8 = .ok (.getfield 58, 3) := db_X4_search_0.2.2.2.2.2.2.1
theorem dX4_search_11 : decode cX4_search 11 = .ok (.if_icmp .lt 4, 3) := db_X4_search_0.2.2.2.2.2.2.2
set_option maxRecDepth 20000 in
theorem db_X4_search_15 : (decode cX4_search 15 = .ok (.iload_n 1, 1)) ∧ (decode cX4_search 16 = .ok (.aload_n 0, 1)) ∧ (decode cX4_search 17 = .ok (.getfield 61, 3)) ∧ (decode cX4_search 20 = .ok (.if_icmp .lt 26, 3)) ∧ (decode cX4_search 23 = .ok (.aload_n 0, 1)) ∧ (decode cX4_search 24 = .ok (.iload_n 2, 1)) ∧ (decode cX4_search 25 = .ok (.putfield 58, 3)) ∧ (decode cX4_search 28 = .ok (.aload_n 0, 1)) := by decide +kernel
theorem dX4_search_15 : decode cX4_search 15 = .ok (.iload_n 1, 1) := db_X4_search_15.1
theorem dX4_search_16 : decode cX4_search 16 = .ok (.aload_n 0, 1) := db_X4_search_15.2.1
theorem dX4_search_17 : decode cX4_search 17 = .ok (.getfield 61, 3) := db_X4_search_15.2.2.1
theorem dX4_search_20 : decode cX4_search 20 = .ok (.if_icmp .lt 26, 3) := db_X4_search_15.2.2.2.1
theorem dX4_search_23 : decode cX4_search 23 = .ok (.aload_n 0, 1) := db_X4_search_15.2.2.2.2.1
theorem dX4_search_24 : decode cX4_search 24 = .ok (.iload_n 2, 1) := db_X4_search_15.2.2.2.2.2.1
theorem dX4_search_25 : decode cX4_search 25 = .ok (.putfield 58, 3) := db_X4_search_15.2.2.2.2.2.2.1
theorem dX4_search_28 : decode cX4_search 28 = .ok (.aload_n 0, 1) := db_X4_search_15.2.2.2.2.2.2.2
set_option maxRecDepth 20000 in
theorem db_X4_search_29 : (decode cX4_search 29 = .ok (.getfield 24, 3)) ∧ (decode cX4_search 32 = .ok (.iconst 0, 1)) ∧ (decode cX4_search 33 = .ok (.aload_n 0, 1)) ∧ (decode cX4_search 34 = .ok (.getfield 27, 3)) ∧ (decode cX4_search 37 = .ok (.iconst 0, 1)) ∧ (decode cX4_search 38 = .ok (.aload_n 0, 1)) ∧ (decode cX4_search 39 = .ok (.getfield 61, 3)) ∧ (decode cX4_search 42 = .ok (.invokestatic 99, 3)) := by decide +kernel
theorem dX4_search_29 : decode cX4_search 29 = .ok (.getfield 24, 3) := db_X4_search_29.1
theorem dX4_search_32 : decode cX4_search 32 = .ok (.iconst 0, 1) := db_X4_search_29.2.1
theorem dX4_search_33 : decode cX4_search 33 = .ok (.aload_n 0, 1) := db_X4_search_29.2.2.1
theorem dX4_search_34 : decode cX4_search 34 = .ok (.getfield 27, 3) := db_X4_search_29.2.2.2.1
theorem dX4_search_37 : decode cX4_search 37 = .ok (.iconst 0, 1) := db_X4_search_29.2.2.2.2.1
theorem dX4_search_38 : decode cX4_search 38 = .ok (.aload_n 0, 1) := db_X4_search_29.2.2.2.2.2.1
theorem dX4_search_39 : decode cX4_search 39 = .ok (.getfield 61, 3) := db_X4_search_29.2.2.2.2.2.2.1
theorem dX4_search_42 : decode cX4_search 42 = .ok (.invokestatic 99, 3) := db_X4_search_29.2.2.2.2.2.2.2
set_option maxRecDepth 20000 in
theorem db_X4_search_45 : (decode cX4_search 45 = .ok (.return_, 1)) ∧ (decode cX4_search 14 = .ok (.return_, 1)) ∧ (decode cX4_search 46 = .ok (.iconst 0, 1)) ∧ (decode cX4_search 47 = .ok (.istore_n 3, 1)) ∧ (decode cX4_search 48 = .ok (.iload_n 3, 1)) ∧ (decode cX4_search 49 = .ok (.iconst 3, 1)) ∧ (decode cX4_search 50 = .ok (.if_icmp .ge 38, 3)) ∧ (decode cX4_search 88 = .ok (.aload_n 0, 1)) := by decide +kernel
theorem dX4_search_45 : decode cX4_search 45 = .ok (.return_, 1) := db_X4_search_45.1
theorem dX4_search_14 : decode cX4_search 14 = .ok (.return_, 1) := db_X4_search_45.2.1
set_option maxRecDepth 20000 in
theorem db_X4_searchDay_0 : (decode cX4_searchDay 0 = .ok (.iconst 0, 1)) ∧ (decode cX4_searchDay 1 = .ok (.istore 4, 2)) ∧ (decode cX4_searchDay 3 = .ok (.iload 4, 2)) ∧ (decode cX4_searchDay 5 = .ok (.bipush 6, 2)) ∧ (decode cX4_searchDay 7 = .ok (.if_icmp .ge 117, 3)) ∧ (decode cX4_searchDay 124 = .ok (.return_, 1)) ∧ (decode cX4_searchDay 10 = .ok (.iconst 1, 1)) ∧ (decode cX4_searchDay 11 = .ok (.getstatic 109, 3)) := by decide +kernel
theorem dX4_searchDay_0 : decode cX4_searchDay 0 = .ok (.iconst 0, 1) := db_X4_searchDay_0.1
theorem dX4_searchDay_1 : decode cX4_searchDay 1 = .ok (.istore 4, 2) := db_X4_searchDay_0.2.1
theorem dX4_searchDay_3 : decode cX4_searchDay 3 = .ok (.iload 4, 2) := db_X4_searchDay_0.2.2.1
theorem dX4_searchDay_5 : decode cX4_searchDay 5 = .ok (.bipush 6, 2) := db_X4_searchDay_0.2.2.2.1
theorem dX4_searchDay_7 : decode cX4_searchDay 7 = .ok (.if_icmp .ge 117, 3) := db_X4_searchDay_0.2.2.2.2.1
theorem dX4_searchDay_124 : decode cX4_searchDay 124 = .ok (.return_, 1) := db_X4_searchDay_0.2.2.2.2.2.1
theorem dX4_searchDay_10 : decode cX4_searchDay 10 = .ok (.iconst 1, 1) := db_X4_searchDay_0.2.2.2.2.2.2.1
theorem dX4_searchDay_11 : decode cX4_searchDay 11 = .ok (.getstatic 109, 3) := db_X4_searchDay_0.2.2.2.2.2.2.2
set_option maxRecDepth 20000 in
theorem db_X4_searchDay_14 : (decode cX4_searchDay 14 = .ok (.iload 4, 2)) ∧ (decode cX4_searchDay 16 = .ok (.iaload, 1)) ∧ (decode cX4_searchDay 17 = .ok (.ishl, 1)) ∧ (decode cX4_searchDay 18 = .ok (.iconst 1, 1)) ∧ (decode cX4_searchDay 19 = .ok (.getstatic 112, 3)) ∧ (decode cX4_searchDay 22 = .ok (.iload 4, 2)) ∧ (decode cX4_searchDay 24 = .ok (.iaload, 1)) ∧ (decode cX4_searchDay 25 = .ok (.ishl, 1)) := by decide +kernel
theorem dX4_searchDay_14 : decode cX4_searchDay 14 = .ok (.iload 4, 2) := db_X4_searchDay_14.1
theorem dX4_searchDay_16 : decode cX4_searchDay 16 = .ok (.iaload, 1) := db_X4_searchDay_14.2.1
theorem dX4_searchDay_17 : decode cX4_searchDay 17 = .ok (.ishl, 1) := db_X4_searchDay_14.2.2.1
theorem dX4_searchDay_18 : decode cX4_searchDay 18 = .ok (.iconst 1, 1) := db_X4_searchDay_14.2.2.2.1
theorem dX4_searchDay_19 : decode cX4_searchDay 19 = .ok (.getstatic 112, 3) := db_X4_searchDay_14.2.2.2.2.1
theorem dX4_searchDay_22 : decode cX4_searchDay 22 = .ok (.iload 4, 2) := db_X4_searchDay_14.2.2.2.2.2.1
theorem dX4_searchDay_24 : decode cX4_searchDay 24 = .ok (.iaload, 1) := db_X4_searchDay_14.2.2.2.2.2.2.1
theorem dX4_searchDay_25 : decode cX4_searchDay 25 = .ok (.ishl, 1) := db_X4_searchDay_14.2.2.2.2.2.2.2
set_option maxRecDepth 20000 in
theorem db_X4_searchDay_26 : (decode cX4_searchDay 26 = .ok (.ior, 1)) ∧ (decode cX4_searchDay 27 = .ok (.istore 5, 2)) ∧ (decode cX4_searchDay 29 = .ok (.aload_n 0, 1)) ∧ (decode cX4_searchDay 30 = .ok (.getfield 18, 3)) ∧ (decode cX4_searchDay 33 = .ok (.iload_n 1, 1)) ∧ (decode cX4_searchDay 34 = .ok (.iaload, 1)) ∧ (decode cX4_searchDay 35 = .ok (.iload 4, 2)) ∧ (decode cX4_searchDay 37 = .ok (.invokestatic 115, 3)) := by decide +kernel
theorem dX4_searchDay_26 : decode cX4_searchDay 26 = .ok (.ior, 1) := db_X4_searchDay_26.1
theorem dX4_searchDay_27 : decode cX4_searchDay 27 = .ok (.istore 5, 2) := db_X4_searchDay_26.2.1
theorem dX4_searchDay_29 : decode cX4_searchDay 29 = .ok (.aload_n 0, 1) := db_X4_searchDay_26.2.2.1
theorem dX4_searchDay_30 : decode cX4_searchDay 30 = .ok (.getfield 18, 3) := db_X4_searchDay_26.2.2.2.1
theorem dX4_searchDay_33 : decode cX4_searchDay 33 = .ok (.iload_n 1, 1) := db_X4_searchDay_26.2.2.2.2.1
theorem dX4_searchDay_34 : decode cX4_searchDay 34 = .ok (.iaload, 1) := db_X4_searchDay_26.2.2.2.2.2.1
theorem dX4_searchDay_35 : decode cX4_searchDay 35 = .ok (.iload 4, 2) := db_X4_searchDay_26.2.2.2.2.2.2.1
set_option maxRecDepth 20000 in
theorem ggX4_searchDay_X7_hasBit : GoodIn wsX4_searchDay wsX7_hasBit := goodIn_r _ [7] rfl (by decide +kernel)
set_option maxRecDepth 20000 in
theorem gX4_searchDay_X7_hasBit_n115 : GoodIn wsX4_searchDay (wsX7_hasBit) := ggX4_searchDay_X7_hasBit
theorem dX4_searchDay_37 : decode cX4_searchDay 37 = .ok (.invokestatic 115, 3) := db_X4_searchDay_26.2.2.2.2.2.2.2
set_option maxRecDepth 20000 in
theorem db_X4_searchDay_40 : (decode cX4_searchDay 40 = .ok (.ifCond .eq 78, 3)) ∧ (decode cX4_searchDay 118 = .ok (.iinc 4 1, 3)) ∧ (decode cX4_searchDay 121 = .ok (.goto (-118), 3)) ∧ (decode cX4_searchDay 43 = .ok (.aload_n 0, 1)) ∧ (decode cX4_searchDay 44 = .ok (.getfield 30, 3)) ∧ (decode cX4_searchDay 47 = .ok (.iload_n 3, 1)) ∧ (decode cX4_searchDay 48 = .ok (.iaload, 1)) ∧ (decode cX4_searchDay 49 = .ok (.iload 5, 2)) := by decide +kernel
theorem dX4_searchDay_40 : decode cX4_searchDay 40 = .ok (.ifCond .eq 78, 3) := db_X4_searchDay_40.1
theorem dX4_searchDay_118 : decode cX4_searchDay 118 = .ok (.iinc 4 1, 3) := db_X4_searchDay_40.2.1
theorem dX4_searchDay_121 : decode cX4_searchDay 121 = .ok (.goto (-118), 3) := db_X4_searchDay_40.2.2.1
theorem dX4_searchDay_43 : decode cX4_searchDay 43 = .ok (.aload_n 0, 1) := db_X4_searchDay_40.2.2.2.1
theorem dX4_searchDay_44 : decode cX4_searchDay 44 = .ok (.getfield 30, 3) := db_X4_searchDay_40.2.2.2.2.1
theorem dX4_searchDay_47 : decode cX4_searchDay 47 = .ok (.iload_n 3, 1) := db_X4_searchDay_40.2.2.2.2.2.1
theorem dX4_searchDay_48 : decode cX4_searchDay 48 = .ok (.iaload, 1) := db_X4_searchDay_40.2.2.2.2.2.2.1
theorem dX4_searchDay_49 : decode cX4_searchDay 49 = .ok (.iload 5, 2) := db_X4_searchDay_40.2.2.2.2.2.2.2
set_option maxRecDepth 20000 in
theorem db_X4_searchDay_51 : (decode cX4_searchDay 51 = .ok (.iand, 1)) ∧ (decode cX4_searchDay 52 = .ok (.ifCond .ne 66, 3)) ∧ (decode cX4_searchDay 55 = .ok (.aload_n 0, 1)) ∧ (decode cX4_searchDay 56 = .ok (.getfield 24, 3)) ∧ (decode cX4_searchDay 59 = .ok (.iload_n 1, 1)) ∧ (decode cX4_searchDay 60 = .ok (.bipush 6, 2)) ∧ (decode cX4_searchDay 62 = .ok (.iload_n 3, 1)) ∧ (decode cX4_searchDay 63 = .ok (.imul, 1)) := by decide +kernel
theorem dX4_searchDay_51 : decode cX4_searchDay 51 = .ok (.iand, 1) := db_X4_searchDay_51.1
theorem dX4_searchDay_52 : decode cX4_searchDay 52 = .ok (.ifCond .ne 66, 3) := db_X4_searchDay_51.2.1
theorem dX4_searchDay_55 : decode cX4_searchDay 55 = .ok (.aload_n 0, 1) := db_X4_searchDay_51.2.2.1
theorem dX4_searchDay_56 : decode cX4_searchDay 56 = .ok (.getfield 24, 3) := db_X4_searchDay_51.2.2.2.1
theorem dX4_searchDay_59 : decode cX4_searchDay 59 = .ok (.iload_n 1, 1) := db_X4_searchDay_51.2.2.2.2.1
theorem dX4_searchDay_60 : decode cX4_searchDay 60 = .ok (.bipush 6, 2) := db_X4_searchDay_51.2.2.2.2.2.1
theorem dX4_searchDay_62 : decode cX4_searchDay 62 = .ok (.iload_n 3, 1) := db_X4_searchDay_51.2.2.2.2.2.2.1
theorem dX4_searchDay_63 : decode cX4_searchDay 63 = .ok (.imul, 1) := db_X4_searchDay_51.2.2.2.2.2.2.2
set_option maxRecDepth 20000 in
theorem db_X4_searchDay_64 : (decode cX4_searchDay 64 = .ok (.iload 4, 2)) ∧ (decode cX4_searchDay 66 = .ok (.iadd, 1)) ∧ (decode cX4_searchDay 67 = .ok (.iastore, 1)) ∧ (decode cX4_searchDay 68 = .ok (.aload_n 0, 1)) ∧ (decode cX4_searchDay 69 = .ok (.getfield 30, 3)) ∧ (decode cX4_searchDay 72 = .ok (.iload_n 3, 1)) ∧ (decode cX4_searchDay 73 = .ok (.dup2, 1)) ∧ (decode cX4_searchDay 74 = .ok (.iaload, 1)) := by decide +kernel
theorem dX4_searchDay_64 : decode cX4_searchDay 64 = .ok (.iload 4, 2) := db_X4_searchDay_64.1
theorem dX4_searchDay_66 : decode cX4_searchDay 66 = .ok (.iadd, 1) := db_X4_searchDay_64.2.1
theorem dX4_searchDay_67 : decode cX4_searchDay 67 = .ok (.iastore, 1) := db_X4_searchDay_64.2.2.1
theorem dX4_searchDay_68 : decode cX4_searchDay 68 = .ok (.aload_n 0, 1) := db_X4_searchDay_64.2.2.2.1
theorem dX4_searchDay_69 : decode cX4_searchDay 69 = .ok (.getfield 30, 3) := db_X4_searchDay_64.2.2.2.2.1
theorem dX4_searchDay_72 : decode cX4_searchDay 72 = .ok (.iload_n 3, 1) := db_X4_searchDay_64.2.2.2.2.2.1
theorem dX4_searchDay_73 : decode cX4_searchDay 73 = .ok (.dup2, 1) := db_X4_searchDay_64.2.2.2.2.2.2.1
theorem dX4_searchDay_74 : decode cX4_searchDay 74 = .ok (.iaload, 1) := db_X4_searchDay_64.2.2.2.2.2.2.2
set_option maxRecDepth 20000 in
theorem db_X4_searchDay_75 : (decode cX4_searchDay 75 = .ok (.iload 5, 2)) ∧ (decode cX4_searchDay 77 = .ok (.ior, 1)) ∧ (decode cX4_searchDay 78 = .ok (.iastore, 1)) ∧ (decode cX4_searchDay 79 = .ok (.aload_n 0, 1)) ∧ (decode cX4_searchDay 80 = .ok (.getfield 33, 3)) ∧ (decode cX4_searchDay 83 = .ok (.iload_n 3, 1)) ∧ (decode cX4_searchDay 84 = .ok (.dup2, 1)) ∧ (decode cX4_searchDay 85 = .ok (.iaload, 1)) := by decide +kernel
theorem dX4_searchDay_75 : decode cX4_searchDay 75 = .ok (.iload 5, 2) := db_X4_searchDay_75.1
theorem dX4_searchDay_77 : decode cX4_searchDay 77 = .ok (.ior, 1) := db_X4_searchDay_75.2.1
theorem dX4_searchDay_78 : decode cX4_searchDay 78 = .ok (.iastore, 1) := db_X4_searchDay_75.2.2.1
theorem dX4_searchDay_79 : decode cX4_searchDay 79 = .ok (.aload_n 0, 1) := db_X4_searchDay_75.2.2.2.1
theorem dX4_searchDay_80 : decode cX4_searchDay 80 = .ok (.getfield 33, 3) := db_X4_searchDay_75.2.2.2.2.1
theorem dX4_searchDay_83 : decode cX4_searchDay 83 = .ok (.iload_n 3, 1) := db_X4_searchDay_75.2.2.2.2.2.1
theorem dX4_searchDay_84 : decode cX4_searchDay 84 = .ok (.dup2, 1) := db_X4_searchDay_75.2.2.2.2.2.2.1
theorem dX4_searchDay_85 : decode cX4_searchDay 85 = .ok (.iaload, 1) := db_X4_searchDay_75.2.2.2.2.2.2.2
set_option maxRecDepth 20000 in
theorem db_X4_searchDay_86 : (decode cX4_searchDay 86 = .ok (.iconst 1, 1)) ∧ (decode cX4_searchDay 87 = .ok (.iadd, 1)) ∧ (decode cX4_searchDay 88 = .ok (.iastore, 1)) ∧ (decode cX4_searchDay 89 = .ok (.aload_n 0, 1)) ∧ (decode cX4_searchDay 90 = .ok (.iload_n 1, 1)) ∧ (decode cX4_searchDay 91 = .ok (.iconst 1, 1)) ∧ (decode cX4_searchDay 92 = .ok (.iadd, 1)) ∧ (decode cX4_searchDay 93 = .ok (.iload_n 2, 1)) := by decide +kernel
theorem dX4_searchDay_86 : decode cX4_searchDay 86 = .ok (.iconst 1, 1) := db_X4_searchDay_86.1
theorem dX4_searchDay_87 : decode cX4_searchDay 87 = .ok (.iadd, 1) := db_X4_searchDay_86.2.1
theorem dX4_searchDay_88 : decode cX4_searchDay 88 = .ok (.iastore, 1) := db_X4_searchDay_86.2.2.1
theorem dX4_searchDay_89 : decode cX4_searchDay 89 = .ok (.aload_n 0, 1) := db_X4_searchDay_86.2.2.2.1
theorem dX4_searchDay_90 : decode cX4_searchDay 90 = .ok (.iload_n 1, 1) := db_X4_searchDay_86.2.2.2.2.1
theorem dX4_searchDay_91 : decode cX4_searchDay 91 = .ok (.iconst 1, 1) := db_X4_searchDay_86.2.2.2.2.2.1
theorem dX4_searchDay_92 : decode cX4_searchDay 92 = .ok (.iadd, 1) := db_X4_searchDay_86.2.2.2.2.2.2.1
theorem dX4_searchDay_93 : decode cX4_searchDay 93 = .ok (.iload_n 2, 1) := db_X4_searchDay_86.2.2.2.2.2.2.2
set_option maxRecDepth 20000 in
theorem ggX4_searchDay_X4_search : GoodIn wsX4_searchDay wsX4_search := goodIn_r _ [12, 13, 14, 3, 15, 16, 17, 18, 19, 4, 20, 21, 22, 23, 24, 11, 25, 26, 1, 27, 28, 29, 8, 9, 10, 0, 2, 5, 6, 7, 30, 31, 32, 33, 34, 35, 36, 37, 38, 39, 40] rfl (by decide +kernel)
set_option maxRecDepth 20000 in
theorem gX4_searchDay_X4_search : GoodIn wsX4_searchDay (wsV RX4 64 RX4 yX4_search wsX4_search) := goodIn_app (goodIn_r _ [8, 9, 10, 11] rfl (by decide +kernel)) ggX4_searchDay_X4_search
set_option maxRecDepth 20000 in
theorem db_X4_searchDay_94 : (decode cX4_searchDay 94 = .ok (.invokevirtual 64, 3)) ∧ (decode cX4_searchDay 97 = .ok (.aload_n 0, 1)) ∧ (decode cX4_searchDay 98 = .ok (.getfield 33, 3)) ∧ (decode cX4_searchDay 101 = .ok (.iload_n 3, 1)) ∧ (decode cX4_searchDay 102 = .ok (.dup2, 1)) ∧ (decode cX4_searchDay 103 = .ok (.iaload, 1)) ∧ (decode cX4_searchDay 104 = .ok (.iconst 1, 1)) ∧ (decode cX4_searchDay 105 = .ok (.isub, 1)) := by decide +kernel
theorem dX4_searchDay_94 : decode cX4_searchDay 94 = .ok (.invokevirtual 64, 3) := db_X4_searchDay_94.1
theorem dX4_searchDay_97 : decode cX4_searchDay 97 = .ok (.aload_n 0, 1) := db_X4_searchDay_94.2.1
theorem dX4_searchDay_98 : decode cX4_searchDay 98 = .ok (.getfield 33, 3) := db_X4_searchDay_94.2.2.1
theorem dX4_searchDay_101 : decode cX4_searchDay 101 = .ok (.iload_n 3, 1) := db_X4_searchDay_94.2.2.2.1
theorem dX4_searchDay_102 : decode cX4_searchDay 102 = .ok (.dup2, 1) := db_X4_searchDay_94.2.2.2.2.1
theorem dX4_searchDay_103 : decode cX4_searchDay 103 = .ok (.iaload, 1) := db_X4_searchDay_94.2.2.2.2.2.1
theorem dX4_searchDay_104 : decode cX4_searchDay 104 = .ok (.iconst 1, 1) := db_X4_searchDay_94.2.2.2.2.2.2.1
theorem dX4_searchDay_105 : decode cX4_searchDay 105 = .ok (.isub, 1) := db_X4_searchDay_94.2.2.2.2.2.2.2
set_option maxRecDepth 20000 in
theorem db_X4_searchDay_106 : (decode cX4_searchDay 106 = .ok (.iastore, 1)) ∧ (decode cX4_searchDay 107 = .ok (.aload_n 0, 1)) ∧ (decode cX4_searchDay 108 = .ok (.getfield 30, 3)) ∧ (decode cX4_searchDay 111 = .ok (.iload_n 3, 1)) ∧ (decode cX4_searchDay 112 = .ok (.dup2, 1)) ∧ (decode cX4_searchDay 113 = .ok (.iaload, 1)) ∧ (decode cX4_searchDay 114 = .ok (.iload 5, 2)) ∧ (decode cX4_searchDay 116 = .ok (.ixor, 1)) := by decide +kernel
theorem dX4_searchDay_106 : decode cX4_searchDay 106 = .ok (.iastore, 1) := db_X4_searchDay_106.1
theorem dX4_searchDay_107 : decode cX4_searchDay 107 = .ok (.aload_n 0, 1) := db_X4_searchDay_106.2.1
theorem dX4_searchDay_108 : decode cX4_searchDay 108 = .ok (.getfield 30, 3) := db_X4_searchDay_106.2.2.1
theorem dX4_searchDay_111 : decode cX4_searchDay 111 = .ok (.iload_n 3, 1) := db_X4_searchDay_106.2.2.2.1
theorem dX4_searchDay_112 : decode cX4_searchDay 112 = .ok (.dup2, 1) := db_X4_searchDay_106.2.2.2.2.1
theorem dX4_searchDay_113 : decode cX4_searchDay 113 = .ok (.iaload, 1) := db_X4_searchDay_106.2.2.2.2.2.1
theorem dX4_searchDay_114 : decode cX4_searchDay 114 = .ok (.iload 5, 2) := db_X4_searchDay_106.2.2.2.2.2.2.1
theorem dX4_searchDay_116 : decode cX4_searchDay 116 = .ok (.ixor, 1) := db_X4_searchDay_106.2.2.2.2.2.2.2
theorem dX4_searchDay_117 : decode cX4_searchDay 117 = .ok (.iastore, 1) := by decide +kernel
theorem dX4_search_46 : decode cX4_search 46 = .ok (.iconst 0, 1) := db_X4_search_45.2.2.1
theorem dX4_search_47 : decode cX4_search 47 = .ok (.istore_n 3, 1) := db_X4_search_45.2.2.2.1
theorem dX4_search_48 : decode cX4_search 48 = .ok (.iload_n 3, 1) := db_X4_search_45.2.2.2.2.1
theorem dX4_search_49 : decode cX4_search 49 = .ok (.iconst 3, 1) := db_X4_search_45.2.2.2.2.2.1
theorem dX4_search_50 : decode cX4_search 50 = .ok (.if_icmp .ge 38, 3) := db_X4_search_45.2.2.2.2.2.2.1
theorem dX4_search_88 : decode cX4_search 88 = .ok (.aload_n 0, 1) := db_X4_search_45.2.2.2.2.2.2.2
set_option maxRecDepth 20000 in
theorem db_X4_search_89 : (decode cX4_search 89 = .ok (.getfield 24, 3)) ∧ (decode cX4_search 92 = .ok (.iload_n 1, 1)) ∧ (decode cX4_search 93 = .ok (.bipush 18, 2)) ∧ (decode cX4_search 95 = .ok (.iastore, 1)) ∧ (decode cX4_search 96 = .ok (.aload_n 0, 1)) ∧ (decode cX4_search 97 = .ok (.iload_n 1, 1)) ∧ (decode cX4_search 98 = .ok (.iconst 1, 1)) ∧ (decode cX4_search 99 = .ok (.iadd, 1)) := by decide +kernel
theorem dX4_search_89 : decode cX4_search 89 = .ok (.getfield 24, 3) := db_X4_search_89.1
theorem dX4_search_92 : decode cX4_search 92 = .ok (.iload_n 1, 1) := db_X4_search_89.2.1
theorem dX4_search_93 : decode cX4_search 93 = .ok (.bipush 18, 2) := db_X4_search_89.2.2.1
theorem dX4_search_95 : decode cX4_search 95 = .ok (.iastore, 1) := db_X4_search_89.2.2.2.1
theorem dX4_search_96 : decode cX4_search 96 = .ok (.aload_n 0, 1) := db_X4_search_89.2.2.2.2.1
theorem dX4_search_97 : decode cX4_search 97 = .ok (.iload_n 1, 1) := db_X4_search_89.2.2.2.2.2.1
theorem dX4_search_98 : decode cX4_search 98 = .ok (.iconst 1, 1) := db_X4_search_89.2.2.2.2.2.2.1
theorem dX4_search_99 : decode cX4_search 99 = .ok (.iadd, 1) := db_X4_search_89.2.2.2.2.2.2.2
set_option maxRecDepth 20000 in
theorem db_X4_search_100 : (decode cX4_search 100 = .ok (.iload_n 2, 1)) ∧ (decode cX4_search 101 = .ok (.aload_n 0, 1)) ∧ (decode cX4_search 102 = .ok (.getfield 15, 3)) ∧ (decode cX4_search 105 = .ok (.iload_n 1, 1)) ∧ (decode cX4_search 106 = .ok (.iaload, 1)) ∧ (decode cX4_search 107 = .ok (.iconst 4, 1)) ∧ (decode cX4_search 108 = .ok (.imul, 1)) ∧ (decode cX4_search 109 = .ok (.iadd, 1)) := by decide +kernel
theorem dX4_search_100 : decode cX4_search 100 = .ok (.iload_n 2, 1) := db_X4_search_100.1
theorem dX4_search_101 : decode cX4_search 101 = .ok (.aload_n 0, 1) := db_X4_search_100.2.1
theorem dX4_search_102 : decode cX4_search 102 = .ok (.getfield 15, 3) := db_X4_search_100.2.2.1
theorem dX4_search_105 : decode cX4_search 105 = .ok (.iload_n 1, 1) := db_X4_search_100.2.2.2.1
theorem dX4_search_106 : decode cX4_search 106 = .ok (.iaload, 1) := db_X4_search_100.2.2.2.2.1
theorem dX4_search_107 : decode cX4_search 107 = .ok (.iconst 4, 1) := db_X4_search_100.2.2.2.2.2.1
theorem dX4_search_108 : decode cX4_search 108 = .ok (.imul, 1) := db_X4_search_100.2.2.2.2.2.2.1
theorem dX4_search_109 : decode cX4_search 109 = .ok (.iadd, 1) := db_X4_search_100.2.2.2.2.2.2.2
set_option maxRecDepth 20000 in
theorem ggX4_search_X4_search : GoodIn wsX4_search wsX4_search := goodIn_r _ [0, 1, 2, 3, 4, 5, 6, 7, 8, 9, 10, 11, 12, 13, 14, 15, 16, 17, 18, 19, 20, 21, 22, 23, 24, 25, 26, 27, 28, 29, 30, 31, 32, 33, 34, 35, 36, 37, 38, 39, 40] rfl (by decide +kernel)
set_option maxRecDepth 20000 in
theorem gX4_search_X4_search : GoodIn wsX4_search (wsV RX4 64 RX4 yX4_search wsX4_search) := goodIn_app (goodIn_r _ [22, 23, 24, 15] rfl (by decide +kernel)) ggX4_search_X4_search
set_option maxRecDepth 20000 in
theorem db_X4_search_110 : (decode cX4_search 110 = .ok (.invokevirtual 64, 3)) ∧ (decode cX4_search 113 = .ok (.return_, 1)) ∧ (decode cX4_search 53 = .ok (.aload_n 0, 1)) ∧ (decode cX4_search 54 = .ok (.getfield 33, 3)) ∧ (decode cX4_search 57 = .ok (.iload_n 3, 1)) ∧ (decode cX4_search 58 = .ok (.iaload, 1)) ∧ (decode cX4_search 59 = .ok (.aload_n 0, 1)) ∧ (decode cX4_search 60 = .ok (.getfield 48, 3)) := by decide +kernel
theorem dX4_search_110 : decode cX4_search 110 = .ok (.invokevirtual 64, 3) := db_X4_search_110.1
theorem dX4_search_113 : decode cX4_search 113 = .ok (.return_, 1) := db_X4_search_110.2.1
theorem dX4_search_53 : decode cX4_search 53 = .ok (.aload_n 0, 1) := db_X4_search_110.2.2.1
theorem dX4_search_54 : decode cX4_search 54 = .ok (.getfield 33, 3) := db_X4_search_110.2.2.2.1
theorem dX4_search_57 : decode cX4_search 57 = .ok (.iload_n 3, 1) := db_X4_search_110.2.2.2.2.1
theorem dX4_search_58 : decode cX4_search 58 = .ok (.iaload, 1) := db_X4_search_110.2.2.2.2.2.1
theorem dX4_search_59 : decode cX4_search 59 = .ok (.aload_n 0, 1) := db_X4_search_110.2.2.2.2.2.2.1
theorem dX4_search_60 : decode cX4_search 60 = .ok (.getfield 48, 3) := db_X4_search_110.2.2.2.2.2.2.2
set_option maxRecDepth 20000 in
theorem db_X4_search_63 : (decode cX4_search 63 = .ok (.if_icmp .ge 19, 3)) ∧ (decode cX4_search 82 = .ok (.iinc 3 1, 3)) ∧ (decode cX4_search 85 = .ok (.goto (-37), 3)) ∧ (decode cX4_search 66 = .ok (.aload_n 0, 1)) ∧ (decode cX4_search 67 = .ok (.iload_n 1, 1)) ∧ (decode cX4_search 68 = .ok (.iload_n 2, 1)) ∧ (decode cX4_search 69 = .ok (.aload_n 0, 1)) ∧ (decode cX4_search 70 = .ok (.getfield 15, 3)) := by decide +kernel
theorem dX4_search_63 : decode cX4_search 63 = .ok (.if_icmp .ge 19, 3) := db_X4_search_63.1
theorem dX4_search_82 : decode cX4_search 82 = .ok (.iinc 3 1, 3) := db_X4_search_63.2.1
theorem dX4_search_85 : decode cX4_search 85 = .ok (.goto (-37), 3) := db_X4_search_63.2.2.1
theorem dX4_search_66 : decode cX4_search 66 = .ok (.aload_n 0, 1) := db_X4_search_63.2.2.2.1
theorem dX4_search_67 : decode cX4_search 67 = .ok (.iload_n 1, 1) := db_X4_search_63.2.2.2.2.1
theorem dX4_search_68 : decode cX4_search 68 = .ok (.iload_n 2, 1) := db_X4_search_63.2.2.2.2.2.1
theorem dX4_search_69 : decode cX4_search 69 = .ok (.aload_n 0, 1) := db_X4_search_63.2.2.2.2.2.2.1
theorem dX4_search_70 : decode cX4_search 70 = .ok (.getfield 15, 3) := db_X4_search_63.2.2.2.2.2.2.2
set_option maxRecDepth 20000 in
theorem db_X4_search_73 : (decode cX4_search 73 = .ok (.iload_n 1, 1)) ∧ (decode cX4_search 74 = .ok (.iaload, 1)) ∧ (decode cX4_search 75 = .ok (.iload_n 3, 1)) ∧ (decode cX4_search 76 = .ok (.imul, 1)) ∧ (decode cX4_search 77 = .ok (.iadd, 1)) ∧ (decode cX4_search 78 = .ok (.iload_n 3, 1)) ∧ (decode cX4_search 79 = .ok (.invokevirtual 105, 3)) := by decide +kernel
theorem dX4_search_73 : decode cX4_search 73 = .ok (.iload_n 1, 1) := db_X4_search_73.1
theorem dX4_search_74 : decode cX4_search 74 = .ok (.iaload, 1) := db_X4_search_73.2.1
theorem dX4_search_75 : decode cX4_search 75 = .ok (.iload_n 3, 1) := db_X4_search_73.2.2.1
theorem dX4_search_76 : decode cX4_search 76 = .ok (.imul, 1) := db_X4_search_73.2.2.2.1
theorem dX4_search_77 : decode cX4_search 77 = .ok (.iadd, 1) := db_X4_search_73.2.2.2.2.1
theorem dX4_search_78 : decode cX4_search 78 = .ok (.iload_n 3, 1) := db_X4_search_73.2.2.2.2.2.1
set_option maxRecDepth 20000 in
theorem ggX4_search_X4_searchDay : GoodIn wsX4_search wsX4_searchDay := goodIn_r _ [25, 18, 26, 3, 9, 27, 28, 29, 22, 23, 24, 15, 0, 1, 2, 4, 5, 6, 7, 8, 10, 11, 12, 13, 14, 16, 17, 19, 20, 21, 30, 31, 32, 33, 34, 35, 36, 37, 38, 39, 40] rfl (by decide +kernel)
set_option maxRecDepth 20000 in
theorem gX4_search_X4_searchDay : GoodIn wsX4_search (wsV RX4 105 RX4 yX4_searchDay wsX4_searchDay) := goodIn_app (goodIn_r _ [19, 20, 21, 15] rfl (by decide +kernel)) ggX4_search_X4_searchDay
theorem dX4_search_79 : decode cX4_search 79 = .ok (.invokevirtual 105, 3) := db_X4_search_73.2.2.2.2.2.2
set_option maxHeartbeats 4000000 in
set_option maxRecDepth 100000 in
theorem g_X4_search_0 (l : Launch) (dC : Nat → ClassId) (dI : Nat → Nat → Nat) (cy : Nat → ClassId) (sz : Nat) (ad : Nat → Nat) (kv : Value) (N : Nat) (hN : 119 ≤ N) (v : Nat → Nat → Int32) (hv : Iv v) (x0 x1 : Int32) (hs : 4 ≤ x0.toInt ∧ x0.toInt ≤ 4) (t1 t2 : Nat) : Met l yX4_search wsX4_search ({ frames := 1, cells := 0, slots := 0, locals := 64 }) (va_Pc [.ref (ad 1), .int x0, .int x1] (ex_PreT dC dI cy sz (wl ad kv cy N v) t1 t2)) (va_Qv (fun (u : Nat → Nat → Int32) => Iv u ∧ Fz v u) (fun u t => ex_Pst dC dI (va_A (wl ad kv cy N v) sz) (wl ad kv cy N u) t) (va_A (wl ad kv cy N v) sz)) 0 0 (va_A (wl ad kv cy N v) sz) := by
  refine Met.ofW (cc := cX4_search) (maxL := 4) (ret := none) (by decide) rfl ?_
  intro p e s m args below meth c s₁ B hml hv
  obtain ⟨rfl, ⟨hsz, hE, hP, hK, hD0⟩, hSt⟩ := hv
  have hx := B.exec
  have hb := B.bytes
  have hr := B.returns
  have hts := atoms_spec (ws := wsX4_search) B.pre
  have hown : s.vm.findClass RX4 = some m.cls := findClass_of_methodNamed B.named
  have hlocks := B.notSynchronized
  subst hsz
  have hD := hD0.self (sz := s.heap.size)
  generalize hAe : va_A (wl ad kv cy N v) s.heap.size = A at hD hSt ⊢
  have hA : ∀ q : Nat, s.heap.size ≤ q → A q := fun q h => by rw [← hAe]; exact Or.inr h
  have hS : va_S A s.heap s.heap [] := va_S.rf
  have hP : va_P (dC, dI) vwCl (wl ad kv cy N v) s.heap := hP
  have hl := lv_entry ([.ref (ad 1), .int x0, .int x1]) (n := 4) (Nat.le_of_ble_eq_true rfl)
  rw [lg_entry_eq]
  generalize (lg_sl ([.ref (ad 1), .int x0, .int x1]) ++ List.replicate (4 - (lg_sl ([.ref (ad 1), .int x0, .int x1])).length) Slot.unset).toArray = ls at hl ⊢
  have hl : lv_has ls 4 [(0, .ref (ad 1)), (1, .int x0), (2, .int x1)] := hl
  have hfr : Fz v v := Fz.rf
  refine lv_iload_n hx hb dX4_search_0 rfl (lv_at hl 2 rfl) ?_
  refine lv_aload_n hx hb dX4_search_1 rfl (lv_at hl 0 rfl) ?_
  refine lv_iload_n hx hb dX4_search_2 rfl (lv_at hl 1 rfl) ?_
  refine yw_i (w1 := fun (u : Nat → Nat → Int32) => wl ad kv cy N u) hD hS hA (va_runV (As := [.int x0]) (rest := [.int x1]) ⟨hx, hb, hml, hown, hts⟩ (g_X4_leastBehind l dC dI cy _ ad kv N hN v hv x0) (cwV 1 hts gX4_search_X4_leastBehind rfl rfl rfl hd_V_X4_leastBehind_1 ⟨Nat.le_of_ble_eq_true rfl, Nat.le_of_ble_eq_true rfl⟩) (yw_preV hE hK hP hD (ci := 4) (q := (RX4, TX4, 11)) (q0 := 1) rfl (wl_at (by omega) (ce_1 (by decide)))) rfl rfl hl.1 rfl (lv_room (Nat.le_of_ble_eq_true rfl)) dX4_search_3 ⟨Nat.le_of_ble_eq_true rfl, Nat.le_of_ble_eq_true rfl⟩) (fun r_1 v_1 H locs hw_1 hP hD hS => ?_)
  obtain ⟨hv, hw_1⟩ := hw_1
  have hfr : Fz v v_1 := hfr.trans hw_1
  refine lv_iadd hx hb dX4_search_6 ?_
  refine lv_topi (fun x_2 ex_2 => ?_)
  refine lv_aload_n hx hb dX4_search_7 rfl (lv_at hl 0 rfl) ?_
  refine va_get (D := (dC, dI)) (ci := 4) (v := .int (v_1 (1) 0)) (C := RX4) (T := TX4) (N := 11) hx hb hts iwX4_search_X4 hown hK hP (1) (wl_at (by omega) (ce_1 (by decide))) rfl 0 (by decide) (hts (.fieldLink RX4 58 "QuietStairs$Planner" "leastWait" "I") fwX4_search_1) (fun _ h9 => h9) rfl dX4_search_8 ?_
  refine lv_topi (fun x_3 ex_3 => ?_)
  refine lv_icmp_lt (tgt := 15) hx hb dX4_search_11 (by decide) (fun c_4 => ?_) (fun c_4 => ?_)
  · have tc_4 : x_2.toInt < x_3.toInt := Int32.lt_iff_toInt_lt.mp c_4
    refine lv_iload_n hx hb dX4_search_15 rfl (lv_at hl 1 rfl) ?_
    refine lv_aload_n hx hb dX4_search_16 rfl (lv_at hl 0 rfl) ?_
    refine va_get (D := (dC, dI)) (ci := 4) (v := .int (v_1 (1) 1)) (C := RX4) (T := TX4) (N := 11) hx hb hts iwX4_search_X4 hown hK hP (1) (wl_at (by omega) (ce_1 (by decide))) rfl 1 (by decide) (hts (.fieldLink RX4 61 "QuietStairs$Planner" "count" "I") fwX4_search_2) (fun _ h9 => h9) rfl dX4_search_17 ?_
    refine lv_topi (fun x_5 ex_5 => ?_)
    have bx_5 : 0 ≤ x_5.toInt ∧ x_5.toInt ≤ 4 := by rw [ex_5]; exact hv.at (K := 1) (by decide) rfl
    refine lv_icmp_lt (tgt := 46) hx hb dX4_search_20 (by decide) (fun c_6 => ?_) (fun c_6 => ?_)
    · have tc_6 : x0.toInt < x_5.toInt := Int32.lt_iff_toInt_lt.mp c_6
      exfalso
      omega
    · have tc_6 : x0.toInt ≥ x_5.toInt := Int32.le_iff_toInt_le.mp (Int32.not_lt.mp c_6)
      refine lv_aload_n hx hb dX4_search_23 rfl (lv_at hl 0 rfl) ?_
      refine lv_iload_n hx hb dX4_search_24 rfl (lv_at hl 2 rfl) ?_
      refine va_put (D := (dC, dI)) (ci := 4) (v := .int x1) (ty := .int) (C := RX4) (T := TX4) (N := 11) hx hb hts iwX4_search_X4 tyX4 tyX4_ok nmX4 hown hK hP hD hS (1) (wl_at (by omega) (ce_1 (by decide))) rfl 0 (by decide) (hts (.fieldLink RX4 58 "QuietStairs$Planner" "leastWait" "I") fwX4_search_1) (fun _ h9 => h9) rfl (by decide +kernel) rfl rfl (Nat.le_of_ble_eq_true rfl) dX4_search_25 (fun H locs hP hD hS => ?_)
      obtain ⟨v_7, ev_7⟩ : ∃ u : Nat → Nat → Int32, u = upr v_1 (1) (upd (v_1 (1)) 0 x1) := ⟨_, rfl⟩
      have hP : va_P (dC, dI) vwCl (wl ad kv cy N v_7) H := by rw [ev_7, ← wl_put (e := _) (ce_1 (by decide))]; exact hP
      have hD : va_D A (wl ad kv cy N v_7) := by rw [ev_7, ← wl_put (e := _) (ce_1 (by decide))]; exact hD
      have hv : Iv v_7 := by rw [ev_7]; exact hv.put (K := 1) (by decide) (fun h q => by simp [bd] at q)
      have hfr : Fz v v_7 := by rw [ev_7]; exact hfr.put (by omega) (by omega) (by omega)
      refine lv_aload_n hx hb dX4_search_28 rfl (lv_at hl 0 rfl) ?_
      refine va_get (D := (dC, dI)) (ci := 4) (v := .ref (ad 6)) (C := RX4) (T := TX4) (N := 11) hx hb hts iwX4_search_X4 hown hK hP (1) (wl_at (by omega) (ce_1 (by decide))) rfl 7 (by decide) (hts (.fieldLink RX4 24 "QuietStairs$Planner" "seats" "[I") fwX4_search_3) (fun _ h9 => h9) rfl dX4_search_29 ?_
      refine lv_iconst (v := 0) hx hb dX4_search_32 (by decide) ?_
      refine lv_aload_n hx hb dX4_search_33 rfl (lv_at hl 0 rfl) ?_
      refine va_get (D := (dC, dI)) (ci := 4) (v := .ref (ad 7)) (C := RX4) (T := TX4) (N := 11) hx hb hts iwX4_search_X4 hown hK hP (1) (wl_at (by omega) (ce_1 (by decide))) rfl 8 (by decide) (hts (.fieldLink RX4 27 "QuietStairs$Planner" "bestSeats" "[I") fwX4_search_4) (fun _ h9 => h9) rfl dX4_search_34 ?_
      refine lv_iconst (v := 0) hx hb dX4_search_37 (by decide) ?_
      refine lv_aload_n hx hb dX4_search_38 rfl (lv_at hl 0 rfl) ?_
      refine va_get (D := (dC, dI)) (ci := 4) (v := .int (v_7 (1) 1)) (C := RX4) (T := TX4) (N := 11) hx hb hts iwX4_search_X4 hown hK hP (1) (wl_at (by omega) (ce_1 (by decide))) rfl 1 (by decide) (hts (.fieldLink RX4 61 "QuietStairs$Planner" "count" "I") fwX4_search_2) (fun _ h9 => h9) rfl dX4_search_39 ?_
      refine lv_topi (fun x_8 ex_8 => ?_)
      rw [ev_7, upr_s, pk_un (by decide)] at ex_8
      rw [← ex_5] at ex_8; replace ex_8 := ex_8.symm; subst ex_8
      have hn_9 := t_n (x := x_5) (m := 4) ⟨by omega, by omega⟩
      refine va_copyi hx hb (hml.trans hl.1.symm) hown (hts (.methodLink RX4 99 arraycopyName) fwX4_search_5) (hts (.native arraycopyName) fwX4_search_6) (hts (.static arraycopyName) fwX4_search_7) (hts (.initialized "java/lang/System") fwX4_search_8) hK hP hD hS (6) (7) 0 0 (wl_at (by omega) (ce_17 (by decide))) (wl_at (by omega) (ce_17 (by decide))) rfl rfl rfl (by decide) (by decide) hn_9.1 (by rw [sb_cl0]; have := hn_9.2; omega) (by rw [sb_cl0]; have := hn_9.2; omega) (fun i hi => rfl) (Nat.le_of_ble_eq_true rfl) (Nat.le_of_ble_eq_true rfl) dX4_search_42 (fun H locs hP hD hS => ?_)
      obtain ⟨v_9, ev_9⟩ : ∃ u : Nat → Nat → Int32, u = upr v_7 (7) (va_cpy (v_7 (6)) (v_7 (7)) (0 : Int32).toNatClampNeg (0 : Int32).toNatClampNeg x_5.toNatClampNeg) := ⟨_, rfl⟩
      have hP : va_P (dC, dI) vwCl (wl ad kv cy N v_9) H := by rw [ev_9, ← wl_put (e := _) (ce_17 (by decide))]; exact hP
      have hD : va_D A (wl ad kv cy N v_9) := by rw [ev_9, ← wl_put (e := _) (ce_17 (by decide))]; exact hD
      have hv : Iv v_9 := by rw [ev_9]; exact hv.row (K := 17) (by decide) (fun j => rfl)
      have hfr : Fz v v_9 := by rw [ev_9]; exact hfr.row (by omega) (by omega) (by omega)
      exact W.vret hx hb hr (fun t ht hW => ⟨⟨v_9, rfl, ⟨hv, hfr⟩, by rw [ht]; exact hP, hD⟩, hS.F ht⟩) hS.2.2 dX4_search_45
  · have tc_4 : x_2.toInt ≥ x_3.toInt := Int32.le_iff_toInt_le.mp (Int32.not_lt.mp c_4)
    exact W.vret hx hb hr (fun t ht hW => ⟨⟨v_1, rfl, ⟨hv, hfr⟩, by rw [ht]; exact hP, hD⟩, hS.F ht⟩) hS.2.2 dX4_search_14

set_option maxHeartbeats 4000000 in
set_option maxRecDepth 100000 in
theorem g_X4_searchDay_1 (l : Launch) (dC : Nat → ClassId) (dI : Nat → Nat → Nat) (cy : Nat → ClassId) (sz : Nat) (ad : Nat → Nat) (kv : Value) (N : Nat) (hN : 119 ≤ N) (v : Nat → Nat → Int32) (hv : Iv v) (x0 x1 x2 : Int32) (hs : 3 ≤ x0.toInt ∧ x0.toInt ≤ 3) (ht : 0 ≤ x2.toInt ∧ x2.toInt ≤ 2) (t1 t2 : Nat) : Met l yX4_searchDay wsX4_searchDay ({ frames := 2, cells := 0, slots := 0, locals := 128 }) (va_Pc [.ref (ad 1), .int x0, .int x1, .int x2] (ex_PreT dC dI cy sz (wl ad kv cy N v) t1 t2)) (va_Qv (fun (u : Nat → Nat → Int32) => Iv u ∧ Fz v u) (fun u t => ex_Pst dC dI (va_A (wl ad kv cy N v) sz) (wl ad kv cy N u) t) (va_A (wl ad kv cy N v) sz)) 0 0 (va_A (wl ad kv cy N v) sz) := by
  refine Met.ofW (cc := cX4_searchDay) (maxL := 6) (ret := none) (by decide) rfl ?_
  intro p e s m args below meth c s₁ B hml hv
  obtain ⟨rfl, ⟨hsz, hE, hP, hK, hD0⟩, hSt⟩ := hv
  have hx := B.exec
  have hb := B.bytes
  have hr := B.returns
  have hts := atoms_spec (ws := wsX4_searchDay) B.pre
  have hown : s.vm.findClass RX4 = some m.cls := findClass_of_methodNamed B.named
  have hlocks := B.notSynchronized
  subst hsz
  have hD := hD0.self (sz := s.heap.size)
  generalize hAe : va_A (wl ad kv cy N v) s.heap.size = A at hD hSt ⊢
  have hA : ∀ q : Nat, s.heap.size ≤ q → A q := fun q h => by rw [← hAe]; exact Or.inr h
  have hS : va_S A s.heap s.heap [] := va_S.rf
  have hP : va_P (dC, dI) vwCl (wl ad kv cy N v) s.heap := hP
  have hl := lv_entry ([.ref (ad 1), .int x0, .int x1, .int x2]) (n := 6) (Nat.le_of_ble_eq_true rfl)
  rw [lg_entry_eq]
  generalize (lg_sl ([.ref (ad 1), .int x0, .int x1, .int x2]) ++ List.replicate (6 - (lg_sl ([.ref (ad 1), .int x0, .int x1, .int x2])).length) Slot.unset).toArray = ls at hl ⊢
  have hl : lv_has ls 6 [(0, .ref (ad 1)), (1, .int x0), (2, .int x1), (3, .int x2)] := hl
  have hfr : Fz v v := Fz.rf
  refine lv_iconst (v := 0) hx hb dX4_searchDay_0 (by decide) ?_
  refine lv_istore (lv' := [(4, .int 0), (0, .ref (ad 1)), (1, .int x0), (2, .int x1), (3, .int x2)]) hx hb dX4_searchDay_1 hl (by decide) rfl (fun ls hl => ?_)
  have k_0 : (0 : Int32).toInt = 0 := by decide
  have hloop_1 : ∀ (n : Nat) (y1_4 : Int32) (u1 : Nat → Nat → Int32) (H : Heap) (locs : List Loc), 0 ≤ y1_4.toInt → y1_4.toInt ≤ 6 → (6 - y1_4.toInt).toNat < n → Iv u1 → Fz v u1 → va_P (dC, dI) vwCl (wl ad kv cy N u1) H → va_D A (wl ad kv cy N u1) → va_S A s.heap H locs → ∀ ls : Array Slot, lv_has ls 6 [(4, .int y1_4), (0, .ref (ad 1)), (1, .int x0), (2, .int x1), (3, .int x2)] → W p l e (headSpec wsX4_searchDay ({ frames := 2, cells := 0, slots := 0, locals := 128 })).room s m [Value.ref (ad 1), Value.int x0, Value.int x1, Value.int x2].toArray below meth c H locs 0 0 (MQ below (va_Qv (fun (u : Nat → Nat → Int32) => Iv u ∧ Fz v u) (fun u t => ex_Pst dC dI A (wl ad kv cy N u) t) A) [Value.ref (ad 1), Value.int x0, Value.int x1, Value.int x2].toArray s 0 0 A) (F0 m 3 ls []) := by
    intro n
    induction n with
    | zero =>
      intro y1_4 u1 H locs ay1_4 by1_4 hm_1 hv hfr hP hD hS ls hl
      exact absurd hm_1 (by omega)
    | succ n ih_1 =>
      intro y1_4 u1 H locs ay1_4 by1_4 hm_1 hv hfr hP hD hS ls hl
      refine lv_iload hx hb dX4_searchDay_3 (lv_at hl 0 rfl) ?_
      refine lv_bipush (v := 6) hx hb dX4_searchDay_5 (by decide) ?_
      have k_6 : (6 : Int32).toInt = 6 := by decide
      refine lv_icmp_ge (tgt := 124) hx hb dX4_searchDay_7 (by decide) (fun c_2 => ?_) (fun c_2 => ?_)
      · have tc_2 : y1_4.toInt ≥ (6 : Int32).toInt := Int32.le_iff_toInt_le.mp c_2
        exact W.vret hx hb hr (fun t ht hW => ⟨⟨u1, rfl, ⟨hv, hfr⟩, by rw [ht]; exact hP, hD⟩, hS.F ht⟩) hS.2.2 dX4_searchDay_124
      · have tc_2 : y1_4.toInt < (6 : Int32).toInt := Int32.lt_iff_toInt_lt.mp (Int32.not_le.mp c_2)
        refine lv_iconst (v := 1) hx hb dX4_searchDay_10 (by decide) ?_
        refine va_getsN hx hb hSt.2.1 hS hown (va_Nw.use rfl hE.2.2.2.2.2.2.2.2.2.2.2.2.2.2.2.1) (fun _ h => h) dX4_searchDay_11 ?_
        refine lv_iload hx hb dX4_searchDay_14 (lv_at hl 0 rfl) ?_
        obtain ⟨pi3, i3, hi3, ni3, mi3⟩ := t_in (x := y1_4) (n := 6) ⟨by omega, by omega⟩
        refine va_ti (v := .int (st_l y1_4.toNatClampNeg)) hx hb hSt.2.2 hS pi3 rfl dX4_searchDay_16 ?_
        refine lv_topi (fun x_4 ex_4 => ?_)
        have bx_4 : 0 ≤ x_4.toInt ∧ x_4.toInt ≤ 3 := by rw [ex_4]; exact (st_b _).2
        refine lv_ishl hx hb dX4_searchDay_17 ?_
        refine lv_topi (fun x_5 ex_5 => ?_)
        have tx_5 : 1 ≤ x_5.toInt ∧ x_5.toInt ≤ 32 := by rw [ex_5]; exact t_shl ⟨by omega, by omega⟩
        refine lv_iconst (v := 1) hx hb dX4_searchDay_18 (by decide) ?_
        refine va_getsN hx hb hSt.1.1 hS hown (va_Nw.use rfl hE.2.2.2.2.2.2.2.2.2.2.2.2.2.2.2.2) (fun _ h => h) dX4_searchDay_19 ?_
        refine lv_iload hx hb dX4_searchDay_22 (lv_at hl 0 rfl) ?_
        refine va_ti (v := .int (st_o y1_4.toNatClampNeg)) hx hb hSt.1.2 hS pi3 rfl dX4_searchDay_24 ?_
        refine lv_topi (fun x_6 ex_6 => ?_)
        have bx_6 : 0 ≤ x_6.toInt ∧ x_6.toInt ≤ 3 := by rw [ex_6]; exact (st_b _).1
        refine lv_ishl hx hb dX4_searchDay_25 ?_
        refine lv_topi (fun x_7 ex_7 => ?_)
        have tx_7 : 1 ≤ x_7.toInt ∧ x_7.toInt ≤ 32 := by rw [ex_7]; exact t_shl ⟨by omega, by omega⟩
        refine lv_ior hx hb dX4_searchDay_26 ?_
        refine lv_topi (fun x_8 ex_8 => ?_)
        refine lv_istore (lv' := [(5, .int x_8), (4, .int y1_4), (0, .ref (ad 1)), (1, .int x0), (2, .int x1), (3, .int x2)]) hx hb dX4_searchDay_27 hl (by decide) rfl (fun ls hl => ?_)
        refine lv_aload_n hx hb dX4_searchDay_29 rfl (lv_at hl 2 rfl) ?_
        refine va_get (D := (dC, dI)) (ci := 4) (v := .ref (ad 4)) (C := RX4) (T := TX4) (N := 11) hx hb hts iwX4_searchDay_X4 hown hK hP (1) (wl_at (by omega) (ce_1 (by decide))) rfl 5 (by decide) (hts (.fieldLink RX4 18 "QuietStairs$Planner" "pairBits" "[I") fwX4_searchDay_1) (fun _ h9 => h9) rfl dX4_searchDay_30 ?_
        refine lv_iload_n hx hb dX4_searchDay_33 rfl (lv_at hl 3 rfl) ?_
        obtain ⟨pi9, i9, hi9, ni9, mi9⟩ := t_in (x := x0) (n := 4) ⟨by omega, by omega⟩
        refine va_iald hx hb hK hP (4) 0 (wl_at (by omega) (ce_17 (by decide))) rfl pi9 dX4_searchDay_34 ?_
        refine lv_topi (fun x_10 ex_10 => ?_)
        refine lv_iload hx hb dX4_searchDay_35 (lv_at hl 1 rfl) ?_
        refine yc_p hP hS (va_runSN (As := [.int x_10, .int y1_4]) (rest := []) ⟨hx, hb, hml, hown, hts⟩ (c_X7_hasBit l x_10 y1_4) ⟨va_cnB 2 hts gX4_searchDay_X7_hasBit_n115 rfl rfl rfl hE.2.2.2.2.2.2.2.2.2.2.2.1 (hts (.initialized RX7) fwX4_searchDay_6) (by decide +kernel) ⟨Nat.le_of_ble_eq_true rfl, Nat.le_of_ble_eq_true rfl⟩, (hts (.static yX7_hasBit) fwX4_searchDay_5), trivial⟩ ex_preP rfl rfl hl.1 rfl (lv_room (Nat.le_of_ble_eq_true rfl)) dX4_searchDay_37 ⟨Nat.le_of_ble_eq_true rfl, Nat.le_of_ble_eq_true rfl⟩) (fun r_11 H locs hw_11 hP hS => ?_)
        rcases hw_11 with rfl | rfl
        · refine lv_if_eq (tgt := 118) hx hb dX4_searchDay_40 (by decide) (fun _ => ?_) (fun c9 => absurd c9 (by decide))
          obtain ⟨x_12, ex_12⟩ : ∃ y : Int32, y = y1_4 + 1 := ⟨_, rfl⟩
          refine lv_iinc (v := x_12) (lv' := [(4, .int x_12), (5, .int x_8), (0, .ref (ad 1)), (1, .int x0), (2, .int x1), (3, .int x2)]) hx hb dX4_searchDay_118 hl (k := 1) rfl (by rw [ex_12]; rfl) (by decide) rfl (fun ls hl => ?_)
          have k_1 : (1 : Int32).toInt = 1 := by decide
          have tx_12 : x_12.toInt = y1_4.toInt + (1 : Int32).toInt := by rw [ex_12]; exact t_add ⟨by omega, by omega⟩
          refine lv_goto (tgt := 3) hx hb dX4_searchDay_121 (by decide) ?_
          exact ih_1 x_12 u1 H locs (by omega) (by omega) (by omega) hv hfr hP hD hS ls (lv_sub hl [0, 2, 3, 4, 5] rfl)
        · refine lv_if_eq (tgt := 118) hx hb dX4_searchDay_40 (by decide) (fun c9 => absurd c9 (by decide)) (fun _ => ?_)
          refine lv_aload_n hx hb dX4_searchDay_43 rfl (lv_at hl 2 rfl) ?_
          refine va_get (D := (dC, dI)) (ci := 4) (v := .ref (ad 8)) (C := RX4) (T := TX4) (N := 11) hx hb hts iwX4_searchDay_X4 hown hK hP (1) (wl_at (by omega) (ce_1 (by decide))) rfl 9 (by decide) (hts (.fieldLink RX4 30 "QuietStairs$Planner" "busyBits" "[I") fwX4_searchDay_2) (fun _ h9 => h9) rfl dX4_searchDay_44 ?_
          refine lv_iload_n hx hb dX4_searchDay_47 rfl (lv_at hl 5 rfl) ?_
          obtain ⟨pi12, i12, hi12, ni12, mi12⟩ := t_in (x := x2) (n := 3) ⟨by omega, by omega⟩
          refine va_iald hx hb hK hP (8) 0 (wl_at (by omega) (ce_18 (by decide))) rfl pi12 dX4_searchDay_48 ?_
          refine lv_topi (fun x_13 ex_13 => ?_)
          refine lv_iload hx hb dX4_searchDay_49 (lv_at hl 0 rfl) ?_
          refine lv_iand hx hb dX4_searchDay_51 ?_
          refine lv_topi (fun x_14 ex_14 => ?_)
          refine lv_if_ne (tgt := 118) hx hb dX4_searchDay_52 (by decide) (fun c_15 => ?_) (fun c_15 => ?_)
          · have tc_15 : x_14.toInt ≠ (0 : Int32).toInt := fun q => absurd (Int32.toInt_inj.mp q) c_15
            obtain ⟨x_16, ex_16⟩ : ∃ y : Int32, y = y1_4 + 1 := ⟨_, rfl⟩
            refine lv_iinc (v := x_16) (lv' := [(4, .int x_16), (5, .int x_8), (0, .ref (ad 1)), (1, .int x0), (2, .int x1), (3, .int x2)]) hx hb dX4_searchDay_118 hl (k := 1) rfl (by rw [ex_16]; rfl) (by decide) rfl (fun ls hl => ?_)
            have k_1 : (1 : Int32).toInt = 1 := by decide
            have tx_16 : x_16.toInt = y1_4.toInt + (1 : Int32).toInt := by rw [ex_16]; exact t_add ⟨by omega, by omega⟩
            refine lv_goto (tgt := 3) hx hb dX4_searchDay_121 (by decide) ?_
            exact ih_1 x_16 u1 H locs (by omega) (by omega) (by omega) hv hfr hP hD hS ls (lv_sub hl [0, 2, 3, 4, 5] rfl)
          · have tc_15 : x_14.toInt = (0 : Int32).toInt := by rw [c_15]
            refine lv_aload_n hx hb dX4_searchDay_55 rfl (lv_at hl 2 rfl) ?_
            refine va_get (D := (dC, dI)) (ci := 4) (v := .ref (ad 6)) (C := RX4) (T := TX4) (N := 11) hx hb hts iwX4_searchDay_X4 hown hK hP (1) (wl_at (by omega) (ce_1 (by decide))) rfl 7 (by decide) (hts (.fieldLink RX4 24 "QuietStairs$Planner" "seats" "[I") fwX4_searchDay_3) (fun _ h9 => h9) rfl dX4_searchDay_56 ?_
            refine lv_iload_n hx hb dX4_searchDay_59 rfl (lv_at hl 3 rfl) ?_
            refine lv_bipush (v := 6) hx hb dX4_searchDay_60 (by decide) ?_
            refine lv_iload_n hx hb dX4_searchDay_62 rfl (lv_at hl 5 rfl) ?_
            refine lv_imul hx hb dX4_searchDay_63 ?_
            refine lv_topi (fun x_16 ex_16 => ?_)
            refine lv_iload hx hb dX4_searchDay_64 (lv_at hl 1 rfl) ?_
            refine lv_iadd hx hb dX4_searchDay_66 ?_
            refine lv_topi (fun x_17 ex_17 => ?_)
            refine va_iast hx hb hK hP hD hS (6) 0 (wl_at (by omega) (ce_17 (by decide))) rfl pi9 dX4_searchDay_67 (fun H locs hP hD hS => ?_)
            obtain ⟨v_18, ev_18⟩ : ∃ u : Nat → Nat → Int32, u = upr u1 (6) (upd (u1 (6)) (x0.toNatClampNeg) x_17) := ⟨_, rfl⟩
            have hP : va_P (dC, dI) vwCl (wl ad kv cy N v_18) H := by rw [ev_18, ← wl_put (e := _) (ce_17 (by decide))]; exact hP
            have hD : va_D A (wl ad kv cy N v_18) := by rw [ev_18, ← wl_put (e := _) (ce_17 (by decide))]; exact hD
            have hv : Iv v_18 := by rw [ev_18]; exact hv.put (K := 17) (by decide) (fun h q => by simp [bd] at q)
            have hfr : Fz v v_18 := by rw [ev_18]; exact hfr.put (by omega) (by omega) (by omega)
            refine lv_aload_n hx hb dX4_searchDay_68 rfl (lv_at hl 2 rfl) ?_
            refine va_get (D := (dC, dI)) (ci := 4) (v := .ref (ad 8)) (C := RX4) (T := TX4) (N := 11) hx hb hts iwX4_searchDay_X4 hown hK hP (1) (wl_at (by omega) (ce_1 (by decide))) rfl 9 (by decide) (hts (.fieldLink RX4 30 "QuietStairs$Planner" "busyBits" "[I") fwX4_searchDay_2) (fun _ h9 => h9) rfl dX4_searchDay_69 ?_
            refine lv_iload_n hx hb dX4_searchDay_72 rfl (lv_at hl 5 rfl) ?_
            refine lv_dup2_11 hx hb dX4_searchDay_73 rfl rfl ?_
            refine va_iald hx hb hK hP (8) 0 (wl_at (by omega) (ce_18 (by decide))) rfl pi12 dX4_searchDay_74 ?_
            refine lv_topi (fun x_19 ex_19 => ?_)
            refine lv_iload hx hb dX4_searchDay_75 (lv_at hl 0 rfl) ?_
            refine lv_ior hx hb dX4_searchDay_77 ?_
            refine lv_topi (fun x_20 ex_20 => ?_)
            refine va_iast hx hb hK hP hD hS (8) 0 (wl_at (by omega) (ce_18 (by decide))) rfl pi12 dX4_searchDay_78 (fun H locs hP hD hS => ?_)
            obtain ⟨v_21, ev_21⟩ : ∃ u : Nat → Nat → Int32, u = upr v_18 (8) (upd (v_18 (8)) (x2.toNatClampNeg) x_20) := ⟨_, rfl⟩
            have hP : va_P (dC, dI) vwCl (wl ad kv cy N v_21) H := by rw [ev_21, ← wl_put (e := _) (ce_18 (by decide))]; exact hP
            have hD : va_D A (wl ad kv cy N v_21) := by rw [ev_21, ← wl_put (e := _) (ce_18 (by decide))]; exact hD
            have hv : Iv v_21 := by rw [ev_21]; exact hv.put (K := 18) (by decide) (fun h q => by simp [bd] at q)
            have hfr : Fz v v_21 := by rw [ev_21]; exact hfr.put (by omega) (by omega) (by omega)
            refine lv_aload_n hx hb dX4_searchDay_79 rfl (lv_at hl 2 rfl) ?_
            refine va_get (D := (dC, dI)) (ci := 4) (v := .ref (ad 9)) (C := RX4) (T := TX4) (N := 11) hx hb hts iwX4_searchDay_X4 hown hK hP (1) (wl_at (by omega) (ce_1 (by decide))) rfl 10 (by decide) (hts (.fieldLink RX4 33 "QuietStairs$Planner" "sittings" "[I") fwX4_searchDay_4) (fun _ h9 => h9) rfl dX4_searchDay_80 ?_
            refine lv_iload_n hx hb dX4_searchDay_83 rfl (lv_at hl 5 rfl) ?_
            refine lv_dup2_11 hx hb dX4_searchDay_84 rfl rfl ?_
            refine va_iald hx hb hK hP (9) 0 (wl_at (by omega) (ce_18 (by decide))) rfl pi12 dX4_searchDay_85 ?_
            refine lv_topi (fun x_22 ex_22 => ?_)
            refine lv_iconst (v := 1) hx hb dX4_searchDay_86 (by decide) ?_
            have k_1 : (1 : Int32).toInt = 1 := by decide
            refine lv_iadd hx hb dX4_searchDay_87 ?_
            refine lv_topi (fun x_23 ex_23 => ?_)
            refine va_iast hx hb hK hP hD hS (9) 0 (wl_at (by omega) (ce_18 (by decide))) rfl pi12 dX4_searchDay_88 (fun H locs hP hD hS => ?_)
            obtain ⟨v_24, ev_24⟩ : ∃ u : Nat → Nat → Int32, u = upr v_21 (9) (upd (v_21 (9)) (x2.toNatClampNeg) x_23) := ⟨_, rfl⟩
            have hP : va_P (dC, dI) vwCl (wl ad kv cy N v_24) H := by rw [ev_24, ← wl_put (e := _) (ce_18 (by decide))]; exact hP
            have hD : va_D A (wl ad kv cy N v_24) := by rw [ev_24, ← wl_put (e := _) (ce_18 (by decide))]; exact hD
            have hv : Iv v_24 := by rw [ev_24]; exact hv.put (K := 18) (by decide) (fun h q => by simp [bd] at q)
            have hfr : Fz v v_24 := by rw [ev_24]; exact hfr.put (by omega) (by omega) (by omega)
            refine lv_aload_n hx hb dX4_searchDay_89 rfl (lv_at hl 2 rfl) ?_
            refine lv_iload_n hx hb dX4_searchDay_90 rfl (lv_at hl 3 rfl) ?_
            refine lv_iconst (v := 1) hx hb dX4_searchDay_91 (by decide) ?_
            refine lv_iadd hx hb dX4_searchDay_92 ?_
            refine lv_topi (fun x_25 ex_25 => ?_)
            have tx_25 : x_25.toInt = x0.toInt + (1 : Int32).toInt := by rw [ex_25]; exact t_add ⟨by omega, by omega⟩
            refine lv_iload_n hx hb dX4_searchDay_93 rfl (lv_at hl 4 rfl) ?_
            refine yw_v (w1 := fun (u : Nat → Nat → Int32) => wl ad kv cy N u) hD hS hA (va_runV (As := [.int x_25, .int x1]) (rest := []) ⟨hx, hb, hml, hown, hts⟩ (g_X4_search_0 l dC dI cy _ ad kv N hN v_24 hv x_25 x1 ⟨by omega, by omega⟩ t1 t2) (cwV 2 hts gX4_searchDay_X4_search rfl rfl rfl hd_V_X4_search_2 ⟨Nat.le_of_ble_eq_true rfl, Nat.le_of_ble_eq_true rfl⟩) ⟨ex_blindT, va_recv hK hP (ci := 4) (q := (RX4, TX4, 11)) (q0 := 1) rfl (wl_at (by omega) (ce_1 (by decide))), fun U hU hW => ⟨rfl, ((yw_preS (As := []) hE hK hP hD).2 U hU hW).2, hSt.go hS (yw_F hD hS hA) hU hW⟩⟩ rfl rfl hl.1 rfl (lv_room (Nat.le_of_ble_eq_true rfl)) dX4_searchDay_94 ⟨Nat.le_of_ble_eq_true rfl, Nat.le_of_ble_eq_true rfl⟩) (fun v_26 H locs hw_26 hP hD hS => ?_)
            obtain ⟨hv, hw_26⟩ := hw_26
            have hfr : Fz v v_26 := hfr.trans hw_26
            refine lv_aload_n hx hb dX4_searchDay_97 rfl (lv_at hl 2 rfl) ?_
            refine va_get (D := (dC, dI)) (ci := 4) (v := .ref (ad 9)) (C := RX4) (T := TX4) (N := 11) hx hb hts iwX4_searchDay_X4 hown hK hP (1) (wl_at (by omega) (ce_1 (by decide))) rfl 10 (by decide) (hts (.fieldLink RX4 33 "QuietStairs$Planner" "sittings" "[I") fwX4_searchDay_4) (fun _ h9 => h9) rfl dX4_searchDay_98 ?_
            refine lv_iload_n hx hb dX4_searchDay_101 rfl (lv_at hl 5 rfl) ?_
            refine lv_dup2_11 hx hb dX4_searchDay_102 rfl rfl ?_
            refine va_iald hx hb hK hP (9) 0 (wl_at (by omega) (ce_18 (by decide))) rfl pi12 dX4_searchDay_103 ?_
            refine lv_topi (fun x_27 ex_27 => ?_)
            refine lv_iconst (v := 1) hx hb dX4_searchDay_104 (by decide) ?_
            refine lv_isub hx hb dX4_searchDay_105 ?_
            refine lv_topi (fun x_28 ex_28 => ?_)
            refine va_iast hx hb hK hP hD hS (9) 0 (wl_at (by omega) (ce_18 (by decide))) rfl pi12 dX4_searchDay_106 (fun H locs hP hD hS => ?_)
            obtain ⟨v_29, ev_29⟩ : ∃ u : Nat → Nat → Int32, u = upr v_26 (9) (upd (v_26 (9)) (x2.toNatClampNeg) x_28) := ⟨_, rfl⟩
            have hP : va_P (dC, dI) vwCl (wl ad kv cy N v_29) H := by rw [ev_29, ← wl_put (e := _) (ce_18 (by decide))]; exact hP
            have hD : va_D A (wl ad kv cy N v_29) := by rw [ev_29, ← wl_put (e := _) (ce_18 (by decide))]; exact hD
            have hv : Iv v_29 := by rw [ev_29]; exact hv.put (K := 18) (by decide) (fun h q => by simp [bd] at q)
            have hfr : Fz v v_29 := by rw [ev_29]; exact hfr.put (by omega) (by omega) (by omega)
            refine lv_aload_n hx hb dX4_searchDay_107 rfl (lv_at hl 2 rfl) ?_
            refine va_get (D := (dC, dI)) (ci := 4) (v := .ref (ad 8)) (C := RX4) (T := TX4) (N := 11) hx hb hts iwX4_searchDay_X4 hown hK hP (1) (wl_at (by omega) (ce_1 (by decide))) rfl 9 (by decide) (hts (.fieldLink RX4 30 "QuietStairs$Planner" "busyBits" "[I") fwX4_searchDay_2) (fun _ h9 => h9) rfl dX4_searchDay_108 ?_
            refine lv_iload_n hx hb dX4_searchDay_111 rfl (lv_at hl 5 rfl) ?_
            refine lv_dup2_11 hx hb dX4_searchDay_112 rfl rfl ?_
            refine va_iald hx hb hK hP (8) 0 (wl_at (by omega) (ce_18 (by decide))) rfl pi12 dX4_searchDay_113 ?_
            refine lv_topi (fun x_30 ex_30 => ?_)
            refine lv_iload hx hb dX4_searchDay_114 (lv_at hl 0 rfl) ?_
            refine lv_ixor hx hb dX4_searchDay_116 ?_
            refine lv_topi (fun x_31 ex_31 => ?_)
            refine va_iast hx hb hK hP hD hS (8) 0 (wl_at (by omega) (ce_18 (by decide))) rfl pi12 dX4_searchDay_117 (fun H locs hP hD hS => ?_)
            obtain ⟨v_32, ev_32⟩ : ∃ u : Nat → Nat → Int32, u = upr v_29 (8) (upd (v_29 (8)) (x2.toNatClampNeg) x_31) := ⟨_, rfl⟩
            have hP : va_P (dC, dI) vwCl (wl ad kv cy N v_32) H := by rw [ev_32, ← wl_put (e := _) (ce_18 (by decide))]; exact hP
            have hD : va_D A (wl ad kv cy N v_32) := by rw [ev_32, ← wl_put (e := _) (ce_18 (by decide))]; exact hD
            have hv : Iv v_32 := by rw [ev_32]; exact hv.put (K := 18) (by decide) (fun h q => by simp [bd] at q)
            have hfr : Fz v v_32 := by rw [ev_32]; exact hfr.put (by omega) (by omega) (by omega)
            obtain ⟨x_33, ex_33⟩ : ∃ y : Int32, y = y1_4 + 1 := ⟨_, rfl⟩
            refine lv_iinc (v := x_33) (lv' := [(4, .int x_33), (5, .int x_8), (0, .ref (ad 1)), (1, .int x0), (2, .int x1), (3, .int x2)]) hx hb dX4_searchDay_118 hl (k := 1) rfl (by rw [ex_33]; rfl) (by decide) rfl (fun ls hl => ?_)
            have tx_33 : x_33.toInt = y1_4.toInt + (1 : Int32).toInt := by rw [ex_33]; exact t_add ⟨by omega, by omega⟩
            refine lv_goto (tgt := 3) hx hb dX4_searchDay_121 (by decide) ?_
            exact ih_1 x_33 v_32 H locs (by omega) (by omega) (by omega) hv hfr hP hD hS ls (lv_sub hl [0, 2, 3, 4, 5] rfl)
  exact hloop_1 ((6 - (0 : Int32).toInt).toNat + 1) 0 v _ _ (by omega) (by omega) (by omega) hv hfr hP hD hS ls hl

set_option maxHeartbeats 4000000 in
set_option maxRecDepth 100000 in
theorem g_X4_search_1 (l : Launch) (dC : Nat → ClassId) (dI : Nat → Nat → Nat) (cy : Nat → ClassId) (sz : Nat) (ad : Nat → Nat) (kv : Value) (N : Nat) (hN : 119 ≤ N) (v : Nat → Nat → Int32) (hv : Iv v) (x0 x1 : Int32) (hs : 3 ≤ x0.toInt ∧ x0.toInt ≤ 4) (t1 t2 : Nat) : Met l yX4_search wsX4_search ({ frames := 3, cells := 0, slots := 0, locals := 192 }) (va_Pc [.ref (ad 1), .int x0, .int x1] (ex_PreT dC dI cy sz (wl ad kv cy N v) t1 t2)) (va_Qv (fun (u : Nat → Nat → Int32) => Iv u ∧ Fz v u) (fun u t => ex_Pst dC dI (va_A (wl ad kv cy N v) sz) (wl ad kv cy N u) t) (va_A (wl ad kv cy N v) sz)) 0 0 (va_A (wl ad kv cy N v) sz) := by
  refine Met.ofW (cc := cX4_search) (maxL := 4) (ret := none) (by decide) rfl ?_
  intro p e s m args below meth c s₁ B hml hv
  obtain ⟨rfl, ⟨hsz, hE, hP, hK, hD0⟩, hSt⟩ := hv
  have hx := B.exec
  have hb := B.bytes
  have hr := B.returns
  have hts := atoms_spec (ws := wsX4_search) B.pre
  have hown : s.vm.findClass RX4 = some m.cls := findClass_of_methodNamed B.named
  have hlocks := B.notSynchronized
  subst hsz
  have hD := hD0.self (sz := s.heap.size)
  generalize hAe : va_A (wl ad kv cy N v) s.heap.size = A at hD hSt ⊢
  have hA : ∀ q : Nat, s.heap.size ≤ q → A q := fun q h => by rw [← hAe]; exact Or.inr h
  have hS : va_S A s.heap s.heap [] := va_S.rf
  have hP : va_P (dC, dI) vwCl (wl ad kv cy N v) s.heap := hP
  have hl := lv_entry ([.ref (ad 1), .int x0, .int x1]) (n := 4) (Nat.le_of_ble_eq_true rfl)
  rw [lg_entry_eq]
  generalize (lg_sl ([.ref (ad 1), .int x0, .int x1]) ++ List.replicate (4 - (lg_sl ([.ref (ad 1), .int x0, .int x1])).length) Slot.unset).toArray = ls at hl ⊢
  have hl : lv_has ls 4 [(0, .ref (ad 1)), (1, .int x0), (2, .int x1)] := hl
  have hfr : Fz v v := Fz.rf
  refine lv_iload_n hx hb dX4_search_0 rfl (lv_at hl 2 rfl) ?_
  refine lv_aload_n hx hb dX4_search_1 rfl (lv_at hl 0 rfl) ?_
  refine lv_iload_n hx hb dX4_search_2 rfl (lv_at hl 1 rfl) ?_
  refine yw_i (w1 := fun (u : Nat → Nat → Int32) => wl ad kv cy N u) hD hS hA (va_runV (As := [.int x0]) (rest := [.int x1]) ⟨hx, hb, hml, hown, hts⟩ (g_X4_leastBehind l dC dI cy _ ad kv N hN v hv x0) (cwV 1 hts gX4_search_X4_leastBehind rfl rfl rfl hd_V_X4_leastBehind_1 ⟨Nat.le_of_ble_eq_true rfl, Nat.le_of_ble_eq_true rfl⟩) (yw_preV hE hK hP hD (ci := 4) (q := (RX4, TX4, 11)) (q0 := 1) rfl (wl_at (by omega) (ce_1 (by decide)))) rfl rfl hl.1 rfl (lv_room (Nat.le_of_ble_eq_true rfl)) dX4_search_3 ⟨Nat.le_of_ble_eq_true rfl, Nat.le_of_ble_eq_true rfl⟩) (fun r_1 v_1 H locs hw_1 hP hD hS => ?_)
  obtain ⟨hv, hw_1⟩ := hw_1
  have hfr : Fz v v_1 := hfr.trans hw_1
  refine lv_iadd hx hb dX4_search_6 ?_
  refine lv_topi (fun x_2 ex_2 => ?_)
  refine lv_aload_n hx hb dX4_search_7 rfl (lv_at hl 0 rfl) ?_
  refine va_get (D := (dC, dI)) (ci := 4) (v := .int (v_1 (1) 0)) (C := RX4) (T := TX4) (N := 11) hx hb hts iwX4_search_X4 hown hK hP (1) (wl_at (by omega) (ce_1 (by decide))) rfl 0 (by decide) (hts (.fieldLink RX4 58 "QuietStairs$Planner" "leastWait" "I") fwX4_search_1) (fun _ h9 => h9) rfl dX4_search_8 ?_
  refine lv_topi (fun x_3 ex_3 => ?_)
  refine lv_icmp_lt (tgt := 15) hx hb dX4_search_11 (by decide) (fun c_4 => ?_) (fun c_4 => ?_)
  · have tc_4 : x_2.toInt < x_3.toInt := Int32.lt_iff_toInt_lt.mp c_4
    refine lv_iload_n hx hb dX4_search_15 rfl (lv_at hl 1 rfl) ?_
    refine lv_aload_n hx hb dX4_search_16 rfl (lv_at hl 0 rfl) ?_
    refine va_get (D := (dC, dI)) (ci := 4) (v := .int (v_1 (1) 1)) (C := RX4) (T := TX4) (N := 11) hx hb hts iwX4_search_X4 hown hK hP (1) (wl_at (by omega) (ce_1 (by decide))) rfl 1 (by decide) (hts (.fieldLink RX4 61 "QuietStairs$Planner" "count" "I") fwX4_search_2) (fun _ h9 => h9) rfl dX4_search_17 ?_
    refine lv_topi (fun x_5 ex_5 => ?_)
    have bx_5 : 0 ≤ x_5.toInt ∧ x_5.toInt ≤ 4 := by rw [ex_5]; exact hv.at (K := 1) (by decide) rfl
    refine lv_icmp_lt (tgt := 46) hx hb dX4_search_20 (by decide) (fun c_6 => ?_) (fun c_6 => ?_)
    · have tc_6 : x0.toInt < x_5.toInt := Int32.lt_iff_toInt_lt.mp c_6
      refine lv_iconst (v := 0) hx hb dX4_search_46 (by decide) ?_
      refine lv_istore_n (lv' := [(3, .int 0), (0, .ref (ad 1)), (1, .int x0), (2, .int x1)]) hx hb dX4_search_47 rfl hl (by decide) rfl (fun ls hl => ?_)
      have k_0 : (0 : Int32).toInt = 0 := by decide
      have hloop_7 : ∀ (n : Nat) (y7_3 : Int32) (u7 : Nat → Nat → Int32) (H : Heap) (locs : List Loc), 0 ≤ y7_3.toInt → y7_3.toInt ≤ 3 → (3 - y7_3.toInt).toNat < n → Iv u7 → Fz v u7 → va_P (dC, dI) vwCl (wl ad kv cy N u7) H → va_D A (wl ad kv cy N u7) → va_S A s.heap H locs → ∀ ls : Array Slot, lv_has ls 4 [(3, .int y7_3), (0, .ref (ad 1)), (1, .int x0), (2, .int x1)] → W p l e (headSpec wsX4_search ({ frames := 3, cells := 0, slots := 0, locals := 192 })).room s m [Value.ref (ad 1), Value.int x0, Value.int x1].toArray below meth c H locs 0 0 (MQ below (va_Qv (fun (u : Nat → Nat → Int32) => Iv u ∧ Fz v u) (fun u t => ex_Pst dC dI A (wl ad kv cy N u) t) A) [Value.ref (ad 1), Value.int x0, Value.int x1].toArray s 0 0 A) (F0 m 48 ls []) := by
        intro n
        induction n with
        | zero =>
          intro y7_3 u7 H locs ay7_3 by7_3 hm_7 hv hfr hP hD hS ls hl
          exact absurd hm_7 (by omega)
        | succ n ih_7 =>
          intro y7_3 u7 H locs ay7_3 by7_3 hm_7 hv hfr hP hD hS ls hl
          refine lv_iload_n hx hb dX4_search_48 rfl (lv_at hl 0 rfl) ?_
          refine lv_iconst (v := 3) hx hb dX4_search_49 (by decide) ?_
          have k_3 : (3 : Int32).toInt = 3 := by decide
          refine lv_icmp_ge (tgt := 88) hx hb dX4_search_50 (by decide) (fun c_8 => ?_) (fun c_8 => ?_)
          · have tc_8 : y7_3.toInt ≥ (3 : Int32).toInt := Int32.le_iff_toInt_le.mp c_8
            refine lv_aload_n hx hb dX4_search_88 rfl (lv_at hl 1 rfl) ?_
            refine va_get (D := (dC, dI)) (ci := 4) (v := .ref (ad 6)) (C := RX4) (T := TX4) (N := 11) hx hb hts iwX4_search_X4 hown hK hP (1) (wl_at (by omega) (ce_1 (by decide))) rfl 7 (by decide) (hts (.fieldLink RX4 24 "QuietStairs$Planner" "seats" "[I") fwX4_search_3) (fun _ h9 => h9) rfl dX4_search_89 ?_
            refine lv_iload_n hx hb dX4_search_92 rfl (lv_at hl 2 rfl) ?_
            refine lv_bipush (v := 18) hx hb dX4_search_93 (by decide) ?_
            obtain ⟨pi9, i9, hi9, ni9, mi9⟩ := t_in (x := x0) (n := 4) ⟨by omega, by omega⟩
            refine va_iast hx hb hK hP hD hS (6) 0 (wl_at (by omega) (ce_17 (by decide))) rfl pi9 dX4_search_95 (fun H locs hP hD hS => ?_)
            have k_18 : (18 : Int32).toInt = 18 := by decide
            obtain ⟨v_10, ev_10⟩ : ∃ u : Nat → Nat → Int32, u = upr u7 (6) (upd (u7 (6)) (x0.toNatClampNeg) 18) := ⟨_, rfl⟩
            have hP : va_P (dC, dI) vwCl (wl ad kv cy N v_10) H := by rw [ev_10, ← wl_put (e := _) (ce_17 (by decide))]; exact hP
            have hD : va_D A (wl ad kv cy N v_10) := by rw [ev_10, ← wl_put (e := _) (ce_17 (by decide))]; exact hD
            have hv : Iv v_10 := by rw [ev_10]; exact hv.put (K := 17) (by decide) (fun h q => by simp [bd] at q)
            have hfr : Fz v v_10 := by rw [ev_10]; exact hfr.put (by omega) (by omega) (by omega)
            refine lv_aload_n hx hb dX4_search_96 rfl (lv_at hl 1 rfl) ?_
            refine lv_iload_n hx hb dX4_search_97 rfl (lv_at hl 2 rfl) ?_
            refine lv_iconst (v := 1) hx hb dX4_search_98 (by decide) ?_
            have k_1 : (1 : Int32).toInt = 1 := by decide
            refine lv_iadd hx hb dX4_search_99 ?_
            refine lv_topi (fun x_11 ex_11 => ?_)
            have tx_11 : x_11.toInt = x0.toInt + (1 : Int32).toInt := by rw [ex_11]; exact t_add ⟨by omega, by omega⟩
            refine lv_iload_n hx hb dX4_search_100 rfl (lv_at hl 3 rfl) ?_
            refine lv_aload_n hx hb dX4_search_101 rfl (lv_at hl 1 rfl) ?_
            refine va_get (D := (dC, dI)) (ci := 4) (v := .ref (ad 3)) (C := RX4) (T := TX4) (N := 11) hx hb hts iwX4_search_X4 hown hK hP (1) (wl_at (by omega) (ce_1 (by decide))) rfl 4 (by decide) (hts (.fieldLink RX4 15 "QuietStairs$Planner" "weights" "[I") fwX4_search_11) (fun _ h9 => h9) rfl dX4_search_102 ?_
            refine lv_iload_n hx hb dX4_search_105 rfl (lv_at hl 2 rfl) ?_
            refine va_iald hx hb hK hP (3) 0 (wl_at (by omega) (ce_17 (by decide))) rfl pi9 dX4_search_106 ?_
            refine lv_topi (fun x_12 ex_12 => ?_)
            refine lv_iconst (v := 4) hx hb dX4_search_107 (by decide) ?_
            refine lv_imul hx hb dX4_search_108 ?_
            refine lv_topi (fun x_13 ex_13 => ?_)
            refine lv_iadd hx hb dX4_search_109 ?_
            refine lv_topi (fun x_14 ex_14 => ?_)
            refine yw_v (w1 := fun (u : Nat → Nat → Int32) => wl ad kv cy N u) hD hS hA (va_runV (As := [.int x_11, .int x_14]) (rest := []) ⟨hx, hb, hml, hown, hts⟩ (g_X4_search_0 l dC dI cy _ ad kv N hN v_10 hv x_11 x_14 ⟨by omega, by omega⟩ t1 t2) (cwV 2 hts gX4_search_X4_search rfl rfl rfl hd_V_X4_search_2 ⟨Nat.le_of_ble_eq_true rfl, Nat.le_of_ble_eq_true rfl⟩) ⟨ex_blindT, va_recv hK hP (ci := 4) (q := (RX4, TX4, 11)) (q0 := 1) rfl (wl_at (by omega) (ce_1 (by decide))), fun U hU hW => ⟨rfl, ((yw_preS (As := []) hE hK hP hD).2 U hU hW).2, hSt.go hS (yw_F hD hS hA) hU hW⟩⟩ rfl rfl hl.1 rfl (lv_room (Nat.le_of_ble_eq_true rfl)) dX4_search_110 ⟨Nat.le_of_ble_eq_true rfl, Nat.le_of_ble_eq_true rfl⟩) (fun v_15 H locs hw_15 hP hD hS => ?_)
            obtain ⟨hv, hw_15⟩ := hw_15
            have hfr : Fz v v_15 := hfr.trans hw_15
            exact W.vret hx hb hr (fun t ht hW => ⟨⟨v_15, rfl, ⟨hv, hfr⟩, by rw [ht]; exact hP, hD⟩, hS.F ht⟩) hS.2.2 dX4_search_113
          · have tc_8 : y7_3.toInt < (3 : Int32).toInt := Int32.lt_iff_toInt_lt.mp (Int32.not_le.mp c_8)
            refine lv_aload_n hx hb dX4_search_53 rfl (lv_at hl 1 rfl) ?_
            refine va_get (D := (dC, dI)) (ci := 4) (v := .ref (ad 9)) (C := RX4) (T := TX4) (N := 11) hx hb hts iwX4_search_X4 hown hK hP (1) (wl_at (by omega) (ce_1 (by decide))) rfl 10 (by decide) (hts (.fieldLink RX4 33 "QuietStairs$Planner" "sittings" "[I") fwX4_search_9) (fun _ h9 => h9) rfl dX4_search_54 ?_
            refine lv_iload_n hx hb dX4_search_57 rfl (lv_at hl 0 rfl) ?_
            obtain ⟨pi9, i9, hi9, ni9, mi9⟩ := t_in (x := y7_3) (n := 3) ⟨by omega, by omega⟩
            refine va_iald hx hb hK hP (9) 0 (wl_at (by omega) (ce_18 (by decide))) rfl pi9 dX4_search_58 ?_
            refine lv_topi (fun x_10 ex_10 => ?_)
            refine lv_aload_n hx hb dX4_search_59 rfl (lv_at hl 1 rfl) ?_
            refine va_get (D := (dC, dI)) (ci := 4) (v := .int (u7 (1) 2)) (C := RX4) (T := TX4) (N := 11) hx hb hts iwX4_search_X4 hown hK hP (1) (wl_at (by omega) (ce_1 (by decide))) rfl 2 (by decide) (hts (.fieldLink RX4 48 "QuietStairs$Planner" "seatsADay" "I") fwX4_search_10) (fun _ h9 => h9) rfl dX4_search_60 ?_
            refine lv_topi (fun x_11 ex_11 => ?_)
            refine lv_icmp_ge (tgt := 82) hx hb dX4_search_63 (by decide) (fun c_12 => ?_) (fun c_12 => ?_)
            · have tc_12 : x_10.toInt ≥ x_11.toInt := Int32.le_iff_toInt_le.mp c_12
              obtain ⟨x_13, ex_13⟩ : ∃ y : Int32, y = y7_3 + 1 := ⟨_, rfl⟩
              refine lv_iinc (v := x_13) (lv' := [(3, .int x_13), (0, .ref (ad 1)), (1, .int x0), (2, .int x1)]) hx hb dX4_search_82 hl (k := 0) rfl (by rw [ex_13]; rfl) (by decide) rfl (fun ls hl => ?_)
              have k_1 : (1 : Int32).toInt = 1 := by decide
              have tx_13 : x_13.toInt = y7_3.toInt + (1 : Int32).toInt := by rw [ex_13]; exact t_add ⟨by omega, by omega⟩
              refine lv_goto (tgt := 48) hx hb dX4_search_85 (by decide) ?_
              exact ih_7 x_13 u7 H locs (by omega) (by omega) (by omega) hv hfr hP hD hS ls (lv_sub hl [0, 1, 2, 3] rfl)
            · have tc_12 : x_10.toInt < x_11.toInt := Int32.lt_iff_toInt_lt.mp (Int32.not_le.mp c_12)
              refine lv_aload_n hx hb dX4_search_66 rfl (lv_at hl 1 rfl) ?_
              refine lv_iload_n hx hb dX4_search_67 rfl (lv_at hl 2 rfl) ?_
              refine lv_iload_n hx hb dX4_search_68 rfl (lv_at hl 3 rfl) ?_
              refine lv_aload_n hx hb dX4_search_69 rfl (lv_at hl 1 rfl) ?_
              refine va_get (D := (dC, dI)) (ci := 4) (v := .ref (ad 3)) (C := RX4) (T := TX4) (N := 11) hx hb hts iwX4_search_X4 hown hK hP (1) (wl_at (by omega) (ce_1 (by decide))) rfl 4 (by decide) (hts (.fieldLink RX4 15 "QuietStairs$Planner" "weights" "[I") fwX4_search_11) (fun _ h9 => h9) rfl dX4_search_70 ?_
              refine lv_iload_n hx hb dX4_search_73 rfl (lv_at hl 2 rfl) ?_
              obtain ⟨pi13, i13, hi13, ni13, mi13⟩ := t_in (x := x0) (n := 4) ⟨by omega, by omega⟩
              refine va_iald hx hb hK hP (3) 0 (wl_at (by omega) (ce_17 (by decide))) rfl pi13 dX4_search_74 ?_
              refine lv_topi (fun x_14 ex_14 => ?_)
              refine lv_iload_n hx hb dX4_search_75 rfl (lv_at hl 0 rfl) ?_
              refine lv_imul hx hb dX4_search_76 ?_
              refine lv_topi (fun x_15 ex_15 => ?_)
              refine lv_iadd hx hb dX4_search_77 ?_
              refine lv_topi (fun x_16 ex_16 => ?_)
              refine lv_iload_n hx hb dX4_search_78 rfl (lv_at hl 0 rfl) ?_
              refine yw_v (w1 := fun (u : Nat → Nat → Int32) => wl ad kv cy N u) hD hS hA (va_runV (As := [.int x0, .int x_16, .int y7_3]) (rest := []) ⟨hx, hb, hml, hown, hts⟩ (g_X4_searchDay_1 l dC dI cy _ ad kv N hN u7 hv x0 x_16 y7_3 ⟨by omega, by omega⟩ ⟨by omega, by omega⟩ t1 t2) (cwV 3 hts gX4_search_X4_searchDay rfl rfl rfl hd_V_X4_searchDay_3 ⟨Nat.le_of_ble_eq_true rfl, Nat.le_of_ble_eq_true rfl⟩) ⟨ex_blindT, va_recv hK hP (ci := 4) (q := (RX4, TX4, 11)) (q0 := 1) rfl (wl_at (by omega) (ce_1 (by decide))), fun U hU hW => ⟨rfl, ((yw_preS (As := []) hE hK hP hD).2 U hU hW).2, hSt.go hS (yw_F hD hS hA) hU hW⟩⟩ rfl rfl hl.1 rfl (lv_room (Nat.le_of_ble_eq_true rfl)) dX4_search_79 ⟨Nat.le_of_ble_eq_true rfl, Nat.le_of_ble_eq_true rfl⟩) (fun v_17 H locs hw_17 hP hD hS => ?_)
              obtain ⟨hv, hw_17⟩ := hw_17
              have hfr : Fz v v_17 := hfr.trans hw_17
              obtain ⟨x_18, ex_18⟩ : ∃ y : Int32, y = y7_3 + 1 := ⟨_, rfl⟩
              refine lv_iinc (v := x_18) (lv' := [(3, .int x_18), (0, .ref (ad 1)), (1, .int x0), (2, .int x1)]) hx hb dX4_search_82 hl (k := 0) rfl (by rw [ex_18]; rfl) (by decide) rfl (fun ls hl => ?_)
              have k_1 : (1 : Int32).toInt = 1 := by decide
              have tx_18 : x_18.toInt = y7_3.toInt + (1 : Int32).toInt := by rw [ex_18]; exact t_add ⟨by omega, by omega⟩
              refine lv_goto (tgt := 48) hx hb dX4_search_85 (by decide) ?_
              exact ih_7 x_18 v_17 H locs (by omega) (by omega) (by omega) hv hfr hP hD hS ls (lv_sub hl [0, 1, 2, 3] rfl)
      exact hloop_7 ((3 - (0 : Int32).toInt).toNat + 1) 0 v_1 _ _ (by omega) (by omega) (by omega) hv hfr hP hD hS ls hl
    · have tc_6 : x0.toInt ≥ x_5.toInt := Int32.le_iff_toInt_le.mp (Int32.not_lt.mp c_6)
      refine lv_aload_n hx hb dX4_search_23 rfl (lv_at hl 0 rfl) ?_
      refine lv_iload_n hx hb dX4_search_24 rfl (lv_at hl 2 rfl) ?_
      refine va_put (D := (dC, dI)) (ci := 4) (v := .int x1) (ty := .int) (C := RX4) (T := TX4) (N := 11) hx hb hts iwX4_search_X4 tyX4 tyX4_ok nmX4 hown hK hP hD hS (1) (wl_at (by omega) (ce_1 (by decide))) rfl 0 (by decide) (hts (.fieldLink RX4 58 "QuietStairs$Planner" "leastWait" "I") fwX4_search_1) (fun _ h9 => h9) rfl (by decide +kernel) rfl rfl (Nat.le_of_ble_eq_true rfl) dX4_search_25 (fun H locs hP hD hS => ?_)
      obtain ⟨v_7, ev_7⟩ : ∃ u : Nat → Nat → Int32, u = upr v_1 (1) (upd (v_1 (1)) 0 x1) := ⟨_, rfl⟩
      have hP : va_P (dC, dI) vwCl (wl ad kv cy N v_7) H := by rw [ev_7, ← wl_put (e := _) (ce_1 (by decide))]; exact hP
      have hD : va_D A (wl ad kv cy N v_7) := by rw [ev_7, ← wl_put (e := _) (ce_1 (by decide))]; exact hD
      have hv : Iv v_7 := by rw [ev_7]; exact hv.put (K := 1) (by decide) (fun h q => by simp [bd] at q)
      have hfr : Fz v v_7 := by rw [ev_7]; exact hfr.put (by omega) (by omega) (by omega)
      refine lv_aload_n hx hb dX4_search_28 rfl (lv_at hl 0 rfl) ?_
      refine va_get (D := (dC, dI)) (ci := 4) (v := .ref (ad 6)) (C := RX4) (T := TX4) (N := 11) hx hb hts iwX4_search_X4 hown hK hP (1) (wl_at (by omega) (ce_1 (by decide))) rfl 7 (by decide) (hts (.fieldLink RX4 24 "QuietStairs$Planner" "seats" "[I") fwX4_search_3) (fun _ h9 => h9) rfl dX4_search_29 ?_
      refine lv_iconst (v := 0) hx hb dX4_search_32 (by decide) ?_
      refine lv_aload_n hx hb dX4_search_33 rfl (lv_at hl 0 rfl) ?_
      refine va_get (D := (dC, dI)) (ci := 4) (v := .ref (ad 7)) (C := RX4) (T := TX4) (N := 11) hx hb hts iwX4_search_X4 hown hK hP (1) (wl_at (by omega) (ce_1 (by decide))) rfl 8 (by decide) (hts (.fieldLink RX4 27 "QuietStairs$Planner" "bestSeats" "[I") fwX4_search_4) (fun _ h9 => h9) rfl dX4_search_34 ?_
      refine lv_iconst (v := 0) hx hb dX4_search_37 (by decide) ?_
      refine lv_aload_n hx hb dX4_search_38 rfl (lv_at hl 0 rfl) ?_
      refine va_get (D := (dC, dI)) (ci := 4) (v := .int (v_7 (1) 1)) (C := RX4) (T := TX4) (N := 11) hx hb hts iwX4_search_X4 hown hK hP (1) (wl_at (by omega) (ce_1 (by decide))) rfl 1 (by decide) (hts (.fieldLink RX4 61 "QuietStairs$Planner" "count" "I") fwX4_search_2) (fun _ h9 => h9) rfl dX4_search_39 ?_
      refine lv_topi (fun x_8 ex_8 => ?_)
      rw [ev_7, upr_s, pk_un (by decide)] at ex_8
      rw [← ex_5] at ex_8; replace ex_8 := ex_8.symm; subst ex_8
      have hn_9 := t_n (x := x_5) (m := 4) ⟨by omega, by omega⟩
      refine va_copyi hx hb (hml.trans hl.1.symm) hown (hts (.methodLink RX4 99 arraycopyName) fwX4_search_5) (hts (.native arraycopyName) fwX4_search_6) (hts (.static arraycopyName) fwX4_search_7) (hts (.initialized "java/lang/System") fwX4_search_8) hK hP hD hS (6) (7) 0 0 (wl_at (by omega) (ce_17 (by decide))) (wl_at (by omega) (ce_17 (by decide))) rfl rfl rfl (by decide) (by decide) hn_9.1 (by rw [sb_cl0]; have := hn_9.2; omega) (by rw [sb_cl0]; have := hn_9.2; omega) (fun i hi => rfl) (Nat.le_of_ble_eq_true rfl) (Nat.le_of_ble_eq_true rfl) dX4_search_42 (fun H locs hP hD hS => ?_)
      obtain ⟨v_9, ev_9⟩ : ∃ u : Nat → Nat → Int32, u = upr v_7 (7) (va_cpy (v_7 (6)) (v_7 (7)) (0 : Int32).toNatClampNeg (0 : Int32).toNatClampNeg x_5.toNatClampNeg) := ⟨_, rfl⟩
      have hP : va_P (dC, dI) vwCl (wl ad kv cy N v_9) H := by rw [ev_9, ← wl_put (e := _) (ce_17 (by decide))]; exact hP
      have hD : va_D A (wl ad kv cy N v_9) := by rw [ev_9, ← wl_put (e := _) (ce_17 (by decide))]; exact hD
      have hv : Iv v_9 := by rw [ev_9]; exact hv.row (K := 17) (by decide) (fun j => rfl)
      have hfr : Fz v v_9 := by rw [ev_9]; exact hfr.row (by omega) (by omega) (by omega)
      exact W.vret hx hb hr (fun t ht hW => ⟨⟨v_9, rfl, ⟨hv, hfr⟩, by rw [ht]; exact hP, hD⟩, hS.F ht⟩) hS.2.2 dX4_search_45
  · have tc_4 : x_2.toInt ≥ x_3.toInt := Int32.le_iff_toInt_le.mp (Int32.not_lt.mp c_4)
    exact W.vret hx hb hr (fun t ht hW => ⟨⟨v_1, rfl, ⟨hv, hfr⟩, by rw [ht]; exact hP, hD⟩, hS.F ht⟩) hS.2.2 dX4_search_14

set_option maxHeartbeats 4000000 in
set_option maxRecDepth 100000 in
theorem g_X4_searchDay_2 (l : Launch) (dC : Nat → ClassId) (dI : Nat → Nat → Nat) (cy : Nat → ClassId) (sz : Nat) (ad : Nat → Nat) (kv : Value) (N : Nat) (hN : 119 ≤ N) (v : Nat → Nat → Int32) (hv : Iv v) (x0 x1 x2 : Int32) (hs : 2 ≤ x0.toInt ∧ x0.toInt ≤ 3) (ht : 0 ≤ x2.toInt ∧ x2.toInt ≤ 2) (t1 t2 : Nat) : Met l yX4_searchDay wsX4_searchDay ({ frames := 4, cells := 0, slots := 0, locals := 256 }) (va_Pc [.ref (ad 1), .int x0, .int x1, .int x2] (ex_PreT dC dI cy sz (wl ad kv cy N v) t1 t2)) (va_Qv (fun (u : Nat → Nat → Int32) => Iv u ∧ Fz v u) (fun u t => ex_Pst dC dI (va_A (wl ad kv cy N v) sz) (wl ad kv cy N u) t) (va_A (wl ad kv cy N v) sz)) 0 0 (va_A (wl ad kv cy N v) sz) := by
  refine Met.ofW (cc := cX4_searchDay) (maxL := 6) (ret := none) (by decide) rfl ?_
  intro p e s m args below meth c s₁ B hml hv
  obtain ⟨rfl, ⟨hsz, hE, hP, hK, hD0⟩, hSt⟩ := hv
  have hx := B.exec
  have hb := B.bytes
  have hr := B.returns
  have hts := atoms_spec (ws := wsX4_searchDay) B.pre
  have hown : s.vm.findClass RX4 = some m.cls := findClass_of_methodNamed B.named
  have hlocks := B.notSynchronized
  subst hsz
  have hD := hD0.self (sz := s.heap.size)
  generalize hAe : va_A (wl ad kv cy N v) s.heap.size = A at hD hSt ⊢
  have hA : ∀ q : Nat, s.heap.size ≤ q → A q := fun q h => by rw [← hAe]; exact Or.inr h
  have hS : va_S A s.heap s.heap [] := va_S.rf
  have hP : va_P (dC, dI) vwCl (wl ad kv cy N v) s.heap := hP
  have hl := lv_entry ([.ref (ad 1), .int x0, .int x1, .int x2]) (n := 6) (Nat.le_of_ble_eq_true rfl)
  rw [lg_entry_eq]
  generalize (lg_sl ([.ref (ad 1), .int x0, .int x1, .int x2]) ++ List.replicate (6 - (lg_sl ([.ref (ad 1), .int x0, .int x1, .int x2])).length) Slot.unset).toArray = ls at hl ⊢
  have hl : lv_has ls 6 [(0, .ref (ad 1)), (1, .int x0), (2, .int x1), (3, .int x2)] := hl
  have hfr : Fz v v := Fz.rf
  refine lv_iconst (v := 0) hx hb dX4_searchDay_0 (by decide) ?_
  refine lv_istore (lv' := [(4, .int 0), (0, .ref (ad 1)), (1, .int x0), (2, .int x1), (3, .int x2)]) hx hb dX4_searchDay_1 hl (by decide) rfl (fun ls hl => ?_)
  have k_0 : (0 : Int32).toInt = 0 := by decide
  have hloop_1 : ∀ (n : Nat) (y1_4 : Int32) (u1 : Nat → Nat → Int32) (H : Heap) (locs : List Loc), 0 ≤ y1_4.toInt → y1_4.toInt ≤ 6 → (6 - y1_4.toInt).toNat < n → Iv u1 → Fz v u1 → va_P (dC, dI) vwCl (wl ad kv cy N u1) H → va_D A (wl ad kv cy N u1) → va_S A s.heap H locs → ∀ ls : Array Slot, lv_has ls 6 [(4, .int y1_4), (0, .ref (ad 1)), (1, .int x0), (2, .int x1), (3, .int x2)] → W p l e (headSpec wsX4_searchDay ({ frames := 4, cells := 0, slots := 0, locals := 256 })).room s m [Value.ref (ad 1), Value.int x0, Value.int x1, Value.int x2].toArray below meth c H locs 0 0 (MQ below (va_Qv (fun (u : Nat → Nat → Int32) => Iv u ∧ Fz v u) (fun u t => ex_Pst dC dI A (wl ad kv cy N u) t) A) [Value.ref (ad 1), Value.int x0, Value.int x1, Value.int x2].toArray s 0 0 A) (F0 m 3 ls []) := by
    intro n
    induction n with
    | zero =>
      intro y1_4 u1 H locs ay1_4 by1_4 hm_1 hv hfr hP hD hS ls hl
      exact absurd hm_1 (by omega)
    | succ n ih_1 =>
      intro y1_4 u1 H locs ay1_4 by1_4 hm_1 hv hfr hP hD hS ls hl
      refine lv_iload hx hb dX4_searchDay_3 (lv_at hl 0 rfl) ?_
      refine lv_bipush (v := 6) hx hb dX4_searchDay_5 (by decide) ?_
      have k_6 : (6 : Int32).toInt = 6 := by decide
      refine lv_icmp_ge (tgt := 124) hx hb dX4_searchDay_7 (by decide) (fun c_2 => ?_) (fun c_2 => ?_)
      · have tc_2 : y1_4.toInt ≥ (6 : Int32).toInt := Int32.le_iff_toInt_le.mp c_2
        exact W.vret hx hb hr (fun t ht hW => ⟨⟨u1, rfl, ⟨hv, hfr⟩, by rw [ht]; exact hP, hD⟩, hS.F ht⟩) hS.2.2 dX4_searchDay_124
      · have tc_2 : y1_4.toInt < (6 : Int32).toInt := Int32.lt_iff_toInt_lt.mp (Int32.not_le.mp c_2)
        refine lv_iconst (v := 1) hx hb dX4_searchDay_10 (by decide) ?_
        refine va_getsN hx hb hSt.2.1 hS hown (va_Nw.use rfl hE.2.2.2.2.2.2.2.2.2.2.2.2.2.2.2.1) (fun _ h => h) dX4_searchDay_11 ?_
        refine lv_iload hx hb dX4_searchDay_14 (lv_at hl 0 rfl) ?_
        obtain ⟨pi3, i3, hi3, ni3, mi3⟩ := t_in (x := y1_4) (n := 6) ⟨by omega, by omega⟩
        refine va_ti (v := .int (st_l y1_4.toNatClampNeg)) hx hb hSt.2.2 hS pi3 rfl dX4_searchDay_16 ?_
        refine lv_topi (fun x_4 ex_4 => ?_)
        have bx_4 : 0 ≤ x_4.toInt ∧ x_4.toInt ≤ 3 := by rw [ex_4]; exact (st_b _).2
        refine lv_ishl hx hb dX4_searchDay_17 ?_
        refine lv_topi (fun x_5 ex_5 => ?_)
        have tx_5 : 1 ≤ x_5.toInt ∧ x_5.toInt ≤ 32 := by rw [ex_5]; exact t_shl ⟨by omega, by omega⟩
        refine lv_iconst (v := 1) hx hb dX4_searchDay_18 (by decide) ?_
        refine va_getsN hx hb hSt.1.1 hS hown (va_Nw.use rfl hE.2.2.2.2.2.2.2.2.2.2.2.2.2.2.2.2) (fun _ h => h) dX4_searchDay_19 ?_
        refine lv_iload hx hb dX4_searchDay_22 (lv_at hl 0 rfl) ?_
        refine va_ti (v := .int (st_o y1_4.toNatClampNeg)) hx hb hSt.1.2 hS pi3 rfl dX4_searchDay_24 ?_
        refine lv_topi (fun x_6 ex_6 => ?_)
        have bx_6 : 0 ≤ x_6.toInt ∧ x_6.toInt ≤ 3 := by rw [ex_6]; exact (st_b _).1
        refine lv_ishl hx hb dX4_searchDay_25 ?_
        refine lv_topi (fun x_7 ex_7 => ?_)
        have tx_7 : 1 ≤ x_7.toInt ∧ x_7.toInt ≤ 32 := by rw [ex_7]; exact t_shl ⟨by omega, by omega⟩
        refine lv_ior hx hb dX4_searchDay_26 ?_
        refine lv_topi (fun x_8 ex_8 => ?_)
        refine lv_istore (lv' := [(5, .int x_8), (4, .int y1_4), (0, .ref (ad 1)), (1, .int x0), (2, .int x1), (3, .int x2)]) hx hb dX4_searchDay_27 hl (by decide) rfl (fun ls hl => ?_)
        refine lv_aload_n hx hb dX4_searchDay_29 rfl (lv_at hl 2 rfl) ?_
        refine va_get (D := (dC, dI)) (ci := 4) (v := .ref (ad 4)) (C := RX4) (T := TX4) (N := 11) hx hb hts iwX4_searchDay_X4 hown hK hP (1) (wl_at (by omega) (ce_1 (by decide))) rfl 5 (by decide) (hts (.fieldLink RX4 18 "QuietStairs$Planner" "pairBits" "[I") fwX4_searchDay_1) (fun _ h9 => h9) rfl dX4_searchDay_30 ?_
        refine lv_iload_n hx hb dX4_searchDay_33 rfl (lv_at hl 3 rfl) ?_
        obtain ⟨pi9, i9, hi9, ni9, mi9⟩ := t_in (x := x0) (n := 4) ⟨by omega, by omega⟩
        refine va_iald hx hb hK hP (4) 0 (wl_at (by omega) (ce_17 (by decide))) rfl pi9 dX4_searchDay_34 ?_
        refine lv_topi (fun x_10 ex_10 => ?_)
        refine lv_iload hx hb dX4_searchDay_35 (lv_at hl 1 rfl) ?_
        refine yc_p hP hS (va_runSN (As := [.int x_10, .int y1_4]) (rest := []) ⟨hx, hb, hml, hown, hts⟩ (c_X7_hasBit l x_10 y1_4) ⟨va_cnB 2 hts gX4_searchDay_X7_hasBit_n115 rfl rfl rfl hE.2.2.2.2.2.2.2.2.2.2.2.1 (hts (.initialized RX7) fwX4_searchDay_6) (by decide +kernel) ⟨Nat.le_of_ble_eq_true rfl, Nat.le_of_ble_eq_true rfl⟩, (hts (.static yX7_hasBit) fwX4_searchDay_5), trivial⟩ ex_preP rfl rfl hl.1 rfl (lv_room (Nat.le_of_ble_eq_true rfl)) dX4_searchDay_37 ⟨Nat.le_of_ble_eq_true rfl, Nat.le_of_ble_eq_true rfl⟩) (fun r_11 H locs hw_11 hP hS => ?_)
        rcases hw_11 with rfl | rfl
        · refine lv_if_eq (tgt := 118) hx hb dX4_searchDay_40 (by decide) (fun _ => ?_) (fun c9 => absurd c9 (by decide))
          obtain ⟨x_12, ex_12⟩ : ∃ y : Int32, y = y1_4 + 1 := ⟨_, rfl⟩
          refine lv_iinc (v := x_12) (lv' := [(4, .int x_12), (5, .int x_8), (0, .ref (ad 1)), (1, .int x0), (2, .int x1), (3, .int x2)]) hx hb dX4_searchDay_118 hl (k := 1) rfl (by rw [ex_12]; rfl) (by decide) rfl (fun ls hl => ?_)
          have k_1 : (1 : Int32).toInt = 1 := by decide
          have tx_12 : x_12.toInt = y1_4.toInt + (1 : Int32).toInt := by rw [ex_12]; exact t_add ⟨by omega, by omega⟩
          refine lv_goto (tgt := 3) hx hb dX4_searchDay_121 (by decide) ?_
          exact ih_1 x_12 u1 H locs (by omega) (by omega) (by omega) hv hfr hP hD hS ls (lv_sub hl [0, 2, 3, 4, 5] rfl)
        · refine lv_if_eq (tgt := 118) hx hb dX4_searchDay_40 (by decide) (fun c9 => absurd c9 (by decide)) (fun _ => ?_)
          refine lv_aload_n hx hb dX4_searchDay_43 rfl (lv_at hl 2 rfl) ?_
          refine va_get (D := (dC, dI)) (ci := 4) (v := .ref (ad 8)) (C := RX4) (T := TX4) (N := 11) hx hb hts iwX4_searchDay_X4 hown hK hP (1) (wl_at (by omega) (ce_1 (by decide))) rfl 9 (by decide) (hts (.fieldLink RX4 30 "QuietStairs$Planner" "busyBits" "[I") fwX4_searchDay_2) (fun _ h9 => h9) rfl dX4_searchDay_44 ?_
          refine lv_iload_n hx hb dX4_searchDay_47 rfl (lv_at hl 5 rfl) ?_
          obtain ⟨pi12, i12, hi12, ni12, mi12⟩ := t_in (x := x2) (n := 3) ⟨by omega, by omega⟩
          refine va_iald hx hb hK hP (8) 0 (wl_at (by omega) (ce_18 (by decide))) rfl pi12 dX4_searchDay_48 ?_
          refine lv_topi (fun x_13 ex_13 => ?_)
          refine lv_iload hx hb dX4_searchDay_49 (lv_at hl 0 rfl) ?_
          refine lv_iand hx hb dX4_searchDay_51 ?_
          refine lv_topi (fun x_14 ex_14 => ?_)
          refine lv_if_ne (tgt := 118) hx hb dX4_searchDay_52 (by decide) (fun c_15 => ?_) (fun c_15 => ?_)
          · have tc_15 : x_14.toInt ≠ (0 : Int32).toInt := fun q => absurd (Int32.toInt_inj.mp q) c_15
            obtain ⟨x_16, ex_16⟩ : ∃ y : Int32, y = y1_4 + 1 := ⟨_, rfl⟩
            refine lv_iinc (v := x_16) (lv' := [(4, .int x_16), (5, .int x_8), (0, .ref (ad 1)), (1, .int x0), (2, .int x1), (3, .int x2)]) hx hb dX4_searchDay_118 hl (k := 1) rfl (by rw [ex_16]; rfl) (by decide) rfl (fun ls hl => ?_)
            have k_1 : (1 : Int32).toInt = 1 := by decide
            have tx_16 : x_16.toInt = y1_4.toInt + (1 : Int32).toInt := by rw [ex_16]; exact t_add ⟨by omega, by omega⟩
            refine lv_goto (tgt := 3) hx hb dX4_searchDay_121 (by decide) ?_
            exact ih_1 x_16 u1 H locs (by omega) (by omega) (by omega) hv hfr hP hD hS ls (lv_sub hl [0, 2, 3, 4, 5] rfl)
          · have tc_15 : x_14.toInt = (0 : Int32).toInt := by rw [c_15]
            refine lv_aload_n hx hb dX4_searchDay_55 rfl (lv_at hl 2 rfl) ?_
            refine va_get (D := (dC, dI)) (ci := 4) (v := .ref (ad 6)) (C := RX4) (T := TX4) (N := 11) hx hb hts iwX4_searchDay_X4 hown hK hP (1) (wl_at (by omega) (ce_1 (by decide))) rfl 7 (by decide) (hts (.fieldLink RX4 24 "QuietStairs$Planner" "seats" "[I") fwX4_searchDay_3) (fun _ h9 => h9) rfl dX4_searchDay_56 ?_
            refine lv_iload_n hx hb dX4_searchDay_59 rfl (lv_at hl 3 rfl) ?_
            refine lv_bipush (v := 6) hx hb dX4_searchDay_60 (by decide) ?_
            refine lv_iload_n hx hb dX4_searchDay_62 rfl (lv_at hl 5 rfl) ?_
            refine lv_imul hx hb dX4_searchDay_63 ?_
            refine lv_topi (fun x_16 ex_16 => ?_)
            refine lv_iload hx hb dX4_searchDay_64 (lv_at hl 1 rfl) ?_
            refine lv_iadd hx hb dX4_searchDay_66 ?_
            refine lv_topi (fun x_17 ex_17 => ?_)
            refine va_iast hx hb hK hP hD hS (6) 0 (wl_at (by omega) (ce_17 (by decide))) rfl pi9 dX4_searchDay_67 (fun H locs hP hD hS => ?_)
            obtain ⟨v_18, ev_18⟩ : ∃ u : Nat → Nat → Int32, u = upr u1 (6) (upd (u1 (6)) (x0.toNatClampNeg) x_17) := ⟨_, rfl⟩
            have hP : va_P (dC, dI) vwCl (wl ad kv cy N v_18) H := by rw [ev_18, ← wl_put (e := _) (ce_17 (by decide))]; exact hP
            have hD : va_D A (wl ad kv cy N v_18) := by rw [ev_18, ← wl_put (e := _) (ce_17 (by decide))]; exact hD
            have hv : Iv v_18 := by rw [ev_18]; exact hv.put (K := 17) (by decide) (fun h q => by simp [bd] at q)
            have hfr : Fz v v_18 := by rw [ev_18]; exact hfr.put (by omega) (by omega) (by omega)
            refine lv_aload_n hx hb dX4_searchDay_68 rfl (lv_at hl 2 rfl) ?_
            refine va_get (D := (dC, dI)) (ci := 4) (v := .ref (ad 8)) (C := RX4) (T := TX4) (N := 11) hx hb hts iwX4_searchDay_X4 hown hK hP (1) (wl_at (by omega) (ce_1 (by decide))) rfl 9 (by decide) (hts (.fieldLink RX4 30 "QuietStairs$Planner" "busyBits" "[I") fwX4_searchDay_2) (fun _ h9 => h9) rfl dX4_searchDay_69 ?_
            refine lv_iload_n hx hb dX4_searchDay_72 rfl (lv_at hl 5 rfl) ?_
            refine lv_dup2_11 hx hb dX4_searchDay_73 rfl rfl ?_
            refine va_iald hx hb hK hP (8) 0 (wl_at (by omega) (ce_18 (by decide))) rfl pi12 dX4_searchDay_74 ?_
            refine lv_topi (fun x_19 ex_19 => ?_)
            refine lv_iload hx hb dX4_searchDay_75 (lv_at hl 0 rfl) ?_
            refine lv_ior hx hb dX4_searchDay_77 ?_
            refine lv_topi (fun x_20 ex_20 => ?_)
            refine va_iast hx hb hK hP hD hS (8) 0 (wl_at (by omega) (ce_18 (by decide))) rfl pi12 dX4_searchDay_78 (fun H locs hP hD hS => ?_)
            obtain ⟨v_21, ev_21⟩ : ∃ u : Nat → Nat → Int32, u = upr v_18 (8) (upd (v_18 (8)) (x2.toNatClampNeg) x_20) := ⟨_, rfl⟩
            have hP : va_P (dC, dI) vwCl (wl ad kv cy N v_21) H := by rw [ev_21, ← wl_put (e := _) (ce_18 (by decide))]; exact hP
            have hD : va_D A (wl ad kv cy N v_21) := by rw [ev_21, ← wl_put (e := _) (ce_18 (by decide))]; exact hD
            have hv : Iv v_21 := by rw [ev_21]; exact hv.put (K := 18) (by decide) (fun h q => by simp [bd] at q)
            have hfr : Fz v v_21 := by rw [ev_21]; exact hfr.put (by omega) (by omega) (by omega)
            refine lv_aload_n hx hb dX4_searchDay_79 rfl (lv_at hl 2 rfl) ?_
            refine va_get (D := (dC, dI)) (ci := 4) (v := .ref (ad 9)) (C := RX4) (T := TX4) (N := 11) hx hb hts iwX4_searchDay_X4 hown hK hP (1) (wl_at (by omega) (ce_1 (by decide))) rfl 10 (by decide) (hts (.fieldLink RX4 33 "QuietStairs$Planner" "sittings" "[I") fwX4_searchDay_4) (fun _ h9 => h9) rfl dX4_searchDay_80 ?_
            refine lv_iload_n hx hb dX4_searchDay_83 rfl (lv_at hl 5 rfl) ?_
            refine lv_dup2_11 hx hb dX4_searchDay_84 rfl rfl ?_
            refine va_iald hx hb hK hP (9) 0 (wl_at (by omega) (ce_18 (by decide))) rfl pi12 dX4_searchDay_85 ?_
            refine lv_topi (fun x_22 ex_22 => ?_)
            refine lv_iconst (v := 1) hx hb dX4_searchDay_86 (by decide) ?_
            have k_1 : (1 : Int32).toInt = 1 := by decide
            refine lv_iadd hx hb dX4_searchDay_87 ?_
            refine lv_topi (fun x_23 ex_23 => ?_)
            refine va_iast hx hb hK hP hD hS (9) 0 (wl_at (by omega) (ce_18 (by decide))) rfl pi12 dX4_searchDay_88 (fun H locs hP hD hS => ?_)
            obtain ⟨v_24, ev_24⟩ : ∃ u : Nat → Nat → Int32, u = upr v_21 (9) (upd (v_21 (9)) (x2.toNatClampNeg) x_23) := ⟨_, rfl⟩
            have hP : va_P (dC, dI) vwCl (wl ad kv cy N v_24) H := by rw [ev_24, ← wl_put (e := _) (ce_18 (by decide))]; exact hP
            have hD : va_D A (wl ad kv cy N v_24) := by rw [ev_24, ← wl_put (e := _) (ce_18 (by decide))]; exact hD
            have hv : Iv v_24 := by rw [ev_24]; exact hv.put (K := 18) (by decide) (fun h q => by simp [bd] at q)
            have hfr : Fz v v_24 := by rw [ev_24]; exact hfr.put (by omega) (by omega) (by omega)
            refine lv_aload_n hx hb dX4_searchDay_89 rfl (lv_at hl 2 rfl) ?_
            refine lv_iload_n hx hb dX4_searchDay_90 rfl (lv_at hl 3 rfl) ?_
            refine lv_iconst (v := 1) hx hb dX4_searchDay_91 (by decide) ?_
            refine lv_iadd hx hb dX4_searchDay_92 ?_
            refine lv_topi (fun x_25 ex_25 => ?_)
            have tx_25 : x_25.toInt = x0.toInt + (1 : Int32).toInt := by rw [ex_25]; exact t_add ⟨by omega, by omega⟩
            refine lv_iload_n hx hb dX4_searchDay_93 rfl (lv_at hl 4 rfl) ?_
            refine yw_v (w1 := fun (u : Nat → Nat → Int32) => wl ad kv cy N u) hD hS hA (va_runV (As := [.int x_25, .int x1]) (rest := []) ⟨hx, hb, hml, hown, hts⟩ (g_X4_search_1 l dC dI cy _ ad kv N hN v_24 hv x_25 x1 ⟨by omega, by omega⟩ t1 t2) (cwV 2 hts gX4_searchDay_X4_search rfl rfl rfl hd_V_X4_search_2 ⟨Nat.le_of_ble_eq_true rfl, Nat.le_of_ble_eq_true rfl⟩) ⟨ex_blindT, va_recv hK hP (ci := 4) (q := (RX4, TX4, 11)) (q0 := 1) rfl (wl_at (by omega) (ce_1 (by decide))), fun U hU hW => ⟨rfl, ((yw_preS (As := []) hE hK hP hD).2 U hU hW).2, hSt.go hS (yw_F hD hS hA) hU hW⟩⟩ rfl rfl hl.1 rfl (lv_room (Nat.le_of_ble_eq_true rfl)) dX4_searchDay_94 ⟨Nat.le_of_ble_eq_true rfl, Nat.le_of_ble_eq_true rfl⟩) (fun v_26 H locs hw_26 hP hD hS => ?_)
            obtain ⟨hv, hw_26⟩ := hw_26
            have hfr : Fz v v_26 := hfr.trans hw_26
            refine lv_aload_n hx hb dX4_searchDay_97 rfl (lv_at hl 2 rfl) ?_
            refine va_get (D := (dC, dI)) (ci := 4) (v := .ref (ad 9)) (C := RX4) (T := TX4) (N := 11) hx hb hts iwX4_searchDay_X4 hown hK hP (1) (wl_at (by omega) (ce_1 (by decide))) rfl 10 (by decide) (hts (.fieldLink RX4 33 "QuietStairs$Planner" "sittings" "[I") fwX4_searchDay_4) (fun _ h9 => h9) rfl dX4_searchDay_98 ?_
            refine lv_iload_n hx hb dX4_searchDay_101 rfl (lv_at hl 5 rfl) ?_
            refine lv_dup2_11 hx hb dX4_searchDay_102 rfl rfl ?_
            refine va_iald hx hb hK hP (9) 0 (wl_at (by omega) (ce_18 (by decide))) rfl pi12 dX4_searchDay_103 ?_
            refine lv_topi (fun x_27 ex_27 => ?_)
            refine lv_iconst (v := 1) hx hb dX4_searchDay_104 (by decide) ?_
            refine lv_isub hx hb dX4_searchDay_105 ?_
            refine lv_topi (fun x_28 ex_28 => ?_)
            refine va_iast hx hb hK hP hD hS (9) 0 (wl_at (by omega) (ce_18 (by decide))) rfl pi12 dX4_searchDay_106 (fun H locs hP hD hS => ?_)
            obtain ⟨v_29, ev_29⟩ : ∃ u : Nat → Nat → Int32, u = upr v_26 (9) (upd (v_26 (9)) (x2.toNatClampNeg) x_28) := ⟨_, rfl⟩
            have hP : va_P (dC, dI) vwCl (wl ad kv cy N v_29) H := by rw [ev_29, ← wl_put (e := _) (ce_18 (by decide))]; exact hP
            have hD : va_D A (wl ad kv cy N v_29) := by rw [ev_29, ← wl_put (e := _) (ce_18 (by decide))]; exact hD
            have hv : Iv v_29 := by rw [ev_29]; exact hv.put (K := 18) (by decide) (fun h q => by simp [bd] at q)
            have hfr : Fz v v_29 := by rw [ev_29]; exact hfr.put (by omega) (by omega) (by omega)
            refine lv_aload_n hx hb dX4_searchDay_107 rfl (lv_at hl 2 rfl) ?_
            refine va_get (D := (dC, dI)) (ci := 4) (v := .ref (ad 8)) (C := RX4) (T := TX4) (N := 11) hx hb hts iwX4_searchDay_X4 hown hK hP (1) (wl_at (by omega) (ce_1 (by decide))) rfl 9 (by decide) (hts (.fieldLink RX4 30 "QuietStairs$Planner" "busyBits" "[I") fwX4_searchDay_2) (fun _ h9 => h9) rfl dX4_searchDay_108 ?_
            refine lv_iload_n hx hb dX4_searchDay_111 rfl (lv_at hl 5 rfl) ?_
            refine lv_dup2_11 hx hb dX4_searchDay_112 rfl rfl ?_
            refine va_iald hx hb hK hP (8) 0 (wl_at (by omega) (ce_18 (by decide))) rfl pi12 dX4_searchDay_113 ?_
            refine lv_topi (fun x_30 ex_30 => ?_)
            refine lv_iload hx hb dX4_searchDay_114 (lv_at hl 0 rfl) ?_
            refine lv_ixor hx hb dX4_searchDay_116 ?_
            refine lv_topi (fun x_31 ex_31 => ?_)
            refine va_iast hx hb hK hP hD hS (8) 0 (wl_at (by omega) (ce_18 (by decide))) rfl pi12 dX4_searchDay_117 (fun H locs hP hD hS => ?_)
            obtain ⟨v_32, ev_32⟩ : ∃ u : Nat → Nat → Int32, u = upr v_29 (8) (upd (v_29 (8)) (x2.toNatClampNeg) x_31) := ⟨_, rfl⟩
            have hP : va_P (dC, dI) vwCl (wl ad kv cy N v_32) H := by rw [ev_32, ← wl_put (e := _) (ce_18 (by decide))]; exact hP
            have hD : va_D A (wl ad kv cy N v_32) := by rw [ev_32, ← wl_put (e := _) (ce_18 (by decide))]; exact hD
            have hv : Iv v_32 := by rw [ev_32]; exact hv.put (K := 18) (by decide) (fun h q => by simp [bd] at q)
            have hfr : Fz v v_32 := by rw [ev_32]; exact hfr.put (by omega) (by omega) (by omega)
            obtain ⟨x_33, ex_33⟩ : ∃ y : Int32, y = y1_4 + 1 := ⟨_, rfl⟩
            refine lv_iinc (v := x_33) (lv' := [(4, .int x_33), (5, .int x_8), (0, .ref (ad 1)), (1, .int x0), (2, .int x1), (3, .int x2)]) hx hb dX4_searchDay_118 hl (k := 1) rfl (by rw [ex_33]; rfl) (by decide) rfl (fun ls hl => ?_)
            have tx_33 : x_33.toInt = y1_4.toInt + (1 : Int32).toInt := by rw [ex_33]; exact t_add ⟨by omega, by omega⟩
            refine lv_goto (tgt := 3) hx hb dX4_searchDay_121 (by decide) ?_
            exact ih_1 x_33 v_32 H locs (by omega) (by omega) (by omega) hv hfr hP hD hS ls (lv_sub hl [0, 2, 3, 4, 5] rfl)
  exact hloop_1 ((6 - (0 : Int32).toInt).toNat + 1) 0 v _ _ (by omega) (by omega) (by omega) hv hfr hP hD hS ls hl

set_option maxHeartbeats 4000000 in
set_option maxRecDepth 100000 in
theorem g_X4_search_2 (l : Launch) (dC : Nat → ClassId) (dI : Nat → Nat → Nat) (cy : Nat → ClassId) (sz : Nat) (ad : Nat → Nat) (kv : Value) (N : Nat) (hN : 119 ≤ N) (v : Nat → Nat → Int32) (hv : Iv v) (x0 x1 : Int32) (hs : 2 ≤ x0.toInt ∧ x0.toInt ≤ 4) (t1 t2 : Nat) : Met l yX4_search wsX4_search ({ frames := 5, cells := 0, slots := 0, locals := 320 }) (va_Pc [.ref (ad 1), .int x0, .int x1] (ex_PreT dC dI cy sz (wl ad kv cy N v) t1 t2)) (va_Qv (fun (u : Nat → Nat → Int32) => Iv u ∧ Fz v u) (fun u t => ex_Pst dC dI (va_A (wl ad kv cy N v) sz) (wl ad kv cy N u) t) (va_A (wl ad kv cy N v) sz)) 0 0 (va_A (wl ad kv cy N v) sz) := by
  refine Met.ofW (cc := cX4_search) (maxL := 4) (ret := none) (by decide) rfl ?_
  intro p e s m args below meth c s₁ B hml hv
  obtain ⟨rfl, ⟨hsz, hE, hP, hK, hD0⟩, hSt⟩ := hv
  have hx := B.exec
  have hb := B.bytes
  have hr := B.returns
  have hts := atoms_spec (ws := wsX4_search) B.pre
  have hown : s.vm.findClass RX4 = some m.cls := findClass_of_methodNamed B.named
  have hlocks := B.notSynchronized
  subst hsz
  have hD := hD0.self (sz := s.heap.size)
  generalize hAe : va_A (wl ad kv cy N v) s.heap.size = A at hD hSt ⊢
  have hA : ∀ q : Nat, s.heap.size ≤ q → A q := fun q h => by rw [← hAe]; exact Or.inr h
  have hS : va_S A s.heap s.heap [] := va_S.rf
  have hP : va_P (dC, dI) vwCl (wl ad kv cy N v) s.heap := hP
  have hl := lv_entry ([.ref (ad 1), .int x0, .int x1]) (n := 4) (Nat.le_of_ble_eq_true rfl)
  rw [lg_entry_eq]
  generalize (lg_sl ([.ref (ad 1), .int x0, .int x1]) ++ List.replicate (4 - (lg_sl ([.ref (ad 1), .int x0, .int x1])).length) Slot.unset).toArray = ls at hl ⊢
  have hl : lv_has ls 4 [(0, .ref (ad 1)), (1, .int x0), (2, .int x1)] := hl
  have hfr : Fz v v := Fz.rf
  refine lv_iload_n hx hb dX4_search_0 rfl (lv_at hl 2 rfl) ?_
  refine lv_aload_n hx hb dX4_search_1 rfl (lv_at hl 0 rfl) ?_
  refine lv_iload_n hx hb dX4_search_2 rfl (lv_at hl 1 rfl) ?_
  refine yw_i (w1 := fun (u : Nat → Nat → Int32) => wl ad kv cy N u) hD hS hA (va_runV (As := [.int x0]) (rest := [.int x1]) ⟨hx, hb, hml, hown, hts⟩ (g_X4_leastBehind l dC dI cy _ ad kv N hN v hv x0) (cwV 1 hts gX4_search_X4_leastBehind rfl rfl rfl hd_V_X4_leastBehind_1 ⟨Nat.le_of_ble_eq_true rfl, Nat.le_of_ble_eq_true rfl⟩) (yw_preV hE hK hP hD (ci := 4) (q := (RX4, TX4, 11)) (q0 := 1) rfl (wl_at (by omega) (ce_1 (by decide)))) rfl rfl hl.1 rfl (lv_room (Nat.le_of_ble_eq_true rfl)) dX4_search_3 ⟨Nat.le_of_ble_eq_true rfl, Nat.le_of_ble_eq_true rfl⟩) (fun r_1 v_1 H locs hw_1 hP hD hS => ?_)
  obtain ⟨hv, hw_1⟩ := hw_1
  have hfr : Fz v v_1 := hfr.trans hw_1
  refine lv_iadd hx hb dX4_search_6 ?_
  refine lv_topi (fun x_2 ex_2 => ?_)
  refine lv_aload_n hx hb dX4_search_7 rfl (lv_at hl 0 rfl) ?_
  refine va_get (D := (dC, dI)) (ci := 4) (v := .int (v_1 (1) 0)) (C := RX4) (T := TX4) (N := 11) hx hb hts iwX4_search_X4 hown hK hP (1) (wl_at (by omega) (ce_1 (by decide))) rfl 0 (by decide) (hts (.fieldLink RX4 58 "QuietStairs$Planner" "leastWait" "I") fwX4_search_1) (fun _ h9 => h9) rfl dX4_search_8 ?_
  refine lv_topi (fun x_3 ex_3 => ?_)
  refine lv_icmp_lt (tgt := 15) hx hb dX4_search_11 (by decide) (fun c_4 => ?_) (fun c_4 => ?_)
  · have tc_4 : x_2.toInt < x_3.toInt := Int32.lt_iff_toInt_lt.mp c_4
    refine lv_iload_n hx hb dX4_search_15 rfl (lv_at hl 1 rfl) ?_
    refine lv_aload_n hx hb dX4_search_16 rfl (lv_at hl 0 rfl) ?_
    refine va_get (D := (dC, dI)) (ci := 4) (v := .int (v_1 (1) 1)) (C := RX4) (T := TX4) (N := 11) hx hb hts iwX4_search_X4 hown hK hP (1) (wl_at (by omega) (ce_1 (by decide))) rfl 1 (by decide) (hts (.fieldLink RX4 61 "QuietStairs$Planner" "count" "I") fwX4_search_2) (fun _ h9 => h9) rfl dX4_search_17 ?_
    refine lv_topi (fun x_5 ex_5 => ?_)
    have bx_5 : 0 ≤ x_5.toInt ∧ x_5.toInt ≤ 4 := by rw [ex_5]; exact hv.at (K := 1) (by decide) rfl
    refine lv_icmp_lt (tgt := 46) hx hb dX4_search_20 (by decide) (fun c_6 => ?_) (fun c_6 => ?_)
    · have tc_6 : x0.toInt < x_5.toInt := Int32.lt_iff_toInt_lt.mp c_6
      refine lv_iconst (v := 0) hx hb dX4_search_46 (by decide) ?_
      refine lv_istore_n (lv' := [(3, .int 0), (0, .ref (ad 1)), (1, .int x0), (2, .int x1)]) hx hb dX4_search_47 rfl hl (by decide) rfl (fun ls hl => ?_)
      have k_0 : (0 : Int32).toInt = 0 := by decide
      have hloop_7 : ∀ (n : Nat) (y7_3 : Int32) (u7 : Nat → Nat → Int32) (H : Heap) (locs : List Loc), 0 ≤ y7_3.toInt → y7_3.toInt ≤ 3 → (3 - y7_3.toInt).toNat < n → Iv u7 → Fz v u7 → va_P (dC, dI) vwCl (wl ad kv cy N u7) H → va_D A (wl ad kv cy N u7) → va_S A s.heap H locs → ∀ ls : Array Slot, lv_has ls 4 [(3, .int y7_3), (0, .ref (ad 1)), (1, .int x0), (2, .int x1)] → W p l e (headSpec wsX4_search ({ frames := 5, cells := 0, slots := 0, locals := 320 })).room s m [Value.ref (ad 1), Value.int x0, Value.int x1].toArray below meth c H locs 0 0 (MQ below (va_Qv (fun (u : Nat → Nat → Int32) => Iv u ∧ Fz v u) (fun u t => ex_Pst dC dI A (wl ad kv cy N u) t) A) [Value.ref (ad 1), Value.int x0, Value.int x1].toArray s 0 0 A) (F0 m 48 ls []) := by
        intro n
        induction n with
        | zero =>
          intro y7_3 u7 H locs ay7_3 by7_3 hm_7 hv hfr hP hD hS ls hl
          exact absurd hm_7 (by omega)
        | succ n ih_7 =>
          intro y7_3 u7 H locs ay7_3 by7_3 hm_7 hv hfr hP hD hS ls hl
          refine lv_iload_n hx hb dX4_search_48 rfl (lv_at hl 0 rfl) ?_
          refine lv_iconst (v := 3) hx hb dX4_search_49 (by decide) ?_
          have k_3 : (3 : Int32).toInt = 3 := by decide
          refine lv_icmp_ge (tgt := 88) hx hb dX4_search_50 (by decide) (fun c_8 => ?_) (fun c_8 => ?_)
          · have tc_8 : y7_3.toInt ≥ (3 : Int32).toInt := Int32.le_iff_toInt_le.mp c_8
            refine lv_aload_n hx hb dX4_search_88 rfl (lv_at hl 1 rfl) ?_
            refine va_get (D := (dC, dI)) (ci := 4) (v := .ref (ad 6)) (C := RX4) (T := TX4) (N := 11) hx hb hts iwX4_search_X4 hown hK hP (1) (wl_at (by omega) (ce_1 (by decide))) rfl 7 (by decide) (hts (.fieldLink RX4 24 "QuietStairs$Planner" "seats" "[I") fwX4_search_3) (fun _ h9 => h9) rfl dX4_search_89 ?_
            refine lv_iload_n hx hb dX4_search_92 rfl (lv_at hl 2 rfl) ?_
            refine lv_bipush (v := 18) hx hb dX4_search_93 (by decide) ?_
            obtain ⟨pi9, i9, hi9, ni9, mi9⟩ := t_in (x := x0) (n := 4) ⟨by omega, by omega⟩
            refine va_iast hx hb hK hP hD hS (6) 0 (wl_at (by omega) (ce_17 (by decide))) rfl pi9 dX4_search_95 (fun H locs hP hD hS => ?_)
            have k_18 : (18 : Int32).toInt = 18 := by decide
            obtain ⟨v_10, ev_10⟩ : ∃ u : Nat → Nat → Int32, u = upr u7 (6) (upd (u7 (6)) (x0.toNatClampNeg) 18) := ⟨_, rfl⟩
            have hP : va_P (dC, dI) vwCl (wl ad kv cy N v_10) H := by rw [ev_10, ← wl_put (e := _) (ce_17 (by decide))]; exact hP
            have hD : va_D A (wl ad kv cy N v_10) := by rw [ev_10, ← wl_put (e := _) (ce_17 (by decide))]; exact hD
            have hv : Iv v_10 := by rw [ev_10]; exact hv.put (K := 17) (by decide) (fun h q => by simp [bd] at q)
            have hfr : Fz v v_10 := by rw [ev_10]; exact hfr.put (by omega) (by omega) (by omega)
            refine lv_aload_n hx hb dX4_search_96 rfl (lv_at hl 1 rfl) ?_
            refine lv_iload_n hx hb dX4_search_97 rfl (lv_at hl 2 rfl) ?_
            refine lv_iconst (v := 1) hx hb dX4_search_98 (by decide) ?_
            have k_1 : (1 : Int32).toInt = 1 := by decide
            refine lv_iadd hx hb dX4_search_99 ?_
            refine lv_topi (fun x_11 ex_11 => ?_)
            have tx_11 : x_11.toInt = x0.toInt + (1 : Int32).toInt := by rw [ex_11]; exact t_add ⟨by omega, by omega⟩
            refine lv_iload_n hx hb dX4_search_100 rfl (lv_at hl 3 rfl) ?_
            refine lv_aload_n hx hb dX4_search_101 rfl (lv_at hl 1 rfl) ?_
            refine va_get (D := (dC, dI)) (ci := 4) (v := .ref (ad 3)) (C := RX4) (T := TX4) (N := 11) hx hb hts iwX4_search_X4 hown hK hP (1) (wl_at (by omega) (ce_1 (by decide))) rfl 4 (by decide) (hts (.fieldLink RX4 15 "QuietStairs$Planner" "weights" "[I") fwX4_search_11) (fun _ h9 => h9) rfl dX4_search_102 ?_
            refine lv_iload_n hx hb dX4_search_105 rfl (lv_at hl 2 rfl) ?_
            refine va_iald hx hb hK hP (3) 0 (wl_at (by omega) (ce_17 (by decide))) rfl pi9 dX4_search_106 ?_
            refine lv_topi (fun x_12 ex_12 => ?_)
            refine lv_iconst (v := 4) hx hb dX4_search_107 (by decide) ?_
            refine lv_imul hx hb dX4_search_108 ?_
            refine lv_topi (fun x_13 ex_13 => ?_)
            refine lv_iadd hx hb dX4_search_109 ?_
            refine lv_topi (fun x_14 ex_14 => ?_)
            refine yw_v (w1 := fun (u : Nat → Nat → Int32) => wl ad kv cy N u) hD hS hA (va_runV (As := [.int x_11, .int x_14]) (rest := []) ⟨hx, hb, hml, hown, hts⟩ (g_X4_search_1 l dC dI cy _ ad kv N hN v_10 hv x_11 x_14 ⟨by omega, by omega⟩ t1 t2) (cwV 2 hts gX4_search_X4_search rfl rfl rfl hd_V_X4_search_2 ⟨Nat.le_of_ble_eq_true rfl, Nat.le_of_ble_eq_true rfl⟩) ⟨ex_blindT, va_recv hK hP (ci := 4) (q := (RX4, TX4, 11)) (q0 := 1) rfl (wl_at (by omega) (ce_1 (by decide))), fun U hU hW => ⟨rfl, ((yw_preS (As := []) hE hK hP hD).2 U hU hW).2, hSt.go hS (yw_F hD hS hA) hU hW⟩⟩ rfl rfl hl.1 rfl (lv_room (Nat.le_of_ble_eq_true rfl)) dX4_search_110 ⟨Nat.le_of_ble_eq_true rfl, Nat.le_of_ble_eq_true rfl⟩) (fun v_15 H locs hw_15 hP hD hS => ?_)
            obtain ⟨hv, hw_15⟩ := hw_15
            have hfr : Fz v v_15 := hfr.trans hw_15
            exact W.vret hx hb hr (fun t ht hW => ⟨⟨v_15, rfl, ⟨hv, hfr⟩, by rw [ht]; exact hP, hD⟩, hS.F ht⟩) hS.2.2 dX4_search_113
          · have tc_8 : y7_3.toInt < (3 : Int32).toInt := Int32.lt_iff_toInt_lt.mp (Int32.not_le.mp c_8)
            refine lv_aload_n hx hb dX4_search_53 rfl (lv_at hl 1 rfl) ?_
            refine va_get (D := (dC, dI)) (ci := 4) (v := .ref (ad 9)) (C := RX4) (T := TX4) (N := 11) hx hb hts iwX4_search_X4 hown hK hP (1) (wl_at (by omega) (ce_1 (by decide))) rfl 10 (by decide) (hts (.fieldLink RX4 33 "QuietStairs$Planner" "sittings" "[I") fwX4_search_9) (fun _ h9 => h9) rfl dX4_search_54 ?_
            refine lv_iload_n hx hb dX4_search_57 rfl (lv_at hl 0 rfl) ?_
            obtain ⟨pi9, i9, hi9, ni9, mi9⟩ := t_in (x := y7_3) (n := 3) ⟨by omega, by omega⟩
            refine va_iald hx hb hK hP (9) 0 (wl_at (by omega) (ce_18 (by decide))) rfl pi9 dX4_search_58 ?_
            refine lv_topi (fun x_10 ex_10 => ?_)
            refine lv_aload_n hx hb dX4_search_59 rfl (lv_at hl 1 rfl) ?_
            refine va_get (D := (dC, dI)) (ci := 4) (v := .int (u7 (1) 2)) (C := RX4) (T := TX4) (N := 11) hx hb hts iwX4_search_X4 hown hK hP (1) (wl_at (by omega) (ce_1 (by decide))) rfl 2 (by decide) (hts (.fieldLink RX4 48 "QuietStairs$Planner" "seatsADay" "I") fwX4_search_10) (fun _ h9 => h9) rfl dX4_search_60 ?_
            refine lv_topi (fun x_11 ex_11 => ?_)
            refine lv_icmp_ge (tgt := 82) hx hb dX4_search_63 (by decide) (fun c_12 => ?_) (fun c_12 => ?_)
            · have tc_12 : x_10.toInt ≥ x_11.toInt := Int32.le_iff_toInt_le.mp c_12
              obtain ⟨x_13, ex_13⟩ : ∃ y : Int32, y = y7_3 + 1 := ⟨_, rfl⟩
              refine lv_iinc (v := x_13) (lv' := [(3, .int x_13), (0, .ref (ad 1)), (1, .int x0), (2, .int x1)]) hx hb dX4_search_82 hl (k := 0) rfl (by rw [ex_13]; rfl) (by decide) rfl (fun ls hl => ?_)
              have k_1 : (1 : Int32).toInt = 1 := by decide
              have tx_13 : x_13.toInt = y7_3.toInt + (1 : Int32).toInt := by rw [ex_13]; exact t_add ⟨by omega, by omega⟩
              refine lv_goto (tgt := 48) hx hb dX4_search_85 (by decide) ?_
              exact ih_7 x_13 u7 H locs (by omega) (by omega) (by omega) hv hfr hP hD hS ls (lv_sub hl [0, 1, 2, 3] rfl)
            · have tc_12 : x_10.toInt < x_11.toInt := Int32.lt_iff_toInt_lt.mp (Int32.not_le.mp c_12)
              refine lv_aload_n hx hb dX4_search_66 rfl (lv_at hl 1 rfl) ?_
              refine lv_iload_n hx hb dX4_search_67 rfl (lv_at hl 2 rfl) ?_
              refine lv_iload_n hx hb dX4_search_68 rfl (lv_at hl 3 rfl) ?_
              refine lv_aload_n hx hb dX4_search_69 rfl (lv_at hl 1 rfl) ?_
              refine va_get (D := (dC, dI)) (ci := 4) (v := .ref (ad 3)) (C := RX4) (T := TX4) (N := 11) hx hb hts iwX4_search_X4 hown hK hP (1) (wl_at (by omega) (ce_1 (by decide))) rfl 4 (by decide) (hts (.fieldLink RX4 15 "QuietStairs$Planner" "weights" "[I") fwX4_search_11) (fun _ h9 => h9) rfl dX4_search_70 ?_
              refine lv_iload_n hx hb dX4_search_73 rfl (lv_at hl 2 rfl) ?_
              obtain ⟨pi13, i13, hi13, ni13, mi13⟩ := t_in (x := x0) (n := 4) ⟨by omega, by omega⟩
              refine va_iald hx hb hK hP (3) 0 (wl_at (by omega) (ce_17 (by decide))) rfl pi13 dX4_search_74 ?_
              refine lv_topi (fun x_14 ex_14 => ?_)
              refine lv_iload_n hx hb dX4_search_75 rfl (lv_at hl 0 rfl) ?_
              refine lv_imul hx hb dX4_search_76 ?_
              refine lv_topi (fun x_15 ex_15 => ?_)
              refine lv_iadd hx hb dX4_search_77 ?_
              refine lv_topi (fun x_16 ex_16 => ?_)
              refine lv_iload_n hx hb dX4_search_78 rfl (lv_at hl 0 rfl) ?_
              refine yw_v (w1 := fun (u : Nat → Nat → Int32) => wl ad kv cy N u) hD hS hA (va_runV (As := [.int x0, .int x_16, .int y7_3]) (rest := []) ⟨hx, hb, hml, hown, hts⟩ (g_X4_searchDay_2 l dC dI cy _ ad kv N hN u7 hv x0 x_16 y7_3 ⟨by omega, by omega⟩ ⟨by omega, by omega⟩ t1 t2) (cwV 3 hts gX4_search_X4_searchDay rfl rfl rfl hd_V_X4_searchDay_3 ⟨Nat.le_of_ble_eq_true rfl, Nat.le_of_ble_eq_true rfl⟩) ⟨ex_blindT, va_recv hK hP (ci := 4) (q := (RX4, TX4, 11)) (q0 := 1) rfl (wl_at (by omega) (ce_1 (by decide))), fun U hU hW => ⟨rfl, ((yw_preS (As := []) hE hK hP hD).2 U hU hW).2, hSt.go hS (yw_F hD hS hA) hU hW⟩⟩ rfl rfl hl.1 rfl (lv_room (Nat.le_of_ble_eq_true rfl)) dX4_search_79 ⟨Nat.le_of_ble_eq_true rfl, Nat.le_of_ble_eq_true rfl⟩) (fun v_17 H locs hw_17 hP hD hS => ?_)
              obtain ⟨hv, hw_17⟩ := hw_17
              have hfr : Fz v v_17 := hfr.trans hw_17
              obtain ⟨x_18, ex_18⟩ : ∃ y : Int32, y = y7_3 + 1 := ⟨_, rfl⟩
              refine lv_iinc (v := x_18) (lv' := [(3, .int x_18), (0, .ref (ad 1)), (1, .int x0), (2, .int x1)]) hx hb dX4_search_82 hl (k := 0) rfl (by rw [ex_18]; rfl) (by decide) rfl (fun ls hl => ?_)
              have k_1 : (1 : Int32).toInt = 1 := by decide
              have tx_18 : x_18.toInt = y7_3.toInt + (1 : Int32).toInt := by rw [ex_18]; exact t_add ⟨by omega, by omega⟩
              refine lv_goto (tgt := 48) hx hb dX4_search_85 (by decide) ?_
              exact ih_7 x_18 v_17 H locs (by omega) (by omega) (by omega) hv hfr hP hD hS ls (lv_sub hl [0, 1, 2, 3] rfl)
      exact hloop_7 ((3 - (0 : Int32).toInt).toNat + 1) 0 v_1 _ _ (by omega) (by omega) (by omega) hv hfr hP hD hS ls hl
    · have tc_6 : x0.toInt ≥ x_5.toInt := Int32.le_iff_toInt_le.mp (Int32.not_lt.mp c_6)
      refine lv_aload_n hx hb dX4_search_23 rfl (lv_at hl 0 rfl) ?_
      refine lv_iload_n hx hb dX4_search_24 rfl (lv_at hl 2 rfl) ?_
      refine va_put (D := (dC, dI)) (ci := 4) (v := .int x1) (ty := .int) (C := RX4) (T := TX4) (N := 11) hx hb hts iwX4_search_X4 tyX4 tyX4_ok nmX4 hown hK hP hD hS (1) (wl_at (by omega) (ce_1 (by decide))) rfl 0 (by decide) (hts (.fieldLink RX4 58 "QuietStairs$Planner" "leastWait" "I") fwX4_search_1) (fun _ h9 => h9) rfl (by decide +kernel) rfl rfl (Nat.le_of_ble_eq_true rfl) dX4_search_25 (fun H locs hP hD hS => ?_)
      obtain ⟨v_7, ev_7⟩ : ∃ u : Nat → Nat → Int32, u = upr v_1 (1) (upd (v_1 (1)) 0 x1) := ⟨_, rfl⟩
      have hP : va_P (dC, dI) vwCl (wl ad kv cy N v_7) H := by rw [ev_7, ← wl_put (e := _) (ce_1 (by decide))]; exact hP
      have hD : va_D A (wl ad kv cy N v_7) := by rw [ev_7, ← wl_put (e := _) (ce_1 (by decide))]; exact hD
      have hv : Iv v_7 := by rw [ev_7]; exact hv.put (K := 1) (by decide) (fun h q => by simp [bd] at q)
      have hfr : Fz v v_7 := by rw [ev_7]; exact hfr.put (by omega) (by omega) (by omega)
      refine lv_aload_n hx hb dX4_search_28 rfl (lv_at hl 0 rfl) ?_
      refine va_get (D := (dC, dI)) (ci := 4) (v := .ref (ad 6)) (C := RX4) (T := TX4) (N := 11) hx hb hts iwX4_search_X4 hown hK hP (1) (wl_at (by omega) (ce_1 (by decide))) rfl 7 (by decide) (hts (.fieldLink RX4 24 "QuietStairs$Planner" "seats" "[I") fwX4_search_3) (fun _ h9 => h9) rfl dX4_search_29 ?_
      refine lv_iconst (v := 0) hx hb dX4_search_32 (by decide) ?_
      refine lv_aload_n hx hb dX4_search_33 rfl (lv_at hl 0 rfl) ?_
      refine va_get (D := (dC, dI)) (ci := 4) (v := .ref (ad 7)) (C := RX4) (T := TX4) (N := 11) hx hb hts iwX4_search_X4 hown hK hP (1) (wl_at (by omega) (ce_1 (by decide))) rfl 8 (by decide) (hts (.fieldLink RX4 27 "QuietStairs$Planner" "bestSeats" "[I") fwX4_search_4) (fun _ h9 => h9) rfl dX4_search_34 ?_
      refine lv_iconst (v := 0) hx hb dX4_search_37 (by decide) ?_
      refine lv_aload_n hx hb dX4_search_38 rfl (lv_at hl 0 rfl) ?_
      refine va_get (D := (dC, dI)) (ci := 4) (v := .int (v_7 (1) 1)) (C := RX4) (T := TX4) (N := 11) hx hb hts iwX4_search_X4 hown hK hP (1) (wl_at (by omega) (ce_1 (by decide))) rfl 1 (by decide) (hts (.fieldLink RX4 61 "QuietStairs$Planner" "count" "I") fwX4_search_2) (fun _ h9 => h9) rfl dX4_search_39 ?_
      refine lv_topi (fun x_8 ex_8 => ?_)
      rw [ev_7, upr_s, pk_un (by decide)] at ex_8
      rw [← ex_5] at ex_8; replace ex_8 := ex_8.symm; subst ex_8
      have hn_9 := t_n (x := x_5) (m := 4) ⟨by omega, by omega⟩
      refine va_copyi hx hb (hml.trans hl.1.symm) hown (hts (.methodLink RX4 99 arraycopyName) fwX4_search_5) (hts (.native arraycopyName) fwX4_search_6) (hts (.static arraycopyName) fwX4_search_7) (hts (.initialized "java/lang/System") fwX4_search_8) hK hP hD hS (6) (7) 0 0 (wl_at (by omega) (ce_17 (by decide))) (wl_at (by omega) (ce_17 (by decide))) rfl rfl rfl (by decide) (by decide) hn_9.1 (by rw [sb_cl0]; have := hn_9.2; omega) (by rw [sb_cl0]; have := hn_9.2; omega) (fun i hi => rfl) (Nat.le_of_ble_eq_true rfl) (Nat.le_of_ble_eq_true rfl) dX4_search_42 (fun H locs hP hD hS => ?_)
      obtain ⟨v_9, ev_9⟩ : ∃ u : Nat → Nat → Int32, u = upr v_7 (7) (va_cpy (v_7 (6)) (v_7 (7)) (0 : Int32).toNatClampNeg (0 : Int32).toNatClampNeg x_5.toNatClampNeg) := ⟨_, rfl⟩
      have hP : va_P (dC, dI) vwCl (wl ad kv cy N v_9) H := by rw [ev_9, ← wl_put (e := _) (ce_17 (by decide))]; exact hP
      have hD : va_D A (wl ad kv cy N v_9) := by rw [ev_9, ← wl_put (e := _) (ce_17 (by decide))]; exact hD
      have hv : Iv v_9 := by rw [ev_9]; exact hv.row (K := 17) (by decide) (fun j => rfl)
      have hfr : Fz v v_9 := by rw [ev_9]; exact hfr.row (by omega) (by omega) (by omega)
      exact W.vret hx hb hr (fun t ht hW => ⟨⟨v_9, rfl, ⟨hv, hfr⟩, by rw [ht]; exact hP, hD⟩, hS.F ht⟩) hS.2.2 dX4_search_45
  · have tc_4 : x_2.toInt ≥ x_3.toInt := Int32.le_iff_toInt_le.mp (Int32.not_lt.mp c_4)
    exact W.vret hx hb hr (fun t ht hW => ⟨⟨v_1, rfl, ⟨hv, hfr⟩, by rw [ht]; exact hP, hD⟩, hS.F ht⟩) hS.2.2 dX4_search_14

set_option maxHeartbeats 4000000 in
set_option maxRecDepth 100000 in
theorem g_X4_searchDay_3 (l : Launch) (dC : Nat → ClassId) (dI : Nat → Nat → Nat) (cy : Nat → ClassId) (sz : Nat) (ad : Nat → Nat) (kv : Value) (N : Nat) (hN : 119 ≤ N) (v : Nat → Nat → Int32) (hv : Iv v) (x0 x1 x2 : Int32) (hs : 1 ≤ x0.toInt ∧ x0.toInt ≤ 3) (ht : 0 ≤ x2.toInt ∧ x2.toInt ≤ 2) (t1 t2 : Nat) : Met l yX4_searchDay wsX4_searchDay ({ frames := 6, cells := 0, slots := 0, locals := 384 }) (va_Pc [.ref (ad 1), .int x0, .int x1, .int x2] (ex_PreT dC dI cy sz (wl ad kv cy N v) t1 t2)) (va_Qv (fun (u : Nat → Nat → Int32) => Iv u ∧ Fz v u) (fun u t => ex_Pst dC dI (va_A (wl ad kv cy N v) sz) (wl ad kv cy N u) t) (va_A (wl ad kv cy N v) sz)) 0 0 (va_A (wl ad kv cy N v) sz) := by
  refine Met.ofW (cc := cX4_searchDay) (maxL := 6) (ret := none) (by decide) rfl ?_
  intro p e s m args below meth c s₁ B hml hv
  obtain ⟨rfl, ⟨hsz, hE, hP, hK, hD0⟩, hSt⟩ := hv
  have hx := B.exec
  have hb := B.bytes
  have hr := B.returns
  have hts := atoms_spec (ws := wsX4_searchDay) B.pre
  have hown : s.vm.findClass RX4 = some m.cls := findClass_of_methodNamed B.named
  have hlocks := B.notSynchronized
  subst hsz
  have hD := hD0.self (sz := s.heap.size)
  generalize hAe : va_A (wl ad kv cy N v) s.heap.size = A at hD hSt ⊢
  have hA : ∀ q : Nat, s.heap.size ≤ q → A q := fun q h => by rw [← hAe]; exact Or.inr h
  have hS : va_S A s.heap s.heap [] := va_S.rf
  have hP : va_P (dC, dI) vwCl (wl ad kv cy N v) s.heap := hP
  have hl := lv_entry ([.ref (ad 1), .int x0, .int x1, .int x2]) (n := 6) (Nat.le_of_ble_eq_true rfl)
  rw [lg_entry_eq]
  generalize (lg_sl ([.ref (ad 1), .int x0, .int x1, .int x2]) ++ List.replicate (6 - (lg_sl ([.ref (ad 1), .int x0, .int x1, .int x2])).length) Slot.unset).toArray = ls at hl ⊢
  have hl : lv_has ls 6 [(0, .ref (ad 1)), (1, .int x0), (2, .int x1), (3, .int x2)] := hl
  have hfr : Fz v v := Fz.rf
  refine lv_iconst (v := 0) hx hb dX4_searchDay_0 (by decide) ?_
  refine lv_istore (lv' := [(4, .int 0), (0, .ref (ad 1)), (1, .int x0), (2, .int x1), (3, .int x2)]) hx hb dX4_searchDay_1 hl (by decide) rfl (fun ls hl => ?_)
  have k_0 : (0 : Int32).toInt = 0 := by decide
  have hloop_1 : ∀ (n : Nat) (y1_4 : Int32) (u1 : Nat → Nat → Int32) (H : Heap) (locs : List Loc), 0 ≤ y1_4.toInt → y1_4.toInt ≤ 6 → (6 - y1_4.toInt).toNat < n → Iv u1 → Fz v u1 → va_P (dC, dI) vwCl (wl ad kv cy N u1) H → va_D A (wl ad kv cy N u1) → va_S A s.heap H locs → ∀ ls : Array Slot, lv_has ls 6 [(4, .int y1_4), (0, .ref (ad 1)), (1, .int x0), (2, .int x1), (3, .int x2)] → W p l e (headSpec wsX4_searchDay ({ frames := 6, cells := 0, slots := 0, locals := 384 })).room s m [Value.ref (ad 1), Value.int x0, Value.int x1, Value.int x2].toArray below meth c H locs 0 0 (MQ below (va_Qv (fun (u : Nat → Nat → Int32) => Iv u ∧ Fz v u) (fun u t => ex_Pst dC dI A (wl ad kv cy N u) t) A) [Value.ref (ad 1), Value.int x0, Value.int x1, Value.int x2].toArray s 0 0 A) (F0 m 3 ls []) := by
    intro n
    induction n with
    | zero =>
      intro y1_4 u1 H locs ay1_4 by1_4 hm_1 hv hfr hP hD hS ls hl
      exact absurd hm_1 (by omega)
    | succ n ih_1 =>
      intro y1_4 u1 H locs ay1_4 by1_4 hm_1 hv hfr hP hD hS ls hl
      refine lv_iload hx hb dX4_searchDay_3 (lv_at hl 0 rfl) ?_
      refine lv_bipush (v := 6) hx hb dX4_searchDay_5 (by decide) ?_
      have k_6 : (6 : Int32).toInt = 6 := by decide
      refine lv_icmp_ge (tgt := 124) hx hb dX4_searchDay_7 (by decide) (fun c_2 => ?_) (fun c_2 => ?_)
      · have tc_2 : y1_4.toInt ≥ (6 : Int32).toInt := Int32.le_iff_toInt_le.mp c_2
        exact W.vret hx hb hr (fun t ht hW => ⟨⟨u1, rfl, ⟨hv, hfr⟩, by rw [ht]; exact hP, hD⟩, hS.F ht⟩) hS.2.2 dX4_searchDay_124
      · have tc_2 : y1_4.toInt < (6 : Int32).toInt := Int32.lt_iff_toInt_lt.mp (Int32.not_le.mp c_2)
        refine lv_iconst (v := 1) hx hb dX4_searchDay_10 (by decide) ?_
        refine va_getsN hx hb hSt.2.1 hS hown (va_Nw.use rfl hE.2.2.2.2.2.2.2.2.2.2.2.2.2.2.2.1) (fun _ h => h) dX4_searchDay_11 ?_
        refine lv_iload hx hb dX4_searchDay_14 (lv_at hl 0 rfl) ?_
        obtain ⟨pi3, i3, hi3, ni3, mi3⟩ := t_in (x := y1_4) (n := 6) ⟨by omega, by omega⟩
        refine va_ti (v := .int (st_l y1_4.toNatClampNeg)) hx hb hSt.2.2 hS pi3 rfl dX4_searchDay_16 ?_
        refine lv_topi (fun x_4 ex_4 => ?_)
        have bx_4 : 0 ≤ x_4.toInt ∧ x_4.toInt ≤ 3 := by rw [ex_4]; exact (st_b _).2
        refine lv_ishl hx hb dX4_searchDay_17 ?_
        refine lv_topi (fun x_5 ex_5 => ?_)
        have tx_5 : 1 ≤ x_5.toInt ∧ x_5.toInt ≤ 32 := by rw [ex_5]; exact t_shl ⟨by omega, by omega⟩
        refine lv_iconst (v := 1) hx hb dX4_searchDay_18 (by decide) ?_
        refine va_getsN hx hb hSt.1.1 hS hown (va_Nw.use rfl hE.2.2.2.2.2.2.2.2.2.2.2.2.2.2.2.2) (fun _ h => h) dX4_searchDay_19 ?_
        refine lv_iload hx hb dX4_searchDay_22 (lv_at hl 0 rfl) ?_
        refine va_ti (v := .int (st_o y1_4.toNatClampNeg)) hx hb hSt.1.2 hS pi3 rfl dX4_searchDay_24 ?_
        refine lv_topi (fun x_6 ex_6 => ?_)
        have bx_6 : 0 ≤ x_6.toInt ∧ x_6.toInt ≤ 3 := by rw [ex_6]; exact (st_b _).1
        refine lv_ishl hx hb dX4_searchDay_25 ?_
        refine lv_topi (fun x_7 ex_7 => ?_)
        have tx_7 : 1 ≤ x_7.toInt ∧ x_7.toInt ≤ 32 := by rw [ex_7]; exact t_shl ⟨by omega, by omega⟩
        refine lv_ior hx hb dX4_searchDay_26 ?_
        refine lv_topi (fun x_8 ex_8 => ?_)
        refine lv_istore (lv' := [(5, .int x_8), (4, .int y1_4), (0, .ref (ad 1)), (1, .int x0), (2, .int x1), (3, .int x2)]) hx hb dX4_searchDay_27 hl (by decide) rfl (fun ls hl => ?_)
        refine lv_aload_n hx hb dX4_searchDay_29 rfl (lv_at hl 2 rfl) ?_
        refine va_get (D := (dC, dI)) (ci := 4) (v := .ref (ad 4)) (C := RX4) (T := TX4) (N := 11) hx hb hts iwX4_searchDay_X4 hown hK hP (1) (wl_at (by omega) (ce_1 (by decide))) rfl 5 (by decide) (hts (.fieldLink RX4 18 "QuietStairs$Planner" "pairBits" "[I") fwX4_searchDay_1) (fun _ h9 => h9) rfl dX4_searchDay_30 ?_
        refine lv_iload_n hx hb dX4_searchDay_33 rfl (lv_at hl 3 rfl) ?_
        obtain ⟨pi9, i9, hi9, ni9, mi9⟩ := t_in (x := x0) (n := 4) ⟨by omega, by omega⟩
        refine va_iald hx hb hK hP (4) 0 (wl_at (by omega) (ce_17 (by decide))) rfl pi9 dX4_searchDay_34 ?_
        refine lv_topi (fun x_10 ex_10 => ?_)
        refine lv_iload hx hb dX4_searchDay_35 (lv_at hl 1 rfl) ?_
        refine yc_p hP hS (va_runSN (As := [.int x_10, .int y1_4]) (rest := []) ⟨hx, hb, hml, hown, hts⟩ (c_X7_hasBit l x_10 y1_4) ⟨va_cnB 2 hts gX4_searchDay_X7_hasBit_n115 rfl rfl rfl hE.2.2.2.2.2.2.2.2.2.2.2.1 (hts (.initialized RX7) fwX4_searchDay_6) (by decide +kernel) ⟨Nat.le_of_ble_eq_true rfl, Nat.le_of_ble_eq_true rfl⟩, (hts (.static yX7_hasBit) fwX4_searchDay_5), trivial⟩ ex_preP rfl rfl hl.1 rfl (lv_room (Nat.le_of_ble_eq_true rfl)) dX4_searchDay_37 ⟨Nat.le_of_ble_eq_true rfl, Nat.le_of_ble_eq_true rfl⟩) (fun r_11 H locs hw_11 hP hS => ?_)
        rcases hw_11 with rfl | rfl
        · refine lv_if_eq (tgt := 118) hx hb dX4_searchDay_40 (by decide) (fun _ => ?_) (fun c9 => absurd c9 (by decide))
          obtain ⟨x_12, ex_12⟩ : ∃ y : Int32, y = y1_4 + 1 := ⟨_, rfl⟩
          refine lv_iinc (v := x_12) (lv' := [(4, .int x_12), (5, .int x_8), (0, .ref (ad 1)), (1, .int x0), (2, .int x1), (3, .int x2)]) hx hb dX4_searchDay_118 hl (k := 1) rfl (by rw [ex_12]; rfl) (by decide) rfl (fun ls hl => ?_)
          have k_1 : (1 : Int32).toInt = 1 := by decide
          have tx_12 : x_12.toInt = y1_4.toInt + (1 : Int32).toInt := by rw [ex_12]; exact t_add ⟨by omega, by omega⟩
          refine lv_goto (tgt := 3) hx hb dX4_searchDay_121 (by decide) ?_
          exact ih_1 x_12 u1 H locs (by omega) (by omega) (by omega) hv hfr hP hD hS ls (lv_sub hl [0, 2, 3, 4, 5] rfl)
        · refine lv_if_eq (tgt := 118) hx hb dX4_searchDay_40 (by decide) (fun c9 => absurd c9 (by decide)) (fun _ => ?_)
          refine lv_aload_n hx hb dX4_searchDay_43 rfl (lv_at hl 2 rfl) ?_
          refine va_get (D := (dC, dI)) (ci := 4) (v := .ref (ad 8)) (C := RX4) (T := TX4) (N := 11) hx hb hts iwX4_searchDay_X4 hown hK hP (1) (wl_at (by omega) (ce_1 (by decide))) rfl 9 (by decide) (hts (.fieldLink RX4 30 "QuietStairs$Planner" "busyBits" "[I") fwX4_searchDay_2) (fun _ h9 => h9) rfl dX4_searchDay_44 ?_
          refine lv_iload_n hx hb dX4_searchDay_47 rfl (lv_at hl 5 rfl) ?_
          obtain ⟨pi12, i12, hi12, ni12, mi12⟩ := t_in (x := x2) (n := 3) ⟨by omega, by omega⟩
          refine va_iald hx hb hK hP (8) 0 (wl_at (by omega) (ce_18 (by decide))) rfl pi12 dX4_searchDay_48 ?_
          refine lv_topi (fun x_13 ex_13 => ?_)
          refine lv_iload hx hb dX4_searchDay_49 (lv_at hl 0 rfl) ?_
          refine lv_iand hx hb dX4_searchDay_51 ?_
          refine lv_topi (fun x_14 ex_14 => ?_)
          refine lv_if_ne (tgt := 118) hx hb dX4_searchDay_52 (by decide) (fun c_15 => ?_) (fun c_15 => ?_)
          · have tc_15 : x_14.toInt ≠ (0 : Int32).toInt := fun q => absurd (Int32.toInt_inj.mp q) c_15
            obtain ⟨x_16, ex_16⟩ : ∃ y : Int32, y = y1_4 + 1 := ⟨_, rfl⟩
            refine lv_iinc (v := x_16) (lv' := [(4, .int x_16), (5, .int x_8), (0, .ref (ad 1)), (1, .int x0), (2, .int x1), (3, .int x2)]) hx hb dX4_searchDay_118 hl (k := 1) rfl (by rw [ex_16]; rfl) (by decide) rfl (fun ls hl => ?_)
            have k_1 : (1 : Int32).toInt = 1 := by decide
            have tx_16 : x_16.toInt = y1_4.toInt + (1 : Int32).toInt := by rw [ex_16]; exact t_add ⟨by omega, by omega⟩
            refine lv_goto (tgt := 3) hx hb dX4_searchDay_121 (by decide) ?_
            exact ih_1 x_16 u1 H locs (by omega) (by omega) (by omega) hv hfr hP hD hS ls (lv_sub hl [0, 2, 3, 4, 5] rfl)
          · have tc_15 : x_14.toInt = (0 : Int32).toInt := by rw [c_15]
            refine lv_aload_n hx hb dX4_searchDay_55 rfl (lv_at hl 2 rfl) ?_
            refine va_get (D := (dC, dI)) (ci := 4) (v := .ref (ad 6)) (C := RX4) (T := TX4) (N := 11) hx hb hts iwX4_searchDay_X4 hown hK hP (1) (wl_at (by omega) (ce_1 (by decide))) rfl 7 (by decide) (hts (.fieldLink RX4 24 "QuietStairs$Planner" "seats" "[I") fwX4_searchDay_3) (fun _ h9 => h9) rfl dX4_searchDay_56 ?_
            refine lv_iload_n hx hb dX4_searchDay_59 rfl (lv_at hl 3 rfl) ?_
            refine lv_bipush (v := 6) hx hb dX4_searchDay_60 (by decide) ?_
            refine lv_iload_n hx hb dX4_searchDay_62 rfl (lv_at hl 5 rfl) ?_
            refine lv_imul hx hb dX4_searchDay_63 ?_
            refine lv_topi (fun x_16 ex_16 => ?_)
            refine lv_iload hx hb dX4_searchDay_64 (lv_at hl 1 rfl) ?_
            refine lv_iadd hx hb dX4_searchDay_66 ?_
            refine lv_topi (fun x_17 ex_17 => ?_)
            refine va_iast hx hb hK hP hD hS (6) 0 (wl_at (by omega) (ce_17 (by decide))) rfl pi9 dX4_searchDay_67 (fun H locs hP hD hS => ?_)
            obtain ⟨v_18, ev_18⟩ : ∃ u : Nat → Nat → Int32, u = upr u1 (6) (upd (u1 (6)) (x0.toNatClampNeg) x_17) := ⟨_, rfl⟩
            have hP : va_P (dC, dI) vwCl (wl ad kv cy N v_18) H := by rw [ev_18, ← wl_put (e := _) (ce_17 (by decide))]; exact hP
            have hD : va_D A (wl ad kv cy N v_18) := by rw [ev_18, ← wl_put (e := _) (ce_17 (by decide))]; exact hD
            have hv : Iv v_18 := by rw [ev_18]; exact hv.put (K := 17) (by decide) (fun h q => by simp [bd] at q)
            have hfr : Fz v v_18 := by rw [ev_18]; exact hfr.put (by omega) (by omega) (by omega)
            refine lv_aload_n hx hb dX4_searchDay_68 rfl (lv_at hl 2 rfl) ?_
            refine va_get (D := (dC, dI)) (ci := 4) (v := .ref (ad 8)) (C := RX4) (T := TX4) (N := 11) hx hb hts iwX4_searchDay_X4 hown hK hP (1) (wl_at (by omega) (ce_1 (by decide))) rfl 9 (by decide) (hts (.fieldLink RX4 30 "QuietStairs$Planner" "busyBits" "[I") fwX4_searchDay_2) (fun _ h9 => h9) rfl dX4_searchDay_69 ?_
            refine lv_iload_n hx hb dX4_searchDay_72 rfl (lv_at hl 5 rfl) ?_
            refine lv_dup2_11 hx hb dX4_searchDay_73 rfl rfl ?_
            refine va_iald hx hb hK hP (8) 0 (wl_at (by omega) (ce_18 (by decide))) rfl pi12 dX4_searchDay_74 ?_
            refine lv_topi (fun x_19 ex_19 => ?_)
            refine lv_iload hx hb dX4_searchDay_75 (lv_at hl 0 rfl) ?_
            refine lv_ior hx hb dX4_searchDay_77 ?_
            refine lv_topi (fun x_20 ex_20 => ?_)
            refine va_iast hx hb hK hP hD hS (8) 0 (wl_at (by omega) (ce_18 (by decide))) rfl pi12 dX4_searchDay_78 (fun H locs hP hD hS => ?_)
            obtain ⟨v_21, ev_21⟩ : ∃ u : Nat → Nat → Int32, u = upr v_18 (8) (upd (v_18 (8)) (x2.toNatClampNeg) x_20) := ⟨_, rfl⟩
            have hP : va_P (dC, dI) vwCl (wl ad kv cy N v_21) H := by rw [ev_21, ← wl_put (e := _) (ce_18 (by decide))]; exact hP
            have hD : va_D A (wl ad kv cy N v_21) := by rw [ev_21, ← wl_put (e := _) (ce_18 (by decide))]; exact hD
            have hv : Iv v_21 := by rw [ev_21]; exact hv.put (K := 18) (by decide) (fun h q => by simp [bd] at q)
            have hfr : Fz v v_21 := by rw [ev_21]; exact hfr.put (by omega) (by omega) (by omega)
            refine lv_aload_n hx hb dX4_searchDay_79 rfl (lv_at hl 2 rfl) ?_
            refine va_get (D := (dC, dI)) (ci := 4) (v := .ref (ad 9)) (C := RX4) (T := TX4) (N := 11) hx hb hts iwX4_searchDay_X4 hown hK hP (1) (wl_at (by omega) (ce_1 (by decide))) rfl 10 (by decide) (hts (.fieldLink RX4 33 "QuietStairs$Planner" "sittings" "[I") fwX4_searchDay_4) (fun _ h9 => h9) rfl dX4_searchDay_80 ?_
            refine lv_iload_n hx hb dX4_searchDay_83 rfl (lv_at hl 5 rfl) ?_
            refine lv_dup2_11 hx hb dX4_searchDay_84 rfl rfl ?_
            refine va_iald hx hb hK hP (9) 0 (wl_at (by omega) (ce_18 (by decide))) rfl pi12 dX4_searchDay_85 ?_
            refine lv_topi (fun x_22 ex_22 => ?_)
            refine lv_iconst (v := 1) hx hb dX4_searchDay_86 (by decide) ?_
            have k_1 : (1 : Int32).toInt = 1 := by decide
            refine lv_iadd hx hb dX4_searchDay_87 ?_
            refine lv_topi (fun x_23 ex_23 => ?_)
            refine va_iast hx hb hK hP hD hS (9) 0 (wl_at (by omega) (ce_18 (by decide))) rfl pi12 dX4_searchDay_88 (fun H locs hP hD hS => ?_)
            obtain ⟨v_24, ev_24⟩ : ∃ u : Nat → Nat → Int32, u = upr v_21 (9) (upd (v_21 (9)) (x2.toNatClampNeg) x_23) := ⟨_, rfl⟩
            have hP : va_P (dC, dI) vwCl (wl ad kv cy N v_24) H := by rw [ev_24, ← wl_put (e := _) (ce_18 (by decide))]; exact hP
            have hD : va_D A (wl ad kv cy N v_24) := by rw [ev_24, ← wl_put (e := _) (ce_18 (by decide))]; exact hD
            have hv : Iv v_24 := by rw [ev_24]; exact hv.put (K := 18) (by decide) (fun h q => by simp [bd] at q)
            have hfr : Fz v v_24 := by rw [ev_24]; exact hfr.put (by omega) (by omega) (by omega)
            refine lv_aload_n hx hb dX4_searchDay_89 rfl (lv_at hl 2 rfl) ?_
            refine lv_iload_n hx hb dX4_searchDay_90 rfl (lv_at hl 3 rfl) ?_
            refine lv_iconst (v := 1) hx hb dX4_searchDay_91 (by decide) ?_
            refine lv_iadd hx hb dX4_searchDay_92 ?_
            refine lv_topi (fun x_25 ex_25 => ?_)
            have tx_25 : x_25.toInt = x0.toInt + (1 : Int32).toInt := by rw [ex_25]; exact t_add ⟨by omega, by omega⟩
            refine lv_iload_n hx hb dX4_searchDay_93 rfl (lv_at hl 4 rfl) ?_
            refine yw_v (w1 := fun (u : Nat → Nat → Int32) => wl ad kv cy N u) hD hS hA (va_runV (As := [.int x_25, .int x1]) (rest := []) ⟨hx, hb, hml, hown, hts⟩ (g_X4_search_2 l dC dI cy _ ad kv N hN v_24 hv x_25 x1 ⟨by omega, by omega⟩ t1 t2) (cwV 2 hts gX4_searchDay_X4_search rfl rfl rfl hd_V_X4_search_2 ⟨Nat.le_of_ble_eq_true rfl, Nat.le_of_ble_eq_true rfl⟩) ⟨ex_blindT, va_recv hK hP (ci := 4) (q := (RX4, TX4, 11)) (q0 := 1) rfl (wl_at (by omega) (ce_1 (by decide))), fun U hU hW => ⟨rfl, ((yw_preS (As := []) hE hK hP hD).2 U hU hW).2, hSt.go hS (yw_F hD hS hA) hU hW⟩⟩ rfl rfl hl.1 rfl (lv_room (Nat.le_of_ble_eq_true rfl)) dX4_searchDay_94 ⟨Nat.le_of_ble_eq_true rfl, Nat.le_of_ble_eq_true rfl⟩) (fun v_26 H locs hw_26 hP hD hS => ?_)
            obtain ⟨hv, hw_26⟩ := hw_26
            have hfr : Fz v v_26 := hfr.trans hw_26
            refine lv_aload_n hx hb dX4_searchDay_97 rfl (lv_at hl 2 rfl) ?_
            refine va_get (D := (dC, dI)) (ci := 4) (v := .ref (ad 9)) (C := RX4) (T := TX4) (N := 11) hx hb hts iwX4_searchDay_X4 hown hK hP (1) (wl_at (by omega) (ce_1 (by decide))) rfl 10 (by decide) (hts (.fieldLink RX4 33 "QuietStairs$Planner" "sittings" "[I") fwX4_searchDay_4) (fun _ h9 => h9) rfl dX4_searchDay_98 ?_
            refine lv_iload_n hx hb dX4_searchDay_101 rfl (lv_at hl 5 rfl) ?_
            refine lv_dup2_11 hx hb dX4_searchDay_102 rfl rfl ?_
            refine va_iald hx hb hK hP (9) 0 (wl_at (by omega) (ce_18 (by decide))) rfl pi12 dX4_searchDay_103 ?_
            refine lv_topi (fun x_27 ex_27 => ?_)
            refine lv_iconst (v := 1) hx hb dX4_searchDay_104 (by decide) ?_
            refine lv_isub hx hb dX4_searchDay_105 ?_
            refine lv_topi (fun x_28 ex_28 => ?_)
            refine va_iast hx hb hK hP hD hS (9) 0 (wl_at (by omega) (ce_18 (by decide))) rfl pi12 dX4_searchDay_106 (fun H locs hP hD hS => ?_)
            obtain ⟨v_29, ev_29⟩ : ∃ u : Nat → Nat → Int32, u = upr v_26 (9) (upd (v_26 (9)) (x2.toNatClampNeg) x_28) := ⟨_, rfl⟩
            have hP : va_P (dC, dI) vwCl (wl ad kv cy N v_29) H := by rw [ev_29, ← wl_put (e := _) (ce_18 (by decide))]; exact hP
            have hD : va_D A (wl ad kv cy N v_29) := by rw [ev_29, ← wl_put (e := _) (ce_18 (by decide))]; exact hD
            have hv : Iv v_29 := by rw [ev_29]; exact hv.put (K := 18) (by decide) (fun h q => by simp [bd] at q)
            have hfr : Fz v v_29 := by rw [ev_29]; exact hfr.put (by omega) (by omega) (by omega)
            refine lv_aload_n hx hb dX4_searchDay_107 rfl (lv_at hl 2 rfl) ?_
            refine va_get (D := (dC, dI)) (ci := 4) (v := .ref (ad 8)) (C := RX4) (T := TX4) (N := 11) hx hb hts iwX4_searchDay_X4 hown hK hP (1) (wl_at (by omega) (ce_1 (by decide))) rfl 9 (by decide) (hts (.fieldLink RX4 30 "QuietStairs$Planner" "busyBits" "[I") fwX4_searchDay_2) (fun _ h9 => h9) rfl dX4_searchDay_108 ?_
            refine lv_iload_n hx hb dX4_searchDay_111 rfl (lv_at hl 5 rfl) ?_
            refine lv_dup2_11 hx hb dX4_searchDay_112 rfl rfl ?_
            refine va_iald hx hb hK hP (8) 0 (wl_at (by omega) (ce_18 (by decide))) rfl pi12 dX4_searchDay_113 ?_
            refine lv_topi (fun x_30 ex_30 => ?_)
            refine lv_iload hx hb dX4_searchDay_114 (lv_at hl 0 rfl) ?_
            refine lv_ixor hx hb dX4_searchDay_116 ?_
            refine lv_topi (fun x_31 ex_31 => ?_)
            refine va_iast hx hb hK hP hD hS (8) 0 (wl_at (by omega) (ce_18 (by decide))) rfl pi12 dX4_searchDay_117 (fun H locs hP hD hS => ?_)
            obtain ⟨v_32, ev_32⟩ : ∃ u : Nat → Nat → Int32, u = upr v_29 (8) (upd (v_29 (8)) (x2.toNatClampNeg) x_31) := ⟨_, rfl⟩
            have hP : va_P (dC, dI) vwCl (wl ad kv cy N v_32) H := by rw [ev_32, ← wl_put (e := _) (ce_18 (by decide))]; exact hP
            have hD : va_D A (wl ad kv cy N v_32) := by rw [ev_32, ← wl_put (e := _) (ce_18 (by decide))]; exact hD
            have hv : Iv v_32 := by rw [ev_32]; exact hv.put (K := 18) (by decide) (fun h q => by simp [bd] at q)
            have hfr : Fz v v_32 := by rw [ev_32]; exact hfr.put (by omega) (by omega) (by omega)
            obtain ⟨x_33, ex_33⟩ : ∃ y : Int32, y = y1_4 + 1 := ⟨_, rfl⟩
            refine lv_iinc (v := x_33) (lv' := [(4, .int x_33), (5, .int x_8), (0, .ref (ad 1)), (1, .int x0), (2, .int x1), (3, .int x2)]) hx hb dX4_searchDay_118 hl (k := 1) rfl (by rw [ex_33]; rfl) (by decide) rfl (fun ls hl => ?_)
            have tx_33 : x_33.toInt = y1_4.toInt + (1 : Int32).toInt := by rw [ex_33]; exact t_add ⟨by omega, by omega⟩
            refine lv_goto (tgt := 3) hx hb dX4_searchDay_121 (by decide) ?_
            exact ih_1 x_33 v_32 H locs (by omega) (by omega) (by omega) hv hfr hP hD hS ls (lv_sub hl [0, 2, 3, 4, 5] rfl)
  exact hloop_1 ((6 - (0 : Int32).toInt).toNat + 1) 0 v _ _ (by omega) (by omega) (by omega) hv hfr hP hD hS ls hl

set_option maxHeartbeats 4000000 in
set_option maxRecDepth 100000 in
theorem g_X4_search_3 (l : Launch) (dC : Nat → ClassId) (dI : Nat → Nat → Nat) (cy : Nat → ClassId) (sz : Nat) (ad : Nat → Nat) (kv : Value) (N : Nat) (hN : 119 ≤ N) (v : Nat → Nat → Int32) (hv : Iv v) (x0 x1 : Int32) (hs : 1 ≤ x0.toInt ∧ x0.toInt ≤ 4) (t1 t2 : Nat) : Met l yX4_search wsX4_search ({ frames := 7, cells := 0, slots := 0, locals := 448 }) (va_Pc [.ref (ad 1), .int x0, .int x1] (ex_PreT dC dI cy sz (wl ad kv cy N v) t1 t2)) (va_Qv (fun (u : Nat → Nat → Int32) => Iv u ∧ Fz v u) (fun u t => ex_Pst dC dI (va_A (wl ad kv cy N v) sz) (wl ad kv cy N u) t) (va_A (wl ad kv cy N v) sz)) 0 0 (va_A (wl ad kv cy N v) sz) := by
  refine Met.ofW (cc := cX4_search) (maxL := 4) (ret := none) (by decide) rfl ?_
  intro p e s m args below meth c s₁ B hml hv
  obtain ⟨rfl, ⟨hsz, hE, hP, hK, hD0⟩, hSt⟩ := hv
  have hx := B.exec
  have hb := B.bytes
  have hr := B.returns
  have hts := atoms_spec (ws := wsX4_search) B.pre
  have hown : s.vm.findClass RX4 = some m.cls := findClass_of_methodNamed B.named
  have hlocks := B.notSynchronized
  subst hsz
  have hD := hD0.self (sz := s.heap.size)
  generalize hAe : va_A (wl ad kv cy N v) s.heap.size = A at hD hSt ⊢
  have hA : ∀ q : Nat, s.heap.size ≤ q → A q := fun q h => by rw [← hAe]; exact Or.inr h
  have hS : va_S A s.heap s.heap [] := va_S.rf
  have hP : va_P (dC, dI) vwCl (wl ad kv cy N v) s.heap := hP
  have hl := lv_entry ([.ref (ad 1), .int x0, .int x1]) (n := 4) (Nat.le_of_ble_eq_true rfl)
  rw [lg_entry_eq]
  generalize (lg_sl ([.ref (ad 1), .int x0, .int x1]) ++ List.replicate (4 - (lg_sl ([.ref (ad 1), .int x0, .int x1])).length) Slot.unset).toArray = ls at hl ⊢
  have hl : lv_has ls 4 [(0, .ref (ad 1)), (1, .int x0), (2, .int x1)] := hl
  have hfr : Fz v v := Fz.rf
  refine lv_iload_n hx hb dX4_search_0 rfl (lv_at hl 2 rfl) ?_
  refine lv_aload_n hx hb dX4_search_1 rfl (lv_at hl 0 rfl) ?_
  refine lv_iload_n hx hb dX4_search_2 rfl (lv_at hl 1 rfl) ?_
  refine yw_i (w1 := fun (u : Nat → Nat → Int32) => wl ad kv cy N u) hD hS hA (va_runV (As := [.int x0]) (rest := [.int x1]) ⟨hx, hb, hml, hown, hts⟩ (g_X4_leastBehind l dC dI cy _ ad kv N hN v hv x0) (cwV 1 hts gX4_search_X4_leastBehind rfl rfl rfl hd_V_X4_leastBehind_1 ⟨Nat.le_of_ble_eq_true rfl, Nat.le_of_ble_eq_true rfl⟩) (yw_preV hE hK hP hD (ci := 4) (q := (RX4, TX4, 11)) (q0 := 1) rfl (wl_at (by omega) (ce_1 (by decide)))) rfl rfl hl.1 rfl (lv_room (Nat.le_of_ble_eq_true rfl)) dX4_search_3 ⟨Nat.le_of_ble_eq_true rfl, Nat.le_of_ble_eq_true rfl⟩) (fun r_1 v_1 H locs hw_1 hP hD hS => ?_)
  obtain ⟨hv, hw_1⟩ := hw_1
  have hfr : Fz v v_1 := hfr.trans hw_1
  refine lv_iadd hx hb dX4_search_6 ?_
  refine lv_topi (fun x_2 ex_2 => ?_)
  refine lv_aload_n hx hb dX4_search_7 rfl (lv_at hl 0 rfl) ?_
  refine va_get (D := (dC, dI)) (ci := 4) (v := .int (v_1 (1) 0)) (C := RX4) (T := TX4) (N := 11) hx hb hts iwX4_search_X4 hown hK hP (1) (wl_at (by omega) (ce_1 (by decide))) rfl 0 (by decide) (hts (.fieldLink RX4 58 "QuietStairs$Planner" "leastWait" "I") fwX4_search_1) (fun _ h9 => h9) rfl dX4_search_8 ?_
  refine lv_topi (fun x_3 ex_3 => ?_)
  refine lv_icmp_lt (tgt := 15) hx hb dX4_search_11 (by decide) (fun c_4 => ?_) (fun c_4 => ?_)
  · have tc_4 : x_2.toInt < x_3.toInt := Int32.lt_iff_toInt_lt.mp c_4
    refine lv_iload_n hx hb dX4_search_15 rfl (lv_at hl 1 rfl) ?_
    refine lv_aload_n hx hb dX4_search_16 rfl (lv_at hl 0 rfl) ?_
    refine va_get (D := (dC, dI)) (ci := 4) (v := .int (v_1 (1) 1)) (C := RX4) (T := TX4) (N := 11) hx hb hts iwX4_search_X4 hown hK hP (1) (wl_at (by omega) (ce_1 (by decide))) rfl 1 (by decide) (hts (.fieldLink RX4 61 "QuietStairs$Planner" "count" "I") fwX4_search_2) (fun _ h9 => h9) rfl dX4_search_17 ?_
    refine lv_topi (fun x_5 ex_5 => ?_)
    have bx_5 : 0 ≤ x_5.toInt ∧ x_5.toInt ≤ 4 := by rw [ex_5]; exact hv.at (K := 1) (by decide) rfl
    refine lv_icmp_lt (tgt := 46) hx hb dX4_search_20 (by decide) (fun c_6 => ?_) (fun c_6 => ?_)
    · have tc_6 : x0.toInt < x_5.toInt := Int32.lt_iff_toInt_lt.mp c_6
      refine lv_iconst (v := 0) hx hb dX4_search_46 (by decide) ?_
      refine lv_istore_n (lv' := [(3, .int 0), (0, .ref (ad 1)), (1, .int x0), (2, .int x1)]) hx hb dX4_search_47 rfl hl (by decide) rfl (fun ls hl => ?_)
      have k_0 : (0 : Int32).toInt = 0 := by decide
      have hloop_7 : ∀ (n : Nat) (y7_3 : Int32) (u7 : Nat → Nat → Int32) (H : Heap) (locs : List Loc), 0 ≤ y7_3.toInt → y7_3.toInt ≤ 3 → (3 - y7_3.toInt).toNat < n → Iv u7 → Fz v u7 → va_P (dC, dI) vwCl (wl ad kv cy N u7) H → va_D A (wl ad kv cy N u7) → va_S A s.heap H locs → ∀ ls : Array Slot, lv_has ls 4 [(3, .int y7_3), (0, .ref (ad 1)), (1, .int x0), (2, .int x1)] → W p l e (headSpec wsX4_search ({ frames := 7, cells := 0, slots := 0, locals := 448 })).room s m [Value.ref (ad 1), Value.int x0, Value.int x1].toArray below meth c H locs 0 0 (MQ below (va_Qv (fun (u : Nat → Nat → Int32) => Iv u ∧ Fz v u) (fun u t => ex_Pst dC dI A (wl ad kv cy N u) t) A) [Value.ref (ad 1), Value.int x0, Value.int x1].toArray s 0 0 A) (F0 m 48 ls []) := by
        intro n
        induction n with
        | zero =>
          intro y7_3 u7 H locs ay7_3 by7_3 hm_7 hv hfr hP hD hS ls hl
          exact absurd hm_7 (by omega)
        | succ n ih_7 =>
          intro y7_3 u7 H locs ay7_3 by7_3 hm_7 hv hfr hP hD hS ls hl
          refine lv_iload_n hx hb dX4_search_48 rfl (lv_at hl 0 rfl) ?_
          refine lv_iconst (v := 3) hx hb dX4_search_49 (by decide) ?_
          have k_3 : (3 : Int32).toInt = 3 := by decide
          refine lv_icmp_ge (tgt := 88) hx hb dX4_search_50 (by decide) (fun c_8 => ?_) (fun c_8 => ?_)
          · have tc_8 : y7_3.toInt ≥ (3 : Int32).toInt := Int32.le_iff_toInt_le.mp c_8
            refine lv_aload_n hx hb dX4_search_88 rfl (lv_at hl 1 rfl) ?_
            refine va_get (D := (dC, dI)) (ci := 4) (v := .ref (ad 6)) (C := RX4) (T := TX4) (N := 11) hx hb hts iwX4_search_X4 hown hK hP (1) (wl_at (by omega) (ce_1 (by decide))) rfl 7 (by decide) (hts (.fieldLink RX4 24 "QuietStairs$Planner" "seats" "[I") fwX4_search_3) (fun _ h9 => h9) rfl dX4_search_89 ?_
            refine lv_iload_n hx hb dX4_search_92 rfl (lv_at hl 2 rfl) ?_
            refine lv_bipush (v := 18) hx hb dX4_search_93 (by decide) ?_
            obtain ⟨pi9, i9, hi9, ni9, mi9⟩ := t_in (x := x0) (n := 4) ⟨by omega, by omega⟩
            refine va_iast hx hb hK hP hD hS (6) 0 (wl_at (by omega) (ce_17 (by decide))) rfl pi9 dX4_search_95 (fun H locs hP hD hS => ?_)
            have k_18 : (18 : Int32).toInt = 18 := by decide
            obtain ⟨v_10, ev_10⟩ : ∃ u : Nat → Nat → Int32, u = upr u7 (6) (upd (u7 (6)) (x0.toNatClampNeg) 18) := ⟨_, rfl⟩
            have hP : va_P (dC, dI) vwCl (wl ad kv cy N v_10) H := by rw [ev_10, ← wl_put (e := _) (ce_17 (by decide))]; exact hP
            have hD : va_D A (wl ad kv cy N v_10) := by rw [ev_10, ← wl_put (e := _) (ce_17 (by decide))]; exact hD
            have hv : Iv v_10 := by rw [ev_10]; exact hv.put (K := 17) (by decide) (fun h q => by simp [bd] at q)
            have hfr : Fz v v_10 := by rw [ev_10]; exact hfr.put (by omega) (by omega) (by omega)
            refine lv_aload_n hx hb dX4_search_96 rfl (lv_at hl 1 rfl) ?_
            refine lv_iload_n hx hb dX4_search_97 rfl (lv_at hl 2 rfl) ?_
            refine lv_iconst (v := 1) hx hb dX4_search_98 (by decide) ?_
            have k_1 : (1 : Int32).toInt = 1 := by decide
            refine lv_iadd hx hb dX4_search_99 ?_
            refine lv_topi (fun x_11 ex_11 => ?_)
            have tx_11 : x_11.toInt = x0.toInt + (1 : Int32).toInt := by rw [ex_11]; exact t_add ⟨by omega, by omega⟩
            refine lv_iload_n hx hb dX4_search_100 rfl (lv_at hl 3 rfl) ?_
            refine lv_aload_n hx hb dX4_search_101 rfl (lv_at hl 1 rfl) ?_
            refine va_get (D := (dC, dI)) (ci := 4) (v := .ref (ad 3)) (C := RX4) (T := TX4) (N := 11) hx hb hts iwX4_search_X4 hown hK hP (1) (wl_at (by omega) (ce_1 (by decide))) rfl 4 (by decide) (hts (.fieldLink RX4 15 "QuietStairs$Planner" "weights" "[I") fwX4_search_11) (fun _ h9 => h9) rfl dX4_search_102 ?_
            refine lv_iload_n hx hb dX4_search_105 rfl (lv_at hl 2 rfl) ?_
            refine va_iald hx hb hK hP (3) 0 (wl_at (by omega) (ce_17 (by decide))) rfl pi9 dX4_search_106 ?_
            refine lv_topi (fun x_12 ex_12 => ?_)
            refine lv_iconst (v := 4) hx hb dX4_search_107 (by decide) ?_
            refine lv_imul hx hb dX4_search_108 ?_
            refine lv_topi (fun x_13 ex_13 => ?_)
            refine lv_iadd hx hb dX4_search_109 ?_
            refine lv_topi (fun x_14 ex_14 => ?_)
            refine yw_v (w1 := fun (u : Nat → Nat → Int32) => wl ad kv cy N u) hD hS hA (va_runV (As := [.int x_11, .int x_14]) (rest := []) ⟨hx, hb, hml, hown, hts⟩ (g_X4_search_2 l dC dI cy _ ad kv N hN v_10 hv x_11 x_14 ⟨by omega, by omega⟩ t1 t2) (cwV 2 hts gX4_search_X4_search rfl rfl rfl hd_V_X4_search_2 ⟨Nat.le_of_ble_eq_true rfl, Nat.le_of_ble_eq_true rfl⟩) ⟨ex_blindT, va_recv hK hP (ci := 4) (q := (RX4, TX4, 11)) (q0 := 1) rfl (wl_at (by omega) (ce_1 (by decide))), fun U hU hW => ⟨rfl, ((yw_preS (As := []) hE hK hP hD).2 U hU hW).2, hSt.go hS (yw_F hD hS hA) hU hW⟩⟩ rfl rfl hl.1 rfl (lv_room (Nat.le_of_ble_eq_true rfl)) dX4_search_110 ⟨Nat.le_of_ble_eq_true rfl, Nat.le_of_ble_eq_true rfl⟩) (fun v_15 H locs hw_15 hP hD hS => ?_)
            obtain ⟨hv, hw_15⟩ := hw_15
            have hfr : Fz v v_15 := hfr.trans hw_15
            exact W.vret hx hb hr (fun t ht hW => ⟨⟨v_15, rfl, ⟨hv, hfr⟩, by rw [ht]; exact hP, hD⟩, hS.F ht⟩) hS.2.2 dX4_search_113
          · have tc_8 : y7_3.toInt < (3 : Int32).toInt := Int32.lt_iff_toInt_lt.mp (Int32.not_le.mp c_8)
            refine lv_aload_n hx hb dX4_search_53 rfl (lv_at hl 1 rfl) ?_
            refine va_get (D := (dC, dI)) (ci := 4) (v := .ref (ad 9)) (C := RX4) (T := TX4) (N := 11) hx hb hts iwX4_search_X4 hown hK hP (1) (wl_at (by omega) (ce_1 (by decide))) rfl 10 (by decide) (hts (.fieldLink RX4 33 "QuietStairs$Planner" "sittings" "[I") fwX4_search_9) (fun _ h9 => h9) rfl dX4_search_54 ?_
            refine lv_iload_n hx hb dX4_search_57 rfl (lv_at hl 0 rfl) ?_
            obtain ⟨pi9, i9, hi9, ni9, mi9⟩ := t_in (x := y7_3) (n := 3) ⟨by omega, by omega⟩
            refine va_iald hx hb hK hP (9) 0 (wl_at (by omega) (ce_18 (by decide))) rfl pi9 dX4_search_58 ?_
            refine lv_topi (fun x_10 ex_10 => ?_)
            refine lv_aload_n hx hb dX4_search_59 rfl (lv_at hl 1 rfl) ?_
            refine va_get (D := (dC, dI)) (ci := 4) (v := .int (u7 (1) 2)) (C := RX4) (T := TX4) (N := 11) hx hb hts iwX4_search_X4 hown hK hP (1) (wl_at (by omega) (ce_1 (by decide))) rfl 2 (by decide) (hts (.fieldLink RX4 48 "QuietStairs$Planner" "seatsADay" "I") fwX4_search_10) (fun _ h9 => h9) rfl dX4_search_60 ?_
            refine lv_topi (fun x_11 ex_11 => ?_)
            refine lv_icmp_ge (tgt := 82) hx hb dX4_search_63 (by decide) (fun c_12 => ?_) (fun c_12 => ?_)
            · have tc_12 : x_10.toInt ≥ x_11.toInt := Int32.le_iff_toInt_le.mp c_12
              obtain ⟨x_13, ex_13⟩ : ∃ y : Int32, y = y7_3 + 1 := ⟨_, rfl⟩
              refine lv_iinc (v := x_13) (lv' := [(3, .int x_13), (0, .ref (ad 1)), (1, .int x0), (2, .int x1)]) hx hb dX4_search_82 hl (k := 0) rfl (by rw [ex_13]; rfl) (by decide) rfl (fun ls hl => ?_)
              have k_1 : (1 : Int32).toInt = 1 := by decide
              have tx_13 : x_13.toInt = y7_3.toInt + (1 : Int32).toInt := by rw [ex_13]; exact t_add ⟨by omega, by omega⟩
              refine lv_goto (tgt := 48) hx hb dX4_search_85 (by decide) ?_
              exact ih_7 x_13 u7 H locs (by omega) (by omega) (by omega) hv hfr hP hD hS ls (lv_sub hl [0, 1, 2, 3] rfl)
            · have tc_12 : x_10.toInt < x_11.toInt := Int32.lt_iff_toInt_lt.mp (Int32.not_le.mp c_12)
              refine lv_aload_n hx hb dX4_search_66 rfl (lv_at hl 1 rfl) ?_
              refine lv_iload_n hx hb dX4_search_67 rfl (lv_at hl 2 rfl) ?_
              refine lv_iload_n hx hb dX4_search_68 rfl (lv_at hl 3 rfl) ?_
              refine lv_aload_n hx hb dX4_search_69 rfl (lv_at hl 1 rfl) ?_
              refine va_get (D := (dC, dI)) (ci := 4) (v := .ref (ad 3)) (C := RX4) (T := TX4) (N := 11) hx hb hts iwX4_search_X4 hown hK hP (1) (wl_at (by omega) (ce_1 (by decide))) rfl 4 (by decide) (hts (.fieldLink RX4 15 "QuietStairs$Planner" "weights" "[I") fwX4_search_11) (fun _ h9 => h9) rfl dX4_search_70 ?_
              refine lv_iload_n hx hb dX4_search_73 rfl (lv_at hl 2 rfl) ?_
              obtain ⟨pi13, i13, hi13, ni13, mi13⟩ := t_in (x := x0) (n := 4) ⟨by omega, by omega⟩
              refine va_iald hx hb hK hP (3) 0 (wl_at (by omega) (ce_17 (by decide))) rfl pi13 dX4_search_74 ?_
              refine lv_topi (fun x_14 ex_14 => ?_)
              refine lv_iload_n hx hb dX4_search_75 rfl (lv_at hl 0 rfl) ?_
              refine lv_imul hx hb dX4_search_76 ?_
              refine lv_topi (fun x_15 ex_15 => ?_)
              refine lv_iadd hx hb dX4_search_77 ?_
              refine lv_topi (fun x_16 ex_16 => ?_)
              refine lv_iload_n hx hb dX4_search_78 rfl (lv_at hl 0 rfl) ?_
              refine yw_v (w1 := fun (u : Nat → Nat → Int32) => wl ad kv cy N u) hD hS hA (va_runV (As := [.int x0, .int x_16, .int y7_3]) (rest := []) ⟨hx, hb, hml, hown, hts⟩ (g_X4_searchDay_3 l dC dI cy _ ad kv N hN u7 hv x0 x_16 y7_3 ⟨by omega, by omega⟩ ⟨by omega, by omega⟩ t1 t2) (cwV 3 hts gX4_search_X4_searchDay rfl rfl rfl hd_V_X4_searchDay_3 ⟨Nat.le_of_ble_eq_true rfl, Nat.le_of_ble_eq_true rfl⟩) ⟨ex_blindT, va_recv hK hP (ci := 4) (q := (RX4, TX4, 11)) (q0 := 1) rfl (wl_at (by omega) (ce_1 (by decide))), fun U hU hW => ⟨rfl, ((yw_preS (As := []) hE hK hP hD).2 U hU hW).2, hSt.go hS (yw_F hD hS hA) hU hW⟩⟩ rfl rfl hl.1 rfl (lv_room (Nat.le_of_ble_eq_true rfl)) dX4_search_79 ⟨Nat.le_of_ble_eq_true rfl, Nat.le_of_ble_eq_true rfl⟩) (fun v_17 H locs hw_17 hP hD hS => ?_)
              obtain ⟨hv, hw_17⟩ := hw_17
              have hfr : Fz v v_17 := hfr.trans hw_17
              obtain ⟨x_18, ex_18⟩ : ∃ y : Int32, y = y7_3 + 1 := ⟨_, rfl⟩
              refine lv_iinc (v := x_18) (lv' := [(3, .int x_18), (0, .ref (ad 1)), (1, .int x0), (2, .int x1)]) hx hb dX4_search_82 hl (k := 0) rfl (by rw [ex_18]; rfl) (by decide) rfl (fun ls hl => ?_)
              have k_1 : (1 : Int32).toInt = 1 := by decide
              have tx_18 : x_18.toInt = y7_3.toInt + (1 : Int32).toInt := by rw [ex_18]; exact t_add ⟨by omega, by omega⟩
              refine lv_goto (tgt := 48) hx hb dX4_search_85 (by decide) ?_
              exact ih_7 x_18 v_17 H locs (by omega) (by omega) (by omega) hv hfr hP hD hS ls (lv_sub hl [0, 1, 2, 3] rfl)
      exact hloop_7 ((3 - (0 : Int32).toInt).toNat + 1) 0 v_1 _ _ (by omega) (by omega) (by omega) hv hfr hP hD hS ls hl
    · have tc_6 : x0.toInt ≥ x_5.toInt := Int32.le_iff_toInt_le.mp (Int32.not_lt.mp c_6)
      refine lv_aload_n hx hb dX4_search_23 rfl (lv_at hl 0 rfl) ?_
      refine lv_iload_n hx hb dX4_search_24 rfl (lv_at hl 2 rfl) ?_
      refine va_put (D := (dC, dI)) (ci := 4) (v := .int x1) (ty := .int) (C := RX4) (T := TX4) (N := 11) hx hb hts iwX4_search_X4 tyX4 tyX4_ok nmX4 hown hK hP hD hS (1) (wl_at (by omega) (ce_1 (by decide))) rfl 0 (by decide) (hts (.fieldLink RX4 58 "QuietStairs$Planner" "leastWait" "I") fwX4_search_1) (fun _ h9 => h9) rfl (by decide +kernel) rfl rfl (Nat.le_of_ble_eq_true rfl) dX4_search_25 (fun H locs hP hD hS => ?_)
      obtain ⟨v_7, ev_7⟩ : ∃ u : Nat → Nat → Int32, u = upr v_1 (1) (upd (v_1 (1)) 0 x1) := ⟨_, rfl⟩
      have hP : va_P (dC, dI) vwCl (wl ad kv cy N v_7) H := by rw [ev_7, ← wl_put (e := _) (ce_1 (by decide))]; exact hP
      have hD : va_D A (wl ad kv cy N v_7) := by rw [ev_7, ← wl_put (e := _) (ce_1 (by decide))]; exact hD
      have hv : Iv v_7 := by rw [ev_7]; exact hv.put (K := 1) (by decide) (fun h q => by simp [bd] at q)
      have hfr : Fz v v_7 := by rw [ev_7]; exact hfr.put (by omega) (by omega) (by omega)
      refine lv_aload_n hx hb dX4_search_28 rfl (lv_at hl 0 rfl) ?_
      refine va_get (D := (dC, dI)) (ci := 4) (v := .ref (ad 6)) (C := RX4) (T := TX4) (N := 11) hx hb hts iwX4_search_X4 hown hK hP (1) (wl_at (by omega) (ce_1 (by decide))) rfl 7 (by decide) (hts (.fieldLink RX4 24 "QuietStairs$Planner" "seats" "[I") fwX4_search_3) (fun _ h9 => h9) rfl dX4_search_29 ?_
      refine lv_iconst (v := 0) hx hb dX4_search_32 (by decide) ?_
      refine lv_aload_n hx hb dX4_search_33 rfl (lv_at hl 0 rfl) ?_
      refine va_get (D := (dC, dI)) (ci := 4) (v := .ref (ad 7)) (C := RX4) (T := TX4) (N := 11) hx hb hts iwX4_search_X4 hown hK hP (1) (wl_at (by omega) (ce_1 (by decide))) rfl 8 (by decide) (hts (.fieldLink RX4 27 "QuietStairs$Planner" "bestSeats" "[I") fwX4_search_4) (fun _ h9 => h9) rfl dX4_search_34 ?_
      refine lv_iconst (v := 0) hx hb dX4_search_37 (by decide) ?_
      refine lv_aload_n hx hb dX4_search_38 rfl (lv_at hl 0 rfl) ?_
      refine va_get (D := (dC, dI)) (ci := 4) (v := .int (v_7 (1) 1)) (C := RX4) (T := TX4) (N := 11) hx hb hts iwX4_search_X4 hown hK hP (1) (wl_at (by omega) (ce_1 (by decide))) rfl 1 (by decide) (hts (.fieldLink RX4 61 "QuietStairs$Planner" "count" "I") fwX4_search_2) (fun _ h9 => h9) rfl dX4_search_39 ?_
      refine lv_topi (fun x_8 ex_8 => ?_)
      rw [ev_7, upr_s, pk_un (by decide)] at ex_8
      rw [← ex_5] at ex_8; replace ex_8 := ex_8.symm; subst ex_8
      have hn_9 := t_n (x := x_5) (m := 4) ⟨by omega, by omega⟩
      refine va_copyi hx hb (hml.trans hl.1.symm) hown (hts (.methodLink RX4 99 arraycopyName) fwX4_search_5) (hts (.native arraycopyName) fwX4_search_6) (hts (.static arraycopyName) fwX4_search_7) (hts (.initialized "java/lang/System") fwX4_search_8) hK hP hD hS (6) (7) 0 0 (wl_at (by omega) (ce_17 (by decide))) (wl_at (by omega) (ce_17 (by decide))) rfl rfl rfl (by decide) (by decide) hn_9.1 (by rw [sb_cl0]; have := hn_9.2; omega) (by rw [sb_cl0]; have := hn_9.2; omega) (fun i hi => rfl) (Nat.le_of_ble_eq_true rfl) (Nat.le_of_ble_eq_true rfl) dX4_search_42 (fun H locs hP hD hS => ?_)
      obtain ⟨v_9, ev_9⟩ : ∃ u : Nat → Nat → Int32, u = upr v_7 (7) (va_cpy (v_7 (6)) (v_7 (7)) (0 : Int32).toNatClampNeg (0 : Int32).toNatClampNeg x_5.toNatClampNeg) := ⟨_, rfl⟩
      have hP : va_P (dC, dI) vwCl (wl ad kv cy N v_9) H := by rw [ev_9, ← wl_put (e := _) (ce_17 (by decide))]; exact hP
      have hD : va_D A (wl ad kv cy N v_9) := by rw [ev_9, ← wl_put (e := _) (ce_17 (by decide))]; exact hD
      have hv : Iv v_9 := by rw [ev_9]; exact hv.row (K := 17) (by decide) (fun j => rfl)
      have hfr : Fz v v_9 := by rw [ev_9]; exact hfr.row (by omega) (by omega) (by omega)
      exact W.vret hx hb hr (fun t ht hW => ⟨⟨v_9, rfl, ⟨hv, hfr⟩, by rw [ht]; exact hP, hD⟩, hS.F ht⟩) hS.2.2 dX4_search_45
  · have tc_4 : x_2.toInt ≥ x_3.toInt := Int32.le_iff_toInt_le.mp (Int32.not_lt.mp c_4)
    exact W.vret hx hb hr (fun t ht hW => ⟨⟨v_1, rfl, ⟨hv, hfr⟩, by rw [ht]; exact hP, hD⟩, hS.F ht⟩) hS.2.2 dX4_search_14

set_option maxHeartbeats 4000000 in
set_option maxRecDepth 100000 in
theorem g_X4_searchDay_4 (l : Launch) (dC : Nat → ClassId) (dI : Nat → Nat → Nat) (cy : Nat → ClassId) (sz : Nat) (ad : Nat → Nat) (kv : Value) (N : Nat) (hN : 119 ≤ N) (v : Nat → Nat → Int32) (hv : Iv v) (x0 x1 x2 : Int32) (hs : 0 ≤ x0.toInt ∧ x0.toInt ≤ 3) (ht : 0 ≤ x2.toInt ∧ x2.toInt ≤ 2) (t1 t2 : Nat) : Met l yX4_searchDay wsX4_searchDay ({ frames := 8, cells := 0, slots := 0, locals := 512 }) (va_Pc [.ref (ad 1), .int x0, .int x1, .int x2] (ex_PreT dC dI cy sz (wl ad kv cy N v) t1 t2)) (va_Qv (fun (u : Nat → Nat → Int32) => Iv u ∧ Fz v u) (fun u t => ex_Pst dC dI (va_A (wl ad kv cy N v) sz) (wl ad kv cy N u) t) (va_A (wl ad kv cy N v) sz)) 0 0 (va_A (wl ad kv cy N v) sz) := by
  refine Met.ofW (cc := cX4_searchDay) (maxL := 6) (ret := none) (by decide) rfl ?_
  intro p e s m args below meth c s₁ B hml hv
  obtain ⟨rfl, ⟨hsz, hE, hP, hK, hD0⟩, hSt⟩ := hv
  have hx := B.exec
  have hb := B.bytes
  have hr := B.returns
  have hts := atoms_spec (ws := wsX4_searchDay) B.pre
  have hown : s.vm.findClass RX4 = some m.cls := findClass_of_methodNamed B.named
  have hlocks := B.notSynchronized
  subst hsz
  have hD := hD0.self (sz := s.heap.size)
  generalize hAe : va_A (wl ad kv cy N v) s.heap.size = A at hD hSt ⊢
  have hA : ∀ q : Nat, s.heap.size ≤ q → A q := fun q h => by rw [← hAe]; exact Or.inr h
  have hS : va_S A s.heap s.heap [] := va_S.rf
  have hP : va_P (dC, dI) vwCl (wl ad kv cy N v) s.heap := hP
  have hl := lv_entry ([.ref (ad 1), .int x0, .int x1, .int x2]) (n := 6) (Nat.le_of_ble_eq_true rfl)
  rw [lg_entry_eq]
  generalize (lg_sl ([.ref (ad 1), .int x0, .int x1, .int x2]) ++ List.replicate (6 - (lg_sl ([.ref (ad 1), .int x0, .int x1, .int x2])).length) Slot.unset).toArray = ls at hl ⊢
  have hl : lv_has ls 6 [(0, .ref (ad 1)), (1, .int x0), (2, .int x1), (3, .int x2)] := hl
  have hfr : Fz v v := Fz.rf
  refine lv_iconst (v := 0) hx hb dX4_searchDay_0 (by decide) ?_
  refine lv_istore (lv' := [(4, .int 0), (0, .ref (ad 1)), (1, .int x0), (2, .int x1), (3, .int x2)]) hx hb dX4_searchDay_1 hl (by decide) rfl (fun ls hl => ?_)
  have k_0 : (0 : Int32).toInt = 0 := by decide
  have hloop_1 : ∀ (n : Nat) (y1_4 : Int32) (u1 : Nat → Nat → Int32) (H : Heap) (locs : List Loc), 0 ≤ y1_4.toInt → y1_4.toInt ≤ 6 → (6 - y1_4.toInt).toNat < n → Iv u1 → Fz v u1 → va_P (dC, dI) vwCl (wl ad kv cy N u1) H → va_D A (wl ad kv cy N u1) → va_S A s.heap H locs → ∀ ls : Array Slot, lv_has ls 6 [(4, .int y1_4), (0, .ref (ad 1)), (1, .int x0), (2, .int x1), (3, .int x2)] → W p l e (headSpec wsX4_searchDay ({ frames := 8, cells := 0, slots := 0, locals := 512 })).room s m [Value.ref (ad 1), Value.int x0, Value.int x1, Value.int x2].toArray below meth c H locs 0 0 (MQ below (va_Qv (fun (u : Nat → Nat → Int32) => Iv u ∧ Fz v u) (fun u t => ex_Pst dC dI A (wl ad kv cy N u) t) A) [Value.ref (ad 1), Value.int x0, Value.int x1, Value.int x2].toArray s 0 0 A) (F0 m 3 ls []) := by
    intro n
    induction n with
    | zero =>
      intro y1_4 u1 H locs ay1_4 by1_4 hm_1 hv hfr hP hD hS ls hl
      exact absurd hm_1 (by omega)
    | succ n ih_1 =>
      intro y1_4 u1 H locs ay1_4 by1_4 hm_1 hv hfr hP hD hS ls hl
      refine lv_iload hx hb dX4_searchDay_3 (lv_at hl 0 rfl) ?_
      refine lv_bipush (v := 6) hx hb dX4_searchDay_5 (by decide) ?_
      have k_6 : (6 : Int32).toInt = 6 := by decide
      refine lv_icmp_ge (tgt := 124) hx hb dX4_searchDay_7 (by decide) (fun c_2 => ?_) (fun c_2 => ?_)
      · have tc_2 : y1_4.toInt ≥ (6 : Int32).toInt := Int32.le_iff_toInt_le.mp c_2
        exact W.vret hx hb hr (fun t ht hW => ⟨⟨u1, rfl, ⟨hv, hfr⟩, by rw [ht]; exact hP, hD⟩, hS.F ht⟩) hS.2.2 dX4_searchDay_124
      · have tc_2 : y1_4.toInt < (6 : Int32).toInt := Int32.lt_iff_toInt_lt.mp (Int32.not_le.mp c_2)
        refine lv_iconst (v := 1) hx hb dX4_searchDay_10 (by decide) ?_
        refine va_getsN hx hb hSt.2.1 hS hown (va_Nw.use rfl hE.2.2.2.2.2.2.2.2.2.2.2.2.2.2.2.1) (fun _ h => h) dX4_searchDay_11 ?_
        refine lv_iload hx hb dX4_searchDay_14 (lv_at hl 0 rfl) ?_
        obtain ⟨pi3, i3, hi3, ni3, mi3⟩ := t_in (x := y1_4) (n := 6) ⟨by omega, by omega⟩
        refine va_ti (v := .int (st_l y1_4.toNatClampNeg)) hx hb hSt.2.2 hS pi3 rfl dX4_searchDay_16 ?_
        refine lv_topi (fun x_4 ex_4 => ?_)
        have bx_4 : 0 ≤ x_4.toInt ∧ x_4.toInt ≤ 3 := by rw [ex_4]; exact (st_b _).2
        refine lv_ishl hx hb dX4_searchDay_17 ?_
        refine lv_topi (fun x_5 ex_5 => ?_)
        have tx_5 : 1 ≤ x_5.toInt ∧ x_5.toInt ≤ 32 := by rw [ex_5]; exact t_shl ⟨by omega, by omega⟩
        refine lv_iconst (v := 1) hx hb dX4_searchDay_18 (by decide) ?_
        refine va_getsN hx hb hSt.1.1 hS hown (va_Nw.use rfl hE.2.2.2.2.2.2.2.2.2.2.2.2.2.2.2.2) (fun _ h => h) dX4_searchDay_19 ?_
        refine lv_iload hx hb dX4_searchDay_22 (lv_at hl 0 rfl) ?_
        refine va_ti (v := .int (st_o y1_4.toNatClampNeg)) hx hb hSt.1.2 hS pi3 rfl dX4_searchDay_24 ?_
        refine lv_topi (fun x_6 ex_6 => ?_)
        have bx_6 : 0 ≤ x_6.toInt ∧ x_6.toInt ≤ 3 := by rw [ex_6]; exact (st_b _).1
        refine lv_ishl hx hb dX4_searchDay_25 ?_
        refine lv_topi (fun x_7 ex_7 => ?_)
        have tx_7 : 1 ≤ x_7.toInt ∧ x_7.toInt ≤ 32 := by rw [ex_7]; exact t_shl ⟨by omega, by omega⟩
        refine lv_ior hx hb dX4_searchDay_26 ?_
        refine lv_topi (fun x_8 ex_8 => ?_)
        refine lv_istore (lv' := [(5, .int x_8), (4, .int y1_4), (0, .ref (ad 1)), (1, .int x0), (2, .int x1), (3, .int x2)]) hx hb dX4_searchDay_27 hl (by decide) rfl (fun ls hl => ?_)
        refine lv_aload_n hx hb dX4_searchDay_29 rfl (lv_at hl 2 rfl) ?_
        refine va_get (D := (dC, dI)) (ci := 4) (v := .ref (ad 4)) (C := RX4) (T := TX4) (N := 11) hx hb hts iwX4_searchDay_X4 hown hK hP (1) (wl_at (by omega) (ce_1 (by decide))) rfl 5 (by decide) (hts (.fieldLink RX4 18 "QuietStairs$Planner" "pairBits" "[I") fwX4_searchDay_1) (fun _ h9 => h9) rfl dX4_searchDay_30 ?_
        refine lv_iload_n hx hb dX4_searchDay_33 rfl (lv_at hl 3 rfl) ?_
        obtain ⟨pi9, i9, hi9, ni9, mi9⟩ := t_in (x := x0) (n := 4) ⟨by omega, by omega⟩
        refine va_iald hx hb hK hP (4) 0 (wl_at (by omega) (ce_17 (by decide))) rfl pi9 dX4_searchDay_34 ?_
        refine lv_topi (fun x_10 ex_10 => ?_)
        refine lv_iload hx hb dX4_searchDay_35 (lv_at hl 1 rfl) ?_
        refine yc_p hP hS (va_runSN (As := [.int x_10, .int y1_4]) (rest := []) ⟨hx, hb, hml, hown, hts⟩ (c_X7_hasBit l x_10 y1_4) ⟨va_cnB 2 hts gX4_searchDay_X7_hasBit_n115 rfl rfl rfl hE.2.2.2.2.2.2.2.2.2.2.2.1 (hts (.initialized RX7) fwX4_searchDay_6) (by decide +kernel) ⟨Nat.le_of_ble_eq_true rfl, Nat.le_of_ble_eq_true rfl⟩, (hts (.static yX7_hasBit) fwX4_searchDay_5), trivial⟩ ex_preP rfl rfl hl.1 rfl (lv_room (Nat.le_of_ble_eq_true rfl)) dX4_searchDay_37 ⟨Nat.le_of_ble_eq_true rfl, Nat.le_of_ble_eq_true rfl⟩) (fun r_11 H locs hw_11 hP hS => ?_)
        rcases hw_11 with rfl | rfl
        · refine lv_if_eq (tgt := 118) hx hb dX4_searchDay_40 (by decide) (fun _ => ?_) (fun c9 => absurd c9 (by decide))
          obtain ⟨x_12, ex_12⟩ : ∃ y : Int32, y = y1_4 + 1 := ⟨_, rfl⟩
          refine lv_iinc (v := x_12) (lv' := [(4, .int x_12), (5, .int x_8), (0, .ref (ad 1)), (1, .int x0), (2, .int x1), (3, .int x2)]) hx hb dX4_searchDay_118 hl (k := 1) rfl (by rw [ex_12]; rfl) (by decide) rfl (fun ls hl => ?_)
          have k_1 : (1 : Int32).toInt = 1 := by decide
          have tx_12 : x_12.toInt = y1_4.toInt + (1 : Int32).toInt := by rw [ex_12]; exact t_add ⟨by omega, by omega⟩
          refine lv_goto (tgt := 3) hx hb dX4_searchDay_121 (by decide) ?_
          exact ih_1 x_12 u1 H locs (by omega) (by omega) (by omega) hv hfr hP hD hS ls (lv_sub hl [0, 2, 3, 4, 5] rfl)
        · refine lv_if_eq (tgt := 118) hx hb dX4_searchDay_40 (by decide) (fun c9 => absurd c9 (by decide)) (fun _ => ?_)
          refine lv_aload_n hx hb dX4_searchDay_43 rfl (lv_at hl 2 rfl) ?_
          refine va_get (D := (dC, dI)) (ci := 4) (v := .ref (ad 8)) (C := RX4) (T := TX4) (N := 11) hx hb hts iwX4_searchDay_X4 hown hK hP (1) (wl_at (by omega) (ce_1 (by decide))) rfl 9 (by decide) (hts (.fieldLink RX4 30 "QuietStairs$Planner" "busyBits" "[I") fwX4_searchDay_2) (fun _ h9 => h9) rfl dX4_searchDay_44 ?_
          refine lv_iload_n hx hb dX4_searchDay_47 rfl (lv_at hl 5 rfl) ?_
          obtain ⟨pi12, i12, hi12, ni12, mi12⟩ := t_in (x := x2) (n := 3) ⟨by omega, by omega⟩
          refine va_iald hx hb hK hP (8) 0 (wl_at (by omega) (ce_18 (by decide))) rfl pi12 dX4_searchDay_48 ?_
          refine lv_topi (fun x_13 ex_13 => ?_)
          refine lv_iload hx hb dX4_searchDay_49 (lv_at hl 0 rfl) ?_
          refine lv_iand hx hb dX4_searchDay_51 ?_
          refine lv_topi (fun x_14 ex_14 => ?_)
          refine lv_if_ne (tgt := 118) hx hb dX4_searchDay_52 (by decide) (fun c_15 => ?_) (fun c_15 => ?_)
          · have tc_15 : x_14.toInt ≠ (0 : Int32).toInt := fun q => absurd (Int32.toInt_inj.mp q) c_15
            obtain ⟨x_16, ex_16⟩ : ∃ y : Int32, y = y1_4 + 1 := ⟨_, rfl⟩
            refine lv_iinc (v := x_16) (lv' := [(4, .int x_16), (5, .int x_8), (0, .ref (ad 1)), (1, .int x0), (2, .int x1), (3, .int x2)]) hx hb dX4_searchDay_118 hl (k := 1) rfl (by rw [ex_16]; rfl) (by decide) rfl (fun ls hl => ?_)
            have k_1 : (1 : Int32).toInt = 1 := by decide
            have tx_16 : x_16.toInt = y1_4.toInt + (1 : Int32).toInt := by rw [ex_16]; exact t_add ⟨by omega, by omega⟩
            refine lv_goto (tgt := 3) hx hb dX4_searchDay_121 (by decide) ?_
            exact ih_1 x_16 u1 H locs (by omega) (by omega) (by omega) hv hfr hP hD hS ls (lv_sub hl [0, 2, 3, 4, 5] rfl)
          · have tc_15 : x_14.toInt = (0 : Int32).toInt := by rw [c_15]
            refine lv_aload_n hx hb dX4_searchDay_55 rfl (lv_at hl 2 rfl) ?_
            refine va_get (D := (dC, dI)) (ci := 4) (v := .ref (ad 6)) (C := RX4) (T := TX4) (N := 11) hx hb hts iwX4_searchDay_X4 hown hK hP (1) (wl_at (by omega) (ce_1 (by decide))) rfl 7 (by decide) (hts (.fieldLink RX4 24 "QuietStairs$Planner" "seats" "[I") fwX4_searchDay_3) (fun _ h9 => h9) rfl dX4_searchDay_56 ?_
            refine lv_iload_n hx hb dX4_searchDay_59 rfl (lv_at hl 3 rfl) ?_
            refine lv_bipush (v := 6) hx hb dX4_searchDay_60 (by decide) ?_
            refine lv_iload_n hx hb dX4_searchDay_62 rfl (lv_at hl 5 rfl) ?_
            refine lv_imul hx hb dX4_searchDay_63 ?_
            refine lv_topi (fun x_16 ex_16 => ?_)
            refine lv_iload hx hb dX4_searchDay_64 (lv_at hl 1 rfl) ?_
            refine lv_iadd hx hb dX4_searchDay_66 ?_
            refine lv_topi (fun x_17 ex_17 => ?_)
            refine va_iast hx hb hK hP hD hS (6) 0 (wl_at (by omega) (ce_17 (by decide))) rfl pi9 dX4_searchDay_67 (fun H locs hP hD hS => ?_)
            obtain ⟨v_18, ev_18⟩ : ∃ u : Nat → Nat → Int32, u = upr u1 (6) (upd (u1 (6)) (x0.toNatClampNeg) x_17) := ⟨_, rfl⟩
            have hP : va_P (dC, dI) vwCl (wl ad kv cy N v_18) H := by rw [ev_18, ← wl_put (e := _) (ce_17 (by decide))]; exact hP
            have hD : va_D A (wl ad kv cy N v_18) := by rw [ev_18, ← wl_put (e := _) (ce_17 (by decide))]; exact hD
            have hv : Iv v_18 := by rw [ev_18]; exact hv.put (K := 17) (by decide) (fun h q => by simp [bd] at q)
            have hfr : Fz v v_18 := by rw [ev_18]; exact hfr.put (by omega) (by omega) (by omega)
            refine lv_aload_n hx hb dX4_searchDay_68 rfl (lv_at hl 2 rfl) ?_
            refine va_get (D := (dC, dI)) (ci := 4) (v := .ref (ad 8)) (C := RX4) (T := TX4) (N := 11) hx hb hts iwX4_searchDay_X4 hown hK hP (1) (wl_at (by omega) (ce_1 (by decide))) rfl 9 (by decide) (hts (.fieldLink RX4 30 "QuietStairs$Planner" "busyBits" "[I") fwX4_searchDay_2) (fun _ h9 => h9) rfl dX4_searchDay_69 ?_
            refine lv_iload_n hx hb dX4_searchDay_72 rfl (lv_at hl 5 rfl) ?_
            refine lv_dup2_11 hx hb dX4_searchDay_73 rfl rfl ?_
            refine va_iald hx hb hK hP (8) 0 (wl_at (by omega) (ce_18 (by decide))) rfl pi12 dX4_searchDay_74 ?_
            refine lv_topi (fun x_19 ex_19 => ?_)
            refine lv_iload hx hb dX4_searchDay_75 (lv_at hl 0 rfl) ?_
            refine lv_ior hx hb dX4_searchDay_77 ?_
            refine lv_topi (fun x_20 ex_20 => ?_)
            refine va_iast hx hb hK hP hD hS (8) 0 (wl_at (by omega) (ce_18 (by decide))) rfl pi12 dX4_searchDay_78 (fun H locs hP hD hS => ?_)
            obtain ⟨v_21, ev_21⟩ : ∃ u : Nat → Nat → Int32, u = upr v_18 (8) (upd (v_18 (8)) (x2.toNatClampNeg) x_20) := ⟨_, rfl⟩
            have hP : va_P (dC, dI) vwCl (wl ad kv cy N v_21) H := by rw [ev_21, ← wl_put (e := _) (ce_18 (by decide))]; exact hP
            have hD : va_D A (wl ad kv cy N v_21) := by rw [ev_21, ← wl_put (e := _) (ce_18 (by decide))]; exact hD
            have hv : Iv v_21 := by rw [ev_21]; exact hv.put (K := 18) (by decide) (fun h q => by simp [bd] at q)
            have hfr : Fz v v_21 := by rw [ev_21]; exact hfr.put (by omega) (by omega) (by omega)
            refine lv_aload_n hx hb dX4_searchDay_79 rfl (lv_at hl 2 rfl) ?_
            refine va_get (D := (dC, dI)) (ci := 4) (v := .ref (ad 9)) (C := RX4) (T := TX4) (N := 11) hx hb hts iwX4_searchDay_X4 hown hK hP (1) (wl_at (by omega) (ce_1 (by decide))) rfl 10 (by decide) (hts (.fieldLink RX4 33 "QuietStairs$Planner" "sittings" "[I") fwX4_searchDay_4) (fun _ h9 => h9) rfl dX4_searchDay_80 ?_
            refine lv_iload_n hx hb dX4_searchDay_83 rfl (lv_at hl 5 rfl) ?_
            refine lv_dup2_11 hx hb dX4_searchDay_84 rfl rfl ?_
            refine va_iald hx hb hK hP (9) 0 (wl_at (by omega) (ce_18 (by decide))) rfl pi12 dX4_searchDay_85 ?_
            refine lv_topi (fun x_22 ex_22 => ?_)
            refine lv_iconst (v := 1) hx hb dX4_searchDay_86 (by decide) ?_
            have k_1 : (1 : Int32).toInt = 1 := by decide
            refine lv_iadd hx hb dX4_searchDay_87 ?_
            refine lv_topi (fun x_23 ex_23 => ?_)
            refine va_iast hx hb hK hP hD hS (9) 0 (wl_at (by omega) (ce_18 (by decide))) rfl pi12 dX4_searchDay_88 (fun H locs hP hD hS => ?_)
            obtain ⟨v_24, ev_24⟩ : ∃ u : Nat → Nat → Int32, u = upr v_21 (9) (upd (v_21 (9)) (x2.toNatClampNeg) x_23) := ⟨_, rfl⟩
            have hP : va_P (dC, dI) vwCl (wl ad kv cy N v_24) H := by rw [ev_24, ← wl_put (e := _) (ce_18 (by decide))]; exact hP
            have hD : va_D A (wl ad kv cy N v_24) := by rw [ev_24, ← wl_put (e := _) (ce_18 (by decide))]; exact hD
            have hv : Iv v_24 := by rw [ev_24]; exact hv.put (K := 18) (by decide) (fun h q => by simp [bd] at q)
            have hfr : Fz v v_24 := by rw [ev_24]; exact hfr.put (by omega) (by omega) (by omega)
            refine lv_aload_n hx hb dX4_searchDay_89 rfl (lv_at hl 2 rfl) ?_
            refine lv_iload_n hx hb dX4_searchDay_90 rfl (lv_at hl 3 rfl) ?_
            refine lv_iconst (v := 1) hx hb dX4_searchDay_91 (by decide) ?_
            refine lv_iadd hx hb dX4_searchDay_92 ?_
            refine lv_topi (fun x_25 ex_25 => ?_)
            have tx_25 : x_25.toInt = x0.toInt + (1 : Int32).toInt := by rw [ex_25]; exact t_add ⟨by omega, by omega⟩
            refine lv_iload_n hx hb dX4_searchDay_93 rfl (lv_at hl 4 rfl) ?_
            refine yw_v (w1 := fun (u : Nat → Nat → Int32) => wl ad kv cy N u) hD hS hA (va_runV (As := [.int x_25, .int x1]) (rest := []) ⟨hx, hb, hml, hown, hts⟩ (g_X4_search_3 l dC dI cy _ ad kv N hN v_24 hv x_25 x1 ⟨by omega, by omega⟩ t1 t2) (cwV 2 hts gX4_searchDay_X4_search rfl rfl rfl hd_V_X4_search_2 ⟨Nat.le_of_ble_eq_true rfl, Nat.le_of_ble_eq_true rfl⟩) ⟨ex_blindT, va_recv hK hP (ci := 4) (q := (RX4, TX4, 11)) (q0 := 1) rfl (wl_at (by omega) (ce_1 (by decide))), fun U hU hW => ⟨rfl, ((yw_preS (As := []) hE hK hP hD).2 U hU hW).2, hSt.go hS (yw_F hD hS hA) hU hW⟩⟩ rfl rfl hl.1 rfl (lv_room (Nat.le_of_ble_eq_true rfl)) dX4_searchDay_94 ⟨Nat.le_of_ble_eq_true rfl, Nat.le_of_ble_eq_true rfl⟩) (fun v_26 H locs hw_26 hP hD hS => ?_)
            obtain ⟨hv, hw_26⟩ := hw_26
            have hfr : Fz v v_26 := hfr.trans hw_26
            refine lv_aload_n hx hb dX4_searchDay_97 rfl (lv_at hl 2 rfl) ?_
            refine va_get (D := (dC, dI)) (ci := 4) (v := .ref (ad 9)) (C := RX4) (T := TX4) (N := 11) hx hb hts iwX4_searchDay_X4 hown hK hP (1) (wl_at (by omega) (ce_1 (by decide))) rfl 10 (by decide) (hts (.fieldLink RX4 33 "QuietStairs$Planner" "sittings" "[I") fwX4_searchDay_4) (fun _ h9 => h9) rfl dX4_searchDay_98 ?_
            refine lv_iload_n hx hb dX4_searchDay_101 rfl (lv_at hl 5 rfl) ?_
            refine lv_dup2_11 hx hb dX4_searchDay_102 rfl rfl ?_
            refine va_iald hx hb hK hP (9) 0 (wl_at (by omega) (ce_18 (by decide))) rfl pi12 dX4_searchDay_103 ?_
            refine lv_topi (fun x_27 ex_27 => ?_)
            refine lv_iconst (v := 1) hx hb dX4_searchDay_104 (by decide) ?_
            refine lv_isub hx hb dX4_searchDay_105 ?_
            refine lv_topi (fun x_28 ex_28 => ?_)
            refine va_iast hx hb hK hP hD hS (9) 0 (wl_at (by omega) (ce_18 (by decide))) rfl pi12 dX4_searchDay_106 (fun H locs hP hD hS => ?_)
            obtain ⟨v_29, ev_29⟩ : ∃ u : Nat → Nat → Int32, u = upr v_26 (9) (upd (v_26 (9)) (x2.toNatClampNeg) x_28) := ⟨_, rfl⟩
            have hP : va_P (dC, dI) vwCl (wl ad kv cy N v_29) H := by rw [ev_29, ← wl_put (e := _) (ce_18 (by decide))]; exact hP
            have hD : va_D A (wl ad kv cy N v_29) := by rw [ev_29, ← wl_put (e := _) (ce_18 (by decide))]; exact hD
            have hv : Iv v_29 := by rw [ev_29]; exact hv.put (K := 18) (by decide) (fun h q => by simp [bd] at q)
            have hfr : Fz v v_29 := by rw [ev_29]; exact hfr.put (by omega) (by omega) (by omega)
            refine lv_aload_n hx hb dX4_searchDay_107 rfl (lv_at hl 2 rfl) ?_
            refine va_get (D := (dC, dI)) (ci := 4) (v := .ref (ad 8)) (C := RX4) (T := TX4) (N := 11) hx hb hts iwX4_searchDay_X4 hown hK hP (1) (wl_at (by omega) (ce_1 (by decide))) rfl 9 (by decide) (hts (.fieldLink RX4 30 "QuietStairs$Planner" "busyBits" "[I") fwX4_searchDay_2) (fun _ h9 => h9) rfl dX4_searchDay_108 ?_
            refine lv_iload_n hx hb dX4_searchDay_111 rfl (lv_at hl 5 rfl) ?_
            refine lv_dup2_11 hx hb dX4_searchDay_112 rfl rfl ?_
            refine va_iald hx hb hK hP (8) 0 (wl_at (by omega) (ce_18 (by decide))) rfl pi12 dX4_searchDay_113 ?_
            refine lv_topi (fun x_30 ex_30 => ?_)
            refine lv_iload hx hb dX4_searchDay_114 (lv_at hl 0 rfl) ?_
            refine lv_ixor hx hb dX4_searchDay_116 ?_
            refine lv_topi (fun x_31 ex_31 => ?_)
            refine va_iast hx hb hK hP hD hS (8) 0 (wl_at (by omega) (ce_18 (by decide))) rfl pi12 dX4_searchDay_117 (fun H locs hP hD hS => ?_)
            obtain ⟨v_32, ev_32⟩ : ∃ u : Nat → Nat → Int32, u = upr v_29 (8) (upd (v_29 (8)) (x2.toNatClampNeg) x_31) := ⟨_, rfl⟩
            have hP : va_P (dC, dI) vwCl (wl ad kv cy N v_32) H := by rw [ev_32, ← wl_put (e := _) (ce_18 (by decide))]; exact hP
            have hD : va_D A (wl ad kv cy N v_32) := by rw [ev_32, ← wl_put (e := _) (ce_18 (by decide))]; exact hD
            have hv : Iv v_32 := by rw [ev_32]; exact hv.put (K := 18) (by decide) (fun h q => by simp [bd] at q)
            have hfr : Fz v v_32 := by rw [ev_32]; exact hfr.put (by omega) (by omega) (by omega)
            obtain ⟨x_33, ex_33⟩ : ∃ y : Int32, y = y1_4 + 1 := ⟨_, rfl⟩
            refine lv_iinc (v := x_33) (lv' := [(4, .int x_33), (5, .int x_8), (0, .ref (ad 1)), (1, .int x0), (2, .int x1), (3, .int x2)]) hx hb dX4_searchDay_118 hl (k := 1) rfl (by rw [ex_33]; rfl) (by decide) rfl (fun ls hl => ?_)
            have tx_33 : x_33.toInt = y1_4.toInt + (1 : Int32).toInt := by rw [ex_33]; exact t_add ⟨by omega, by omega⟩
            refine lv_goto (tgt := 3) hx hb dX4_searchDay_121 (by decide) ?_
            exact ih_1 x_33 v_32 H locs (by omega) (by omega) (by omega) hv hfr hP hD hS ls (lv_sub hl [0, 2, 3, 4, 5] rfl)
  exact hloop_1 ((6 - (0 : Int32).toInt).toNat + 1) 0 v _ _ (by omega) (by omega) (by omega) hv hfr hP hD hS ls hl

set_option maxHeartbeats 4000000 in
set_option maxRecDepth 100000 in
theorem g_X4_search_4 (l : Launch) (dC : Nat → ClassId) (dI : Nat → Nat → Nat) (cy : Nat → ClassId) (sz : Nat) (ad : Nat → Nat) (kv : Value) (N : Nat) (hN : 119 ≤ N) (v : Nat → Nat → Int32) (hv : Iv v) (x0 x1 : Int32) (hs : 0 ≤ x0.toInt ∧ x0.toInt ≤ 4) (t1 t2 : Nat) : Met l yX4_search wsX4_search ({ frames := 9, cells := 0, slots := 0, locals := 576 }) (va_Pc [.ref (ad 1), .int x0, .int x1] (ex_PreT dC dI cy sz (wl ad kv cy N v) t1 t2)) (va_Qv (fun (u : Nat → Nat → Int32) => Iv u ∧ Fz v u) (fun u t => ex_Pst dC dI (va_A (wl ad kv cy N v) sz) (wl ad kv cy N u) t) (va_A (wl ad kv cy N v) sz)) 0 0 (va_A (wl ad kv cy N v) sz) := by
  refine Met.ofW (cc := cX4_search) (maxL := 4) (ret := none) (by decide) rfl ?_
  intro p e s m args below meth c s₁ B hml hv
  obtain ⟨rfl, ⟨hsz, hE, hP, hK, hD0⟩, hSt⟩ := hv
  have hx := B.exec
  have hb := B.bytes
  have hr := B.returns
  have hts := atoms_spec (ws := wsX4_search) B.pre
  have hown : s.vm.findClass RX4 = some m.cls := findClass_of_methodNamed B.named
  have hlocks := B.notSynchronized
  subst hsz
  have hD := hD0.self (sz := s.heap.size)
  generalize hAe : va_A (wl ad kv cy N v) s.heap.size = A at hD hSt ⊢
  have hA : ∀ q : Nat, s.heap.size ≤ q → A q := fun q h => by rw [← hAe]; exact Or.inr h
  have hS : va_S A s.heap s.heap [] := va_S.rf
  have hP : va_P (dC, dI) vwCl (wl ad kv cy N v) s.heap := hP
  have hl := lv_entry ([.ref (ad 1), .int x0, .int x1]) (n := 4) (Nat.le_of_ble_eq_true rfl)
  rw [lg_entry_eq]
  generalize (lg_sl ([.ref (ad 1), .int x0, .int x1]) ++ List.replicate (4 - (lg_sl ([.ref (ad 1), .int x0, .int x1])).length) Slot.unset).toArray = ls at hl ⊢
  have hl : lv_has ls 4 [(0, .ref (ad 1)), (1, .int x0), (2, .int x1)] := hl
  have hfr : Fz v v := Fz.rf
  refine lv_iload_n hx hb dX4_search_0 rfl (lv_at hl 2 rfl) ?_
  refine lv_aload_n hx hb dX4_search_1 rfl (lv_at hl 0 rfl) ?_
  refine lv_iload_n hx hb dX4_search_2 rfl (lv_at hl 1 rfl) ?_
  refine yw_i (w1 := fun (u : Nat → Nat → Int32) => wl ad kv cy N u) hD hS hA (va_runV (As := [.int x0]) (rest := [.int x1]) ⟨hx, hb, hml, hown, hts⟩ (g_X4_leastBehind l dC dI cy _ ad kv N hN v hv x0) (cwV 1 hts gX4_search_X4_leastBehind rfl rfl rfl hd_V_X4_leastBehind_1 ⟨Nat.le_of_ble_eq_true rfl, Nat.le_of_ble_eq_true rfl⟩) (yw_preV hE hK hP hD (ci := 4) (q := (RX4, TX4, 11)) (q0 := 1) rfl (wl_at (by omega) (ce_1 (by decide)))) rfl rfl hl.1 rfl (lv_room (Nat.le_of_ble_eq_true rfl)) dX4_search_3 ⟨Nat.le_of_ble_eq_true rfl, Nat.le_of_ble_eq_true rfl⟩) (fun r_1 v_1 H locs hw_1 hP hD hS => ?_)
  obtain ⟨hv, hw_1⟩ := hw_1
  have hfr : Fz v v_1 := hfr.trans hw_1
  refine lv_iadd hx hb dX4_search_6 ?_
  refine lv_topi (fun x_2 ex_2 => ?_)
  refine lv_aload_n hx hb dX4_search_7 rfl (lv_at hl 0 rfl) ?_
  refine va_get (D := (dC, dI)) (ci := 4) (v := .int (v_1 (1) 0)) (C := RX4) (T := TX4) (N := 11) hx hb hts iwX4_search_X4 hown hK hP (1) (wl_at (by omega) (ce_1 (by decide))) rfl 0 (by decide) (hts (.fieldLink RX4 58 "QuietStairs$Planner" "leastWait" "I") fwX4_search_1) (fun _ h9 => h9) rfl dX4_search_8 ?_
  refine lv_topi (fun x_3 ex_3 => ?_)
  refine lv_icmp_lt (tgt := 15) hx hb dX4_search_11 (by decide) (fun c_4 => ?_) (fun c_4 => ?_)
  · have tc_4 : x_2.toInt < x_3.toInt := Int32.lt_iff_toInt_lt.mp c_4
    refine lv_iload_n hx hb dX4_search_15 rfl (lv_at hl 1 rfl) ?_
    refine lv_aload_n hx hb dX4_search_16 rfl (lv_at hl 0 rfl) ?_
    refine va_get (D := (dC, dI)) (ci := 4) (v := .int (v_1 (1) 1)) (C := RX4) (T := TX4) (N := 11) hx hb hts iwX4_search_X4 hown hK hP (1) (wl_at (by omega) (ce_1 (by decide))) rfl 1 (by decide) (hts (.fieldLink RX4 61 "QuietStairs$Planner" "count" "I") fwX4_search_2) (fun _ h9 => h9) rfl dX4_search_17 ?_
    refine lv_topi (fun x_5 ex_5 => ?_)
    have bx_5 : 0 ≤ x_5.toInt ∧ x_5.toInt ≤ 4 := by rw [ex_5]; exact hv.at (K := 1) (by decide) rfl
    refine lv_icmp_lt (tgt := 46) hx hb dX4_search_20 (by decide) (fun c_6 => ?_) (fun c_6 => ?_)
    · have tc_6 : x0.toInt < x_5.toInt := Int32.lt_iff_toInt_lt.mp c_6
      refine lv_iconst (v := 0) hx hb dX4_search_46 (by decide) ?_
      refine lv_istore_n (lv' := [(3, .int 0), (0, .ref (ad 1)), (1, .int x0), (2, .int x1)]) hx hb dX4_search_47 rfl hl (by decide) rfl (fun ls hl => ?_)
      have k_0 : (0 : Int32).toInt = 0 := by decide
      have hloop_7 : ∀ (n : Nat) (y7_3 : Int32) (u7 : Nat → Nat → Int32) (H : Heap) (locs : List Loc), 0 ≤ y7_3.toInt → y7_3.toInt ≤ 3 → (3 - y7_3.toInt).toNat < n → Iv u7 → Fz v u7 → va_P (dC, dI) vwCl (wl ad kv cy N u7) H → va_D A (wl ad kv cy N u7) → va_S A s.heap H locs → ∀ ls : Array Slot, lv_has ls 4 [(3, .int y7_3), (0, .ref (ad 1)), (1, .int x0), (2, .int x1)] → W p l e (headSpec wsX4_search ({ frames := 9, cells := 0, slots := 0, locals := 576 })).room s m [Value.ref (ad 1), Value.int x0, Value.int x1].toArray below meth c H locs 0 0 (MQ below (va_Qv (fun (u : Nat → Nat → Int32) => Iv u ∧ Fz v u) (fun u t => ex_Pst dC dI A (wl ad kv cy N u) t) A) [Value.ref (ad 1), Value.int x0, Value.int x1].toArray s 0 0 A) (F0 m 48 ls []) := by
        intro n
        induction n with
        | zero =>
          intro y7_3 u7 H locs ay7_3 by7_3 hm_7 hv hfr hP hD hS ls hl
          exact absurd hm_7 (by omega)
        | succ n ih_7 =>
          intro y7_3 u7 H locs ay7_3 by7_3 hm_7 hv hfr hP hD hS ls hl
          refine lv_iload_n hx hb dX4_search_48 rfl (lv_at hl 0 rfl) ?_
          refine lv_iconst (v := 3) hx hb dX4_search_49 (by decide) ?_
          have k_3 : (3 : Int32).toInt = 3 := by decide
          refine lv_icmp_ge (tgt := 88) hx hb dX4_search_50 (by decide) (fun c_8 => ?_) (fun c_8 => ?_)
          · have tc_8 : y7_3.toInt ≥ (3 : Int32).toInt := Int32.le_iff_toInt_le.mp c_8
            refine lv_aload_n hx hb dX4_search_88 rfl (lv_at hl 1 rfl) ?_
            refine va_get (D := (dC, dI)) (ci := 4) (v := .ref (ad 6)) (C := RX4) (T := TX4) (N := 11) hx hb hts iwX4_search_X4 hown hK hP (1) (wl_at (by omega) (ce_1 (by decide))) rfl 7 (by decide) (hts (.fieldLink RX4 24 "QuietStairs$Planner" "seats" "[I") fwX4_search_3) (fun _ h9 => h9) rfl dX4_search_89 ?_
            refine lv_iload_n hx hb dX4_search_92 rfl (lv_at hl 2 rfl) ?_
            refine lv_bipush (v := 18) hx hb dX4_search_93 (by decide) ?_
            obtain ⟨pi9, i9, hi9, ni9, mi9⟩ := t_in (x := x0) (n := 4) ⟨by omega, by omega⟩
            refine va_iast hx hb hK hP hD hS (6) 0 (wl_at (by omega) (ce_17 (by decide))) rfl pi9 dX4_search_95 (fun H locs hP hD hS => ?_)
            have k_18 : (18 : Int32).toInt = 18 := by decide
            obtain ⟨v_10, ev_10⟩ : ∃ u : Nat → Nat → Int32, u = upr u7 (6) (upd (u7 (6)) (x0.toNatClampNeg) 18) := ⟨_, rfl⟩
            have hP : va_P (dC, dI) vwCl (wl ad kv cy N v_10) H := by rw [ev_10, ← wl_put (e := _) (ce_17 (by decide))]; exact hP
            have hD : va_D A (wl ad kv cy N v_10) := by rw [ev_10, ← wl_put (e := _) (ce_17 (by decide))]; exact hD
            have hv : Iv v_10 := by rw [ev_10]; exact hv.put (K := 17) (by decide) (fun h q => by simp [bd] at q)
            have hfr : Fz v v_10 := by rw [ev_10]; exact hfr.put (by omega) (by omega) (by omega)
            refine lv_aload_n hx hb dX4_search_96 rfl (lv_at hl 1 rfl) ?_
            refine lv_iload_n hx hb dX4_search_97 rfl (lv_at hl 2 rfl) ?_
            refine lv_iconst (v := 1) hx hb dX4_search_98 (by decide) ?_
            have k_1 : (1 : Int32).toInt = 1 := by decide
            refine lv_iadd hx hb dX4_search_99 ?_
            refine lv_topi (fun x_11 ex_11 => ?_)
            have tx_11 : x_11.toInt = x0.toInt + (1 : Int32).toInt := by rw [ex_11]; exact t_add ⟨by omega, by omega⟩
            refine lv_iload_n hx hb dX4_search_100 rfl (lv_at hl 3 rfl) ?_
            refine lv_aload_n hx hb dX4_search_101 rfl (lv_at hl 1 rfl) ?_
            refine va_get (D := (dC, dI)) (ci := 4) (v := .ref (ad 3)) (C := RX4) (T := TX4) (N := 11) hx hb hts iwX4_search_X4 hown hK hP (1) (wl_at (by omega) (ce_1 (by decide))) rfl 4 (by decide) (hts (.fieldLink RX4 15 "QuietStairs$Planner" "weights" "[I") fwX4_search_11) (fun _ h9 => h9) rfl dX4_search_102 ?_
            refine lv_iload_n hx hb dX4_search_105 rfl (lv_at hl 2 rfl) ?_
            refine va_iald hx hb hK hP (3) 0 (wl_at (by omega) (ce_17 (by decide))) rfl pi9 dX4_search_106 ?_
            refine lv_topi (fun x_12 ex_12 => ?_)
            refine lv_iconst (v := 4) hx hb dX4_search_107 (by decide) ?_
            refine lv_imul hx hb dX4_search_108 ?_
            refine lv_topi (fun x_13 ex_13 => ?_)
            refine lv_iadd hx hb dX4_search_109 ?_
            refine lv_topi (fun x_14 ex_14 => ?_)
            refine yw_v (w1 := fun (u : Nat → Nat → Int32) => wl ad kv cy N u) hD hS hA (va_runV (As := [.int x_11, .int x_14]) (rest := []) ⟨hx, hb, hml, hown, hts⟩ (g_X4_search_3 l dC dI cy _ ad kv N hN v_10 hv x_11 x_14 ⟨by omega, by omega⟩ t1 t2) (cwV 2 hts gX4_search_X4_search rfl rfl rfl hd_V_X4_search_2 ⟨Nat.le_of_ble_eq_true rfl, Nat.le_of_ble_eq_true rfl⟩) ⟨ex_blindT, va_recv hK hP (ci := 4) (q := (RX4, TX4, 11)) (q0 := 1) rfl (wl_at (by omega) (ce_1 (by decide))), fun U hU hW => ⟨rfl, ((yw_preS (As := []) hE hK hP hD).2 U hU hW).2, hSt.go hS (yw_F hD hS hA) hU hW⟩⟩ rfl rfl hl.1 rfl (lv_room (Nat.le_of_ble_eq_true rfl)) dX4_search_110 ⟨Nat.le_of_ble_eq_true rfl, Nat.le_of_ble_eq_true rfl⟩) (fun v_15 H locs hw_15 hP hD hS => ?_)
            obtain ⟨hv, hw_15⟩ := hw_15
            have hfr : Fz v v_15 := hfr.trans hw_15
            exact W.vret hx hb hr (fun t ht hW => ⟨⟨v_15, rfl, ⟨hv, hfr⟩, by rw [ht]; exact hP, hD⟩, hS.F ht⟩) hS.2.2 dX4_search_113
          · have tc_8 : y7_3.toInt < (3 : Int32).toInt := Int32.lt_iff_toInt_lt.mp (Int32.not_le.mp c_8)
            refine lv_aload_n hx hb dX4_search_53 rfl (lv_at hl 1 rfl) ?_
            refine va_get (D := (dC, dI)) (ci := 4) (v := .ref (ad 9)) (C := RX4) (T := TX4) (N := 11) hx hb hts iwX4_search_X4 hown hK hP (1) (wl_at (by omega) (ce_1 (by decide))) rfl 10 (by decide) (hts (.fieldLink RX4 33 "QuietStairs$Planner" "sittings" "[I") fwX4_search_9) (fun _ h9 => h9) rfl dX4_search_54 ?_
            refine lv_iload_n hx hb dX4_search_57 rfl (lv_at hl 0 rfl) ?_
            obtain ⟨pi9, i9, hi9, ni9, mi9⟩ := t_in (x := y7_3) (n := 3) ⟨by omega, by omega⟩
            refine va_iald hx hb hK hP (9) 0 (wl_at (by omega) (ce_18 (by decide))) rfl pi9 dX4_search_58 ?_
            refine lv_topi (fun x_10 ex_10 => ?_)
            refine lv_aload_n hx hb dX4_search_59 rfl (lv_at hl 1 rfl) ?_
            refine va_get (D := (dC, dI)) (ci := 4) (v := .int (u7 (1) 2)) (C := RX4) (T := TX4) (N := 11) hx hb hts iwX4_search_X4 hown hK hP (1) (wl_at (by omega) (ce_1 (by decide))) rfl 2 (by decide) (hts (.fieldLink RX4 48 "QuietStairs$Planner" "seatsADay" "I") fwX4_search_10) (fun _ h9 => h9) rfl dX4_search_60 ?_
            refine lv_topi (fun x_11 ex_11 => ?_)
            refine lv_icmp_ge (tgt := 82) hx hb dX4_search_63 (by decide) (fun c_12 => ?_) (fun c_12 => ?_)
            · have tc_12 : x_10.toInt ≥ x_11.toInt := Int32.le_iff_toInt_le.mp c_12
              obtain ⟨x_13, ex_13⟩ : ∃ y : Int32, y = y7_3 + 1 := ⟨_, rfl⟩
              refine lv_iinc (v := x_13) (lv' := [(3, .int x_13), (0, .ref (ad 1)), (1, .int x0), (2, .int x1)]) hx hb dX4_search_82 hl (k := 0) rfl (by rw [ex_13]; rfl) (by decide) rfl (fun ls hl => ?_)
              have k_1 : (1 : Int32).toInt = 1 := by decide
              have tx_13 : x_13.toInt = y7_3.toInt + (1 : Int32).toInt := by rw [ex_13]; exact t_add ⟨by omega, by omega⟩
              refine lv_goto (tgt := 48) hx hb dX4_search_85 (by decide) ?_
              exact ih_7 x_13 u7 H locs (by omega) (by omega) (by omega) hv hfr hP hD hS ls (lv_sub hl [0, 1, 2, 3] rfl)
            · have tc_12 : x_10.toInt < x_11.toInt := Int32.lt_iff_toInt_lt.mp (Int32.not_le.mp c_12)
              refine lv_aload_n hx hb dX4_search_66 rfl (lv_at hl 1 rfl) ?_
              refine lv_iload_n hx hb dX4_search_67 rfl (lv_at hl 2 rfl) ?_
              refine lv_iload_n hx hb dX4_search_68 rfl (lv_at hl 3 rfl) ?_
              refine lv_aload_n hx hb dX4_search_69 rfl (lv_at hl 1 rfl) ?_
              refine va_get (D := (dC, dI)) (ci := 4) (v := .ref (ad 3)) (C := RX4) (T := TX4) (N := 11) hx hb hts iwX4_search_X4 hown hK hP (1) (wl_at (by omega) (ce_1 (by decide))) rfl 4 (by decide) (hts (.fieldLink RX4 15 "QuietStairs$Planner" "weights" "[I") fwX4_search_11) (fun _ h9 => h9) rfl dX4_search_70 ?_
              refine lv_iload_n hx hb dX4_search_73 rfl (lv_at hl 2 rfl) ?_
              obtain ⟨pi13, i13, hi13, ni13, mi13⟩ := t_in (x := x0) (n := 4) ⟨by omega, by omega⟩
              refine va_iald hx hb hK hP (3) 0 (wl_at (by omega) (ce_17 (by decide))) rfl pi13 dX4_search_74 ?_
              refine lv_topi (fun x_14 ex_14 => ?_)
              refine lv_iload_n hx hb dX4_search_75 rfl (lv_at hl 0 rfl) ?_
              refine lv_imul hx hb dX4_search_76 ?_
              refine lv_topi (fun x_15 ex_15 => ?_)
              refine lv_iadd hx hb dX4_search_77 ?_
              refine lv_topi (fun x_16 ex_16 => ?_)
              refine lv_iload_n hx hb dX4_search_78 rfl (lv_at hl 0 rfl) ?_
              refine yw_v (w1 := fun (u : Nat → Nat → Int32) => wl ad kv cy N u) hD hS hA (va_runV (As := [.int x0, .int x_16, .int y7_3]) (rest := []) ⟨hx, hb, hml, hown, hts⟩ (g_X4_searchDay_4 l dC dI cy _ ad kv N hN u7 hv x0 x_16 y7_3 ⟨by omega, by omega⟩ ⟨by omega, by omega⟩ t1 t2) (cwV 3 hts gX4_search_X4_searchDay rfl rfl rfl hd_V_X4_searchDay_3 ⟨Nat.le_of_ble_eq_true rfl, Nat.le_of_ble_eq_true rfl⟩) ⟨ex_blindT, va_recv hK hP (ci := 4) (q := (RX4, TX4, 11)) (q0 := 1) rfl (wl_at (by omega) (ce_1 (by decide))), fun U hU hW => ⟨rfl, ((yw_preS (As := []) hE hK hP hD).2 U hU hW).2, hSt.go hS (yw_F hD hS hA) hU hW⟩⟩ rfl rfl hl.1 rfl (lv_room (Nat.le_of_ble_eq_true rfl)) dX4_search_79 ⟨Nat.le_of_ble_eq_true rfl, Nat.le_of_ble_eq_true rfl⟩) (fun v_17 H locs hw_17 hP hD hS => ?_)
              obtain ⟨hv, hw_17⟩ := hw_17
              have hfr : Fz v v_17 := hfr.trans hw_17
              obtain ⟨x_18, ex_18⟩ : ∃ y : Int32, y = y7_3 + 1 := ⟨_, rfl⟩
              refine lv_iinc (v := x_18) (lv' := [(3, .int x_18), (0, .ref (ad 1)), (1, .int x0), (2, .int x1)]) hx hb dX4_search_82 hl (k := 0) rfl (by rw [ex_18]; rfl) (by decide) rfl (fun ls hl => ?_)
              have k_1 : (1 : Int32).toInt = 1 := by decide
              have tx_18 : x_18.toInt = y7_3.toInt + (1 : Int32).toInt := by rw [ex_18]; exact t_add ⟨by omega, by omega⟩
              refine lv_goto (tgt := 48) hx hb dX4_search_85 (by decide) ?_
              exact ih_7 x_18 v_17 H locs (by omega) (by omega) (by omega) hv hfr hP hD hS ls (lv_sub hl [0, 1, 2, 3] rfl)
      exact hloop_7 ((3 - (0 : Int32).toInt).toNat + 1) 0 v_1 _ _ (by omega) (by omega) (by omega) hv hfr hP hD hS ls hl
    · have tc_6 : x0.toInt ≥ x_5.toInt := Int32.le_iff_toInt_le.mp (Int32.not_lt.mp c_6)
      refine lv_aload_n hx hb dX4_search_23 rfl (lv_at hl 0 rfl) ?_
      refine lv_iload_n hx hb dX4_search_24 rfl (lv_at hl 2 rfl) ?_
      refine va_put (D := (dC, dI)) (ci := 4) (v := .int x1) (ty := .int) (C := RX4) (T := TX4) (N := 11) hx hb hts iwX4_search_X4 tyX4 tyX4_ok nmX4 hown hK hP hD hS (1) (wl_at (by omega) (ce_1 (by decide))) rfl 0 (by decide) (hts (.fieldLink RX4 58 "QuietStairs$Planner" "leastWait" "I") fwX4_search_1) (fun _ h9 => h9) rfl (by decide +kernel) rfl rfl (Nat.le_of_ble_eq_true rfl) dX4_search_25 (fun H locs hP hD hS => ?_)
      obtain ⟨v_7, ev_7⟩ : ∃ u : Nat → Nat → Int32, u = upr v_1 (1) (upd (v_1 (1)) 0 x1) := ⟨_, rfl⟩
      have hP : va_P (dC, dI) vwCl (wl ad kv cy N v_7) H := by rw [ev_7, ← wl_put (e := _) (ce_1 (by decide))]; exact hP
      have hD : va_D A (wl ad kv cy N v_7) := by rw [ev_7, ← wl_put (e := _) (ce_1 (by decide))]; exact hD
      have hv : Iv v_7 := by rw [ev_7]; exact hv.put (K := 1) (by decide) (fun h q => by simp [bd] at q)
      have hfr : Fz v v_7 := by rw [ev_7]; exact hfr.put (by omega) (by omega) (by omega)
      refine lv_aload_n hx hb dX4_search_28 rfl (lv_at hl 0 rfl) ?_
      refine va_get (D := (dC, dI)) (ci := 4) (v := .ref (ad 6)) (C := RX4) (T := TX4) (N := 11) hx hb hts iwX4_search_X4 hown hK hP (1) (wl_at (by omega) (ce_1 (by decide))) rfl 7 (by decide) (hts (.fieldLink RX4 24 "QuietStairs$Planner" "seats" "[I") fwX4_search_3) (fun _ h9 => h9) rfl dX4_search_29 ?_
      refine lv_iconst (v := 0) hx hb dX4_search_32 (by decide) ?_
      refine lv_aload_n hx hb dX4_search_33 rfl (lv_at hl 0 rfl) ?_
      refine va_get (D := (dC, dI)) (ci := 4) (v := .ref (ad 7)) (C := RX4) (T := TX4) (N := 11) hx hb hts iwX4_search_X4 hown hK hP (1) (wl_at (by omega) (ce_1 (by decide))) rfl 8 (by decide) (hts (.fieldLink RX4 27 "QuietStairs$Planner" "bestSeats" "[I") fwX4_search_4) (fun _ h9 => h9) rfl dX4_search_34 ?_
      refine lv_iconst (v := 0) hx hb dX4_search_37 (by decide) ?_
      refine lv_aload_n hx hb dX4_search_38 rfl (lv_at hl 0 rfl) ?_
      refine va_get (D := (dC, dI)) (ci := 4) (v := .int (v_7 (1) 1)) (C := RX4) (T := TX4) (N := 11) hx hb hts iwX4_search_X4 hown hK hP (1) (wl_at (by omega) (ce_1 (by decide))) rfl 1 (by decide) (hts (.fieldLink RX4 61 "QuietStairs$Planner" "count" "I") fwX4_search_2) (fun _ h9 => h9) rfl dX4_search_39 ?_
      refine lv_topi (fun x_8 ex_8 => ?_)
      rw [ev_7, upr_s, pk_un (by decide)] at ex_8
      rw [← ex_5] at ex_8; replace ex_8 := ex_8.symm; subst ex_8
      have hn_9 := t_n (x := x_5) (m := 4) ⟨by omega, by omega⟩
      refine va_copyi hx hb (hml.trans hl.1.symm) hown (hts (.methodLink RX4 99 arraycopyName) fwX4_search_5) (hts (.native arraycopyName) fwX4_search_6) (hts (.static arraycopyName) fwX4_search_7) (hts (.initialized "java/lang/System") fwX4_search_8) hK hP hD hS (6) (7) 0 0 (wl_at (by omega) (ce_17 (by decide))) (wl_at (by omega) (ce_17 (by decide))) rfl rfl rfl (by decide) (by decide) hn_9.1 (by rw [sb_cl0]; have := hn_9.2; omega) (by rw [sb_cl0]; have := hn_9.2; omega) (fun i hi => rfl) (Nat.le_of_ble_eq_true rfl) (Nat.le_of_ble_eq_true rfl) dX4_search_42 (fun H locs hP hD hS => ?_)
      obtain ⟨v_9, ev_9⟩ : ∃ u : Nat → Nat → Int32, u = upr v_7 (7) (va_cpy (v_7 (6)) (v_7 (7)) (0 : Int32).toNatClampNeg (0 : Int32).toNatClampNeg x_5.toNatClampNeg) := ⟨_, rfl⟩
      have hP : va_P (dC, dI) vwCl (wl ad kv cy N v_9) H := by rw [ev_9, ← wl_put (e := _) (ce_17 (by decide))]; exact hP
      have hD : va_D A (wl ad kv cy N v_9) := by rw [ev_9, ← wl_put (e := _) (ce_17 (by decide))]; exact hD
      have hv : Iv v_9 := by rw [ev_9]; exact hv.row (K := 17) (by decide) (fun j => rfl)
      have hfr : Fz v v_9 := by rw [ev_9]; exact hfr.row (by omega) (by omega) (by omega)
      exact W.vret hx hb hr (fun t ht hW => ⟨⟨v_9, rfl, ⟨hv, hfr⟩, by rw [ht]; exact hP, hD⟩, hS.F ht⟩) hS.2.2 dX4_search_45
  · have tc_4 : x_2.toInt ≥ x_3.toInt := Int32.le_iff_toInt_le.mp (Int32.not_lt.mp c_4)
    exact W.vret hx hb hr (fun t ht hW => ⟨⟨v_1, rfl, ⟨hv, hfr⟩, by rw [ht]; exact hP, hD⟩, hS.F ht⟩) hS.2.2 dX4_search_14
set_option maxRecDepth 20000 in
theorem db_X4_findPlan_0 : (decode cX4_findPlan 0 = .ok (.aload_n 0, 1)) ∧ (decode cX4_findPlan 1 = .ok (.iload_n 2, 1)) ∧ (decode cX4_findPlan 2 = .ok (.aload_n 1, 1)) ∧ (decode cX4_findPlan 3 = .ok (.getfield 36, 3)) ∧ (decode cX4_findPlan 6 = .ok (.iconst 2, 1)) ∧ (decode cX4_findPlan 7 = .ok (.idiv, 1)) ∧ (decode cX4_findPlan 8 = .ok (.invokestatic 42, 3)) ∧ (decode cX4_findPlan 11 = .ok (.putfield 48, 3)) := by decide +kernel
theorem dX4_findPlan_0 : decode cX4_findPlan 0 = .ok (.aload_n 0, 1) := db_X4_findPlan_0.1
theorem dX4_findPlan_1 : decode cX4_findPlan 1 = .ok (.iload_n 2, 1) := db_X4_findPlan_0.2.1
theorem dX4_findPlan_2 : decode cX4_findPlan 2 = .ok (.aload_n 1, 1) := db_X4_findPlan_0.2.2.1
theorem dX4_findPlan_3 : decode cX4_findPlan 3 = .ok (.getfield 36, 3) := db_X4_findPlan_0.2.2.2.1
theorem dX4_findPlan_6 : decode cX4_findPlan 6 = .ok (.iconst 2, 1) := db_X4_findPlan_0.2.2.2.2.1
theorem dX4_findPlan_7 : decode cX4_findPlan 7 = .ok (.idiv, 1) := db_X4_findPlan_0.2.2.2.2.2.1
theorem dX4_findPlan_8 : decode cX4_findPlan 8 = .ok (.invokestatic 42, 3) := db_X4_findPlan_0.2.2.2.2.2.2.1
theorem dX4_findPlan_11 : decode cX4_findPlan 11 = .ok (.putfield 48, 3) := db_X4_findPlan_0.2.2.2.2.2.2.2
set_option maxRecDepth 20000 in
theorem db_X4_findPlan_14 : (decode cX4_findPlan 14 = .ok (.aload_n 0, 1)) ∧ (decode cX4_findPlan 15 = .ok (.aload_n 1, 1)) ∧ (decode cX4_findPlan 16 = .ok (.invokevirtual 51, 3)) ∧ (decode cX4_findPlan 19 = .ok (.aload_n 0, 1)) ∧ (decode cX4_findPlan 20 = .ok (.invokevirtual 55, 3)) ∧ (decode cX4_findPlan 23 = .ok (.aload_n 0, 1)) ∧ (decode cX4_findPlan 24 = .ok (.iconst 1, 1)) ∧ (decode cX4_findPlan 25 = .ok (.putfield 58, 3)) := by decide +kernel
theorem dX4_findPlan_14 : decode cX4_findPlan 14 = .ok (.aload_n 0, 1) := db_X4_findPlan_14.1
theorem dX4_findPlan_15 : decode cX4_findPlan 15 = .ok (.aload_n 1, 1) := db_X4_findPlan_14.2.1
set_option maxRecDepth 20000 in
theorem ggX4_findPlan_X4_gather : GoodIn wsX4_findPlan wsX4_gather := goodIn_r _ [16, 8, 17, 18, 19, 20, 9, 21, 22, 23, 24, 15, 25, 26, 27, 28, 29, 30, 31, 32, 33, 34, 35, 36, 37, 38, 39, 40, 41, 42, 43, 44, 45, 46, 47, 48, 49, 50, 81, 82, 83, 84, 85, 86, 87, 88, 89, 90, 91, 74, 75, 76, 77, 78, 79, 80, 92, 93, 94, 95, 96, 97, 98, 99, 100, 101, 102, 103, 104, 105, 106, 107] rfl (by decide +kernel)
set_option maxRecDepth 20000 in
theorem gX4_findPlan_X4_gather : GoodIn wsX4_findPlan (wsV RX4 51 RX4 yX4_gather wsX4_gather) := goodIn_app (goodIn_r _ [12, 13, 14, 15] rfl (by decide +kernel)) ggX4_findPlan_X4_gather
theorem dX4_findPlan_16 : decode cX4_findPlan 16 = .ok (.invokevirtual 51, 3) := db_X4_findPlan_14.2.2.1
theorem dX4_findPlan_19 : decode cX4_findPlan 19 = .ok (.aload_n 0, 1) := db_X4_findPlan_14.2.2.2.1
set_option maxRecDepth 20000 in
theorem ggX4_findPlan_X4_sortByWeight : GoodIn wsX4_findPlan wsX4_sortByWeight := goodIn_r _ [54, 8, 9, 55, 81, 82, 83, 84, 85, 86, 87, 88, 89, 90, 91] rfl (by decide +kernel)
set_option maxRecDepth 20000 in
theorem gX4_findPlan_X4_sortByWeight : GoodIn wsX4_findPlan (wsV RX4 55 RX4 yX4_sortByWeight wsX4_sortByWeight) := goodIn_app (goodIn_r _ [51, 52, 53, 15] rfl (by decide +kernel)) ggX4_findPlan_X4_sortByWeight
theorem dX4_findPlan_20 : decode cX4_findPlan 20 = .ok (.invokevirtual 55, 3) := db_X4_findPlan_14.2.2.2.2.1
theorem dX4_findPlan_23 : decode cX4_findPlan 23 = .ok (.aload_n 0, 1) := db_X4_findPlan_14.2.2.2.2.2.1
theorem dX4_findPlan_24 : decode cX4_findPlan 24 = .ok (.iconst 1, 1) := db_X4_findPlan_14.2.2.2.2.2.2.1
theorem dX4_findPlan_25 : decode cX4_findPlan 25 = .ok (.putfield 58, 3) := db_X4_findPlan_14.2.2.2.2.2.2.2
set_option maxRecDepth 20000 in
theorem db_X4_findPlan_28 : (decode cX4_findPlan 28 = .ok (.iconst 0, 1)) ∧ (decode cX4_findPlan 29 = .ok (.istore_n 3, 1)) ∧ (decode cX4_findPlan 30 = .ok (.iload_n 3, 1)) ∧ (decode cX4_findPlan 31 = .ok (.aload_n 0, 1)) ∧ (decode cX4_findPlan 32 = .ok (.getfield 61, 3)) ∧ (decode cX4_findPlan 35 = .ok (.if_icmp .ge 26, 3)) ∧ (decode cX4_findPlan 61 = .ok (.iconst 0, 1)) ∧ (decode cX4_findPlan 62 = .ok (.istore_n 3, 1)) := by decide +kernel
theorem dX4_findPlan_28 : decode cX4_findPlan 28 = .ok (.iconst 0, 1) := db_X4_findPlan_28.1
theorem dX4_findPlan_29 : decode cX4_findPlan 29 = .ok (.istore_n 3, 1) := db_X4_findPlan_28.2.1
theorem dX4_findPlan_30 : decode cX4_findPlan 30 = .ok (.iload_n 3, 1) := db_X4_findPlan_28.2.2.1
theorem dX4_findPlan_31 : decode cX4_findPlan 31 = .ok (.aload_n 0, 1) := db_X4_findPlan_28.2.2.2.1
theorem dX4_findPlan_32 : decode cX4_findPlan 32 = .ok (.getfield 61, 3) := db_X4_findPlan_28.2.2.2.2.1
theorem dX4_findPlan_35 : decode cX4_findPlan 35 = .ok (.if_icmp .ge 26, 3) := db_X4_findPlan_28.2.2.2.2.2.1
theorem dX4_findPlan_61 : decode cX4_findPlan 61 = .ok (.iconst 0, 1) := db_X4_findPlan_28.2.2.2.2.2.2.1
theorem dX4_findPlan_62 : decode cX4_findPlan 62 = .ok (.istore_n 3, 1) := db_X4_findPlan_28.2.2.2.2.2.2.2
set_option maxRecDepth 20000 in
theorem db_X4_findPlan_63 : (decode cX4_findPlan 63 = .ok (.iload_n 3, 1)) ∧ (decode cX4_findPlan 64 = .ok (.iconst 3, 1)) ∧ (decode cX4_findPlan 65 = .ok (.if_icmp .ge 23, 3)) ∧ (decode cX4_findPlan 88 = .ok (.aload_n 0, 1)) ∧ (decode cX4_findPlan 89 = .ok (.iconst 0, 1)) ∧ (decode cX4_findPlan 90 = .ok (.iconst 0, 1)) ∧ (decode cX4_findPlan 91 = .ok (.invokevirtual 64, 3)) ∧ (decode cX4_findPlan 94 = .ok (.return_, 1)) := by decide +kernel
theorem dX4_findPlan_63 : decode cX4_findPlan 63 = .ok (.iload_n 3, 1) := db_X4_findPlan_63.1
theorem dX4_findPlan_64 : decode cX4_findPlan 64 = .ok (.iconst 3, 1) := db_X4_findPlan_63.2.1
theorem dX4_findPlan_65 : decode cX4_findPlan 65 = .ok (.if_icmp .ge 23, 3) := db_X4_findPlan_63.2.2.1
theorem dX4_findPlan_88 : decode cX4_findPlan 88 = .ok (.aload_n 0, 1) := db_X4_findPlan_63.2.2.2.1
theorem dX4_findPlan_89 : decode cX4_findPlan 89 = .ok (.iconst 0, 1) := db_X4_findPlan_63.2.2.2.2.1
theorem dX4_findPlan_90 : decode cX4_findPlan 90 = .ok (.iconst 0, 1) := db_X4_findPlan_63.2.2.2.2.2.1
set_option maxRecDepth 20000 in
theorem ggX4_findPlan_X4_search : GoodIn wsX4_findPlan wsX4_search := goodIn_r _ [59, 7, 8, 60, 61, 62, 63, 64, 65, 11, 6, 9, 66, 67, 68, 15, 69, 55, 22, 70, 71, 72, 56, 57, 58, 73, 10, 41, 42, 43, 81, 82, 83, 84, 85, 86, 87, 88, 89, 90, 91] rfl (by decide +kernel)
set_option maxRecDepth 20000 in
theorem gX4_findPlan_X4_search : GoodIn wsX4_findPlan (wsV RX4 64 RX4 yX4_search wsX4_search) := goodIn_app (goodIn_r _ [56, 57, 58, 15] rfl (by decide +kernel)) ggX4_findPlan_X4_search
theorem dX4_findPlan_91 : decode cX4_findPlan 91 = .ok (.invokevirtual 64, 3) := db_X4_findPlan_63.2.2.2.2.2.2.1
theorem dX4_findPlan_94 : decode cX4_findPlan 94 = .ok (.return_, 1) := db_X4_findPlan_63.2.2.2.2.2.2.2
set_option maxRecDepth 20000 in
theorem db_X4_findPlan_68 : (decode cX4_findPlan 68 = .ok (.aload_n 0, 1)) ∧ (decode cX4_findPlan 69 = .ok (.getfield 30, 3)) ∧ (decode cX4_findPlan 72 = .ok (.iload_n 3, 1)) ∧ (decode cX4_findPlan 73 = .ok (.iconst 0, 1)) ∧ (decode cX4_findPlan 74 = .ok (.iastore, 1)) ∧ (decode cX4_findPlan 75 = .ok (.aload_n 0, 1)) ∧ (decode cX4_findPlan 76 = .ok (.getfield 33, 3)) ∧ (decode cX4_findPlan 79 = .ok (.iload_n 3, 1)) := by decide +kernel
theorem dX4_findPlan_68 : decode cX4_findPlan 68 = .ok (.aload_n 0, 1) := db_X4_findPlan_68.1
theorem dX4_findPlan_69 : decode cX4_findPlan 69 = .ok (.getfield 30, 3) := db_X4_findPlan_68.2.1
theorem dX4_findPlan_72 : decode cX4_findPlan 72 = .ok (.iload_n 3, 1) := db_X4_findPlan_68.2.2.1
theorem dX4_findPlan_73 : decode cX4_findPlan 73 = .ok (.iconst 0, 1) := db_X4_findPlan_68.2.2.2.1
theorem dX4_findPlan_74 : decode cX4_findPlan 74 = .ok (.iastore, 1) := db_X4_findPlan_68.2.2.2.2.1
theorem dX4_findPlan_75 : decode cX4_findPlan 75 = .ok (.aload_n 0, 1) := db_X4_findPlan_68.2.2.2.2.2.1
theorem dX4_findPlan_76 : decode cX4_findPlan 76 = .ok (.getfield 33, 3) := db_X4_findPlan_68.2.2.2.2.2.2.1
theorem dX4_findPlan_79 : decode cX4_findPlan 79 = .ok (.iload_n 3, 1) := db_X4_findPlan_68.2.2.2.2.2.2.2
set_option maxRecDepth 20000 in
theorem db_X4_findPlan_80 : (decode cX4_findPlan 80 = .ok (.iconst 0, 1)) ∧ (decode cX4_findPlan 81 = .ok (.iastore, 1)) ∧ (decode cX4_findPlan 82 = .ok (.iinc 3 1, 3)) ∧ (decode cX4_findPlan 85 = .ok (.goto (-22), 3)) ∧ (decode cX4_findPlan 38 = .ok (.aload_n 0, 1)) ∧ (decode cX4_findPlan 39 = .ok (.dup, 1)) ∧ (decode cX4_findPlan 40 = .ok (.getfield 58, 3)) ∧ (decode cX4_findPlan 43 = .ok (.iconst 4, 1)) := by decide +kernel
theorem dX4_findPlan_80 : decode cX4_findPlan 80 = .ok (.iconst 0, 1) := db_X4_findPlan_80.1
theorem dX4_findPlan_81 : decode cX4_findPlan 81 = .ok (.iastore, 1) := db_X4_findPlan_80.2.1
theorem dX4_findPlan_82 : decode cX4_findPlan 82 = .ok (.iinc 3 1, 3) := db_X4_findPlan_80.2.2.1
theorem dX4_findPlan_85 : decode cX4_findPlan 85 = .ok (.goto (-22), 3) := db_X4_findPlan_80.2.2.2.1
theorem dX4_findPlan_38 : decode cX4_findPlan 38 = .ok (.aload_n 0, 1) := db_X4_findPlan_80.2.2.2.2.1
theorem dX4_findPlan_39 : decode cX4_findPlan 39 = .ok (.dup, 1) := db_X4_findPlan_80.2.2.2.2.2.1
theorem dX4_findPlan_40 : decode cX4_findPlan 40 = .ok (.getfield 58, 3) := db_X4_findPlan_80.2.2.2.2.2.2.1
theorem dX4_findPlan_43 : decode cX4_findPlan 43 = .ok (.iconst 4, 1) := db_X4_findPlan_80.2.2.2.2.2.2.2
set_option maxRecDepth 20000 in
theorem db_X4_findPlan_44 : (decode cX4_findPlan 44 = .ok (.aload_n 0, 1)) ∧ (decode cX4_findPlan 45 = .ok (.getfield 15, 3)) ∧ (decode cX4_findPlan 48 = .ok (.iload_n 3, 1)) ∧ (decode cX4_findPlan 49 = .ok (.iaload, 1)) ∧ (decode cX4_findPlan 50 = .ok (.imul, 1)) ∧ (decode cX4_findPlan 51 = .ok (.iadd, 1)) ∧ (decode cX4_findPlan 52 = .ok (.putfield 58, 3)) ∧ (decode cX4_findPlan 55 = .ok (.iinc 3 1, 3)) := by decide +kernel
theorem dX4_findPlan_44 : decode cX4_findPlan 44 = .ok (.aload_n 0, 1) := db_X4_findPlan_44.1
theorem dX4_findPlan_45 : decode cX4_findPlan 45 = .ok (.getfield 15, 3) := db_X4_findPlan_44.2.1
theorem dX4_findPlan_48 : decode cX4_findPlan 48 = .ok (.iload_n 3, 1) := db_X4_findPlan_44.2.2.1
theorem dX4_findPlan_49 : decode cX4_findPlan 49 = .ok (.iaload, 1) := db_X4_findPlan_44.2.2.2.1
theorem dX4_findPlan_50 : decode cX4_findPlan 50 = .ok (.imul, 1) := db_X4_findPlan_44.2.2.2.2.1
theorem dX4_findPlan_51 : decode cX4_findPlan 51 = .ok (.iadd, 1) := db_X4_findPlan_44.2.2.2.2.2.1
theorem dX4_findPlan_52 : decode cX4_findPlan 52 = .ok (.putfield 58, 3) := db_X4_findPlan_44.2.2.2.2.2.2.1
theorem dX4_findPlan_55 : decode cX4_findPlan 55 = .ok (.iinc 3 1, 3) := db_X4_findPlan_44.2.2.2.2.2.2.2
theorem dX4_findPlan_58 : decode cX4_findPlan 58 = .ok (.goto (-28), 3) := by decide +kernel
set_option maxRecDepth 20000 in
theorem db_X7_plan_0 : (decode cX7_plan 0 = .ok (.aload_n 0, 1)) ∧ (decode cX7_plan 1 = .ok (.iload_n 1, 1)) ∧ (decode cX7_plan 2 = .ok (.invokevirtual 96, 3)) ∧ (decode cX7_plan 5 = .ok (.ifCond .ne 5, 3)) ∧ (decode cX7_plan 10 = .ok (.aload_n 0, 1)) ∧ (decode cX7_plan 11 = .ok (.getfield 12, 3)) ∧ (decode cX7_plan 14 = .ok (.getfield 86, 3)) ∧ (decode cX7_plan 17 = .ok (.iload_n 1, 1)) := by decide +kernel
theorem dX7_plan_0 : decode cX7_plan 0 = .ok (.aload_n 0, 1) := db_X7_plan_0.1
theorem dX7_plan_1 : decode cX7_plan 1 = .ok (.iload_n 1, 1) := db_X7_plan_0.2.1
set_option maxRecDepth 20000 in
theorem ggX7_plan_X7_isCase : GoodIn wsX7_plan wsX7_isCase := goodIn_r _ [10, 1, 11, 12, 13, 9, 14, 95, 96, 97, 98, 99, 100, 101, 102, 103, 104, 105, 106] rfl (by decide +kernel)
set_option maxRecDepth 20000 in
theorem gX7_plan_X7_isCase : GoodIn wsX7_plan (wsV RX7 96 RX7 yX7_isCase wsX7_isCase) := goodIn_app (goodIn_r _ [6, 7, 8, 9] rfl (by decide +kernel)) ggX7_plan_X7_isCase
theorem dX7_plan_2 : decode cX7_plan 2 = .ok (.invokevirtual 96, 3) := db_X7_plan_0.2.2.1
theorem dX7_plan_5 : decode cX7_plan 5 = .ok (.ifCond .ne 5, 3) := db_X7_plan_0.2.2.2.1
theorem dX7_plan_10 : decode cX7_plan 10 = .ok (.aload_n 0, 1) := db_X7_plan_0.2.2.2.2.1
theorem dX7_plan_11 : decode cX7_plan 11 = .ok (.getfield 12, 3) := db_X7_plan_0.2.2.2.2.2.1
theorem dX7_plan_14 : decode cX7_plan 14 = .ok (.getfield 86, 3) := db_X7_plan_0.2.2.2.2.2.2.1
theorem dX7_plan_17 : decode cX7_plan 17 = .ok (.iload_n 1, 1) := db_X7_plan_0.2.2.2.2.2.2.2
set_option maxRecDepth 20000 in
theorem db_X7_plan_18 : (decode cX7_plan 18 = .ok (.aaload, 1)) ∧ (decode cX7_plan 19 = .ok (.getfield 99, 3)) ∧ (decode cX7_plan 22 = .ok (.ifCond .eq 6, 3)) ∧ (decode cX7_plan 28 = .ok (.aload_n 0, 1)) ∧ (decode cX7_plan 29 = .ok (.getfield 19, 3)) ∧ (decode cX7_plan 32 = .ok (.aload_n 0, 1)) ∧ (decode cX7_plan 33 = .ok (.getfield 12, 3)) ∧ (decode cX7_plan 36 = .ok (.aload_n 0, 1)) := by decide +kernel
theorem dX7_plan_18 : decode cX7_plan 18 = .ok (.aaload, 1) := db_X7_plan_18.1
theorem dX7_plan_19 : decode cX7_plan 19 = .ok (.getfield 99, 3) := db_X7_plan_18.2.1
theorem dX7_plan_22 : decode cX7_plan 22 = .ok (.ifCond .eq 6, 3) := db_X7_plan_18.2.2.1
theorem dX7_plan_28 : decode cX7_plan 28 = .ok (.aload_n 0, 1) := db_X7_plan_18.2.2.2.1
theorem dX7_plan_29 : decode cX7_plan 29 = .ok (.getfield 19, 3) := db_X7_plan_18.2.2.2.2.1
theorem dX7_plan_32 : decode cX7_plan 32 = .ok (.aload_n 0, 1) := db_X7_plan_18.2.2.2.2.2.1
theorem dX7_plan_33 : decode cX7_plan 33 = .ok (.getfield 12, 3) := db_X7_plan_18.2.2.2.2.2.2.1
theorem dX7_plan_36 : decode cX7_plan 36 = .ok (.aload_n 0, 1) := db_X7_plan_18.2.2.2.2.2.2.2
set_option maxRecDepth 20000 in
theorem db_X7_plan_37 : (decode cX7_plan 37 = .ok (.getfield 33, 3)) ∧ (decode cX7_plan 40 = .ok (.invokevirtual 156, 3)) ∧ (decode cX7_plan 43 = .ok (.aload_n 0, 1)) ∧ (decode cX7_plan 44 = .ok (.getfield 19, 3)) ∧ (decode cX7_plan 47 = .ok (.iload_n 1, 1)) ∧ (decode cX7_plan 48 = .ok (.invokevirtual 160, 3)) ∧ (decode cX7_plan 51 = .ok (.ireturn, 1)) ∧ (decode cX7_plan 25 = .ok (.bipush (-4), 2)) := by decide +kernel
theorem dX7_plan_37 : decode cX7_plan 37 = .ok (.getfield 33, 3) := db_X7_plan_37.1
set_option maxRecDepth 20000 in
theorem ggX7_plan_X4_findPlan : GoodIn wsX7_plan wsX4_findPlan := goodIn_r _ [19, 20, 21, 22, 23, 24, 25, 26, 27, 28, 29, 30, 31, 32, 33, 18, 34, 35, 36, 37, 38, 39, 40, 41, 42, 43, 44, 45, 46, 47, 48, 49, 50, 51, 52, 53, 54, 55, 56, 57, 58, 59, 9, 60, 61, 62, 63, 64, 65, 66, 67, 68, 69, 70, 71, 72, 73, 74, 75, 76, 77, 78, 79, 80, 81, 82, 83, 84, 85, 86, 87, 88, 89, 90, 100, 101, 102, 103, 104, 105, 106, 118, 119, 120, 121, 122, 123, 124, 125, 126, 127, 128, 107, 108, 109, 110, 111, 112, 113, 114, 115, 116, 117, 129, 130, 131, 132, 133] rfl (by decide +kernel)
set_option maxRecDepth 20000 in
theorem gX7_plan_X4_findPlan : GoodIn wsX7_plan (wsV RX7 156 RX4 yX4_findPlan wsX4_findPlan) := goodIn_app (goodIn_r _ [15, 16, 17, 18] rfl (by decide +kernel)) ggX7_plan_X4_findPlan
theorem dX7_plan_40 : decode cX7_plan 40 = .ok (.invokevirtual 156, 3) := db_X7_plan_37.2.1
theorem dX7_plan_43 : decode cX7_plan 43 = .ok (.aload_n 0, 1) := db_X7_plan_37.2.2.1
theorem dX7_plan_44 : decode cX7_plan 44 = .ok (.getfield 19, 3) := db_X7_plan_37.2.2.2.1
theorem dX7_plan_47 : decode cX7_plan 47 = .ok (.iload_n 1, 1) := db_X7_plan_37.2.2.2.2.1
set_option maxRecDepth 20000 in
theorem ggX7_plan_X4_seatOf : GoodIn wsX7_plan wsX4_seatOf := goodIn_r _ [94, 27, 38, 78, 118, 119, 120, 121, 122, 123, 124, 125, 126, 127, 128] rfl (by decide +kernel)
set_option maxRecDepth 20000 in
theorem gX7_plan_X4_seatOf : GoodIn wsX7_plan (wsV RX7 160 RX4 yX4_seatOf wsX4_seatOf) := goodIn_app (goodIn_r _ [91, 92, 93, 18] rfl (by decide +kernel)) ggX7_plan_X4_seatOf
theorem dX7_plan_48 : decode cX7_plan 48 = .ok (.invokevirtual 160, 3) := db_X7_plan_37.2.2.2.2.2.1
theorem dX7_plan_51 : decode cX7_plan 51 = .ok (.ireturn, 1) := db_X7_plan_37.2.2.2.2.2.2.1
theorem dX7_plan_25 : decode cX7_plan 25 = .ok (.bipush (-4), 2) := db_X7_plan_37.2.2.2.2.2.2.2
set_option maxRecDepth 20000 in
theorem db_X7_plan_27 : (decode cX7_plan 27 = .ok (.ireturn, 1)) ∧ (decode cX7_plan 8 = .ok (.iconst (-1), 1)) ∧ (decode cX7_plan 9 = .ok (.ireturn, 1)) := by decide +kernel
theorem dX7_plan_27 : decode cX7_plan 27 = .ok (.ireturn, 1) := db_X7_plan_27.1
theorem dX7_plan_8 : decode cX7_plan 8 = .ok (.iconst (-1), 1) := db_X7_plan_27.2.1
theorem dX7_plan_9 : decode cX7_plan 9 = .ok (.ireturn, 1) := db_X7_plan_27.2.2
set_option maxRecDepth 20000 in
theorem db_X7_waits_0 : (decode cX7_waits 0 = .ok (.aload_n 0, 1)) ∧ (decode cX7_waits 1 = .ok (.getfield 19, 3)) ∧ (decode cX7_waits 4 = .ok (.aload_n 0, 1)) ∧ (decode cX7_waits 5 = .ok (.getfield 12, 3)) ∧ (decode cX7_waits 8 = .ok (.aload_n 0, 1)) ∧ (decode cX7_waits 9 = .ok (.getfield 33, 3)) ∧ (decode cX7_waits 12 = .ok (.invokevirtual 156, 3)) ∧ (decode cX7_waits 15 = .ok (.aload_n 0, 1)) := by decide +kernel
theorem dX7_waits_0 : decode cX7_waits 0 = .ok (.aload_n 0, 1) := db_X7_waits_0.1
theorem dX7_waits_1 : decode cX7_waits 1 = .ok (.getfield 19, 3) := db_X7_waits_0.2.1
theorem dX7_waits_4 : decode cX7_waits 4 = .ok (.aload_n 0, 1) := db_X7_waits_0.2.2.1
theorem dX7_waits_5 : decode cX7_waits 5 = .ok (.getfield 12, 3) := db_X7_waits_0.2.2.2.1
theorem dX7_waits_8 : decode cX7_waits 8 = .ok (.aload_n 0, 1) := db_X7_waits_0.2.2.2.2.1
theorem dX7_waits_9 : decode cX7_waits 9 = .ok (.getfield 33, 3) := db_X7_waits_0.2.2.2.2.2.1
set_option maxRecDepth 20000 in
theorem ggX7_waits_X4_findPlan : GoodIn wsX7_waits wsX4_findPlan := goodIn_r _ [9, 10, 11, 12, 13, 14, 15, 16, 17, 18, 19, 20, 21, 22, 23, 8, 24, 25, 26, 27, 28, 29, 30, 31, 32, 33, 34, 35, 36, 37, 38, 39, 40, 41, 42, 43, 44, 45, 46, 47, 48, 49, 50, 51, 52, 53, 54, 55, 56, 57, 58, 59, 60, 61, 62, 63, 64, 65, 66, 67, 68, 69, 70, 71, 72, 73, 74, 75, 76, 77, 78, 79, 80, 81, 98, 99, 100, 101, 102, 103, 104, 87, 88, 89, 90, 91, 92, 93, 94, 95, 96, 97, 105, 106, 107, 108, 109, 110, 111, 112, 113, 114, 115, 116, 117, 118, 119, 120] rfl (by decide +kernel)
set_option maxRecDepth 20000 in
theorem gX7_waits_X4_findPlan : GoodIn wsX7_waits (wsV RX7 156 RX4 yX4_findPlan wsX4_findPlan) := goodIn_app (goodIn_r _ [5, 6, 7, 8] rfl (by decide +kernel)) ggX7_waits_X4_findPlan
theorem dX7_waits_12 : decode cX7_waits 12 = .ok (.invokevirtual 156, 3) := db_X7_waits_0.2.2.2.2.2.2.1
theorem dX7_waits_15 : decode cX7_waits 15 = .ok (.aload_n 0, 1) := db_X7_waits_0.2.2.2.2.2.2.2
set_option maxRecDepth 20000 in
theorem db_X7_waits_16 : (decode cX7_waits 16 = .ok (.getfield 19, 3)) ∧ (decode cX7_waits 19 = .ok (.getfield 163, 3)) ∧ (decode cX7_waits 22 = .ok (.ireturn, 1)) := by decide +kernel
theorem dX7_waits_16 : decode cX7_waits 16 = .ok (.getfield 19, 3) := db_X7_waits_16.1
theorem dX7_waits_19 : decode cX7_waits 19 = .ok (.getfield 163, 3) := db_X7_waits_16.2.1
theorem dX7_waits_22 : decode cX7_waits 22 = .ok (.ireturn, 1) := db_X7_waits_16.2.2
set_option maxHeartbeats 4000000 in
set_option maxRecDepth 100000 in
theorem g_X4_findPlan (l : Launch) (dC : Nat → ClassId) (dI : Nat → Nat → Nat) (cy : Nat → ClassId) (sz : Nat) (ad : Nat → Nat) (kv : Value) (N : Nat) (hN : 119 ≤ N) (v : Nat → Nat → Int32) (hv : Iv v) (x0 : Int32) (t1 t2 : Nat) : Met l yX4_findPlan wsX4_findPlan ({ frames := 10, cells := 0, slots := 0, locals := 640 }) (va_Pc [.ref (ad 1), .ref (ad 13), .int x0] (ex_PreT dC dI cy sz (wl ad kv cy N v) t1 t2)) (va_Qv (fun (u : Nat → Nat → Int32) => Iv u ∧ Fz v u) (fun u t => ex_Pst dC dI (va_A (wl ad kv cy N v) sz) (wl ad kv cy N u) t) (va_A (wl ad kv cy N v) sz)) 0 0 (va_A (wl ad kv cy N v) sz) := by
  refine Met.ofW (cc := cX4_findPlan) (maxL := 4) (ret := none) (by decide) rfl ?_
  intro p e s m args below meth c s₁ B hml hv
  obtain ⟨rfl, ⟨hsz, hE, hP, hK, hD0⟩, hSt⟩ := hv
  have hx := B.exec
  have hb := B.bytes
  have hr := B.returns
  have hts := atoms_spec (ws := wsX4_findPlan) B.pre
  have hown : s.vm.findClass RX4 = some m.cls := findClass_of_methodNamed B.named
  have hlocks := B.notSynchronized
  subst hsz
  have hD := hD0.self (sz := s.heap.size)
  generalize hAe : va_A (wl ad kv cy N v) s.heap.size = A at hD hSt ⊢
  have hA : ∀ q : Nat, s.heap.size ≤ q → A q := fun q h => by rw [← hAe]; exact Or.inr h
  have hS : va_S A s.heap s.heap [] := va_S.rf
  have hP : va_P (dC, dI) vwCl (wl ad kv cy N v) s.heap := hP
  have hl := lv_entry ([.ref (ad 1), .ref (ad 13), .int x0]) (n := 4) (Nat.le_of_ble_eq_true rfl)
  rw [lg_entry_eq]
  generalize (lg_sl ([.ref (ad 1), .ref (ad 13), .int x0]) ++ List.replicate (4 - (lg_sl ([.ref (ad 1), .ref (ad 13), .int x0])).length) Slot.unset).toArray = ls at hl ⊢
  have hl : lv_has ls 4 [(0, .ref (ad 1)), (1, .ref (ad 13)), (2, .int x0)] := hl
  have hfr : Fz v v := Fz.rf
  refine lv_aload_n hx hb dX4_findPlan_0 rfl (lv_at hl 0 rfl) ?_
  refine lv_iload_n hx hb dX4_findPlan_1 rfl (lv_at hl 2 rfl) ?_
  refine lv_aload_n hx hb dX4_findPlan_2 rfl (lv_at hl 1 rfl) ?_
  refine va_get (D := (dC, dI)) (ci := 1) (v := .int (v (13) 1)) (C := RX1) (T := TX1) (N := 7) hx hb hts iwX4_findPlan_X1 hown hK hP (13) (wl_at (by omega) (ce_3 (by decide))) rfl 1 (by decide) (hts (.fieldLink RX4 36 "QuietStairs$House" "mediatorCount" "I") fwX4_findPlan_1) (fun _ h9 => h9) rfl dX4_findPlan_3 ?_
  refine lv_topi (fun x_1 ex_1 => ?_)
  have bx_1 : 0 ≤ x_1.toInt ∧ x_1.toInt ≤ 4 := by rw [ex_1]; exact hv.at (K := 3) (by decide) rfl
  refine lv_iconst (v := 2) hx hb dX4_findPlan_6 (by decide) ?_
  refine lv_idiv hx hb dX4_findPlan_7 (by decide) ?_
  refine lv_topi (fun x_2 ex_2 => ?_)
  refine va_mmin hx hb (hml.trans hl.1.symm) hown (hts (.methodLink RX4 42 Lib.Math.min.name) fwX4_findPlan_2) (hts (.static Lib.Math.min.name) fwX4_findPlan_3) (hts (.initialized "java/lang/Math") fwX4_findPlan_4) (hts (.code Lib.Math.min.name Lib.Math.min.code 2 (some .int)) fwX4_findPlan_5) (Nat.le_of_ble_eq_true rfl) (Nat.le_of_ble_eq_true rfl) (Nat.le_of_ble_eq_true rfl) (Nat.le_of_ble_eq_true rfl) dX4_findPlan_8 ?_
  refine lv_topi (fun x_3 ex_3 => ?_)
  refine va_put (D := (dC, dI)) (ci := 4) (v := .int x_3) (ty := .int) (C := RX4) (T := TX4) (N := 11) hx hb hts iwX4_findPlan_X4 tyX4 tyX4_ok nmX4 hown hK hP hD hS (1) (wl_at (by omega) (ce_1 (by decide))) rfl 2 (by decide) (hts (.fieldLink RX4 48 "QuietStairs$Planner" "seatsADay" "I") fwX4_findPlan_6) (fun _ h9 => h9) rfl (by decide +kernel) rfl rfl (Nat.le_of_ble_eq_true rfl) dX4_findPlan_11 (fun H locs hP hD hS => ?_)
  obtain ⟨v_4, ev_4⟩ : ∃ u : Nat → Nat → Int32, u = upr v (1) (upd (v (1)) 2 x_3) := ⟨_, rfl⟩
  have hP : va_P (dC, dI) vwCl (wl ad kv cy N v_4) H := by rw [ev_4, ← wl_put (e := _) (ce_1 (by decide))]; exact hP
  have hD : va_D A (wl ad kv cy N v_4) := by rw [ev_4, ← wl_put (e := _) (ce_1 (by decide))]; exact hD
  have hv : Iv v_4 := by rw [ev_4]; exact hv.put (K := 1) (by decide) (fun h q => by simp [bd] at q)
  have hfr : Fz v v_4 := by rw [ev_4]; exact hfr.put (by omega) (by omega) (by omega)
  refine lv_aload_n hx hb dX4_findPlan_14 rfl (lv_at hl 0 rfl) ?_
  refine lv_aload_n hx hb dX4_findPlan_15 rfl (lv_at hl 1 rfl) ?_
  refine yw_v (w1 := fun (u : Nat → Nat → Int32) => wl ad kv cy N u) hD hS hA (va_runV (As := [.ref (ad 13)]) (rest := []) ⟨hx, hb, hml, hown, hts⟩ (g_X4_gather l dC dI cy _ ad kv N hN v_4 hv t1 t2) (cwV 1 hts gX4_findPlan_X4_gather rfl rfl rfl hd_V_X4_gather_1 ⟨Nat.le_of_ble_eq_true rfl, Nat.le_of_ble_eq_true rfl⟩) ⟨ex_blindT, va_recv hK hP (ci := 4) (q := (RX4, TX4, 11)) (q0 := 1) rfl (wl_at (by omega) (ce_1 (by decide))), fun U hU hW => ⟨rfl, ((yw_preS (As := []) hE hK hP hD).2 U hU hW).2, hSt.go hS (yw_F hD hS hA) hU hW⟩⟩ rfl rfl hl.1 rfl (lv_room (Nat.le_of_ble_eq_true rfl)) dX4_findPlan_16 ⟨Nat.le_of_ble_eq_true rfl, Nat.le_of_ble_eq_true rfl⟩) (fun v_5 H locs hw_5 hP hD hS => ?_)
  obtain ⟨hv, hw_5⟩ := hw_5
  have hfr : Fz v v_5 := hfr.trans hw_5
  refine lv_aload_n hx hb dX4_findPlan_19 rfl (lv_at hl 0 rfl) ?_
  refine yw_v (w1 := fun (u : Nat → Nat → Int32) => wl ad kv cy N u) hD hS hA (va_runV (As := []) (rest := []) ⟨hx, hb, hml, hown, hts⟩ (g_X4_sortByWeight l dC dI cy _ ad kv N hN v_5 hv ) (cwV 0 hts gX4_findPlan_X4_sortByWeight rfl rfl rfl hd_V_X4_sortByWeight_0 ⟨Nat.le_of_ble_eq_true rfl, Nat.le_of_ble_eq_true rfl⟩) (yw_preV hE hK hP hD (ci := 4) (q := (RX4, TX4, 11)) (q0 := 1) rfl (wl_at (by omega) (ce_1 (by decide)))) rfl rfl hl.1 rfl (lv_room (Nat.le_of_ble_eq_true rfl)) dX4_findPlan_20 ⟨Nat.le_of_ble_eq_true rfl, Nat.le_of_ble_eq_true rfl⟩) (fun v_6 H locs hw_6 hP hD hS => ?_)
  obtain ⟨hv, hw_6⟩ := hw_6
  have hfr : Fz v v_6 := hfr.trans hw_6
  refine lv_aload_n hx hb dX4_findPlan_23 rfl (lv_at hl 0 rfl) ?_
  refine lv_iconst (v := 1) hx hb dX4_findPlan_24 (by decide) ?_
  refine va_put (D := (dC, dI)) (ci := 4) (v := .int 1) (ty := .int) (C := RX4) (T := TX4) (N := 11) hx hb hts iwX4_findPlan_X4 tyX4 tyX4_ok nmX4 hown hK hP hD hS (1) (wl_at (by omega) (ce_1 (by decide))) rfl 0 (by decide) (hts (.fieldLink RX4 58 "QuietStairs$Planner" "leastWait" "I") fwX4_findPlan_7) (fun _ h9 => h9) rfl (by decide +kernel) rfl rfl (Nat.le_of_ble_eq_true rfl) dX4_findPlan_25 (fun H locs hP hD hS => ?_)
  have k_1 : (1 : Int32).toInt = 1 := by decide
  obtain ⟨v_7, ev_7⟩ : ∃ u : Nat → Nat → Int32, u = upr v_6 (1) (upd (v_6 (1)) 0 1) := ⟨_, rfl⟩
  have hP : va_P (dC, dI) vwCl (wl ad kv cy N v_7) H := by rw [ev_7, ← wl_put (e := _) (ce_1 (by decide))]; exact hP
  have hD : va_D A (wl ad kv cy N v_7) := by rw [ev_7, ← wl_put (e := _) (ce_1 (by decide))]; exact hD
  have hv : Iv v_7 := by rw [ev_7]; exact hv.put (K := 1) (by decide) (fun h q => by simp [bd] at q)
  have hfr : Fz v v_7 := by rw [ev_7]; exact hfr.put (by omega) (by omega) (by omega)
  refine lv_iconst (v := 0) hx hb dX4_findPlan_28 (by decide) ?_
  refine lv_istore_n (lv' := [(3, .int 0), (0, .ref (ad 1)), (1, .ref (ad 13)), (2, .int x0)]) hx hb dX4_findPlan_29 rfl hl (by decide) rfl (fun ls hl => ?_)
  have k_0 : (0 : Int32).toInt = 0 := by decide
  have hloop_8 : ∀ (n : Nat) (y8_3 : Int32) (u8 : Nat → Nat → Int32) (H : Heap) (locs : List Loc), 0 ≤ y8_3.toInt → y8_3.toInt ≤ 4 → (4 - y8_3.toInt).toNat < n → Iv u8 → Fz v u8 → va_P (dC, dI) vwCl (wl ad kv cy N u8) H → va_D A (wl ad kv cy N u8) → va_S A s.heap H locs → ∀ ls : Array Slot, lv_has ls 4 [(3, .int y8_3), (0, .ref (ad 1)), (1, .ref (ad 13)), (2, .int x0)] → W p l e (headSpec wsX4_findPlan ({ frames := 10, cells := 0, slots := 0, locals := 640 })).room s m [Value.ref (ad 1), Value.ref (ad 13), Value.int x0].toArray below meth c H locs 0 0 (MQ below (va_Qv (fun (u : Nat → Nat → Int32) => Iv u ∧ Fz v u) (fun u t => ex_Pst dC dI A (wl ad kv cy N u) t) A) [Value.ref (ad 1), Value.ref (ad 13), Value.int x0].toArray s 0 0 A) (F0 m 30 ls []) := by
    intro n
    induction n with
    | zero =>
      intro y8_3 u8 H locs ay8_3 by8_3 hm_8 hv hfr hP hD hS ls hl
      exact absurd hm_8 (by omega)
    | succ n ih_8 =>
      intro y8_3 u8 H locs ay8_3 by8_3 hm_8 hv hfr hP hD hS ls hl
      refine lv_iload_n hx hb dX4_findPlan_30 rfl (lv_at hl 0 rfl) ?_
      refine lv_aload_n hx hb dX4_findPlan_31 rfl (lv_at hl 1 rfl) ?_
      refine va_get (D := (dC, dI)) (ci := 4) (v := .int (u8 (1) 1)) (C := RX4) (T := TX4) (N := 11) hx hb hts iwX4_findPlan_X4 hown hK hP (1) (wl_at (by omega) (ce_1 (by decide))) rfl 1 (by decide) (hts (.fieldLink RX4 61 "QuietStairs$Planner" "count" "I") fwX4_findPlan_8) (fun _ h9 => h9) rfl dX4_findPlan_32 ?_
      refine lv_topi (fun x_9 ex_9 => ?_)
      have bx_9 : 0 ≤ x_9.toInt ∧ x_9.toInt ≤ 4 := by rw [ex_9]; exact hv.at (K := 1) (by decide) rfl
      refine lv_icmp_ge (tgt := 61) hx hb dX4_findPlan_35 (by decide) (fun c_10 => ?_) (fun c_10 => ?_)
      · have tc_10 : y8_3.toInt ≥ x_9.toInt := Int32.le_iff_toInt_le.mp c_10
        refine lv_iconst (v := 0) hx hb dX4_findPlan_61 (by decide) ?_
        refine lv_istore_n (lv' := [(3, .int 0), (0, .ref (ad 1)), (1, .ref (ad 13)), (2, .int x0)]) hx hb dX4_findPlan_62 rfl hl (by decide) rfl (fun ls hl => ?_)
        have hloop_11 : ∀ (n : Nat) (y11_3 : Int32) (u11 : Nat → Nat → Int32) (H : Heap) (locs : List Loc), 0 ≤ y11_3.toInt → y11_3.toInt ≤ 3 → (3 - y11_3.toInt).toNat < n → Iv u11 → Fz v u11 → va_P (dC, dI) vwCl (wl ad kv cy N u11) H → va_D A (wl ad kv cy N u11) → va_S A s.heap H locs → ∀ ls : Array Slot, lv_has ls 4 [(3, .int y11_3), (0, .ref (ad 1)), (1, .ref (ad 13)), (2, .int x0)] → W p l e (headSpec wsX4_findPlan ({ frames := 10, cells := 0, slots := 0, locals := 640 })).room s m [Value.ref (ad 1), Value.ref (ad 13), Value.int x0].toArray below meth c H locs 0 0 (MQ below (va_Qv (fun (u : Nat → Nat → Int32) => Iv u ∧ Fz v u) (fun u t => ex_Pst dC dI A (wl ad kv cy N u) t) A) [Value.ref (ad 1), Value.ref (ad 13), Value.int x0].toArray s 0 0 A) (F0 m 63 ls []) := by
          intro n
          induction n with
          | zero =>
            intro y11_3 u11 H locs ay11_3 by11_3 hm_11 hv hfr hP hD hS ls hl
            exact absurd hm_11 (by omega)
          | succ n ih_11 =>
            intro y11_3 u11 H locs ay11_3 by11_3 hm_11 hv hfr hP hD hS ls hl
            refine lv_iload_n hx hb dX4_findPlan_63 rfl (lv_at hl 0 rfl) ?_
            refine lv_iconst (v := 3) hx hb dX4_findPlan_64 (by decide) ?_
            have k_3 : (3 : Int32).toInt = 3 := by decide
            refine lv_icmp_ge (tgt := 88) hx hb dX4_findPlan_65 (by decide) (fun c_12 => ?_) (fun c_12 => ?_)
            · have tc_12 : y11_3.toInt ≥ (3 : Int32).toInt := Int32.le_iff_toInt_le.mp c_12
              refine lv_aload_n hx hb dX4_findPlan_88 rfl (lv_at hl 1 rfl) ?_
              refine lv_iconst (v := 0) hx hb dX4_findPlan_89 (by decide) ?_
              refine lv_iconst (v := 0) hx hb dX4_findPlan_90 (by decide) ?_
              refine yw_v (w1 := fun (u : Nat → Nat → Int32) => wl ad kv cy N u) hD hS hA (va_runV (As := [.int 0, .int 0]) (rest := []) ⟨hx, hb, hml, hown, hts⟩ (g_X4_search_4 l dC dI cy _ ad kv N hN u11 hv 0 0 ⟨by omega, by omega⟩ t1 t2) (cwV 2 hts gX4_findPlan_X4_search rfl rfl rfl hd_V_X4_search_2 ⟨Nat.le_of_ble_eq_true rfl, Nat.le_of_ble_eq_true rfl⟩) ⟨ex_blindT, va_recv hK hP (ci := 4) (q := (RX4, TX4, 11)) (q0 := 1) rfl (wl_at (by omega) (ce_1 (by decide))), fun U hU hW => ⟨rfl, ((yw_preS (As := []) hE hK hP hD).2 U hU hW).2, hSt.go hS (yw_F hD hS hA) hU hW⟩⟩ rfl rfl hl.1 rfl (lv_room (Nat.le_of_ble_eq_true rfl)) dX4_findPlan_91 ⟨Nat.le_of_ble_eq_true rfl, Nat.le_of_ble_eq_true rfl⟩) (fun v_13 H locs hw_13 hP hD hS => ?_)
              obtain ⟨hv, hw_13⟩ := hw_13
              have hfr : Fz v v_13 := hfr.trans hw_13
              exact W.vret hx hb hr (fun t ht hW => ⟨⟨v_13, rfl, ⟨hv, hfr⟩, by rw [ht]; exact hP, hD⟩, hS.F ht⟩) hS.2.2 dX4_findPlan_94
            · have tc_12 : y11_3.toInt < (3 : Int32).toInt := Int32.lt_iff_toInt_lt.mp (Int32.not_le.mp c_12)
              refine lv_aload_n hx hb dX4_findPlan_68 rfl (lv_at hl 1 rfl) ?_
              refine va_get (D := (dC, dI)) (ci := 4) (v := .ref (ad 8)) (C := RX4) (T := TX4) (N := 11) hx hb hts iwX4_findPlan_X4 hown hK hP (1) (wl_at (by omega) (ce_1 (by decide))) rfl 9 (by decide) (hts (.fieldLink RX4 30 "QuietStairs$Planner" "busyBits" "[I") fwX4_findPlan_10) (fun _ h9 => h9) rfl dX4_findPlan_69 ?_
              refine lv_iload_n hx hb dX4_findPlan_72 rfl (lv_at hl 0 rfl) ?_
              refine lv_iconst (v := 0) hx hb dX4_findPlan_73 (by decide) ?_
              obtain ⟨pi13, i13, hi13, ni13, mi13⟩ := t_in (x := y11_3) (n := 3) ⟨by omega, by omega⟩
              refine va_iast hx hb hK hP hD hS (8) 0 (wl_at (by omega) (ce_18 (by decide))) rfl pi13 dX4_findPlan_74 (fun H locs hP hD hS => ?_)
              obtain ⟨v_14, ev_14⟩ : ∃ u : Nat → Nat → Int32, u = upr u11 (8) (upd (u11 (8)) (y11_3.toNatClampNeg) 0) := ⟨_, rfl⟩
              have hP : va_P (dC, dI) vwCl (wl ad kv cy N v_14) H := by rw [ev_14, ← wl_put (e := _) (ce_18 (by decide))]; exact hP
              have hD : va_D A (wl ad kv cy N v_14) := by rw [ev_14, ← wl_put (e := _) (ce_18 (by decide))]; exact hD
              have hv : Iv v_14 := by rw [ev_14]; exact hv.put (K := 18) (by decide) (fun h q => by simp [bd] at q)
              have hfr : Fz v v_14 := by rw [ev_14]; exact hfr.put (by omega) (by omega) (by omega)
              refine lv_aload_n hx hb dX4_findPlan_75 rfl (lv_at hl 1 rfl) ?_
              refine va_get (D := (dC, dI)) (ci := 4) (v := .ref (ad 9)) (C := RX4) (T := TX4) (N := 11) hx hb hts iwX4_findPlan_X4 hown hK hP (1) (wl_at (by omega) (ce_1 (by decide))) rfl 10 (by decide) (hts (.fieldLink RX4 33 "QuietStairs$Planner" "sittings" "[I") fwX4_findPlan_11) (fun _ h9 => h9) rfl dX4_findPlan_76 ?_
              refine lv_iload_n hx hb dX4_findPlan_79 rfl (lv_at hl 0 rfl) ?_
              refine lv_iconst (v := 0) hx hb dX4_findPlan_80 (by decide) ?_
              refine va_iast hx hb hK hP hD hS (9) 0 (wl_at (by omega) (ce_18 (by decide))) rfl pi13 dX4_findPlan_81 (fun H locs hP hD hS => ?_)
              obtain ⟨v_15, ev_15⟩ : ∃ u : Nat → Nat → Int32, u = upr v_14 (9) (upd (v_14 (9)) (y11_3.toNatClampNeg) 0) := ⟨_, rfl⟩
              have hP : va_P (dC, dI) vwCl (wl ad kv cy N v_15) H := by rw [ev_15, ← wl_put (e := _) (ce_18 (by decide))]; exact hP
              have hD : va_D A (wl ad kv cy N v_15) := by rw [ev_15, ← wl_put (e := _) (ce_18 (by decide))]; exact hD
              have hv : Iv v_15 := by rw [ev_15]; exact hv.put (K := 18) (by decide) (fun h q => by simp [bd] at q)
              have hfr : Fz v v_15 := by rw [ev_15]; exact hfr.put (by omega) (by omega) (by omega)
              obtain ⟨x_16, ex_16⟩ : ∃ y : Int32, y = y11_3 + 1 := ⟨_, rfl⟩
              refine lv_iinc (v := x_16) (lv' := [(3, .int x_16), (0, .ref (ad 1)), (1, .ref (ad 13)), (2, .int x0)]) hx hb dX4_findPlan_82 hl (k := 0) rfl (by rw [ex_16]; rfl) (by decide) rfl (fun ls hl => ?_)
              have tx_16 : x_16.toInt = y11_3.toInt + (1 : Int32).toInt := by rw [ex_16]; exact t_add ⟨by omega, by omega⟩
              refine lv_goto (tgt := 63) hx hb dX4_findPlan_85 (by decide) ?_
              exact ih_11 x_16 v_15 H locs (by omega) (by omega) (by omega) hv hfr hP hD hS ls (lv_sub hl [0, 1, 2, 3] rfl)
        exact hloop_11 ((3 - (0 : Int32).toInt).toNat + 1) 0 u8 _ _ (by omega) (by omega) (by omega) hv hfr hP hD hS ls hl
      · have tc_10 : y8_3.toInt < x_9.toInt := Int32.lt_iff_toInt_lt.mp (Int32.not_le.mp c_10)
        refine lv_aload_n hx hb dX4_findPlan_38 rfl (lv_at hl 1 rfl) ?_
        refine lv_dup hx hb dX4_findPlan_39 rfl ?_
        refine va_get (D := (dC, dI)) (ci := 4) (v := .int (u8 (1) 0)) (C := RX4) (T := TX4) (N := 11) hx hb hts iwX4_findPlan_X4 hown hK hP (1) (wl_at (by omega) (ce_1 (by decide))) rfl 0 (by decide) (hts (.fieldLink RX4 58 "QuietStairs$Planner" "leastWait" "I") fwX4_findPlan_7) (fun _ h9 => h9) rfl dX4_findPlan_40 ?_
        refine lv_topi (fun x_11 ex_11 => ?_)
        refine lv_iconst (v := 4) hx hb dX4_findPlan_43 (by decide) ?_
        refine lv_aload_n hx hb dX4_findPlan_44 rfl (lv_at hl 1 rfl) ?_
        refine va_get (D := (dC, dI)) (ci := 4) (v := .ref (ad 3)) (C := RX4) (T := TX4) (N := 11) hx hb hts iwX4_findPlan_X4 hown hK hP (1) (wl_at (by omega) (ce_1 (by decide))) rfl 4 (by decide) (hts (.fieldLink RX4 15 "QuietStairs$Planner" "weights" "[I") fwX4_findPlan_9) (fun _ h9 => h9) rfl dX4_findPlan_45 ?_
        refine lv_iload_n hx hb dX4_findPlan_48 rfl (lv_at hl 0 rfl) ?_
        obtain ⟨pi12, i12, hi12, ni12, mi12⟩ := t_in (x := y8_3) (n := 4) ⟨by omega, by omega⟩
        refine va_iald hx hb hK hP (3) 0 (wl_at (by omega) (ce_17 (by decide))) rfl pi12 dX4_findPlan_49 ?_
        refine lv_topi (fun x_13 ex_13 => ?_)
        refine lv_imul hx hb dX4_findPlan_50 ?_
        refine lv_topi (fun x_14 ex_14 => ?_)
        refine lv_iadd hx hb dX4_findPlan_51 ?_
        refine lv_topi (fun x_15 ex_15 => ?_)
        refine va_put (D := (dC, dI)) (ci := 4) (v := .int x_15) (ty := .int) (C := RX4) (T := TX4) (N := 11) hx hb hts iwX4_findPlan_X4 tyX4 tyX4_ok nmX4 hown hK hP hD hS (1) (wl_at (by omega) (ce_1 (by decide))) rfl 0 (by decide) (hts (.fieldLink RX4 58 "QuietStairs$Planner" "leastWait" "I") fwX4_findPlan_7) (fun _ h9 => h9) rfl (by decide +kernel) rfl rfl (Nat.le_of_ble_eq_true rfl) dX4_findPlan_52 (fun H locs hP hD hS => ?_)
        obtain ⟨v_16, ev_16⟩ : ∃ u : Nat → Nat → Int32, u = upr u8 (1) (upd (u8 (1)) 0 x_15) := ⟨_, rfl⟩
        have hP : va_P (dC, dI) vwCl (wl ad kv cy N v_16) H := by rw [ev_16, ← wl_put (e := _) (ce_1 (by decide))]; exact hP
        have hD : va_D A (wl ad kv cy N v_16) := by rw [ev_16, ← wl_put (e := _) (ce_1 (by decide))]; exact hD
        have hv : Iv v_16 := by rw [ev_16]; exact hv.put (K := 1) (by decide) (fun h q => by simp [bd] at q)
        have hfr : Fz v v_16 := by rw [ev_16]; exact hfr.put (by omega) (by omega) (by omega)
        obtain ⟨x_17, ex_17⟩ : ∃ y : Int32, y = y8_3 + 1 := ⟨_, rfl⟩
        refine lv_iinc (v := x_17) (lv' := [(3, .int x_17), (0, .ref (ad 1)), (1, .ref (ad 13)), (2, .int x0)]) hx hb dX4_findPlan_55 hl (k := 0) rfl (by rw [ex_17]; rfl) (by decide) rfl (fun ls hl => ?_)
        have tx_17 : x_17.toInt = y8_3.toInt + (1 : Int32).toInt := by rw [ex_17]; exact t_add ⟨by omega, by omega⟩
        refine lv_goto (tgt := 30) hx hb dX4_findPlan_58 (by decide) ?_
        exact ih_8 x_17 v_16 H locs (by omega) (by omega) (by omega) hv hfr hP hD hS ls (lv_sub hl [0, 1, 2, 3] rfl)
  exact hloop_8 ((4 - (0 : Int32).toInt).toNat + 1) 0 v_7 _ _ (by omega) (by omega) (by omega) hv hfr hP hD hS ls hl

set_option maxHeartbeats 4000000 in
set_option maxRecDepth 100000 in
theorem g_X7_plan (l : Launch) (dC : Nat → ClassId) (dI : Nat → Nat → Nat) (cy : Nat → ClassId) (sz : Nat) (ad : Nat → Nat) (kv : Value) (N : Nat) (hN : 119 ≤ N) (v : Nat → Nat → Int32) (hv : Iv v) (x0 : Int32) (t1 t2 : Nat) : Met l yX7_plan wsX7_plan ({ frames := 11, cells := 0, slots := 0, locals := 704 }) (va_Pc [.ref (ad 0), .int x0] (ex_PreT dC dI cy sz (wl ad kv cy N v) t1 t2)) (va_Qi (fun (r : Int32) (u : Nat → Nat → Int32) => Iv u ∧ Fz v u) (fun u t => ex_Pst dC dI (va_A (wl ad kv cy N v) sz) (wl ad kv cy N u) t) (va_A (wl ad kv cy N v) sz)) 0 0 (va_A (wl ad kv cy N v) sz) := by
  refine Met.ofW (cc := cX7_plan) (maxL := 2) (ret := (some .int)) (by decide) rfl ?_
  intro p e s m args below meth c s₁ B hml hv
  obtain ⟨rfl, ⟨hsz, hE, hP, hK, hD0⟩, hSt⟩ := hv
  have hx := B.exec
  have hb := B.bytes
  have hr := B.returns
  have hts := atoms_spec (ws := wsX7_plan) B.pre
  have hown : s.vm.findClass RX7 = some m.cls := findClass_of_methodNamed B.named
  have hlocks := B.notSynchronized
  subst hsz
  have hD := hD0.self (sz := s.heap.size)
  generalize hAe : va_A (wl ad kv cy N v) s.heap.size = A at hD hSt ⊢
  have hA : ∀ q : Nat, s.heap.size ≤ q → A q := fun q h => by rw [← hAe]; exact Or.inr h
  have hS : va_S A s.heap s.heap [] := va_S.rf
  have hP : va_P (dC, dI) vwCl (wl ad kv cy N v) s.heap := hP
  have hl := lv_entry ([.ref (ad 0), .int x0]) (n := 2) (Nat.le_of_ble_eq_true rfl)
  rw [lg_entry_eq]
  generalize (lg_sl ([.ref (ad 0), .int x0]) ++ List.replicate (2 - (lg_sl ([.ref (ad 0), .int x0])).length) Slot.unset).toArray = ls at hl ⊢
  have hl : lv_has ls 2 [(0, .ref (ad 0)), (1, .int x0)] := hl
  have hfr : Fz v v := Fz.rf
  refine lv_aload_n hx hb dX7_plan_0 rfl (lv_at hl 0 rfl) ?_
  refine lv_iload_n hx hb dX7_plan_1 rfl (lv_at hl 1 rfl) ?_
  refine yw_i (w1 := fun (u : Nat → Nat → Int32) => wl ad kv cy N u) hD hS hA (va_runV (As := [.int x0]) (rest := []) ⟨hx, hb, hml, hown, hts⟩ (g_X7_isCase l dC dI cy _ ad kv N hN v hv x0) (cwV 1 hts gX7_plan_X7_isCase rfl rfl rfl hd_V_X7_isCase_1 ⟨Nat.le_of_ble_eq_true rfl, Nat.le_of_ble_eq_true rfl⟩) (yw_preV hE hK hP hD (ci := 7) (q := (RX7, TX7, 5)) (q0 := 0) rfl (wl_at (by omega) (ce_0 (by decide)))) rfl rfl hl.1 rfl (lv_room (Nat.le_of_ble_eq_true rfl)) dX7_plan_2 ⟨Nat.le_of_ble_eq_true rfl, Nat.le_of_ble_eq_true rfl⟩) (fun r_1 v_1 H locs hw_1 hP hD hS => ?_)
  obtain ⟨hv, hw_1⟩ := hw_1
  obtain ⟨hu_1, hw_1⟩ := hw_1
  have hfr : Fz v v_1 := by rw [hu_1]; exact hfr
  rcases hw_1 with ⟨rfl, ha_2⟩ | ⟨rfl, -⟩
  · have hb_2 := hv.at (k := 13) (j := 2) (K := 3) (by decide) rfl
    have hb_2 : 0 ≤ x0.toInt ∧ x0.toInt < 6 := by omega
    refine lv_if_ne (tgt := 10) hx hb dX7_plan_5 (by decide) (fun _ => ?_) (fun c9 => absurd c9 (by decide))
    refine lv_aload_n hx hb dX7_plan_10 rfl (lv_at hl 0 rfl) ?_
    refine va_get (D := (dC, dI)) (ci := 7) (v := .ref (ad 13)) (C := RX7) (T := TX7) (N := 5) hx hb hts iwX7_plan_X7 hown hK hP (0) (wl_at (by omega) (ce_0 (by decide))) rfl 0 (by decide) (hts (.fieldLink RX7 12 "QuietStairs" "now" "LQuietStairs$House;") fwX7_plan_1) (fun _ h9 => h9) rfl dX7_plan_11 ?_
    refine va_get (D := (dC, dI)) (ci := 1) (v := .ref (ad 16)) (C := RX1) (T := TX1) (N := 7) hx hb hts iwX7_plan_X1 hown hK hP (13) (wl_at (by omega) (ce_3 (by decide))) rfl 6 (by decide) (hts (.fieldLink RX7 86 "QuietStairs$House" "cases" "[LQuietStairs$Case;") fwX7_plan_2) (fun _ h9 => h9) rfl dX7_plan_14 ?_
    refine lv_iload_n hx hb dX7_plan_17 rfl (lv_at hl 1 rfl) ?_
    obtain ⟨pi3, i3, hi3, ni3, mi3⟩ := t_in (x := x0) (n := 6) ⟨by omega, by omega⟩
    refine va_aldq hx hb hK hP (16) 3 (wl_at (by omega) (ce_6 (by decide))) rfl pi3 dX7_plan_18 ?_
    refine W.eq (g2 := F0 m 19 ls [.ref (ad (29 + 15 * i3))]) (by rw [ni3, if_pos hi3, show 16 + 13 + 15 * i3 = 29 + 15 * i3 from by omega]; rfl) ?_
    refine va_get (D := (dC, dI)) (ci := 0) (v := .int (v_1 (29 + 15 * i3) 0)) (C := RX0) (T := TX0) (N := 11) hx hb hts iwX7_plan_X0 hown hK hP (29 + 15 * i3) (wl_at (by omega) (ce_9 (kd_c i3 hi3).1.1)) rfl 0 (by decide) (hts (.fieldLink RX7 99 "QuietStairs$Case" "state" "I") fwX7_plan_3) (fun _ h9 => h9) rfl dX7_plan_19 ?_
    refine lv_topi (fun x_4 ex_4 => ?_)
    have k_0 : (0 : Int32).toInt = 0 := by decide
    refine lv_if_eq (tgt := 28) hx hb dX7_plan_22 (by decide) (fun c_5 => ?_) (fun c_5 => ?_)
    · have tc_5 : x_4.toInt = (0 : Int32).toInt := by rw [c_5]
      refine lv_aload_n hx hb dX7_plan_28 rfl (lv_at hl 0 rfl) ?_
      refine va_get (D := (dC, dI)) (ci := 7) (v := .ref (ad 1)) (C := RX7) (T := TX7) (N := 5) hx hb hts iwX7_plan_X7 hown hK hP (0) (wl_at (by omega) (ce_0 (by decide))) rfl 1 (by decide) (hts (.fieldLink RX7 19 "QuietStairs" "planner" "LQuietStairs$Planner;") fwX7_plan_4) (fun _ h9 => h9) rfl dX7_plan_29 ?_
      refine lv_aload_n hx hb dX7_plan_32 rfl (lv_at hl 0 rfl) ?_
      refine va_get (D := (dC, dI)) (ci := 7) (v := .ref (ad 13)) (C := RX7) (T := TX7) (N := 5) hx hb hts iwX7_plan_X7 hown hK hP (0) (wl_at (by omega) (ce_0 (by decide))) rfl 0 (by decide) (hts (.fieldLink RX7 12 "QuietStairs" "now" "LQuietStairs$House;") fwX7_plan_1) (fun _ h9 => h9) rfl dX7_plan_33 ?_
      refine lv_aload_n hx hb dX7_plan_36 rfl (lv_at hl 0 rfl) ?_
      refine va_get (D := (dC, dI)) (ci := 7) (v := .int (v_1 (0) 4)) (C := RX7) (T := TX7) (N := 5) hx hb hts iwX7_plan_X7 hown hK hP (0) (wl_at (by omega) (ce_0 (by decide))) rfl 4 (by decide) (hts (.fieldLink RX7 33 "QuietStairs" "roomCount" "I") fwX7_plan_5) (fun _ h9 => h9) rfl dX7_plan_37 ?_
      refine lv_topi (fun x_6 ex_6 => ?_)
      refine yw_v (w1 := fun (u : Nat → Nat → Int32) => wl ad kv cy N u) hD hS hA (va_runV (As := [.ref (ad 13), .int x_6]) (rest := []) ⟨hx, hb, hml, hown, hts⟩ (g_X4_findPlan l dC dI cy _ ad kv N hN v_1 hv x_6 t1 t2) (cwV 2 hts gX7_plan_X4_findPlan rfl rfl rfl hd_V_X4_findPlan_2 ⟨Nat.le_of_ble_eq_true rfl, Nat.le_of_ble_eq_true rfl⟩) ⟨ex_blindT, va_recv hK hP (ci := 4) (q := (RX4, TX4, 11)) (q0 := 1) rfl (wl_at (by omega) (ce_1 (by decide))), fun U hU hW => ⟨rfl, ((yw_preS (As := []) hE hK hP hD).2 U hU hW).2, hSt.go hS (yw_F hD hS hA) hU hW⟩⟩ rfl rfl hl.1 rfl (lv_room (Nat.le_of_ble_eq_true rfl)) dX7_plan_40 ⟨Nat.le_of_ble_eq_true rfl, Nat.le_of_ble_eq_true rfl⟩) (fun v_7 H locs hw_7 hP hD hS => ?_)
      obtain ⟨hv, hw_7⟩ := hw_7
      have hfr : Fz v v_7 := hfr.trans hw_7
      refine lv_aload_n hx hb dX7_plan_43 rfl (lv_at hl 0 rfl) ?_
      refine va_get (D := (dC, dI)) (ci := 7) (v := .ref (ad 1)) (C := RX7) (T := TX7) (N := 5) hx hb hts iwX7_plan_X7 hown hK hP (0) (wl_at (by omega) (ce_0 (by decide))) rfl 1 (by decide) (hts (.fieldLink RX7 19 "QuietStairs" "planner" "LQuietStairs$Planner;") fwX7_plan_4) (fun _ h9 => h9) rfl dX7_plan_44 ?_
      refine lv_iload_n hx hb dX7_plan_47 rfl (lv_at hl 1 rfl) ?_
      refine yw_i (w1 := fun (u : Nat → Nat → Int32) => wl ad kv cy N u) hD hS hA (va_runV (As := [.int x0]) (rest := []) ⟨hx, hb, hml, hown, hts⟩ (g_X4_seatOf l dC dI cy _ ad kv N hN v_7 hv x0) (cwV 1 hts gX7_plan_X4_seatOf rfl rfl rfl hd_V_X4_seatOf_1 ⟨Nat.le_of_ble_eq_true rfl, Nat.le_of_ble_eq_true rfl⟩) (yw_preV hE hK hP hD (ci := 4) (q := (RX4, TX4, 11)) (q0 := 1) rfl (wl_at (by omega) (ce_1 (by decide)))) rfl rfl hl.1 rfl (lv_room (Nat.le_of_ble_eq_true rfl)) dX7_plan_48 ⟨Nat.le_of_ble_eq_true rfl, Nat.le_of_ble_eq_true rfl⟩) (fun r_8 v_8 H locs hw_8 hP hD hS => ?_)
      obtain ⟨hv, hw_8⟩ := hw_8
      have hfr : Fz v v_8 := hfr.trans hw_8
      exact W.iret (v := r_8) hx hb hr (fun t ht hW => ⟨⟨r_8, v_8, rfl, ⟨hv, hfr⟩, by rw [ht]; exact hP, hD⟩, hS.F ht⟩) hS.2.2 dX7_plan_51
    · have tc_5 : x_4.toInt ≠ (0 : Int32).toInt := fun q => absurd (Int32.toInt_inj.mp q) c_5
      refine lv_bipush (v := (-4)) hx hb dX7_plan_25 (by decide) ?_
      exact W.iret (v := (-4)) hx hb hr (fun t ht hW => ⟨⟨(-4), v_1, rfl, ⟨hv, hfr⟩, by rw [ht]; exact hP, hD⟩, hS.F ht⟩) hS.2.2 dX7_plan_27
  · refine lv_if_ne (tgt := 10) hx hb dX7_plan_5 (by decide) (fun c9 => absurd c9 (by decide)) (fun _ => ?_)
    refine lv_iconst (v := (-1)) hx hb dX7_plan_8 (by decide) ?_
    exact W.iret (v := (-1)) hx hb hr (fun t ht hW => ⟨⟨(-1), v_1, rfl, ⟨hv, hfr⟩, by rw [ht]; exact hP, hD⟩, hS.F ht⟩) hS.2.2 dX7_plan_9

set_option maxHeartbeats 4000000 in
set_option maxRecDepth 100000 in
theorem g_X7_waits (l : Launch) (dC : Nat → ClassId) (dI : Nat → Nat → Nat) (cy : Nat → ClassId) (sz : Nat) (ad : Nat → Nat) (kv : Value) (N : Nat) (hN : 119 ≤ N) (v : Nat → Nat → Int32) (hv : Iv v)  (t1 t2 : Nat) : Met l yX7_waits wsX7_waits ({ frames := 11, cells := 0, slots := 0, locals := 704 }) (va_Pc [.ref (ad 0)] (ex_PreT dC dI cy sz (wl ad kv cy N v) t1 t2)) (va_Qi (fun (r : Int32) (u : Nat → Nat → Int32) => Iv u ∧ Fz v u) (fun u t => ex_Pst dC dI (va_A (wl ad kv cy N v) sz) (wl ad kv cy N u) t) (va_A (wl ad kv cy N v) sz)) 0 0 (va_A (wl ad kv cy N v) sz) := by
  refine Met.ofW (cc := cX7_waits) (maxL := 1) (ret := (some .int)) (by decide) rfl ?_
  intro p e s m args below meth c s₁ B hml hv
  obtain ⟨rfl, ⟨hsz, hE, hP, hK, hD0⟩, hSt⟩ := hv
  have hx := B.exec
  have hb := B.bytes
  have hr := B.returns
  have hts := atoms_spec (ws := wsX7_waits) B.pre
  have hown : s.vm.findClass RX7 = some m.cls := findClass_of_methodNamed B.named
  have hlocks := B.notSynchronized
  subst hsz
  have hD := hD0.self (sz := s.heap.size)
  generalize hAe : va_A (wl ad kv cy N v) s.heap.size = A at hD hSt ⊢
  have hA : ∀ q : Nat, s.heap.size ≤ q → A q := fun q h => by rw [← hAe]; exact Or.inr h
  have hS : va_S A s.heap s.heap [] := va_S.rf
  have hP : va_P (dC, dI) vwCl (wl ad kv cy N v) s.heap := hP
  have hl := lv_entry ([.ref (ad 0)]) (n := 1) (Nat.le_of_ble_eq_true rfl)
  rw [lg_entry_eq]
  generalize (lg_sl ([.ref (ad 0)]) ++ List.replicate (1 - (lg_sl ([.ref (ad 0)])).length) Slot.unset).toArray = ls at hl ⊢
  have hl : lv_has ls 1 [(0, .ref (ad 0))] := hl
  have hfr : Fz v v := Fz.rf
  refine lv_aload_n hx hb dX7_waits_0 rfl (lv_at hl 0 rfl) ?_
  refine va_get (D := (dC, dI)) (ci := 7) (v := .ref (ad 1)) (C := RX7) (T := TX7) (N := 5) hx hb hts iwX7_waits_X7 hown hK hP (0) (wl_at (by omega) (ce_0 (by decide))) rfl 1 (by decide) (hts (.fieldLink RX7 19 "QuietStairs" "planner" "LQuietStairs$Planner;") fwX7_waits_1) (fun _ h9 => h9) rfl dX7_waits_1 ?_
  refine lv_aload_n hx hb dX7_waits_4 rfl (lv_at hl 0 rfl) ?_
  refine va_get (D := (dC, dI)) (ci := 7) (v := .ref (ad 13)) (C := RX7) (T := TX7) (N := 5) hx hb hts iwX7_waits_X7 hown hK hP (0) (wl_at (by omega) (ce_0 (by decide))) rfl 0 (by decide) (hts (.fieldLink RX7 12 "QuietStairs" "now" "LQuietStairs$House;") fwX7_waits_2) (fun _ h9 => h9) rfl dX7_waits_5 ?_
  refine lv_aload_n hx hb dX7_waits_8 rfl (lv_at hl 0 rfl) ?_
  refine va_get (D := (dC, dI)) (ci := 7) (v := .int (v (0) 4)) (C := RX7) (T := TX7) (N := 5) hx hb hts iwX7_waits_X7 hown hK hP (0) (wl_at (by omega) (ce_0 (by decide))) rfl 4 (by decide) (hts (.fieldLink RX7 33 "QuietStairs" "roomCount" "I") fwX7_waits_3) (fun _ h9 => h9) rfl dX7_waits_9 ?_
  refine lv_topi (fun x_1 ex_1 => ?_)
  refine yw_v (w1 := fun (u : Nat → Nat → Int32) => wl ad kv cy N u) hD hS hA (va_runV (As := [.ref (ad 13), .int x_1]) (rest := []) ⟨hx, hb, hml, hown, hts⟩ (g_X4_findPlan l dC dI cy _ ad kv N hN v hv x_1 t1 t2) (cwV 2 hts gX7_waits_X4_findPlan rfl rfl rfl hd_V_X4_findPlan_2 ⟨Nat.le_of_ble_eq_true rfl, Nat.le_of_ble_eq_true rfl⟩) ⟨ex_blindT, va_recv hK hP (ci := 4) (q := (RX4, TX4, 11)) (q0 := 1) rfl (wl_at (by omega) (ce_1 (by decide))), fun U hU hW => ⟨rfl, ((yw_preS (As := []) hE hK hP hD).2 U hU hW).2, hSt.go hS (yw_F hD hS hA) hU hW⟩⟩ rfl rfl hl.1 rfl (lv_room (Nat.le_of_ble_eq_true rfl)) dX7_waits_12 ⟨Nat.le_of_ble_eq_true rfl, Nat.le_of_ble_eq_true rfl⟩) (fun v_2 H locs hw_2 hP hD hS => ?_)
  obtain ⟨hv, hw_2⟩ := hw_2
  have hfr : Fz v v_2 := hfr.trans hw_2
  refine lv_aload_n hx hb dX7_waits_15 rfl (lv_at hl 0 rfl) ?_
  refine va_get (D := (dC, dI)) (ci := 7) (v := .ref (ad 1)) (C := RX7) (T := TX7) (N := 5) hx hb hts iwX7_waits_X7 hown hK hP (0) (wl_at (by omega) (ce_0 (by decide))) rfl 1 (by decide) (hts (.fieldLink RX7 19 "QuietStairs" "planner" "LQuietStairs$Planner;") fwX7_waits_1) (fun _ h9 => h9) rfl dX7_waits_16 ?_
  refine va_get (D := (dC, dI)) (ci := 4) (v := .int (v_2 (1) 0)) (C := RX4) (T := TX4) (N := 11) hx hb hts iwX7_waits_X4 hown hK hP (1) (wl_at (by omega) (ce_1 (by decide))) rfl 0 (by decide) (hts (.fieldLink RX7 163 "QuietStairs$Planner" "leastWait" "I") fwX7_waits_4) (fun _ h9 => h9) rfl dX7_waits_19 ?_
  refine lv_topi (fun x_3 ex_3 => ?_)
  exact W.iret (v := x_3) hx hb hr (fun t ht hW => ⟨⟨x_3, v_2, rfl, ⟨hv, hfr⟩, by rw [ht]; exact hP, hD⟩, hS.F ht⟩) hS.2.2 dX7_waits_22
theorem dX6_init_0 : decode cX6_init 0 = .ok (.aload_n 0, 1) := by decide +kernel
theorem dX6_init_1 : decode cX6_init 1 = .ok (.invokespecial 1, 3) := by decide +kernel
theorem dX6_init_4 : decode cX6_init 4 = .ok (.return_, 1) := by decide +kernel
theorem dX3_init_0 : decode cX3_init 0 = .ok (.aload_n 0, 1) := by decide +kernel
theorem dX3_init_1 : decode cX3_init 1 = .ok (.invokespecial 1, 3) := by decide +kernel
theorem dX3_init_4 : decode cX3_init 4 = .ok (.return_, 1) := by decide +kernel
theorem dX2_init_0 : decode cX2_init 0 = .ok (.aload_n 0, 1) := by decide +kernel
theorem dX2_init_1 : decode cX2_init 1 = .ok (.invokespecial 1, 3) := by decide +kernel
theorem dX2_init_4 : decode cX2_init 4 = .ok (.return_, 1) := by decide +kernel
set_option maxRecDepth 20000 in
theorem db_X0_init_0 : (decode cX0_init 0 = .ok (.aload_n 0, 1)) ∧ (decode cX0_init 1 = .ok (.invokespecial 3, 3)) ∧ (decode cX0_init 4 = .ok (.aload_n 0, 1)) ∧ (decode cX0_init 5 = .ok (.iconst 2, 1)) ∧ (decode cX0_init 6 = .ok (.newarray .int, 2)) ∧ (decode cX0_init 8 = .ok (.putfield 9, 3)) ∧ (decode cX0_init 11 = .ok (.aload_n 0, 1)) ∧ (decode cX0_init 12 = .ok (.iconst 2, 1)) := by decide +kernel
theorem dX0_init_0 : decode cX0_init 0 = .ok (.aload_n 0, 1) := db_X0_init_0.1
theorem dX0_init_1 : decode cX0_init 1 = .ok (.invokespecial 3, 3) := db_X0_init_0.2.1
theorem dX0_init_4 : decode cX0_init 4 = .ok (.aload_n 0, 1) := db_X0_init_0.2.2.1
theorem dX0_init_5 : decode cX0_init 5 = .ok (.iconst 2, 1) := db_X0_init_0.2.2.2.1
theorem dX0_init_6 : decode cX0_init 6 = .ok (.newarray .int, 2) := db_X0_init_0.2.2.2.2.1
theorem dX0_init_8 : decode cX0_init 8 = .ok (.putfield 9, 3) := db_X0_init_0.2.2.2.2.2.1
theorem dX0_init_11 : decode cX0_init 11 = .ok (.aload_n 0, 1) := db_X0_init_0.2.2.2.2.2.2.1
theorem dX0_init_12 : decode cX0_init 12 = .ok (.iconst 2, 1) := db_X0_init_0.2.2.2.2.2.2.2
set_option maxRecDepth 20000 in
theorem db_X0_init_13 : (decode cX0_init 13 = .ok (.newarray .int, 2)) ∧ (decode cX0_init 15 = .ok (.putfield 15, 3)) ∧ (decode cX0_init 18 = .ok (.aload_n 0, 1)) ∧ (decode cX0_init 19 = .ok (.iconst 2, 1)) ∧ (decode cX0_init 20 = .ok (.iconst 5, 1)) ∧ (decode cX0_init 21 = .ok (.multianewarray 18 2, 4)) ∧ (decode cX0_init 25 = .ok (.putfield 20, 3)) ∧ (decode cX0_init 28 = .ok (.aload_n 0, 1)) := by decide +kernel
theorem dX0_init_13 : decode cX0_init 13 = .ok (.newarray .int, 2) := db_X0_init_13.1
theorem dX0_init_15 : decode cX0_init 15 = .ok (.putfield 15, 3) := db_X0_init_13.2.1
theorem dX0_init_18 : decode cX0_init 18 = .ok (.aload_n 0, 1) := db_X0_init_13.2.2.1
theorem dX0_init_19 : decode cX0_init 19 = .ok (.iconst 2, 1) := db_X0_init_13.2.2.2.1
theorem dX0_init_20 : decode cX0_init 20 = .ok (.iconst 5, 1) := db_X0_init_13.2.2.2.2.1
theorem dX0_init_21 : decode cX0_init 21 = .ok (.multianewarray 18 2, 4) := db_X0_init_13.2.2.2.2.2.1
theorem dX0_init_25 : decode cX0_init 25 = .ok (.putfield 20, 3) := db_X0_init_13.2.2.2.2.2.2.1
theorem dX0_init_28 : decode cX0_init 28 = .ok (.aload_n 0, 1) := db_X0_init_13.2.2.2.2.2.2.2
set_option maxRecDepth 20000 in
theorem db_X0_init_29 : (decode cX0_init 29 = .ok (.iconst 2, 1)) ∧ (decode cX0_init 30 = .ok (.bipush 24, 2)) ∧ (decode cX0_init 32 = .ok (.multianewarray 18 2, 4)) ∧ (decode cX0_init 36 = .ok (.putfield 23, 3)) ∧ (decode cX0_init 39 = .ok (.aload_n 0, 1)) ∧ (decode cX0_init 40 = .ok (.iconst 5, 1)) ∧ (decode cX0_init 41 = .ok (.anewarray 26, 3)) ∧ (decode cX0_init 44 = .ok (.putfield 28, 3)) := by decide +kernel
theorem dX0_init_29 : decode cX0_init 29 = .ok (.iconst 2, 1) := db_X0_init_29.1
theorem dX0_init_30 : decode cX0_init 30 = .ok (.bipush 24, 2) := db_X0_init_29.2.1
theorem dX0_init_32 : decode cX0_init 32 = .ok (.multianewarray 18 2, 4) := db_X0_init_29.2.2.1
theorem dX0_init_36 : decode cX0_init 36 = .ok (.putfield 23, 3) := db_X0_init_29.2.2.2.1
theorem dX0_init_39 : decode cX0_init 39 = .ok (.aload_n 0, 1) := db_X0_init_29.2.2.2.2.1
theorem dX0_init_40 : decode cX0_init 40 = .ok (.iconst 5, 1) := db_X0_init_29.2.2.2.2.2.1
theorem dX0_init_41 : decode cX0_init 41 = .ok (.anewarray 26, 3) := db_X0_init_29.2.2.2.2.2.2.1
theorem dX0_init_44 : decode cX0_init 44 = .ok (.putfield 28, 3) := db_X0_init_29.2.2.2.2.2.2.2
set_option maxRecDepth 20000 in
theorem db_X0_init_47 : (decode cX0_init 47 = .ok (.iconst 0, 1)) ∧ (decode cX0_init 48 = .ok (.istore_n 1, 1)) ∧ (decode cX0_init 49 = .ok (.iload_n 1, 1)) ∧ (decode cX0_init 50 = .ok (.iconst 5, 1)) ∧ (decode cX0_init 51 = .ok (.if_icmp .ge 22, 3)) ∧ (decode cX0_init 54 = .ok (.aload_n 0, 1)) ∧ (decode cX0_init 55 = .ok (.getfield 28, 3)) ∧ (decode cX0_init 58 = .ok (.iload_n 1, 1)) := by decide +kernel
theorem dX0_init_47 : decode cX0_init 47 = .ok (.iconst 0, 1) := db_X0_init_47.1
theorem dX0_init_48 : decode cX0_init 48 = .ok (.istore_n 1, 1) := db_X0_init_47.2.1
theorem dX0_init_49 : decode cX0_init 49 = .ok (.iload_n 1, 1) := db_X0_init_47.2.2.1
theorem dX0_init_50 : decode cX0_init 50 = .ok (.iconst 5, 1) := db_X0_init_47.2.2.2.1
theorem dX0_init_51 : decode cX0_init 51 = .ok (.if_icmp .ge 22, 3) := db_X0_init_47.2.2.2.2.1
theorem dX0_init_54 : decode cX0_init 54 = .ok (.aload_n 0, 1) := db_X0_init_47.2.2.2.2.2.1
theorem dX0_init_55 : decode cX0_init 55 = .ok (.getfield 28, 3) := db_X0_init_47.2.2.2.2.2.2.1
theorem dX0_init_58 : decode cX0_init 58 = .ok (.iload_n 1, 1) := db_X0_init_47.2.2.2.2.2.2.2
set_option maxRecDepth 20000 in
theorem db_X0_init_59 : (decode cX0_init 59 = .ok (.new 26, 3)) ∧ (decode cX0_init 62 = .ok (.dup, 1)) ∧ (decode cX0_init 63 = .ok (.invokespecial 32, 3)) ∧ (decode cX0_init 66 = .ok (.aastore, 1)) ∧ (decode cX0_init 67 = .ok (.iinc 1 1, 3)) ∧ (decode cX0_init 70 = .ok (.goto (-21), 3)) ∧ (decode cX0_init 73 = .ok (.return_, 1)) := by decide +kernel
theorem dX0_init_59 : decode cX0_init 59 = .ok (.new 26, 3) := db_X0_init_59.1
theorem dX0_init_62 : decode cX0_init 62 = .ok (.dup, 1) := db_X0_init_59.2.1
set_option maxRecDepth 20000 in
theorem ggX0_init_X6_init : GoodIn wsX0_init wsX6_init := goodIn_r _ [15, 16, 2, 3] rfl (by decide +kernel)
set_option maxRecDepth 20000 in
theorem gX0_init_X6_init_n32 : GoodIn wsX0_init (wsX6_init) := ggX0_init_X6_init
theorem dX0_init_63 : decode cX0_init 63 = .ok (.invokespecial 32, 3) := db_X0_init_59.2.2.1
theorem dX0_init_66 : decode cX0_init 66 = .ok (.aastore, 1) := db_X0_init_59.2.2.2.1
theorem dX0_init_67 : decode cX0_init 67 = .ok (.iinc 1 1, 3) := db_X0_init_59.2.2.2.2.1
theorem dX0_init_70 : decode cX0_init 70 = .ok (.goto (-21), 3) := db_X0_init_59.2.2.2.2.2.1
theorem dX0_init_73 : decode cX0_init 73 = .ok (.return_, 1) := db_X0_init_59.2.2.2.2.2.2
theorem up_s {f g : Nat → Option Nat} {ix i q : Nat} {U : Nat → Nat} (e : g = va_up f ix (some q)) (hi : ix = i) (h : ∀ j, j < i → f j = some (U j)) (hq : U i = q) : ∀ j, j < i + 1 → g j = some (U j) := by
  intro j hj
  rw [e, hi]
  by_cases e1 : j = i
  · subst e1
    rw [hq]
    exact if_pos rfl
  · exact (if_neg e1).trans (h j (by omega))
theorem up_n {f g : Nat → Option Nat} {ix n q : Nat} (e : g = va_up f ix (some q)) (hi : ix < n) (h : ∀ j, n ≤ j → f j = none) : ∀ j, n ≤ j → g j = none := by
  intro j hj
  rw [e]
  exact (if_neg (by omega)).trans (h j hj)
theorem up_e {f : Nat → Option Nat} {n : Nat} {U : Nat → Nat} (h1 : ∀ j, j < n → f j = some (U j)) (h2 : ∀ j, n ≤ j → f j = none) : f = fun i => if i < n then some (U i) else none := by
  funext i
  by_cases h : i < n
  · rw [if_pos h]
    exact h1 i h
  · rw [if_neg h]
    exact h2 i (by omega)

set_option maxHeartbeats 4000000 in
set_option maxRecDepth 100000 in
theorem c_X6_init (l : Launch) (dC : Nat → ClassId) (dI : Nat → Nat → Nat) (cy : Nat → ClassId) (sz : Nat) (h0 : Nat) : Met l yX6_init wsX6_init ({ frames := 1, cells := 0, slots := 0, locals := 64 }) (va_Pc [.ref h0] (ex_Pre dC dI cy sz ([(h0, .inr (6, [.int 0, .int 0, .int 0, .int 0, .int 0]))] : va_W))) (va_Qv (fun (u : Unit) => True) (fun u t => ex_Pst dC dI (va_A ([(h0, .inr (6, [.int 0, .int 0, .int 0, .int 0, .int 0]))] : va_W) sz) (([(h0, .inr (6, [.int 0, .int 0, .int 0, .int 0, .int 0]))] : va_W)) t) (va_A ([(h0, .inr (6, [.int 0, .int 0, .int 0, .int 0, .int 0]))] : va_W) sz)) 0 0 (va_A ([(h0, .inr (6, [.int 0, .int 0, .int 0, .int 0, .int 0]))] : va_W) sz) := by
  refine Met.ofW (cc := cX6_init) (maxL := 1) (ret := none) (by decide) rfl ?_
  intro p e s m args below meth c s₁ B hml hv
  obtain ⟨rfl, hsz, hE, hP, hK, hD0⟩ := hv
  have hx := B.exec
  have hb := B.bytes
  have hr := B.returns
  have hts := atoms_spec (ws := wsX6_init) B.pre
  have hown : s.vm.findClass RX6 = some m.cls := findClass_of_methodNamed B.named
  have hlocks := B.notSynchronized
  have hin : meth.name = "<init>" := (name_of_methodNamed B.named B.method).1
  subst hsz
  have hD := hD0.self (sz := s.heap.size)
  generalize hAe : va_A ([(h0, .inr (6, [.int 0, .int 0, .int 0, .int 0, .int 0]))] : va_W) s.heap.size = A at hD ⊢
  have hA : ∀ q : Nat, s.heap.size ≤ q → A q := fun q h => by rw [← hAe]; exact Or.inr h
  have hS : va_S A s.heap s.heap [] := va_S.rf
  have hP : va_P (dC, dI) vwCl ([(h0, .inr (6, [.int 0, .int 0, .int 0, .int 0, .int 0]))] : va_W) s.heap := hP
  have hl := lv_entry ([.ref h0]) (n := 1) (Nat.le_of_ble_eq_true rfl)
  rw [lg_entry_eq]
  generalize (lg_sl ([.ref h0]) ++ List.replicate (1 - (lg_sl ([.ref h0])).length) Slot.unset).toArray = ls at hl ⊢
  have hl : lv_has ls 1 [(0, .ref h0)] := hl
  refine lv_aload_n hx hb dX6_init_0 rfl (lv_at hl 0 rfl) ?_
  refine W.objInit hx hb hown (hts (.methodLink RX6 1 objectInit) fwX6_init_1) (hts (.instanceMethod objectInit) fwX6_init_2) (hts (.code objectInit ⟨#[0xb1]⟩ 1 none) fwX6_init_3) rfl (by rw [hml]; exact hl.1) rfl dX6_init_1 (Nat.le_of_ble_eq_true rfl) (Nat.le_of_ble_eq_true rfl) ?_
  refine W.eq (g2 := F0 m 4 ls []) rfl ?_
  have hP9 := hP.sub (ws' := ([(h0, .inr (6, [.int 0, .int 0, .int 0, .int 0, .int 0]))] : va_W)) [0] rfl
  have hD9 := hD.sub (ws' := ([(h0, .inr (6, [.int 0, .int 0, .int 0, .int 0, .int 0]))] : va_W)) [0] (by decide) rfl
  exact W.vret hx hb hr (fun t ht hW => ⟨⟨(), rfl, trivial, by rw [ht]; exact hP9, hD9⟩, hS.F ht⟩) hS.2.2 dX6_init_4

set_option maxHeartbeats 4000000 in
set_option maxRecDepth 100000 in
theorem c_X3_init (l : Launch) (dC : Nat → ClassId) (dI : Nat → Nat → Nat) (cy : Nat → ClassId) (sz : Nat) (h0 : Nat) : Met l yX3_init wsX3_init ({ frames := 1, cells := 0, slots := 0, locals := 64 }) (va_Pc [.ref h0] (ex_Pre dC dI cy sz ([(h0, .inr (3, [.int 0, .int 0]))] : va_W))) (va_Qv (fun (u : Unit) => True) (fun u t => ex_Pst dC dI (va_A ([(h0, .inr (3, [.int 0, .int 0]))] : va_W) sz) (([(h0, .inr (3, [.int 0, .int 0]))] : va_W)) t) (va_A ([(h0, .inr (3, [.int 0, .int 0]))] : va_W) sz)) 0 0 (va_A ([(h0, .inr (3, [.int 0, .int 0]))] : va_W) sz) := by
  refine Met.ofW (cc := cX3_init) (maxL := 1) (ret := none) (by decide) rfl ?_
  intro p e s m args below meth c s₁ B hml hv
  obtain ⟨rfl, hsz, hE, hP, hK, hD0⟩ := hv
  have hx := B.exec
  have hb := B.bytes
  have hr := B.returns
  have hts := atoms_spec (ws := wsX3_init) B.pre
  have hown : s.vm.findClass RX3 = some m.cls := findClass_of_methodNamed B.named
  have hlocks := B.notSynchronized
  have hin : meth.name = "<init>" := (name_of_methodNamed B.named B.method).1
  subst hsz
  have hD := hD0.self (sz := s.heap.size)
  generalize hAe : va_A ([(h0, .inr (3, [.int 0, .int 0]))] : va_W) s.heap.size = A at hD ⊢
  have hA : ∀ q : Nat, s.heap.size ≤ q → A q := fun q h => by rw [← hAe]; exact Or.inr h
  have hS : va_S A s.heap s.heap [] := va_S.rf
  have hP : va_P (dC, dI) vwCl ([(h0, .inr (3, [.int 0, .int 0]))] : va_W) s.heap := hP
  have hl := lv_entry ([.ref h0]) (n := 1) (Nat.le_of_ble_eq_true rfl)
  rw [lg_entry_eq]
  generalize (lg_sl ([.ref h0]) ++ List.replicate (1 - (lg_sl ([.ref h0])).length) Slot.unset).toArray = ls at hl ⊢
  have hl : lv_has ls 1 [(0, .ref h0)] := hl
  refine lv_aload_n hx hb dX3_init_0 rfl (lv_at hl 0 rfl) ?_
  refine W.objInit hx hb hown (hts (.methodLink RX3 1 objectInit) fwX3_init_1) (hts (.instanceMethod objectInit) fwX3_init_2) (hts (.code objectInit ⟨#[0xb1]⟩ 1 none) fwX3_init_3) rfl (by rw [hml]; exact hl.1) rfl dX3_init_1 (Nat.le_of_ble_eq_true rfl) (Nat.le_of_ble_eq_true rfl) ?_
  refine W.eq (g2 := F0 m 4 ls []) rfl ?_
  have hP9 := hP.sub (ws' := ([(h0, .inr (3, [.int 0, .int 0]))] : va_W)) [0] rfl
  have hD9 := hD.sub (ws' := ([(h0, .inr (3, [.int 0, .int 0]))] : va_W)) [0] (by decide) rfl
  exact W.vret hx hb hr (fun t ht hW => ⟨⟨(), rfl, trivial, by rw [ht]; exact hP9, hD9⟩, hS.F ht⟩) hS.2.2 dX3_init_4

set_option maxHeartbeats 4000000 in
set_option maxRecDepth 100000 in
theorem c_X2_init (l : Launch) (dC : Nat → ClassId) (dI : Nat → Nat → Nat) (cy : Nat → ClassId) (sz : Nat) (h0 : Nat) : Met l yX2_init wsX2_init ({ frames := 1, cells := 0, slots := 0, locals := 64 }) (va_Pc [.ref h0] (ex_Pre dC dI cy sz ([(h0, .inr (2, [.int 0, .int 0, .int 0]))] : va_W))) (va_Qv (fun (u : Unit) => True) (fun u t => ex_Pst dC dI (va_A ([(h0, .inr (2, [.int 0, .int 0, .int 0]))] : va_W) sz) (([(h0, .inr (2, [.int 0, .int 0, .int 0]))] : va_W)) t) (va_A ([(h0, .inr (2, [.int 0, .int 0, .int 0]))] : va_W) sz)) 0 0 (va_A ([(h0, .inr (2, [.int 0, .int 0, .int 0]))] : va_W) sz) := by
  refine Met.ofW (cc := cX2_init) (maxL := 1) (ret := none) (by decide) rfl ?_
  intro p e s m args below meth c s₁ B hml hv
  obtain ⟨rfl, hsz, hE, hP, hK, hD0⟩ := hv
  have hx := B.exec
  have hb := B.bytes
  have hr := B.returns
  have hts := atoms_spec (ws := wsX2_init) B.pre
  have hown : s.vm.findClass RX2 = some m.cls := findClass_of_methodNamed B.named
  have hlocks := B.notSynchronized
  have hin : meth.name = "<init>" := (name_of_methodNamed B.named B.method).1
  subst hsz
  have hD := hD0.self (sz := s.heap.size)
  generalize hAe : va_A ([(h0, .inr (2, [.int 0, .int 0, .int 0]))] : va_W) s.heap.size = A at hD ⊢
  have hA : ∀ q : Nat, s.heap.size ≤ q → A q := fun q h => by rw [← hAe]; exact Or.inr h
  have hS : va_S A s.heap s.heap [] := va_S.rf
  have hP : va_P (dC, dI) vwCl ([(h0, .inr (2, [.int 0, .int 0, .int 0]))] : va_W) s.heap := hP
  have hl := lv_entry ([.ref h0]) (n := 1) (Nat.le_of_ble_eq_true rfl)
  rw [lg_entry_eq]
  generalize (lg_sl ([.ref h0]) ++ List.replicate (1 - (lg_sl ([.ref h0])).length) Slot.unset).toArray = ls at hl ⊢
  have hl : lv_has ls 1 [(0, .ref h0)] := hl
  refine lv_aload_n hx hb dX2_init_0 rfl (lv_at hl 0 rfl) ?_
  refine W.objInit hx hb hown (hts (.methodLink RX2 1 objectInit) fwX2_init_1) (hts (.instanceMethod objectInit) fwX2_init_2) (hts (.code objectInit ⟨#[0xb1]⟩ 1 none) fwX2_init_3) rfl (by rw [hml]; exact hl.1) rfl dX2_init_1 (Nat.le_of_ble_eq_true rfl) (Nat.le_of_ble_eq_true rfl) ?_
  refine W.eq (g2 := F0 m 4 ls []) rfl ?_
  have hP9 := hP.sub (ws' := ([(h0, .inr (2, [.int 0, .int 0, .int 0]))] : va_W)) [0] rfl
  have hD9 := hD.sub (ws' := ([(h0, .inr (2, [.int 0, .int 0, .int 0]))] : va_W)) [0] (by decide) rfl
  exact W.vret hx hb hr (fun t ht hW => ⟨⟨(), rfl, trivial, by rw [ht]; exact hP9, hD9⟩, hS.F ht⟩) hS.2.2 dX2_init_4

set_option maxHeartbeats 4000000 in
set_option maxRecDepth 100000 in
theorem c_X0_init (l : Launch) (dC : Nat → ClassId) (dI : Nat → Nat → Nat) (cy : Nat → ClassId) (sz : Nat) (h0 : Nat) : Met l yX0_init wsX0_init ({ frames := 2, cells := 14, slots := 96, locals := 128 }) (va_Pc [.ref h0] (ex_Pre dC dI cy sz ([(h0, .inr (0, [.int 0, .int 0, .int 0, .int 0, .int 0, .int 0, .null, .null, .null, .null, .null]))] : va_W))) (va_Qv (fun (u : Nat → Nat) => u 0 = h0) (fun u t => ex_Pst dC dI (va_A ([(h0, .inr (0, [.int 0, .int 0, .int 0, .int 0, .int 0, .int 0, .null, .null, .null, .null, .null]))] : va_W) sz) (([(u 0, .inr (0, [.int 0, .int 0, .int 0, .int 0, .int 0, .int 0, .ref (u 1), .ref (u 2), .ref (u 3), .ref (u 6), .ref (u 9)])), (u 1, .inl (cy 0, 2, .inl (fun _ => 0))), (u 2, .inl (cy 0, 2, .inl (fun _ => 0))), (u 3, .inl (cy 5, 2, .inr (.inr (.inr (.inr (fun i => if i < 2 then some (u (4 + i)) else none)))))), (u 4, .inl (cy 0, 5, .inl (fun _ => 0))), (u 5, .inl (cy 0, 5, .inl (fun _ => 0))), (u 6, .inl (cy 5, 2, .inr (.inr (.inr (.inr (fun i => if i < 2 then some (u (7 + i)) else none)))))), (u 7, .inl (cy 0, 24, .inl (fun _ => 0))), (u 8, .inl (cy 0, 24, .inl (fun _ => 0))), (u 9, .inl (cy 4, 5, .inr (.inr (.inr (.inr (fun i => if i < 5 then some (u (10 + i)) else none)))))), (u 10, .inr (6, [.int 0, .int 0, .int 0, .int 0, .int 0])), (u 11, .inr (6, [.int 0, .int 0, .int 0, .int 0, .int 0])), (u 12, .inr (6, [.int 0, .int 0, .int 0, .int 0, .int 0])), (u 13, .inr (6, [.int 0, .int 0, .int 0, .int 0, .int 0])), (u 14, .inr (6, [.int 0, .int 0, .int 0, .int 0, .int 0]))] : va_W)) t) (va_A ([(h0, .inr (0, [.int 0, .int 0, .int 0, .int 0, .int 0, .int 0, .null, .null, .null, .null, .null]))] : va_W) sz)) 14 96 (va_A ([(h0, .inr (0, [.int 0, .int 0, .int 0, .int 0, .int 0, .int 0, .null, .null, .null, .null, .null]))] : va_W) sz) := by
  refine Met.ofW (cc := cX0_init) (maxL := 2) (ret := none) (by decide) rfl ?_
  intro p e s m args below meth c s₁ B hml hv
  obtain ⟨rfl, hsz, hE, hP, hK, hD0⟩ := hv
  have hx := B.exec
  have hb := B.bytes
  have hr := B.returns
  have hts := atoms_spec (ws := wsX0_init) B.pre
  have hown : s.vm.findClass RX0 = some m.cls := findClass_of_methodNamed B.named
  have hlocks := B.notSynchronized
  have hin : meth.name = "<init>" := (name_of_methodNamed B.named B.method).1
  subst hsz
  have hD := hD0.self (sz := s.heap.size)
  generalize hAe : va_A ([(h0, .inr (0, [.int 0, .int 0, .int 0, .int 0, .int 0, .int 0, .null, .null, .null, .null, .null]))] : va_W) s.heap.size = A at hD ⊢
  have hA : ∀ q : Nat, s.heap.size ≤ q → A q := fun q h => by rw [← hAe]; exact Or.inr h
  have hS : va_S A s.heap s.heap [] := va_S.rf
  have hP : va_P (dC, dI) vwCl ([(h0, .inr (0, [.int 0, .int 0, .int 0, .int 0, .int 0, .int 0, .null, .null, .null, .null, .null]))] : va_W) s.heap := hP
  have hl := lv_entry ([.ref h0]) (n := 2) (Nat.le_of_ble_eq_true rfl)
  rw [lg_entry_eq]
  generalize (lg_sl ([.ref h0]) ++ List.replicate (2 - (lg_sl ([.ref h0])).length) Slot.unset).toArray = ls at hl ⊢
  have hl : lv_has ls 2 [(0, .ref h0)] := hl
  refine lv_aload_n hx hb dX0_init_0 rfl (lv_at hl 0 rfl) ?_
  refine W.objInit hx hb hown (hts (.methodLink RX0 3 objectInit) fwX0_init_1) (hts (.instanceMethod objectInit) fwX0_init_2) (hts (.code objectInit ⟨#[0xb1]⟩ 1 none) fwX0_init_3) rfl (by rw [hml]; exact hl.1) rfl dX0_init_1 (Nat.le_of_ble_eq_true rfl) (Nat.le_of_ble_eq_true rfl) ?_
  refine W.eq (g2 := F0 m 4 ls []) rfl ?_
  refine lv_aload_n hx hb dX0_init_4 rfl (lv_at hl 0 rfl) ?_
  refine lv_iconst (v := 2) hx hb dX0_init_5 (by decide) ?_
  refine yn_i hx hb (hts (.arrayClass .int) fwX0_init_4) hK hP hD hS hA 2 (by decide) (by decide) (by decide) (Nat.le_of_ble_eq_true rfl) (Nat.le_of_ble_eq_true rfl) dX0_init_6 (fun q1 H hP hD hS => ?_)
  obtain ⟨hP, hD⟩ : (fun w : va_W => va_P (dC, dI) vwCl w H ∧ va_D A w) ([(h0, .inr (0, [.int 0, .int 0, .int 0, .int 0, .int 0, .int 0, .null, .null, .null, .null, .null])), (q1, .inl (cy 0, 2, .inl (fun _ => 0)))] : va_W) := ⟨hP, hD⟩
  refine W.widen (k := 1) (n := 2) (by omega) (by omega) ?_
  refine va_putF (D := (dC, dI)) (ci := 0) (v := .ref q1) (ty := .array .int) (C := RX0) (T := TX0) (N := 11) hx hb hts iwX0_init_X0 tyX0 tyX0_ok nmX0 hown hK hP hD hS 0 rfl rfl 6 (by decide) (hts (.fieldLink RX0 9 "QuietStairs$Case" "parties" "[I") fwX0_init_5) (fun _ h9 => h9) rfl hin rfl (by decide +kernel) rfl rfl (Nat.le_of_ble_eq_true rfl) dX0_init_8 (fun H locs hP hD hS => ?_)
  obtain ⟨hP, hD⟩ : (fun w : va_W => va_P (dC, dI) vwCl w H ∧ va_D A w) ([(h0, .inr (0, [.int 0, .int 0, .int 0, .int 0, .int 0, .int 0, .ref q1, .null, .null, .null, .null])), (q1, .inl (cy 0, 2, .inl (fun _ => 0)))] : va_W) := ⟨hP, hD⟩
  refine lv_aload_n hx hb dX0_init_11 rfl (lv_at hl 0 rfl) ?_
  refine lv_iconst (v := 2) hx hb dX0_init_12 (by decide) ?_
  refine yn_i hx hb (hts (.arrayClass .int) fwX0_init_4) hK hP hD hS hA 2 (by decide) (by decide) (by decide) (Nat.le_of_ble_eq_true rfl) (Nat.le_of_ble_eq_true rfl) dX0_init_13 (fun q2 H hP hD hS => ?_)
  obtain ⟨hP, hD⟩ : (fun w : va_W => va_P (dC, dI) vwCl w H ∧ va_D A w) ([(h0, .inr (0, [.int 0, .int 0, .int 0, .int 0, .int 0, .int 0, .ref q1, .null, .null, .null, .null])), (q1, .inl (cy 0, 2, .inl (fun _ => 0))), (q2, .inl (cy 0, 2, .inl (fun _ => 0)))] : va_W) := ⟨hP, hD⟩
  refine W.widen (k := 2) (n := 4) (by omega) (by omega) ?_
  refine va_putF (D := (dC, dI)) (ci := 0) (v := .ref q2) (ty := .array .int) (C := RX0) (T := TX0) (N := 11) hx hb hts iwX0_init_X0 tyX0 tyX0_ok nmX0 hown hK hP hD hS 0 rfl rfl 7 (by decide) (hts (.fieldLink RX0 15 "QuietStairs$Case" "box" "[I") fwX0_init_6) (fun _ h9 => h9) rfl hin rfl (by decide +kernel) rfl rfl (Nat.le_of_ble_eq_true rfl) dX0_init_15 (fun H locs hP hD hS => ?_)
  obtain ⟨hP, hD⟩ : (fun w : va_W => va_P (dC, dI) vwCl w H ∧ va_D A w) ([(h0, .inr (0, [.int 0, .int 0, .int 0, .int 0, .int 0, .int 0, .ref q1, .ref q2, .null, .null, .null])), (q1, .inl (cy 0, 2, .inl (fun _ => 0))), (q2, .inl (cy 0, 2, .inl (fun _ => 0)))] : va_W) := ⟨hP, hD⟩
  refine lv_aload_n hx hb dX0_init_18 rfl (lv_at hl 0 rfl) ?_
  refine lv_iconst (v := 2) hx hb dX0_init_19 (by decide) ?_
  refine lv_iconst (v := 5) hx hb dX0_init_20 (by decide) ?_
  refine yn_m hx hb hown (hts (.classLink RX0 18 "[[I") fwX0_init_7) hE.2.2.2.2.2.2.2.2.2.1 (hts (.arrayClass .int) fwX0_init_4) hK hP hD hS hA 5 (by decide) (by decide) (by decide) (Nat.le_of_ble_eq_true rfl) (Nat.le_of_ble_eq_true rfl) dX0_init_21 (fun q3 H locs hP hD hS => ?_)
  obtain ⟨hP, hD⟩ : (fun w : va_W => va_P (dC, dI) vwCl w H ∧ va_D A w) ([(h0, .inr (0, [.int 0, .int 0, .int 0, .int 0, .int 0, .int 0, .ref q1, .ref q2, .null, .null, .null])), (q1, .inl (cy 0, 2, .inl (fun _ => 0))), (q2, .inl (cy 0, 2, .inl (fun _ => 0))), (q3, .inl (cy 5, 2, .inr (.inr (.inr (.inr (fun i => if i < 2 then some (q3 + 1 + i) else none)))))), (q3 + 1, .inl (cy 0, 5, .inl (fun _ => 0))), (q3 + 2, .inl (cy 0, 5, .inl (fun _ => 0)))] : va_W) := ⟨hP, hD⟩
  refine W.widen (k := 5) (n := 16) (by omega) (by omega) ?_
  refine va_putF (D := (dC, dI)) (ci := 0) (v := .ref q3) (ty := .array (.array .int)) (C := RX0) (T := TX0) (N := 11) hx hb hts iwX0_init_X0 tyX0 tyX0_ok nmX0 hown hK hP hD hS 0 rfl rfl 8 (by decide) (hts (.fieldLink RX0 20 "QuietStairs$Case" "offers" "[[I") fwX0_init_8) (fun _ h9 => h9) rfl hin rfl (by decide +kernel) rfl rfl (Nat.le_of_ble_eq_true rfl) dX0_init_25 (fun H locs hP hD hS => ?_)
  obtain ⟨hP, hD⟩ : (fun w : va_W => va_P (dC, dI) vwCl w H ∧ va_D A w) ([(h0, .inr (0, [.int 0, .int 0, .int 0, .int 0, .int 0, .int 0, .ref q1, .ref q2, .ref q3, .null, .null])), (q1, .inl (cy 0, 2, .inl (fun _ => 0))), (q2, .inl (cy 0, 2, .inl (fun _ => 0))), (q3, .inl (cy 5, 2, .inr (.inr (.inr (.inr (fun i => if i < 2 then some (q3 + 1 + i) else none)))))), (q3 + 1, .inl (cy 0, 5, .inl (fun _ => 0))), (q3 + 2, .inl (cy 0, 5, .inl (fun _ => 0)))] : va_W) := ⟨hP, hD⟩
  refine lv_aload_n hx hb dX0_init_28 rfl (lv_at hl 0 rfl) ?_
  refine lv_iconst (v := 2) hx hb dX0_init_29 (by decide) ?_
  refine lv_bipush (v := 24) hx hb dX0_init_30 (by decide) ?_
  refine yn_m hx hb hown (hts (.classLink RX0 18 "[[I") fwX0_init_7) hE.2.2.2.2.2.2.2.2.2.1 (hts (.arrayClass .int) fwX0_init_4) hK hP hD hS hA 24 (by decide) (by decide) (by decide) (Nat.le_of_ble_eq_true rfl) (Nat.le_of_ble_eq_true rfl) dX0_init_32 (fun q4 H locs hP hD hS => ?_)
  obtain ⟨hP, hD⟩ : (fun w : va_W => va_P (dC, dI) vwCl w H ∧ va_D A w) ([(h0, .inr (0, [.int 0, .int 0, .int 0, .int 0, .int 0, .int 0, .ref q1, .ref q2, .ref q3, .null, .null])), (q1, .inl (cy 0, 2, .inl (fun _ => 0))), (q2, .inl (cy 0, 2, .inl (fun _ => 0))), (q3, .inl (cy 5, 2, .inr (.inr (.inr (.inr (fun i => if i < 2 then some (q3 + 1 + i) else none)))))), (q3 + 1, .inl (cy 0, 5, .inl (fun _ => 0))), (q3 + 2, .inl (cy 0, 5, .inl (fun _ => 0))), (q4, .inl (cy 5, 2, .inr (.inr (.inr (.inr (fun i => if i < 2 then some (q4 + 1 + i) else none)))))), (q4 + 1, .inl (cy 0, 24, .inl (fun _ => 0))), (q4 + 2, .inl (cy 0, 24, .inl (fun _ => 0)))] : va_W) := ⟨hP, hD⟩
  refine W.widen (k := 8) (n := 66) (by omega) (by omega) ?_
  refine va_putF (D := (dC, dI)) (ci := 0) (v := .ref q4) (ty := .array (.array .int)) (C := RX0) (T := TX0) (N := 11) hx hb hts iwX0_init_X0 tyX0 tyX0_ok nmX0 hown hK hP hD hS 0 rfl rfl 9 (by decide) (hts (.fieldLink RX0 23 "QuietStairs$Case" "logs" "[[I") fwX0_init_9) (fun _ h9 => h9) rfl hin rfl (by decide +kernel) rfl rfl (Nat.le_of_ble_eq_true rfl) dX0_init_36 (fun H locs hP hD hS => ?_)
  obtain ⟨hP, hD⟩ : (fun w : va_W => va_P (dC, dI) vwCl w H ∧ va_D A w) ([(h0, .inr (0, [.int 0, .int 0, .int 0, .int 0, .int 0, .int 0, .ref q1, .ref q2, .ref q3, .ref q4, .null])), (q1, .inl (cy 0, 2, .inl (fun _ => 0))), (q2, .inl (cy 0, 2, .inl (fun _ => 0))), (q3, .inl (cy 5, 2, .inr (.inr (.inr (.inr (fun i => if i < 2 then some (q3 + 1 + i) else none)))))), (q3 + 1, .inl (cy 0, 5, .inl (fun _ => 0))), (q3 + 2, .inl (cy 0, 5, .inl (fun _ => 0))), (q4, .inl (cy 5, 2, .inr (.inr (.inr (.inr (fun i => if i < 2 then some (q4 + 1 + i) else none)))))), (q4 + 1, .inl (cy 0, 24, .inl (fun _ => 0))), (q4 + 2, .inl (cy 0, 24, .inl (fun _ => 0)))] : va_W) := ⟨hP, hD⟩
  refine lv_aload_n hx hb dX0_init_39 rfl (lv_at hl 0 rfl) ?_
  refine lv_iconst (v := 5) hx hb dX0_init_40 (by decide) ?_
  refine yn_q hx hb hown (hts (.classLink RX0 26 RX6) fwX0_init_10) hE.2.2.2.2.2.2.2.2.1 hK hP hD hS hA 5 4 rfl (by decide) (by decide) (by decide) (Nat.le_of_ble_eq_true rfl) (Nat.le_of_ble_eq_true rfl) dX0_init_41 (fun q5 H hP hD hS => ?_)
  obtain ⟨hP, hD⟩ : (fun w : va_W => va_P (dC, dI) vwCl w H ∧ va_D A w) ([(h0, .inr (0, [.int 0, .int 0, .int 0, .int 0, .int 0, .int 0, .ref q1, .ref q2, .ref q3, .ref q4, .null])), (q1, .inl (cy 0, 2, .inl (fun _ => 0))), (q2, .inl (cy 0, 2, .inl (fun _ => 0))), (q3, .inl (cy 5, 2, .inr (.inr (.inr (.inr (fun i => if i < 2 then some (q3 + 1 + i) else none)))))), (q3 + 1, .inl (cy 0, 5, .inl (fun _ => 0))), (q3 + 2, .inl (cy 0, 5, .inl (fun _ => 0))), (q4, .inl (cy 5, 2, .inr (.inr (.inr (.inr (fun i => if i < 2 then some (q4 + 1 + i) else none)))))), (q4 + 1, .inl (cy 0, 24, .inl (fun _ => 0))), (q4 + 2, .inl (cy 0, 24, .inl (fun _ => 0))), (q5, .inl (cy 4, 5, .inr (.inr (.inr (.inr (fun _ => none))))))] : va_W) := ⟨hP, hD⟩
  refine W.widen (k := 9) (n := 71) (by omega) (by omega) ?_
  refine va_putF (D := (dC, dI)) (ci := 0) (v := .ref q5) (ty := .array (.object "QuietStairs$Term")) (C := RX0) (T := TX0) (N := 11) hx hb hts iwX0_init_X0 tyX0 tyX0_ok nmX0 hown hK hP hD hS 0 rfl rfl 10 (by decide) (hts (.fieldLink RX0 28 "QuietStairs$Case" "terms" "[LQuietStairs$Term;") fwX0_init_11) (fun _ h9 => h9) rfl hin rfl (by decide +kernel) rfl rfl (Nat.le_of_ble_eq_true rfl) dX0_init_44 (fun H locs hP hD hS => ?_)
  obtain ⟨hP, hD⟩ : (fun w : va_W => va_P (dC, dI) vwCl w H ∧ va_D A w) ([(h0, .inr (0, [.int 0, .int 0, .int 0, .int 0, .int 0, .int 0, .ref q1, .ref q2, .ref q3, .ref q4, .ref q5])), (q1, .inl (cy 0, 2, .inl (fun _ => 0))), (q2, .inl (cy 0, 2, .inl (fun _ => 0))), (q3, .inl (cy 5, 2, .inr (.inr (.inr (.inr (fun i => if i < 2 then some (q3 + 1 + i) else none)))))), (q3 + 1, .inl (cy 0, 5, .inl (fun _ => 0))), (q3 + 2, .inl (cy 0, 5, .inl (fun _ => 0))), (q4, .inl (cy 5, 2, .inr (.inr (.inr (.inr (fun i => if i < 2 then some (q4 + 1 + i) else none)))))), (q4 + 1, .inl (cy 0, 24, .inl (fun _ => 0))), (q4 + 2, .inl (cy 0, 24, .inl (fun _ => 0))), (q5, .inl (cy 4, 5, .inr (.inr (.inr (.inr (fun _ => none))))))] : va_W) := ⟨hP, hD⟩
  refine lv_iconst (v := 0) hx hb dX0_init_47 (by decide) ?_
  refine lv_istore_n (lv' := [(1, .int 0), (0, .ref h0)]) hx hb dX0_init_48 rfl hl (by decide) rfl (fun ls hl => ?_)
  refine lv_iload_n hx hb dX0_init_49 rfl (lv_at hl 0 rfl) ?_
  refine lv_iconst (v := 5) hx hb dX0_init_50 (by decide) ?_
  refine lv_icmp_ge (tgt := 73) hx hb dX0_init_51 (by decide) (fun c9 => absurd c9 (by decide)) (fun _ => ?_)
  refine lv_aload_n hx hb dX0_init_54 rfl (lv_at hl 1 rfl) ?_
  refine va_get (D := (dC, dI)) (ci := 0) (v := .ref q5) (C := RX0) (T := TX0) (N := 11) hx hb hts iwX0_init_X0 hown hK hP 0 rfl rfl 10 (by decide) (hts (.fieldLink RX0 28 "QuietStairs$Case" "terms" "[LQuietStairs$Term;") fwX0_init_11) (fun _ h9 => h9) rfl dX0_init_55 ?_
  refine lv_iload_n hx hb dX0_init_58 rfl (lv_at hl 0 rfl) ?_
  refine va_new (ci := 6) (fs := [.int 0, .int 0, .int 0, .int 0, .int 0]) (C := RX6) (T := TX6) (N := 5) hx hb hts iwX0_init_X6 tyX6 tyX6_ok hown (hts (.classLink RX0 26 RX6) fwX0_init_10) (hts (.instantiable RX6 5) fwX0_init_12) (hts (.initialized RX6) fwX0_init_13) hK hP hD hS hA rfl (fun j hj => by rcases (show j = 0 ∨ j = 1 ∨ j = 2 ∨ j = 3 ∨ j = 4 by omega) with rfl | rfl | rfl | rfl | rfl <;> rfl) (Nat.le_of_ble_eq_true rfl) (Nat.le_of_ble_eq_true rfl) dX0_init_59 (fun q6 H hP hD hS => ?_)
  obtain ⟨hP, hD⟩ : (fun w : va_W => va_P (dC, dI) vwCl w H ∧ va_D A w) ([(h0, .inr (0, [.int 0, .int 0, .int 0, .int 0, .int 0, .int 0, .ref q1, .ref q2, .ref q3, .ref q4, .ref q5])), (q1, .inl (cy 0, 2, .inl (fun _ => 0))), (q2, .inl (cy 0, 2, .inl (fun _ => 0))), (q3, .inl (cy 5, 2, .inr (.inr (.inr (.inr (fun i => if i < 2 then some (q3 + 1 + i) else none)))))), (q3 + 1, .inl (cy 0, 5, .inl (fun _ => 0))), (q3 + 2, .inl (cy 0, 5, .inl (fun _ => 0))), (q4, .inl (cy 5, 2, .inr (.inr (.inr (.inr (fun i => if i < 2 then some (q4 + 1 + i) else none)))))), (q4 + 1, .inl (cy 0, 24, .inl (fun _ => 0))), (q4 + 2, .inl (cy 0, 24, .inl (fun _ => 0))), (q5, .inl (cy 4, 5, .inr (.inr (.inr (.inr (fun _ => none)))))), (q6, .inr (6, [.int 0, .int 0, .int 0, .int 0, .int 0]))] : va_W) := ⟨hP, hD⟩
  refine W.widen (k := 10) (n := 76) (by omega) (by omega) ?_
  refine lv_dup hx hb dX0_init_62 rfl ?_
  refine yc_v (wc := ([(q6, .inr (6, [.int 0, .int 0, .int 0, .int 0, .int 0]))] : va_W)) (wr := ([(h0, .inr (0, [.int 0, .int 0, .int 0, .int 0, .int 0, .int 0, .ref q1, .ref q2, .ref q3, .ref q4, .ref q5])), (q1, .inl (cy 0, 2, .inl (fun _ => 0))), (q2, .inl (cy 0, 2, .inl (fun _ => 0))), (q3, .inl (cy 5, 2, .inr (.inr (.inr (.inr (fun i => if i < 2 then some (q3 + 1 + i) else none)))))), (q3 + 1, .inl (cy 0, 5, .inl (fun _ => 0))), (q3 + 2, .inl (cy 0, 5, .inl (fun _ => 0))), (q4, .inl (cy 5, 2, .inr (.inr (.inr (.inr (fun i => if i < 2 then some (q4 + 1 + i) else none)))))), (q4 + 1, .inl (cy 0, 24, .inl (fun _ => 0))), (q4 + 2, .inl (cy 0, 24, .inl (fun _ => 0))), (q5, .inl (cy 4, 5, .inr (.inr (.inr (.inr (fun _ => none))))))] : va_W)) (w1 := fun _ => ([(q6, .inr (6, [.int 0, .int 0, .int 0, .int 0, .int 0]))] : va_W)) hP hD hS hA [10] [0, 1, 2, 3, 4, 5, 6, 7, 8, 9] rfl rfl (by decide) (by decide) (va_runIN (As := []) (rest := [.ref q6, .int 0, .ref q5]) ⟨hx, hb, hml, hown, hts⟩ (c_X6_init l dC dI cy _ q6) ⟨va_cnB 0 hts gX0_init_X6_init_n32 rfl rfl rfl hE.2.2.1 (hts (.initialized RX6) fwX0_init_13) (by decide +kernel) ⟨Nat.le_of_ble_eq_true rfl, Nat.le_of_ble_eq_true rfl⟩, rfl, (hts (.instanceMethod yX6_init) fwX0_init_14)⟩ (ex_preS hE hK hP hD [10] (by decide) rfl) rfl rfl hl.1 rfl (lv_room (Nat.le_of_ble_eq_true rfl)) dX0_init_63 ⟨Nat.le_of_ble_eq_true rfl, Nat.le_of_ble_eq_true rfl⟩) (fun u_1 H locs hw_1 hP hD hS => ?_)
  obtain ⟨hP, hD⟩ : (fun w : va_W => va_P (dC, dI) vwCl w H ∧ va_D A w) ([(h0, .inr (0, [.int 0, .int 0, .int 0, .int 0, .int 0, .int 0, .ref q1, .ref q2, .ref q3, .ref q4, .ref q5])), (q1, .inl (cy 0, 2, .inl (fun _ => 0))), (q2, .inl (cy 0, 2, .inl (fun _ => 0))), (q3, .inl (cy 5, 2, .inr (.inr (.inr (.inr (fun i => if i < 2 then some (q3 + 1 + i) else none)))))), (q3 + 1, .inl (cy 0, 5, .inl (fun _ => 0))), (q3 + 2, .inl (cy 0, 5, .inl (fun _ => 0))), (q4, .inl (cy 5, 2, .inr (.inr (.inr (.inr (fun i => if i < 2 then some (q4 + 1 + i) else none)))))), (q4 + 1, .inl (cy 0, 24, .inl (fun _ => 0))), (q4 + 2, .inl (cy 0, 24, .inl (fun _ => 0))), (q5, .inl (cy 4, 5, .inr (.inr (.inr (.inr (fun _ => none)))))), (q6, .inr (6, [.int 0, .int 0, .int 0, .int 0, .int 0]))] : va_W) := ⟨hP, hD⟩
  refine va_astq hx hb hK hP hD hS 9 4 10 6 rfl rfl rfl rfl (by unfold vp_in; decide) dX0_init_66 (fun H locs hP hD hS => ?_)
  obtain ⟨f_2, ef_2⟩ : ∃ f9 : Nat → Option Nat, f9 = va_up (fun _ => none) (0 : Int32).toNatClampNeg (some q6) := ⟨_, rfl⟩
  rw [← ef_2] at hP hD
  obtain ⟨hP, hD⟩ : (fun w : va_W => va_P (dC, dI) vwCl w H ∧ va_D A w) ([(h0, .inr (0, [.int 0, .int 0, .int 0, .int 0, .int 0, .int 0, .ref q1, .ref q2, .ref q3, .ref q4, .ref q5])), (q1, .inl (cy 0, 2, .inl (fun _ => 0))), (q2, .inl (cy 0, 2, .inl (fun _ => 0))), (q3, .inl (cy 5, 2, .inr (.inr (.inr (.inr (fun i => if i < 2 then some (q3 + 1 + i) else none)))))), (q3 + 1, .inl (cy 0, 5, .inl (fun _ => 0))), (q3 + 2, .inl (cy 0, 5, .inl (fun _ => 0))), (q4, .inl (cy 5, 2, .inr (.inr (.inr (.inr (fun i => if i < 2 then some (q4 + 1 + i) else none)))))), (q4 + 1, .inl (cy 0, 24, .inl (fun _ => 0))), (q4 + 2, .inl (cy 0, 24, .inl (fun _ => 0))), (q5, .inl (cy 4, 5, .inr (.inr (.inr (.inr f_2))))), (q6, .inr (6, [.int 0, .int 0, .int 0, .int 0, .int 0]))] : va_W) := ⟨hP, hD⟩
  refine lv_iinc (v := 1) (lv' := [(1, .int 1), (0, .ref h0)]) hx hb dX0_init_67 hl (k := 0) rfl (by decide) (by decide) rfl (fun ls hl => ?_)
  refine lv_goto (tgt := 49) hx hb dX0_init_70 (by decide) ?_
  refine lv_iload_n hx hb dX0_init_49 rfl (lv_at hl 0 rfl) ?_
  refine lv_iconst (v := 5) hx hb dX0_init_50 (by decide) ?_
  refine lv_icmp_ge (tgt := 73) hx hb dX0_init_51 (by decide) (fun c9 => absurd c9 (by decide)) (fun _ => ?_)
  refine lv_aload_n hx hb dX0_init_54 rfl (lv_at hl 1 rfl) ?_
  refine va_get (D := (dC, dI)) (ci := 0) (v := .ref q5) (C := RX0) (T := TX0) (N := 11) hx hb hts iwX0_init_X0 hown hK hP 0 rfl rfl 10 (by decide) (hts (.fieldLink RX0 28 "QuietStairs$Case" "terms" "[LQuietStairs$Term;") fwX0_init_11) (fun _ h9 => h9) rfl dX0_init_55 ?_
  refine lv_iload_n hx hb dX0_init_58 rfl (lv_at hl 0 rfl) ?_
  refine va_new (ci := 6) (fs := [.int 0, .int 0, .int 0, .int 0, .int 0]) (C := RX6) (T := TX6) (N := 5) hx hb hts iwX0_init_X6 tyX6 tyX6_ok hown (hts (.classLink RX0 26 RX6) fwX0_init_10) (hts (.instantiable RX6 5) fwX0_init_12) (hts (.initialized RX6) fwX0_init_13) hK hP hD hS hA rfl (fun j hj => by rcases (show j = 0 ∨ j = 1 ∨ j = 2 ∨ j = 3 ∨ j = 4 by omega) with rfl | rfl | rfl | rfl | rfl <;> rfl) (Nat.le_of_ble_eq_true rfl) (Nat.le_of_ble_eq_true rfl) dX0_init_59 (fun q8 H hP hD hS => ?_)
  obtain ⟨hP, hD⟩ : (fun w : va_W => va_P (dC, dI) vwCl w H ∧ va_D A w) ([(h0, .inr (0, [.int 0, .int 0, .int 0, .int 0, .int 0, .int 0, .ref q1, .ref q2, .ref q3, .ref q4, .ref q5])), (q1, .inl (cy 0, 2, .inl (fun _ => 0))), (q2, .inl (cy 0, 2, .inl (fun _ => 0))), (q3, .inl (cy 5, 2, .inr (.inr (.inr (.inr (fun i => if i < 2 then some (q3 + 1 + i) else none)))))), (q3 + 1, .inl (cy 0, 5, .inl (fun _ => 0))), (q3 + 2, .inl (cy 0, 5, .inl (fun _ => 0))), (q4, .inl (cy 5, 2, .inr (.inr (.inr (.inr (fun i => if i < 2 then some (q4 + 1 + i) else none)))))), (q4 + 1, .inl (cy 0, 24, .inl (fun _ => 0))), (q4 + 2, .inl (cy 0, 24, .inl (fun _ => 0))), (q5, .inl (cy 4, 5, .inr (.inr (.inr (.inr f_2))))), (q6, .inr (6, [.int 0, .int 0, .int 0, .int 0, .int 0])), (q8, .inr (6, [.int 0, .int 0, .int 0, .int 0, .int 0]))] : va_W) := ⟨hP, hD⟩
  refine W.widen (k := 11) (n := 81) (by omega) (by omega) ?_
  refine lv_dup hx hb dX0_init_62 rfl ?_
  refine yc_v (wc := ([(q8, .inr (6, [.int 0, .int 0, .int 0, .int 0, .int 0]))] : va_W)) (wr := ([(h0, .inr (0, [.int 0, .int 0, .int 0, .int 0, .int 0, .int 0, .ref q1, .ref q2, .ref q3, .ref q4, .ref q5])), (q1, .inl (cy 0, 2, .inl (fun _ => 0))), (q2, .inl (cy 0, 2, .inl (fun _ => 0))), (q3, .inl (cy 5, 2, .inr (.inr (.inr (.inr (fun i => if i < 2 then some (q3 + 1 + i) else none)))))), (q3 + 1, .inl (cy 0, 5, .inl (fun _ => 0))), (q3 + 2, .inl (cy 0, 5, .inl (fun _ => 0))), (q4, .inl (cy 5, 2, .inr (.inr (.inr (.inr (fun i => if i < 2 then some (q4 + 1 + i) else none)))))), (q4 + 1, .inl (cy 0, 24, .inl (fun _ => 0))), (q4 + 2, .inl (cy 0, 24, .inl (fun _ => 0))), (q5, .inl (cy 4, 5, .inr (.inr (.inr (.inr f_2))))), (q6, .inr (6, [.int 0, .int 0, .int 0, .int 0, .int 0]))] : va_W)) (w1 := fun _ => ([(q8, .inr (6, [.int 0, .int 0, .int 0, .int 0, .int 0]))] : va_W)) hP hD hS hA [11] [0, 1, 2, 3, 4, 5, 6, 7, 8, 9, 10] rfl rfl (by decide) (by decide) (va_runIN (As := []) (rest := [.ref q8, .int 1, .ref q5]) ⟨hx, hb, hml, hown, hts⟩ (c_X6_init l dC dI cy _ q8) ⟨va_cnB 0 hts gX0_init_X6_init_n32 rfl rfl rfl hE.2.2.1 (hts (.initialized RX6) fwX0_init_13) (by decide +kernel) ⟨Nat.le_of_ble_eq_true rfl, Nat.le_of_ble_eq_true rfl⟩, rfl, (hts (.instanceMethod yX6_init) fwX0_init_14)⟩ (ex_preS hE hK hP hD [11] (by decide) rfl) rfl rfl hl.1 rfl (lv_room (Nat.le_of_ble_eq_true rfl)) dX0_init_63 ⟨Nat.le_of_ble_eq_true rfl, Nat.le_of_ble_eq_true rfl⟩) (fun u_3 H locs hw_3 hP hD hS => ?_)
  obtain ⟨hP, hD⟩ : (fun w : va_W => va_P (dC, dI) vwCl w H ∧ va_D A w) ([(h0, .inr (0, [.int 0, .int 0, .int 0, .int 0, .int 0, .int 0, .ref q1, .ref q2, .ref q3, .ref q4, .ref q5])), (q1, .inl (cy 0, 2, .inl (fun _ => 0))), (q2, .inl (cy 0, 2, .inl (fun _ => 0))), (q3, .inl (cy 5, 2, .inr (.inr (.inr (.inr (fun i => if i < 2 then some (q3 + 1 + i) else none)))))), (q3 + 1, .inl (cy 0, 5, .inl (fun _ => 0))), (q3 + 2, .inl (cy 0, 5, .inl (fun _ => 0))), (q4, .inl (cy 5, 2, .inr (.inr (.inr (.inr (fun i => if i < 2 then some (q4 + 1 + i) else none)))))), (q4 + 1, .inl (cy 0, 24, .inl (fun _ => 0))), (q4 + 2, .inl (cy 0, 24, .inl (fun _ => 0))), (q5, .inl (cy 4, 5, .inr (.inr (.inr (.inr f_2))))), (q6, .inr (6, [.int 0, .int 0, .int 0, .int 0, .int 0])), (q8, .inr (6, [.int 0, .int 0, .int 0, .int 0, .int 0]))] : va_W) := ⟨hP, hD⟩
  refine va_astq hx hb hK hP hD hS 9 4 11 6 rfl rfl rfl rfl (by unfold vp_in; decide) dX0_init_66 (fun H locs hP hD hS => ?_)
  obtain ⟨f_4, ef_4⟩ : ∃ f9 : Nat → Option Nat, f9 = va_up f_2 (1 : Int32).toNatClampNeg (some q8) := ⟨_, rfl⟩
  rw [← ef_4] at hP hD
  obtain ⟨hP, hD⟩ : (fun w : va_W => va_P (dC, dI) vwCl w H ∧ va_D A w) ([(h0, .inr (0, [.int 0, .int 0, .int 0, .int 0, .int 0, .int 0, .ref q1, .ref q2, .ref q3, .ref q4, .ref q5])), (q1, .inl (cy 0, 2, .inl (fun _ => 0))), (q2, .inl (cy 0, 2, .inl (fun _ => 0))), (q3, .inl (cy 5, 2, .inr (.inr (.inr (.inr (fun i => if i < 2 then some (q3 + 1 + i) else none)))))), (q3 + 1, .inl (cy 0, 5, .inl (fun _ => 0))), (q3 + 2, .inl (cy 0, 5, .inl (fun _ => 0))), (q4, .inl (cy 5, 2, .inr (.inr (.inr (.inr (fun i => if i < 2 then some (q4 + 1 + i) else none)))))), (q4 + 1, .inl (cy 0, 24, .inl (fun _ => 0))), (q4 + 2, .inl (cy 0, 24, .inl (fun _ => 0))), (q5, .inl (cy 4, 5, .inr (.inr (.inr (.inr f_4))))), (q6, .inr (6, [.int 0, .int 0, .int 0, .int 0, .int 0])), (q8, .inr (6, [.int 0, .int 0, .int 0, .int 0, .int 0]))] : va_W) := ⟨hP, hD⟩
  refine lv_iinc (v := 2) (lv' := [(1, .int 2), (0, .ref h0)]) hx hb dX0_init_67 hl (k := 0) rfl (by decide) (by decide) rfl (fun ls hl => ?_)
  refine lv_goto (tgt := 49) hx hb dX0_init_70 (by decide) ?_
  refine lv_iload_n hx hb dX0_init_49 rfl (lv_at hl 0 rfl) ?_
  refine lv_iconst (v := 5) hx hb dX0_init_50 (by decide) ?_
  refine lv_icmp_ge (tgt := 73) hx hb dX0_init_51 (by decide) (fun c9 => absurd c9 (by decide)) (fun _ => ?_)
  refine lv_aload_n hx hb dX0_init_54 rfl (lv_at hl 1 rfl) ?_
  refine va_get (D := (dC, dI)) (ci := 0) (v := .ref q5) (C := RX0) (T := TX0) (N := 11) hx hb hts iwX0_init_X0 hown hK hP 0 rfl rfl 10 (by decide) (hts (.fieldLink RX0 28 "QuietStairs$Case" "terms" "[LQuietStairs$Term;") fwX0_init_11) (fun _ h9 => h9) rfl dX0_init_55 ?_
  refine lv_iload_n hx hb dX0_init_58 rfl (lv_at hl 0 rfl) ?_
  refine va_new (ci := 6) (fs := [.int 0, .int 0, .int 0, .int 0, .int 0]) (C := RX6) (T := TX6) (N := 5) hx hb hts iwX0_init_X6 tyX6 tyX6_ok hown (hts (.classLink RX0 26 RX6) fwX0_init_10) (hts (.instantiable RX6 5) fwX0_init_12) (hts (.initialized RX6) fwX0_init_13) hK hP hD hS hA rfl (fun j hj => by rcases (show j = 0 ∨ j = 1 ∨ j = 2 ∨ j = 3 ∨ j = 4 by omega) with rfl | rfl | rfl | rfl | rfl <;> rfl) (Nat.le_of_ble_eq_true rfl) (Nat.le_of_ble_eq_true rfl) dX0_init_59 (fun q10 H hP hD hS => ?_)
  obtain ⟨hP, hD⟩ : (fun w : va_W => va_P (dC, dI) vwCl w H ∧ va_D A w) ([(h0, .inr (0, [.int 0, .int 0, .int 0, .int 0, .int 0, .int 0, .ref q1, .ref q2, .ref q3, .ref q4, .ref q5])), (q1, .inl (cy 0, 2, .inl (fun _ => 0))), (q2, .inl (cy 0, 2, .inl (fun _ => 0))), (q3, .inl (cy 5, 2, .inr (.inr (.inr (.inr (fun i => if i < 2 then some (q3 + 1 + i) else none)))))), (q3 + 1, .inl (cy 0, 5, .inl (fun _ => 0))), (q3 + 2, .inl (cy 0, 5, .inl (fun _ => 0))), (q4, .inl (cy 5, 2, .inr (.inr (.inr (.inr (fun i => if i < 2 then some (q4 + 1 + i) else none)))))), (q4 + 1, .inl (cy 0, 24, .inl (fun _ => 0))), (q4 + 2, .inl (cy 0, 24, .inl (fun _ => 0))), (q5, .inl (cy 4, 5, .inr (.inr (.inr (.inr f_4))))), (q6, .inr (6, [.int 0, .int 0, .int 0, .int 0, .int 0])), (q8, .inr (6, [.int 0, .int 0, .int 0, .int 0, .int 0])), (q10, .inr (6, [.int 0, .int 0, .int 0, .int 0, .int 0]))] : va_W) := ⟨hP, hD⟩
  refine W.widen (k := 12) (n := 86) (by omega) (by omega) ?_
  refine lv_dup hx hb dX0_init_62 rfl ?_
  refine yc_v (wc := ([(q10, .inr (6, [.int 0, .int 0, .int 0, .int 0, .int 0]))] : va_W)) (wr := ([(h0, .inr (0, [.int 0, .int 0, .int 0, .int 0, .int 0, .int 0, .ref q1, .ref q2, .ref q3, .ref q4, .ref q5])), (q1, .inl (cy 0, 2, .inl (fun _ => 0))), (q2, .inl (cy 0, 2, .inl (fun _ => 0))), (q3, .inl (cy 5, 2, .inr (.inr (.inr (.inr (fun i => if i < 2 then some (q3 + 1 + i) else none)))))), (q3 + 1, .inl (cy 0, 5, .inl (fun _ => 0))), (q3 + 2, .inl (cy 0, 5, .inl (fun _ => 0))), (q4, .inl (cy 5, 2, .inr (.inr (.inr (.inr (fun i => if i < 2 then some (q4 + 1 + i) else none)))))), (q4 + 1, .inl (cy 0, 24, .inl (fun _ => 0))), (q4 + 2, .inl (cy 0, 24, .inl (fun _ => 0))), (q5, .inl (cy 4, 5, .inr (.inr (.inr (.inr f_4))))), (q6, .inr (6, [.int 0, .int 0, .int 0, .int 0, .int 0])), (q8, .inr (6, [.int 0, .int 0, .int 0, .int 0, .int 0]))] : va_W)) (w1 := fun _ => ([(q10, .inr (6, [.int 0, .int 0, .int 0, .int 0, .int 0]))] : va_W)) hP hD hS hA [12] [0, 1, 2, 3, 4, 5, 6, 7, 8, 9, 10, 11] rfl rfl (by decide) (by decide) (va_runIN (As := []) (rest := [.ref q10, .int 2, .ref q5]) ⟨hx, hb, hml, hown, hts⟩ (c_X6_init l dC dI cy _ q10) ⟨va_cnB 0 hts gX0_init_X6_init_n32 rfl rfl rfl hE.2.2.1 (hts (.initialized RX6) fwX0_init_13) (by decide +kernel) ⟨Nat.le_of_ble_eq_true rfl, Nat.le_of_ble_eq_true rfl⟩, rfl, (hts (.instanceMethod yX6_init) fwX0_init_14)⟩ (ex_preS hE hK hP hD [12] (by decide) rfl) rfl rfl hl.1 rfl (lv_room (Nat.le_of_ble_eq_true rfl)) dX0_init_63 ⟨Nat.le_of_ble_eq_true rfl, Nat.le_of_ble_eq_true rfl⟩) (fun u_5 H locs hw_5 hP hD hS => ?_)
  obtain ⟨hP, hD⟩ : (fun w : va_W => va_P (dC, dI) vwCl w H ∧ va_D A w) ([(h0, .inr (0, [.int 0, .int 0, .int 0, .int 0, .int 0, .int 0, .ref q1, .ref q2, .ref q3, .ref q4, .ref q5])), (q1, .inl (cy 0, 2, .inl (fun _ => 0))), (q2, .inl (cy 0, 2, .inl (fun _ => 0))), (q3, .inl (cy 5, 2, .inr (.inr (.inr (.inr (fun i => if i < 2 then some (q3 + 1 + i) else none)))))), (q3 + 1, .inl (cy 0, 5, .inl (fun _ => 0))), (q3 + 2, .inl (cy 0, 5, .inl (fun _ => 0))), (q4, .inl (cy 5, 2, .inr (.inr (.inr (.inr (fun i => if i < 2 then some (q4 + 1 + i) else none)))))), (q4 + 1, .inl (cy 0, 24, .inl (fun _ => 0))), (q4 + 2, .inl (cy 0, 24, .inl (fun _ => 0))), (q5, .inl (cy 4, 5, .inr (.inr (.inr (.inr f_4))))), (q6, .inr (6, [.int 0, .int 0, .int 0, .int 0, .int 0])), (q8, .inr (6, [.int 0, .int 0, .int 0, .int 0, .int 0])), (q10, .inr (6, [.int 0, .int 0, .int 0, .int 0, .int 0]))] : va_W) := ⟨hP, hD⟩
  refine va_astq hx hb hK hP hD hS 9 4 12 6 rfl rfl rfl rfl (by unfold vp_in; decide) dX0_init_66 (fun H locs hP hD hS => ?_)
  obtain ⟨f_6, ef_6⟩ : ∃ f9 : Nat → Option Nat, f9 = va_up f_4 (2 : Int32).toNatClampNeg (some q10) := ⟨_, rfl⟩
  rw [← ef_6] at hP hD
  obtain ⟨hP, hD⟩ : (fun w : va_W => va_P (dC, dI) vwCl w H ∧ va_D A w) ([(h0, .inr (0, [.int 0, .int 0, .int 0, .int 0, .int 0, .int 0, .ref q1, .ref q2, .ref q3, .ref q4, .ref q5])), (q1, .inl (cy 0, 2, .inl (fun _ => 0))), (q2, .inl (cy 0, 2, .inl (fun _ => 0))), (q3, .inl (cy 5, 2, .inr (.inr (.inr (.inr (fun i => if i < 2 then some (q3 + 1 + i) else none)))))), (q3 + 1, .inl (cy 0, 5, .inl (fun _ => 0))), (q3 + 2, .inl (cy 0, 5, .inl (fun _ => 0))), (q4, .inl (cy 5, 2, .inr (.inr (.inr (.inr (fun i => if i < 2 then some (q4 + 1 + i) else none)))))), (q4 + 1, .inl (cy 0, 24, .inl (fun _ => 0))), (q4 + 2, .inl (cy 0, 24, .inl (fun _ => 0))), (q5, .inl (cy 4, 5, .inr (.inr (.inr (.inr f_6))))), (q6, .inr (6, [.int 0, .int 0, .int 0, .int 0, .int 0])), (q8, .inr (6, [.int 0, .int 0, .int 0, .int 0, .int 0])), (q10, .inr (6, [.int 0, .int 0, .int 0, .int 0, .int 0]))] : va_W) := ⟨hP, hD⟩
  refine lv_iinc (v := 3) (lv' := [(1, .int 3), (0, .ref h0)]) hx hb dX0_init_67 hl (k := 0) rfl (by decide) (by decide) rfl (fun ls hl => ?_)
  refine lv_goto (tgt := 49) hx hb dX0_init_70 (by decide) ?_
  refine lv_iload_n hx hb dX0_init_49 rfl (lv_at hl 0 rfl) ?_
  refine lv_iconst (v := 5) hx hb dX0_init_50 (by decide) ?_
  refine lv_icmp_ge (tgt := 73) hx hb dX0_init_51 (by decide) (fun c9 => absurd c9 (by decide)) (fun _ => ?_)
  refine lv_aload_n hx hb dX0_init_54 rfl (lv_at hl 1 rfl) ?_
  refine va_get (D := (dC, dI)) (ci := 0) (v := .ref q5) (C := RX0) (T := TX0) (N := 11) hx hb hts iwX0_init_X0 hown hK hP 0 rfl rfl 10 (by decide) (hts (.fieldLink RX0 28 "QuietStairs$Case" "terms" "[LQuietStairs$Term;") fwX0_init_11) (fun _ h9 => h9) rfl dX0_init_55 ?_
  refine lv_iload_n hx hb dX0_init_58 rfl (lv_at hl 0 rfl) ?_
  refine va_new (ci := 6) (fs := [.int 0, .int 0, .int 0, .int 0, .int 0]) (C := RX6) (T := TX6) (N := 5) hx hb hts iwX0_init_X6 tyX6 tyX6_ok hown (hts (.classLink RX0 26 RX6) fwX0_init_10) (hts (.instantiable RX6 5) fwX0_init_12) (hts (.initialized RX6) fwX0_init_13) hK hP hD hS hA rfl (fun j hj => by rcases (show j = 0 ∨ j = 1 ∨ j = 2 ∨ j = 3 ∨ j = 4 by omega) with rfl | rfl | rfl | rfl | rfl <;> rfl) (Nat.le_of_ble_eq_true rfl) (Nat.le_of_ble_eq_true rfl) dX0_init_59 (fun q12 H hP hD hS => ?_)
  obtain ⟨hP, hD⟩ : (fun w : va_W => va_P (dC, dI) vwCl w H ∧ va_D A w) ([(h0, .inr (0, [.int 0, .int 0, .int 0, .int 0, .int 0, .int 0, .ref q1, .ref q2, .ref q3, .ref q4, .ref q5])), (q1, .inl (cy 0, 2, .inl (fun _ => 0))), (q2, .inl (cy 0, 2, .inl (fun _ => 0))), (q3, .inl (cy 5, 2, .inr (.inr (.inr (.inr (fun i => if i < 2 then some (q3 + 1 + i) else none)))))), (q3 + 1, .inl (cy 0, 5, .inl (fun _ => 0))), (q3 + 2, .inl (cy 0, 5, .inl (fun _ => 0))), (q4, .inl (cy 5, 2, .inr (.inr (.inr (.inr (fun i => if i < 2 then some (q4 + 1 + i) else none)))))), (q4 + 1, .inl (cy 0, 24, .inl (fun _ => 0))), (q4 + 2, .inl (cy 0, 24, .inl (fun _ => 0))), (q5, .inl (cy 4, 5, .inr (.inr (.inr (.inr f_6))))), (q6, .inr (6, [.int 0, .int 0, .int 0, .int 0, .int 0])), (q8, .inr (6, [.int 0, .int 0, .int 0, .int 0, .int 0])), (q10, .inr (6, [.int 0, .int 0, .int 0, .int 0, .int 0])), (q12, .inr (6, [.int 0, .int 0, .int 0, .int 0, .int 0]))] : va_W) := ⟨hP, hD⟩
  refine W.widen (k := 13) (n := 91) (by omega) (by omega) ?_
  refine lv_dup hx hb dX0_init_62 rfl ?_
  refine yc_v (wc := ([(q12, .inr (6, [.int 0, .int 0, .int 0, .int 0, .int 0]))] : va_W)) (wr := ([(h0, .inr (0, [.int 0, .int 0, .int 0, .int 0, .int 0, .int 0, .ref q1, .ref q2, .ref q3, .ref q4, .ref q5])), (q1, .inl (cy 0, 2, .inl (fun _ => 0))), (q2, .inl (cy 0, 2, .inl (fun _ => 0))), (q3, .inl (cy 5, 2, .inr (.inr (.inr (.inr (fun i => if i < 2 then some (q3 + 1 + i) else none)))))), (q3 + 1, .inl (cy 0, 5, .inl (fun _ => 0))), (q3 + 2, .inl (cy 0, 5, .inl (fun _ => 0))), (q4, .inl (cy 5, 2, .inr (.inr (.inr (.inr (fun i => if i < 2 then some (q4 + 1 + i) else none)))))), (q4 + 1, .inl (cy 0, 24, .inl (fun _ => 0))), (q4 + 2, .inl (cy 0, 24, .inl (fun _ => 0))), (q5, .inl (cy 4, 5, .inr (.inr (.inr (.inr f_6))))), (q6, .inr (6, [.int 0, .int 0, .int 0, .int 0, .int 0])), (q8, .inr (6, [.int 0, .int 0, .int 0, .int 0, .int 0])), (q10, .inr (6, [.int 0, .int 0, .int 0, .int 0, .int 0]))] : va_W)) (w1 := fun _ => ([(q12, .inr (6, [.int 0, .int 0, .int 0, .int 0, .int 0]))] : va_W)) hP hD hS hA [13] [0, 1, 2, 3, 4, 5, 6, 7, 8, 9, 10, 11, 12] rfl rfl (by decide) (by decide) (va_runIN (As := []) (rest := [.ref q12, .int 3, .ref q5]) ⟨hx, hb, hml, hown, hts⟩ (c_X6_init l dC dI cy _ q12) ⟨va_cnB 0 hts gX0_init_X6_init_n32 rfl rfl rfl hE.2.2.1 (hts (.initialized RX6) fwX0_init_13) (by decide +kernel) ⟨Nat.le_of_ble_eq_true rfl, Nat.le_of_ble_eq_true rfl⟩, rfl, (hts (.instanceMethod yX6_init) fwX0_init_14)⟩ (ex_preS hE hK hP hD [13] (by decide) rfl) rfl rfl hl.1 rfl (lv_room (Nat.le_of_ble_eq_true rfl)) dX0_init_63 ⟨Nat.le_of_ble_eq_true rfl, Nat.le_of_ble_eq_true rfl⟩) (fun u_7 H locs hw_7 hP hD hS => ?_)
  obtain ⟨hP, hD⟩ : (fun w : va_W => va_P (dC, dI) vwCl w H ∧ va_D A w) ([(h0, .inr (0, [.int 0, .int 0, .int 0, .int 0, .int 0, .int 0, .ref q1, .ref q2, .ref q3, .ref q4, .ref q5])), (q1, .inl (cy 0, 2, .inl (fun _ => 0))), (q2, .inl (cy 0, 2, .inl (fun _ => 0))), (q3, .inl (cy 5, 2, .inr (.inr (.inr (.inr (fun i => if i < 2 then some (q3 + 1 + i) else none)))))), (q3 + 1, .inl (cy 0, 5, .inl (fun _ => 0))), (q3 + 2, .inl (cy 0, 5, .inl (fun _ => 0))), (q4, .inl (cy 5, 2, .inr (.inr (.inr (.inr (fun i => if i < 2 then some (q4 + 1 + i) else none)))))), (q4 + 1, .inl (cy 0, 24, .inl (fun _ => 0))), (q4 + 2, .inl (cy 0, 24, .inl (fun _ => 0))), (q5, .inl (cy 4, 5, .inr (.inr (.inr (.inr f_6))))), (q6, .inr (6, [.int 0, .int 0, .int 0, .int 0, .int 0])), (q8, .inr (6, [.int 0, .int 0, .int 0, .int 0, .int 0])), (q10, .inr (6, [.int 0, .int 0, .int 0, .int 0, .int 0])), (q12, .inr (6, [.int 0, .int 0, .int 0, .int 0, .int 0]))] : va_W) := ⟨hP, hD⟩
  refine va_astq hx hb hK hP hD hS 9 4 13 6 rfl rfl rfl rfl (by unfold vp_in; decide) dX0_init_66 (fun H locs hP hD hS => ?_)
  obtain ⟨f_8, ef_8⟩ : ∃ f9 : Nat → Option Nat, f9 = va_up f_6 (3 : Int32).toNatClampNeg (some q12) := ⟨_, rfl⟩
  rw [← ef_8] at hP hD
  obtain ⟨hP, hD⟩ : (fun w : va_W => va_P (dC, dI) vwCl w H ∧ va_D A w) ([(h0, .inr (0, [.int 0, .int 0, .int 0, .int 0, .int 0, .int 0, .ref q1, .ref q2, .ref q3, .ref q4, .ref q5])), (q1, .inl (cy 0, 2, .inl (fun _ => 0))), (q2, .inl (cy 0, 2, .inl (fun _ => 0))), (q3, .inl (cy 5, 2, .inr (.inr (.inr (.inr (fun i => if i < 2 then some (q3 + 1 + i) else none)))))), (q3 + 1, .inl (cy 0, 5, .inl (fun _ => 0))), (q3 + 2, .inl (cy 0, 5, .inl (fun _ => 0))), (q4, .inl (cy 5, 2, .inr (.inr (.inr (.inr (fun i => if i < 2 then some (q4 + 1 + i) else none)))))), (q4 + 1, .inl (cy 0, 24, .inl (fun _ => 0))), (q4 + 2, .inl (cy 0, 24, .inl (fun _ => 0))), (q5, .inl (cy 4, 5, .inr (.inr (.inr (.inr f_8))))), (q6, .inr (6, [.int 0, .int 0, .int 0, .int 0, .int 0])), (q8, .inr (6, [.int 0, .int 0, .int 0, .int 0, .int 0])), (q10, .inr (6, [.int 0, .int 0, .int 0, .int 0, .int 0])), (q12, .inr (6, [.int 0, .int 0, .int 0, .int 0, .int 0]))] : va_W) := ⟨hP, hD⟩
  refine lv_iinc (v := 4) (lv' := [(1, .int 4), (0, .ref h0)]) hx hb dX0_init_67 hl (k := 0) rfl (by decide) (by decide) rfl (fun ls hl => ?_)
  refine lv_goto (tgt := 49) hx hb dX0_init_70 (by decide) ?_
  refine lv_iload_n hx hb dX0_init_49 rfl (lv_at hl 0 rfl) ?_
  refine lv_iconst (v := 5) hx hb dX0_init_50 (by decide) ?_
  refine lv_icmp_ge (tgt := 73) hx hb dX0_init_51 (by decide) (fun c9 => absurd c9 (by decide)) (fun _ => ?_)
  refine lv_aload_n hx hb dX0_init_54 rfl (lv_at hl 1 rfl) ?_
  refine va_get (D := (dC, dI)) (ci := 0) (v := .ref q5) (C := RX0) (T := TX0) (N := 11) hx hb hts iwX0_init_X0 hown hK hP 0 rfl rfl 10 (by decide) (hts (.fieldLink RX0 28 "QuietStairs$Case" "terms" "[LQuietStairs$Term;") fwX0_init_11) (fun _ h9 => h9) rfl dX0_init_55 ?_
  refine lv_iload_n hx hb dX0_init_58 rfl (lv_at hl 0 rfl) ?_
  refine va_new (ci := 6) (fs := [.int 0, .int 0, .int 0, .int 0, .int 0]) (C := RX6) (T := TX6) (N := 5) hx hb hts iwX0_init_X6 tyX6 tyX6_ok hown (hts (.classLink RX0 26 RX6) fwX0_init_10) (hts (.instantiable RX6 5) fwX0_init_12) (hts (.initialized RX6) fwX0_init_13) hK hP hD hS hA rfl (fun j hj => by rcases (show j = 0 ∨ j = 1 ∨ j = 2 ∨ j = 3 ∨ j = 4 by omega) with rfl | rfl | rfl | rfl | rfl <;> rfl) (Nat.le_of_ble_eq_true rfl) (Nat.le_of_ble_eq_true rfl) dX0_init_59 (fun q14 H hP hD hS => ?_)
  obtain ⟨hP, hD⟩ : (fun w : va_W => va_P (dC, dI) vwCl w H ∧ va_D A w) ([(h0, .inr (0, [.int 0, .int 0, .int 0, .int 0, .int 0, .int 0, .ref q1, .ref q2, .ref q3, .ref q4, .ref q5])), (q1, .inl (cy 0, 2, .inl (fun _ => 0))), (q2, .inl (cy 0, 2, .inl (fun _ => 0))), (q3, .inl (cy 5, 2, .inr (.inr (.inr (.inr (fun i => if i < 2 then some (q3 + 1 + i) else none)))))), (q3 + 1, .inl (cy 0, 5, .inl (fun _ => 0))), (q3 + 2, .inl (cy 0, 5, .inl (fun _ => 0))), (q4, .inl (cy 5, 2, .inr (.inr (.inr (.inr (fun i => if i < 2 then some (q4 + 1 + i) else none)))))), (q4 + 1, .inl (cy 0, 24, .inl (fun _ => 0))), (q4 + 2, .inl (cy 0, 24, .inl (fun _ => 0))), (q5, .inl (cy 4, 5, .inr (.inr (.inr (.inr f_8))))), (q6, .inr (6, [.int 0, .int 0, .int 0, .int 0, .int 0])), (q8, .inr (6, [.int 0, .int 0, .int 0, .int 0, .int 0])), (q10, .inr (6, [.int 0, .int 0, .int 0, .int 0, .int 0])), (q12, .inr (6, [.int 0, .int 0, .int 0, .int 0, .int 0])), (q14, .inr (6, [.int 0, .int 0, .int 0, .int 0, .int 0]))] : va_W) := ⟨hP, hD⟩
  refine W.widen (k := 14) (n := 96) (by omega) (by omega) ?_
  refine lv_dup hx hb dX0_init_62 rfl ?_
  refine yc_v (wc := ([(q14, .inr (6, [.int 0, .int 0, .int 0, .int 0, .int 0]))] : va_W)) (wr := ([(h0, .inr (0, [.int 0, .int 0, .int 0, .int 0, .int 0, .int 0, .ref q1, .ref q2, .ref q3, .ref q4, .ref q5])), (q1, .inl (cy 0, 2, .inl (fun _ => 0))), (q2, .inl (cy 0, 2, .inl (fun _ => 0))), (q3, .inl (cy 5, 2, .inr (.inr (.inr (.inr (fun i => if i < 2 then some (q3 + 1 + i) else none)))))), (q3 + 1, .inl (cy 0, 5, .inl (fun _ => 0))), (q3 + 2, .inl (cy 0, 5, .inl (fun _ => 0))), (q4, .inl (cy 5, 2, .inr (.inr (.inr (.inr (fun i => if i < 2 then some (q4 + 1 + i) else none)))))), (q4 + 1, .inl (cy 0, 24, .inl (fun _ => 0))), (q4 + 2, .inl (cy 0, 24, .inl (fun _ => 0))), (q5, .inl (cy 4, 5, .inr (.inr (.inr (.inr f_8))))), (q6, .inr (6, [.int 0, .int 0, .int 0, .int 0, .int 0])), (q8, .inr (6, [.int 0, .int 0, .int 0, .int 0, .int 0])), (q10, .inr (6, [.int 0, .int 0, .int 0, .int 0, .int 0])), (q12, .inr (6, [.int 0, .int 0, .int 0, .int 0, .int 0]))] : va_W)) (w1 := fun _ => ([(q14, .inr (6, [.int 0, .int 0, .int 0, .int 0, .int 0]))] : va_W)) hP hD hS hA [14] [0, 1, 2, 3, 4, 5, 6, 7, 8, 9, 10, 11, 12, 13] rfl rfl (by decide) (by decide) (va_runIN (As := []) (rest := [.ref q14, .int 4, .ref q5]) ⟨hx, hb, hml, hown, hts⟩ (c_X6_init l dC dI cy _ q14) ⟨va_cnB 0 hts gX0_init_X6_init_n32 rfl rfl rfl hE.2.2.1 (hts (.initialized RX6) fwX0_init_13) (by decide +kernel) ⟨Nat.le_of_ble_eq_true rfl, Nat.le_of_ble_eq_true rfl⟩, rfl, (hts (.instanceMethod yX6_init) fwX0_init_14)⟩ (ex_preS hE hK hP hD [14] (by decide) rfl) rfl rfl hl.1 rfl (lv_room (Nat.le_of_ble_eq_true rfl)) dX0_init_63 ⟨Nat.le_of_ble_eq_true rfl, Nat.le_of_ble_eq_true rfl⟩) (fun u_9 H locs hw_9 hP hD hS => ?_)
  obtain ⟨hP, hD⟩ : (fun w : va_W => va_P (dC, dI) vwCl w H ∧ va_D A w) ([(h0, .inr (0, [.int 0, .int 0, .int 0, .int 0, .int 0, .int 0, .ref q1, .ref q2, .ref q3, .ref q4, .ref q5])), (q1, .inl (cy 0, 2, .inl (fun _ => 0))), (q2, .inl (cy 0, 2, .inl (fun _ => 0))), (q3, .inl (cy 5, 2, .inr (.inr (.inr (.inr (fun i => if i < 2 then some (q3 + 1 + i) else none)))))), (q3 + 1, .inl (cy 0, 5, .inl (fun _ => 0))), (q3 + 2, .inl (cy 0, 5, .inl (fun _ => 0))), (q4, .inl (cy 5, 2, .inr (.inr (.inr (.inr (fun i => if i < 2 then some (q4 + 1 + i) else none)))))), (q4 + 1, .inl (cy 0, 24, .inl (fun _ => 0))), (q4 + 2, .inl (cy 0, 24, .inl (fun _ => 0))), (q5, .inl (cy 4, 5, .inr (.inr (.inr (.inr f_8))))), (q6, .inr (6, [.int 0, .int 0, .int 0, .int 0, .int 0])), (q8, .inr (6, [.int 0, .int 0, .int 0, .int 0, .int 0])), (q10, .inr (6, [.int 0, .int 0, .int 0, .int 0, .int 0])), (q12, .inr (6, [.int 0, .int 0, .int 0, .int 0, .int 0])), (q14, .inr (6, [.int 0, .int 0, .int 0, .int 0, .int 0]))] : va_W) := ⟨hP, hD⟩
  refine va_astq hx hb hK hP hD hS 9 4 14 6 rfl rfl rfl rfl (by unfold vp_in; decide) dX0_init_66 (fun H locs hP hD hS => ?_)
  obtain ⟨f_10, ef_10⟩ : ∃ f9 : Nat → Option Nat, f9 = va_up f_8 (4 : Int32).toNatClampNeg (some q14) := ⟨_, rfl⟩
  rw [← ef_10] at hP hD
  obtain ⟨hP, hD⟩ : (fun w : va_W => va_P (dC, dI) vwCl w H ∧ va_D A w) ([(h0, .inr (0, [.int 0, .int 0, .int 0, .int 0, .int 0, .int 0, .ref q1, .ref q2, .ref q3, .ref q4, .ref q5])), (q1, .inl (cy 0, 2, .inl (fun _ => 0))), (q2, .inl (cy 0, 2, .inl (fun _ => 0))), (q3, .inl (cy 5, 2, .inr (.inr (.inr (.inr (fun i => if i < 2 then some (q3 + 1 + i) else none)))))), (q3 + 1, .inl (cy 0, 5, .inl (fun _ => 0))), (q3 + 2, .inl (cy 0, 5, .inl (fun _ => 0))), (q4, .inl (cy 5, 2, .inr (.inr (.inr (.inr (fun i => if i < 2 then some (q4 + 1 + i) else none)))))), (q4 + 1, .inl (cy 0, 24, .inl (fun _ => 0))), (q4 + 2, .inl (cy 0, 24, .inl (fun _ => 0))), (q5, .inl (cy 4, 5, .inr (.inr (.inr (.inr f_10))))), (q6, .inr (6, [.int 0, .int 0, .int 0, .int 0, .int 0])), (q8, .inr (6, [.int 0, .int 0, .int 0, .int 0, .int 0])), (q10, .inr (6, [.int 0, .int 0, .int 0, .int 0, .int 0])), (q12, .inr (6, [.int 0, .int 0, .int 0, .int 0, .int 0])), (q14, .inr (6, [.int 0, .int 0, .int 0, .int 0, .int 0]))] : va_W) := ⟨hP, hD⟩
  refine lv_iinc (v := 5) (lv' := [(1, .int 5), (0, .ref h0)]) hx hb dX0_init_67 hl (k := 0) rfl (by decide) (by decide) rfl (fun ls hl => ?_)
  refine lv_goto (tgt := 49) hx hb dX0_init_70 (by decide) ?_
  refine lv_iload_n hx hb dX0_init_49 rfl (lv_at hl 0 rfl) ?_
  refine lv_iconst (v := 5) hx hb dX0_init_50 (by decide) ?_
  refine lv_icmp_ge (tgt := 73) hx hb dX0_init_51 (by decide) (fun _ => ?_) (fun c9 => absurd c9 (by decide))
  have z0 : ∀ j, j < 0 → (fun _ => none : Nat → Option Nat) j = some ((fun j => (fun k => ([h0, q1, q2, q3, q3 + 1, q3 + 2, q4, q4 + 1, q4 + 2, q5, q6, q8, q10, q12, q14] : List Nat).getD k 0) (10 + j)) j) := fun j h => absurd h (Nat.not_lt_zero j)
  have y0 : ∀ j, 5 ≤ j → (fun _ => none : Nat → Option Nat) j = none := fun _ _ => rfl
  have z1 := up_s (i := 0) (U := fun j => (fun k => ([h0, q1, q2, q3, q3 + 1, q3 + 2, q4, q4 + 1, q4 + 2, q5, q6, q8, q10, q12, q14] : List Nat).getD k 0) (10 + j)) ef_2 (by decide) z0 rfl
  have y1 := up_n (n := 5) ef_2 (by decide) y0
  have z2 := up_s (i := 1) (U := fun j => (fun k => ([h0, q1, q2, q3, q3 + 1, q3 + 2, q4, q4 + 1, q4 + 2, q5, q6, q8, q10, q12, q14] : List Nat).getD k 0) (10 + j)) ef_4 (by decide) z1 rfl
  have y2 := up_n (n := 5) ef_4 (by decide) y1
  have z3 := up_s (i := 2) (U := fun j => (fun k => ([h0, q1, q2, q3, q3 + 1, q3 + 2, q4, q4 + 1, q4 + 2, q5, q6, q8, q10, q12, q14] : List Nat).getD k 0) (10 + j)) ef_6 (by decide) z2 rfl
  have y3 := up_n (n := 5) ef_6 (by decide) y2
  have z4 := up_s (i := 3) (U := fun j => (fun k => ([h0, q1, q2, q3, q3 + 1, q3 + 2, q4, q4 + 1, q4 + 2, q5, q6, q8, q10, q12, q14] : List Nat).getD k 0) (10 + j)) ef_8 (by decide) z3 rfl
  have y4 := up_n (n := 5) ef_8 (by decide) y3
  have z5 := up_s (i := 4) (U := fun j => (fun k => ([h0, q1, q2, q3, q3 + 1, q3 + 2, q4, q4 + 1, q4 + 2, q5, q6, q8, q10, q12, q14] : List Nat).getD k 0) (10 + j)) ef_10 (by decide) z4 rfl
  have y5 := up_n (n := 5) ef_10 (by decide) y4
  have wf_10 := up_e z5 y5
  rw [wf_10] at hP hD
  have gq3 : (fun i => if i < 2 then some (q3 + 1 + i) else none : Nat → Option Nat) = fun i => if i < 2 then some ((fun k => ([h0, q1, q2, q3, q3 + 1, q3 + 2, q4, q4 + 1, q4 + 2, q5, q6, q8, q10, q12, q14] : List Nat).getD k 0) (4 + i)) else none := by
    funext i
    by_cases h : i < 2
    · rcases (show i = 0 ∨ i = 1 by omega) with rfl | rfl <;> rfl
    · rw [if_neg h, if_neg h]
  rw [gq3] at hP hD
  have gq4 : (fun i => if i < 2 then some (q4 + 1 + i) else none : Nat → Option Nat) = fun i => if i < 2 then some ((fun k => ([h0, q1, q2, q3, q3 + 1, q3 + 2, q4, q4 + 1, q4 + 2, q5, q6, q8, q10, q12, q14] : List Nat).getD k 0) (7 + i)) else none := by
    funext i
    by_cases h : i < 2
    · rcases (show i = 0 ∨ i = 1 by omega) with rfl | rfl <;> rfl
    · rw [if_neg h, if_neg h]
  rw [gq4] at hP hD
  have hP9 := hP.sub (ws' := (fun u : Nat → Nat => ([(u 0, .inr (0, [.int 0, .int 0, .int 0, .int 0, .int 0, .int 0, .ref (u 1), .ref (u 2), .ref (u 3), .ref (u 6), .ref (u 9)])), (u 1, .inl (cy 0, 2, .inl (fun _ => 0))), (u 2, .inl (cy 0, 2, .inl (fun _ => 0))), (u 3, .inl (cy 5, 2, .inr (.inr (.inr (.inr (fun i => if i < 2 then some (u (4 + i)) else none)))))), (u 4, .inl (cy 0, 5, .inl (fun _ => 0))), (u 5, .inl (cy 0, 5, .inl (fun _ => 0))), (u 6, .inl (cy 5, 2, .inr (.inr (.inr (.inr (fun i => if i < 2 then some (u (7 + i)) else none)))))), (u 7, .inl (cy 0, 24, .inl (fun _ => 0))), (u 8, .inl (cy 0, 24, .inl (fun _ => 0))), (u 9, .inl (cy 4, 5, .inr (.inr (.inr (.inr (fun i => if i < 5 then some (u (10 + i)) else none)))))), (u 10, .inr (6, [.int 0, .int 0, .int 0, .int 0, .int 0])), (u 11, .inr (6, [.int 0, .int 0, .int 0, .int 0, .int 0])), (u 12, .inr (6, [.int 0, .int 0, .int 0, .int 0, .int 0])), (u 13, .inr (6, [.int 0, .int 0, .int 0, .int 0, .int 0])), (u 14, .inr (6, [.int 0, .int 0, .int 0, .int 0, .int 0]))] : va_W)) (fun k => ([h0, q1, q2, q3, q3 + 1, q3 + 2, q4, q4 + 1, q4 + 2, q5, q6, q8, q10, q12, q14] : List Nat).getD k 0)) [0, 1, 2, 3, 4, 5, 6, 7, 8, 9, 10, 11, 12, 13, 14] rfl
  have hD9 := hD.sub (ws' := (fun u : Nat → Nat => ([(u 0, .inr (0, [.int 0, .int 0, .int 0, .int 0, .int 0, .int 0, .ref (u 1), .ref (u 2), .ref (u 3), .ref (u 6), .ref (u 9)])), (u 1, .inl (cy 0, 2, .inl (fun _ => 0))), (u 2, .inl (cy 0, 2, .inl (fun _ => 0))), (u 3, .inl (cy 5, 2, .inr (.inr (.inr (.inr (fun i => if i < 2 then some (u (4 + i)) else none)))))), (u 4, .inl (cy 0, 5, .inl (fun _ => 0))), (u 5, .inl (cy 0, 5, .inl (fun _ => 0))), (u 6, .inl (cy 5, 2, .inr (.inr (.inr (.inr (fun i => if i < 2 then some (u (7 + i)) else none)))))), (u 7, .inl (cy 0, 24, .inl (fun _ => 0))), (u 8, .inl (cy 0, 24, .inl (fun _ => 0))), (u 9, .inl (cy 4, 5, .inr (.inr (.inr (.inr (fun i => if i < 5 then some (u (10 + i)) else none)))))), (u 10, .inr (6, [.int 0, .int 0, .int 0, .int 0, .int 0])), (u 11, .inr (6, [.int 0, .int 0, .int 0, .int 0, .int 0])), (u 12, .inr (6, [.int 0, .int 0, .int 0, .int 0, .int 0])), (u 13, .inr (6, [.int 0, .int 0, .int 0, .int 0, .int 0])), (u 14, .inr (6, [.int 0, .int 0, .int 0, .int 0, .int 0]))] : va_W)) (fun k => ([h0, q1, q2, q3, q3 + 1, q3 + 2, q4, q4 + 1, q4 + 2, q5, q6, q8, q10, q12, q14] : List Nat).getD k 0)) [0, 1, 2, 3, 4, 5, 6, 7, 8, 9, 10, 11, 12, 13, 14] (by decide) rfl
  exact W.vret hx hb hr (fun t ht hW => ⟨⟨(fun k => ([h0, q1, q2, q3, q3 + 1, q3 + 2, q4, q4 + 1, q4 + 2, q5, q6, q8, q10, q12, q14] : List Nat).getD k 0), rfl, rfl, by rw [ht]; exact hP9, hD9⟩, hS.F ht⟩) hS.2.2 dX0_init_73
