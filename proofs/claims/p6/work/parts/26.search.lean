set_option maxRecDepth 20000 in
theorem db_X4_search_0 : (decode cX4_search 0 = .ok (.iload_n 2, 1)) ∧ (decode cX4_search 1 = .ok (.aload_n 0, 1)) ∧ (decode cX4_search 2 = .ok (.iload_n 1, 1)) ∧ (decode cX4_search 3 = .ok (.invokevirtual 95, 3)) ∧ (decode cX4_search 6 = .ok (.iadd, 1)) ∧ (decode cX4_search 7 = .ok (.aload_n 0, 1)) ∧ (decode cX4_search 8 = .ok (.getfield 58, 3)) ∧ (decode cX4_search 11 = .ok (.if_icmp .lt 4, 3)) := by decide +kernel
theorem dX4_search_0 : decode cX4_search 0 = .ok (.iload_n 2, 1) := db_X4_search_0.1
theorem dX4_search_1 : decode cX4_search 1 = .ok (.aload_n 0, 1) := db_X4_search_0.2.1
theorem dX4_search_2 : decode cX4_search 2 = .ok (.iload_n 1, 1) := db_X4_search_0.2.2.1
set_option maxRecDepth 20000 in
theorem ggX4_search_X4_leastBehind : GoodIn wsX4_search wsX4_leastBehind := goodIn_r _ [16, 9, 2, 17, 10, 18, 11, 30, 31, 32, 33, 34, 35, 36, 37, 38, 39, 40] rfl (by decide +kernel)
set_option maxRecDepth 20000 in
theorem gX4_search_X4_leastBehind : GoodIn wsX4_search (wsV RX4 95 RX4 yX4_leastBehind wsX4_leastBehind) := goodIn_app (goodIn_r _ [12, 13, 14, 15] rfl (by decide +kernel)) ggX4_search_X4_leastBehind
theorem dX4_search_3 : decode cX4_search 3 = .ok (.invokevirtual 95, 3) := db_X4_search_0.2.2.2.1
theorem dX4_search_6 : decode cX4_search 6 = .ok (.iadd, 1) := db_X4_search_0.2.2.2.2.1
theorem dX4_search_7 : decode cX4_search 7 = .ok (.aload_n 0, 1) := db_X4_search_0.2.2.2.2.2.1
theorem dX4_search_8 : decode cX4_search 8 = .ok (.getfield 58, 3) := db_X4_search_0.2.2.2.2.2.2.1
theorem dX4_search_11 : decode cX4_search 11 = .ok (.if_icmp .lt 4, 3) := db_X4_search_0.2.2.2.2.2.2.2
set_option maxRecDepth 20000 in
theorem db_X4_search_15 : (decode cX4_search 15 = .ok (.iload_n 1, 1)) ∧ (decode cX4_search 16 = .ok (.aload_n 0, 1)) ∧ (decode cX4_search 17 = .ok (.getfield 61, 3)) ∧ (decode cX4_search 20 = .ok (.if_icmp .lt 26, 3)) ∧ (decode cX4_search 23 = .ok (.aload_n 0, 1)) ∧ (decode cX4_search 24 = .ok (.iload_n 2, 1)) ∧ (decode cX4_search 25 = .ok (.putfield 58, 3)) ∧ (decode cX4_search 28 = .ok (.aload_n 0, 1)) := by decide +kernel
theorem dX4_search_15 : decode cX4_search 15 = .ok (.iload_n 1, 1) := db_X4_search_15.1
theorem dX4_search_16 : decode cX4_search 16 = .ok (.aload_n 0, 1) := db_X4_search_15.2.1
theorem dX4_search_17 : decode cX4_search 17 = .ok (.getfield 61, 3) := db_X4_search_15.2.2.1
theorem dX4_search_20 : decode cX4_search 20 = .ok (.if_icmp .lt 26, 3) := db_X4_search_15.2.2.2.1
theorem dX4_search_23 : decode cX4_search 23 = .ok (.aload_n 0, 1) := db_X4_search_15.2.2.2.2.1
theorem dX4_search_24 : decode cX4_search 24 = .ok (.iload_n 2, 1) := db_X4_search_15.2.2.2.2.2.1
theorem dX4_search_25 : decode cX4_search 25 = .ok (.putfield 58, 3) := db_X4_search_15.2.2.2.2.2.2.1
theorem dX4_search_28 : decode cX4_search 28 = .ok (.aload_n 0, 1) := db_X4_search_15.2.2.2.2.2.2.2
set_option maxRecDepth 20000 in
theorem db_X4_search_29 : (decode cX4_search 29 = .ok (.getfield 24, 3)) ∧ (decode cX4_search 32 = .ok (.iconst 0, 1)) ∧ (decode cX4_search 33 = .ok (.aload_n 0, 1)) ∧ (decode cX4_search 34 = .ok (.getfield 27, 3)) ∧ (decode cX4_search 37 = .ok (.iconst 0, 1)) ∧ (decode cX4_search 38 = .ok (.aload_n 0, 1)) ∧ (decode cX4_search 39 = .ok (.getfield 61, 3)) ∧ (decode cX4_search 42 = .ok (.invokestatic 99, 3)) := by decide +kernel
theorem dX4_search_29 : decode cX4_search 29 = .ok (.getfield 24, 3) := db_X4_search_29.1
theorem dX4_search_32 : decode cX4_search 32 = .ok (.iconst 0, 1) := db_X4_search_29.2.1
theorem dX4_search_33 : decode cX4_search 33 = .ok (.aload_n 0, 1) := db_X4_search_29.2.2.1
theorem dX4_search_34 : decode cX4_search 34 = .ok (.getfield 27, 3) := db_X4_search_29.2.2.2.1
theorem dX4_search_37 : decode cX4_search 37 = .ok (.iconst 0, 1) := db_X4_search_29.2.2.2.2.1
theorem dX4_search_38 : decode cX4_search 38 = .ok (.aload_n 0, 1) := db_X4_search_29.2.2.2.2.2.1
theorem dX4_search_39 : decode cX4_search 39 = .ok (.getfield 61, 3) := db_X4_search_29.2.2.2.2.2.2.1
theorem dX4_search_42 : decode cX4_search 42 = .ok (.invokestatic 99, 3) := db_X4_search_29.2.2.2.2.2.2.2
set_option maxRecDepth 20000 in
theorem db_X4_search_45 : (decode cX4_search 45 = .ok (.return_, 1)) ∧ (decode cX4_search 14 = .ok (.return_, 1)) ∧ (decode cX4_search 46 = .ok (.iconst 0, 1)) ∧ (decode cX4_search 47 = .ok (.istore_n 3, 1)) ∧ (decode cX4_search 48 = .ok (.iload_n 3, 1)) ∧ (decode cX4_search 49 = .ok (.iconst 3, 1)) ∧ (decode cX4_search 50 = .ok (.if_icmp .ge 38, 3)) ∧ (decode cX4_search 88 = .ok (.aload_n 0, 1)) := by decide +kernel
theorem dX4_search_45 : decode cX4_search 45 = .ok (.return_, 1) := db_X4_search_45.1
theorem dX4_search_14 : decode cX4_search 14 = .ok (.return_, 1) := db_X4_search_45.2.1
set_option maxRecDepth 20000 in
theorem db_X4_searchDay_0 : (decode cX4_searchDay 0 = .ok (.iconst 0, 1)) ∧ (decode cX4_searchDay 1 = .ok (.istore 4, 2)) ∧ (decode cX4_searchDay 3 = .ok (.iload 4, 2)) ∧ (decode cX4_searchDay 5 = .ok (.bipush 6, 2)) ∧ (decode cX4_searchDay 7 = .ok (.if_icmp .ge 117, 3)) ∧ (decode cX4_searchDay 124 = .ok (.return_, 1)) ∧ (decode cX4_searchDay 10 = .ok (.iconst 1, 1)) ∧ (decode cX4_searchDay 11 = .ok (.getstatic 109, 3)) := by decide +kernel
theorem dX4_searchDay_0 : decode cX4_searchDay 0 = .ok (.iconst 0, 1) := db_X4_searchDay_0.1
theorem dX4_searchDay_1 : decode cX4_searchDay 1 = .ok (.istore 4, 2) := db_X4_searchDay_0.2.1
theorem dX4_searchDay_3 : decode cX4_searchDay 3 = .ok (.iload 4, 2) := db_X4_searchDay_0.2.2.1
theorem dX4_searchDay_5 : decode cX4_searchDay 5 = .ok (.bipush 6, 2) := db_X4_searchDay_0.2.2.2.1
theorem dX4_searchDay_7 : decode cX4_searchDay 7 = .ok (.if_icmp .ge 117, 3) := db_X4_searchDay_0.2.2.2.2.1
theorem dX4_searchDay_124 : decode cX4_searchDay 124 = .ok (.return_, 1) := db_X4_searchDay_0.2.2.2.2.2.1
theorem dX4_searchDay_10 : decode cX4_searchDay 10 = .ok (.iconst 1, 1) := db_X4_searchDay_0.2.2.2.2.2.2.1
theorem dX4_searchDay_11 : decode cX4_searchDay 11 = .ok (.getstatic 109, 3) := db_X4_searchDay_0.2.2.2.2.2.2.2
set_option maxRecDepth 20000 in
theorem db_X4_searchDay_14 : (decode cX4_searchDay 14 = .ok (.iload 4, 2)) ∧ (decode cX4_searchDay 16 = .ok (.iaload, 1)) ∧ (decode cX4_searchDay 17 = .ok (.ishl, 1)) ∧ (decode cX4_searchDay 18 = .ok (.iconst 1, 1)) ∧ (decode cX4_searchDay 19 = .ok (.getstatic 112, 3)) ∧ (decode cX4_searchDay 22 = .ok (.iload 4, 2)) ∧ (decode cX4_searchDay 24 = .ok (.iaload, 1)) ∧ (decode cX4_searchDay 25 = .ok (.ishl, 1)) := by decide +kernel
theorem dX4_searchDay_14 : decode cX4_searchDay 14 = .ok (.iload 4, 2) := db_X4_searchDay_14.1
theorem dX4_searchDay_16 : decode cX4_searchDay 16 = .ok (.iaload, 1) := db_X4_searchDay_14.2.1
theorem dX4_searchDay_17 : decode cX4_searchDay 17 = .ok (.ishl, 1) := db_X4_searchDay_14.2.2.1
theorem dX4_searchDay_18 : decode cX4_searchDay 18 = .ok (.iconst 1, 1) := db_X4_searchDay_14.2.2.2.1
theorem dX4_searchDay_19 : decode cX4_searchDay 19 = .ok (.getstatic 112, 3) := db_X4_searchDay_14.2.2.2.2.1
theorem dX4_searchDay_22 : decode cX4_searchDay 22 = .ok (.iload 4, 2) := db_X4_searchDay_14.2.2.2.2.2.1
theorem dX4_searchDay_24 : decode cX4_searchDay 24 = .ok (.iaload, 1) := db_X4_searchDay_14.2.2.2.2.2.2.1
theorem dX4_searchDay_25 : decode cX4_searchDay 25 = .ok (.ishl, 1) := db_X4_searchDay_14.2.2.2.2.2.2.2
set_option maxRecDepth 20000 in
theorem db_X4_searchDay_26 : (decode cX4_searchDay 26 = .ok (.ior, 1)) ∧ (decode cX4_searchDay 27 = .ok (.istore 5, 2)) ∧ (decode cX4_searchDay 29 = .ok (.aload_n 0, 1)) ∧ (decode cX4_searchDay 30 = .ok (.getfield 18, 3)) ∧ (decode cX4_searchDay 33 = .ok (.iload_n 1, 1)) ∧ (decode cX4_searchDay 34 = .ok (.iaload, 1)) ∧ (decode cX4_searchDay 35 = .ok (.iload 4, 2)) ∧ (decode cX4_searchDay 37 = .ok (.invokestatic 115, 3)) := by decide +kernel
theorem dX4_searchDay_26 : decode cX4_searchDay 26 = .ok (.ior, 1) := db_X4_searchDay_26.1
theorem dX4_searchDay_27 : decode cX4_searchDay 27 = .ok (.istore 5, 2) := db_X4_searchDay_26.2.1
theorem dX4_searchDay_29 : decode cX4_searchDay 29 = .ok (.aload_n 0, 1) := db_X4_searchDay_26.2.2.1
theorem dX4_searchDay_30 : decode cX4_searchDay 30 = .ok (.getfield 18, 3) := db_X4_searchDay_26.2.2.2.1
theorem dX4_searchDay_33 : decode cX4_searchDay 33 = .ok (.iload_n 1, 1) := db_X4_searchDay_26.2.2.2.2.1
theorem dX4_searchDay_34 : decode cX4_searchDay 34 = .ok (.iaload, 1) := db_X4_searchDay_26.2.2.2.2.2.1
theorem dX4_searchDay_35 : decode cX4_searchDay 35 = .ok (.iload 4, 2) := db_X4_searchDay_26.2.2.2.2.2.2.1
set_option maxRecDepth 20000 in
theorem ggX4_searchDay_X7_hasBit : GoodIn wsX4_searchDay wsX7_hasBit := goodIn_r _ [7] rfl (by decide +kernel)
set_option maxRecDepth 20000 in
theorem gX4_searchDay_X7_hasBit_n115 : GoodIn wsX4_searchDay (wsX7_hasBit) := ggX4_searchDay_X7_hasBit
theorem dX4_searchDay_37 : decode cX4_searchDay 37 = .ok (.invokestatic 115, 3) := db_X4_searchDay_26.2.2.2.2.2.2.2
set_option maxRecDepth 20000 in
theorem db_X4_searchDay_40 : (decode cX4_searchDay 40 = .ok (.ifCond .eq 78, 3)) ∧ (decode cX4_searchDay 118 = .ok (.iinc 4 1, 3)) ∧ (decode cX4_searchDay 121 = .ok (.goto (-118), 3)) ∧ (decode cX4_searchDay 43 = .ok (.aload_n 0, 1)) ∧ (decode cX4_searchDay 44 = .ok (.getfield 30, 3)) ∧ (decode cX4_searchDay 47 = .ok (.iload_n 3, 1)) ∧ (decode cX4_searchDay 48 = .ok (.iaload, 1)) ∧ (decode cX4_searchDay 49 = .ok (.iload 5, 2)) := by decide +kernel
theorem dX4_searchDay_40 : decode cX4_searchDay 40 = .ok (.ifCond .eq 78, 3) := db_X4_searchDay_40.1
theorem dX4_searchDay_118 : decode cX4_searchDay 118 = .ok (.iinc 4 1, 3) := db_X4_searchDay_40.2.1
theorem dX4_searchDay_121 : decode cX4_searchDay 121 = .ok (.goto (-118), 3) := db_X4_searchDay_40.2.2.1
theorem dX4_searchDay_43 : decode cX4_searchDay 43 = .ok (.aload_n 0, 1) := db_X4_searchDay_40.2.2.2.1
theorem dX4_searchDay_44 : decode cX4_searchDay 44 = .ok (.getfield 30, 3) := db_X4_searchDay_40.2.2.2.2.1
theorem dX4_searchDay_47 : decode cX4_searchDay 47 = .ok (.iload_n 3, 1) := db_X4_searchDay_40.2.2.2.2.2.1
theorem dX4_searchDay_48 : decode cX4_searchDay 48 = .ok (.iaload, 1) := db_X4_searchDay_40.2.2.2.2.2.2.1
theorem dX4_searchDay_49 : decode cX4_searchDay 49 = .ok (.iload 5, 2) := db_X4_searchDay_40.2.2.2.2.2.2.2
set_option maxRecDepth 20000 in
theorem db_X4_searchDay_51 : (decode cX4_searchDay 51 = .ok (.iand, 1)) ∧ (decode cX4_searchDay 52 = .ok (.ifCond .ne 66, 3)) ∧ (decode cX4_searchDay 55 = .ok (.aload_n 0, 1)) ∧ (decode cX4_searchDay 56 = .ok (.getfield 24, 3)) ∧ (decode cX4_searchDay 59 = .ok (.iload_n 1, 1)) ∧ (decode cX4_searchDay 60 = .ok (.bipush 6, 2)) ∧ (decode cX4_searchDay 62 = .ok (.iload_n 3, 1)) ∧ (decode cX4_searchDay 63 = .ok (.imul, 1)) := by decide +kernel
theorem dX4_searchDay_51 : decode cX4_searchDay 51 = .ok (.iand, 1) := db_X4_searchDay_51.1
theorem dX4_searchDay_52 : decode cX4_searchDay 52 = .ok (.ifCond .ne 66, 3) := db_X4_searchDay_51.2.1
theorem dX4_searchDay_55 : decode cX4_searchDay 55 = .ok (.aload_n 0, 1) := db_X4_searchDay_51.2.2.1
theorem dX4_searchDay_56 : decode cX4_searchDay 56 = .ok (.getfield 24, 3) := db_X4_searchDay_51.2.2.2.1
theorem dX4_searchDay_59 : decode cX4_searchDay 59 = .ok (.iload_n 1, 1) := db_X4_searchDay_51.2.2.2.2.1
theorem dX4_searchDay_60 : decode cX4_searchDay 60 = .ok (.bipush 6, 2) := db_X4_searchDay_51.2.2.2.2.2.1
theorem dX4_searchDay_62 : decode cX4_searchDay 62 = .ok (.iload_n 3, 1) := db_X4_searchDay_51.2.2.2.2.2.2.1
theorem dX4_searchDay_63 : decode cX4_searchDay 63 = .ok (.imul, 1) := db_X4_searchDay_51.2.2.2.2.2.2.2
set_option maxRecDepth 20000 in
theorem db_X4_searchDay_64 : (decode cX4_searchDay 64 = .ok (.iload 4, 2)) ∧ (decode cX4_searchDay 66 = .ok (.iadd, 1)) ∧ (decode cX4_searchDay 67 = .ok (.iastore, 1)) ∧ (decode cX4_searchDay 68 = .ok (.aload_n 0, 1)) ∧ (decode cX4_searchDay 69 = .ok (.getfield 30, 3)) ∧ (decode cX4_searchDay 72 = .ok (.iload_n 3, 1)) ∧ (decode cX4_searchDay 73 = .ok (.dup2, 1)) ∧ (decode cX4_searchDay 74 = .ok (.iaload, 1)) := by decide +kernel
theorem dX4_searchDay_64 : decode cX4_searchDay 64 = .ok (.iload 4, 2) := db_X4_searchDay_64.1
theorem dX4_searchDay_66 : decode cX4_searchDay 66 = .ok (.iadd, 1) := db_X4_searchDay_64.2.1
theorem dX4_searchDay_67 : decode cX4_searchDay 67 = .ok (.iastore, 1) := db_X4_searchDay_64.2.2.1
theorem dX4_searchDay_68 : decode cX4_searchDay 68 = .ok (.aload_n 0, 1) := db_X4_searchDay_64.2.2.2.1
theorem dX4_searchDay_69 : decode cX4_searchDay 69 = .ok (.getfield 30, 3) := db_X4_searchDay_64.2.2.2.2.1
theorem dX4_searchDay_72 : decode cX4_searchDay 72 = .ok (.iload_n 3, 1) := db_X4_searchDay_64.2.2.2.2.2.1
theorem dX4_searchDay_73 : decode cX4_searchDay 73 = .ok (.dup2, 1) := db_X4_searchDay_64.2.2.2.2.2.2.1
theorem dX4_searchDay_74 : decode cX4_searchDay 74 = .ok (.iaload, 1) := db_X4_searchDay_64.2.2.2.2.2.2.2
set_option maxRecDepth 20000 in
theorem db_X4_searchDay_75 : (decode cX4_searchDay 75 = .ok (.iload 5, 2)) ∧ (decode cX4_searchDay 77 = .ok (.ior, 1)) ∧ (decode cX4_searchDay 78 = .ok (.iastore, 1)) ∧ (decode cX4_searchDay 79 = .ok (.aload_n 0, 1)) ∧ (decode cX4_searchDay 80 = .ok (.getfield 33, 3)) ∧ (decode cX4_searchDay 83 = .ok (.iload_n 3, 1)) ∧ (decode cX4_searchDay 84 = .ok (.dup2, 1)) ∧ (decode cX4_searchDay 85 = .ok (.iaload, 1)) := by decide +kernel
theorem dX4_searchDay_75 : decode cX4_searchDay 75 = .ok (.iload 5, 2) := db_X4_searchDay_75.1
theorem dX4_searchDay_77 : decode cX4_searchDay 77 = .ok (.ior, 1) := db_X4_searchDay_75.2.1
theorem dX4_searchDay_78 : decode cX4_searchDay 78 = .ok (.iastore, 1) := db_X4_searchDay_75.2.2.1
theorem dX4_searchDay_79 : decode cX4_searchDay 79 = .ok (.aload_n 0, 1) := db_X4_searchDay_75.2.2.2.1
theorem dX4_searchDay_80 : decode cX4_searchDay 80 = .ok (.getfield 33, 3) := db_X4_searchDay_75.2.2.2.2.1
theorem dX4_searchDay_83 : decode cX4_searchDay 83 = .ok (.iload_n 3, 1) := db_X4_searchDay_75.2.2.2.2.2.1
theorem dX4_searchDay_84 : decode cX4_searchDay 84 = .ok (.dup2, 1) := db_X4_searchDay_75.2.2.2.2.2.2.1
theorem dX4_searchDay_85 : decode cX4_searchDay 85 = .ok (.iaload, 1) := db_X4_searchDay_75.2.2.2.2.2.2.2
set_option maxRecDepth 20000 in
theorem db_X4_searchDay_86 : (decode cX4_searchDay 86 = .ok (.iconst 1, 1)) ∧ (decode cX4_searchDay 87 = .ok (.iadd, 1)) ∧ (decode cX4_searchDay 88 = .ok (.iastore, 1)) ∧ (decode cX4_searchDay 89 = .ok (.aload_n 0, 1)) ∧ (decode cX4_searchDay 90 = .ok (.iload_n 1, 1)) ∧ (decode cX4_searchDay 91 = .ok (.iconst 1, 1)) ∧ (decode cX4_searchDay 92 = .ok (.iadd, 1)) ∧ (decode cX4_searchDay 93 = .ok (.iload_n 2, 1)) := by decide +kernel
theorem dX4_searchDay_86 : decode cX4_searchDay 86 = .ok (.iconst 1, 1) := db_X4_searchDay_86.1
theorem dX4_searchDay_87 : decode cX4_searchDay 87 = .ok (.iadd, 1) := db_X4_searchDay_86.2.1
theorem dX4_searchDay_88 : decode cX4_searchDay 88 = .ok (.iastore, 1) := db_X4_searchDay_86.2.2.1
theorem dX4_searchDay_89 : decode cX4_searchDay 89 = .ok (.aload_n 0, 1) := db_X4_searchDay_86.2.2.2.1
theorem dX4_searchDay_90 : decode cX4_searchDay 90 = .ok (.iload_n 1, 1) := db_X4_searchDay_86.2.2.2.2.1
theorem dX4_searchDay_91 : decode cX4_searchDay 91 = .ok (.iconst 1, 1) := db_X4_searchDay_86.2.2.2.2.2.1
theorem dX4_searchDay_92 : decode cX4_searchDay 92 = .ok (.iadd, 1) := db_X4_searchDay_86.2.2.2.2.2.2.1
theorem dX4_searchDay_93 : decode cX4_searchDay 93 = .ok (.iload_n 2, 1) := db_X4_searchDay_86.2.2.2.2.2.2.2
set_option maxRecDepth 20000 in
theorem ggX4_searchDay_X4_search : GoodIn wsX4_searchDay wsX4_search := goodIn_r _ [12, 13, 14, 3, 15, 16, 17, 18, 19, 4, 20, 21, 22, 23, 24, 11, 25, 26, 1, 27, 28, 29, 8, 9, 10, 0, 2, 5, 6, 7, 30, 31, 32, 33, 34, 35, 36, 37, 38, 39, 40] rfl (by decide +kernel)
set_option maxRecDepth 20000 in
theorem gX4_searchDay_X4_search : GoodIn wsX4_searchDay (wsV RX4 64 RX4 yX4_search wsX4_search) := goodIn_app (goodIn_r _ [8, 9, 10, 11] rfl (by decide +kernel)) ggX4_searchDay_X4_search
set_option maxRecDepth 20000 in
theorem db_X4_searchDay_94 : (decode cX4_searchDay 94 = .ok (.invokevirtual 64, 3)) ∧ (decode cX4_searchDay 97 = .ok (.aload_n 0, 1)) ∧ (decode cX4_searchDay 98 = .ok (.getfield 33, 3)) ∧ (decode cX4_searchDay 101 = .ok (.iload_n 3, 1)) ∧ (decode cX4_searchDay 102 = .ok (.dup2, 1)) ∧ (decode cX4_searchDay 103 = .ok (.iaload, 1)) ∧ (decode cX4_searchDay 104 = .ok (.iconst 1, 1)) ∧ (decode cX4_searchDay 105 = .ok (.isub, 1)) := by decide +kernel
theorem dX4_searchDay_94 : decode cX4_searchDay 94 = .ok (.invokevirtual 64, 3) := db_X4_searchDay_94.1
theorem dX4_searchDay_97 : decode cX4_searchDay 97 = .ok (.aload_n 0, 1) := db_X4_searchDay_94.2.1
theorem dX4_searchDay_98 : decode cX4_searchDay 98 = .ok (.getfield 33, 3) := db_X4_searchDay_94.2.2.1
theorem dX4_searchDay_101 : decode cX4_searchDay 101 = .ok (.iload_n 3, 1) := db_X4_searchDay_94.2.2.2.1
theorem dX4_searchDay_102 : decode cX4_searchDay 102 = .ok (.dup2, 1) := db_X4_searchDay_94.2.2.2.2.1
theorem dX4_searchDay_103 : decode cX4_searchDay 103 = .ok (.iaload, 1) := db_X4_searchDay_94.2.2.2.2.2.1
theorem dX4_searchDay_104 : decode cX4_searchDay 104 = .ok (.iconst 1, 1) := db_X4_searchDay_94.2.2.2.2.2.2.1
theorem dX4_searchDay_105 : decode cX4_searchDay 105 = .ok (.isub, 1) := db_X4_searchDay_94.2.2.2.2.2.2.2
set_option maxRecDepth 20000 in
theorem db_X4_searchDay_106 : (decode cX4_searchDay 106 = .ok (.iastore, 1)) ∧ (decode cX4_searchDay 107 = .ok (.aload_n 0, 1)) ∧ (decode cX4_searchDay 108 = .ok (.getfield 30, 3)) ∧ (decode cX4_searchDay 111 = .ok (.iload_n 3, 1)) ∧ (decode cX4_searchDay 112 = .ok (.dup2, 1)) ∧ (decode cX4_searchDay 113 = .ok (.iaload, 1)) ∧ (decode cX4_searchDay 114 = .ok (.iload 5, 2)) ∧ (decode cX4_searchDay 116 = .ok (.ixor, 1)) := by decide +kernel
theorem dX4_searchDay_106 : decode cX4_searchDay 106 = .ok (.iastore, 1) := db_X4_searchDay_106.1
theorem dX4_searchDay_107 : decode cX4_searchDay 107 = .ok (.aload_n 0, 1) := db_X4_searchDay_106.2.1
theorem dX4_searchDay_108 : decode cX4_searchDay 108 = .ok (.getfield 30, 3) := db_X4_searchDay_106.2.2.1
theorem dX4_searchDay_111 : decode cX4_searchDay 111 = .ok (.iload_n 3, 1) := db_X4_searchDay_106.2.2.2.1
theorem dX4_searchDay_112 : decode cX4_searchDay 112 = .ok (.dup2, 1) := db_X4_searchDay_106.2.2.2.2.1
theorem dX4_searchDay_113 : decode cX4_searchDay 113 = .ok (.iaload, 1) := db_X4_searchDay_106.2.2.2.2.2.1
theorem dX4_searchDay_114 : decode cX4_searchDay 114 = .ok (.iload 5, 2) := db_X4_searchDay_106.2.2.2.2.2.2.1
theorem dX4_searchDay_116 : decode cX4_searchDay 116 = .ok (.ixor, 1) := db_X4_searchDay_106.2.2.2.2.2.2.2
theorem dX4_searchDay_117 : decode cX4_searchDay 117 = .ok (.iastore, 1) := by decide +kernel
theorem dX4_search_46 : decode cX4_search 46 = .ok (.iconst 0, 1) := db_X4_search_45.2.2.1
theorem dX4_search_47 : decode cX4_search 47 = .ok (.istore_n 3, 1) := db_X4_search_45.2.2.2.1
theorem dX4_search_48 : decode cX4_search 48 = .ok (.iload_n 3, 1) := db_X4_search_45.2.2.2.2.1
theorem dX4_search_49 : decode cX4_search 49 = .ok (.iconst 3, 1) := db_X4_search_45.2.2.2.2.2.1
theorem dX4_search_50 : decode cX4_search 50 = .ok (.if_icmp .ge 38, 3) := db_X4_search_45.2.2.2.2.2.2.1
theorem dX4_search_88 : decode cX4_search 88 = .ok (.aload_n 0, 1) := db_X4_search_45.2.2.2.2.2.2.2
set_option maxRecDepth 20000 in
theorem db_X4_search_89 : (decode cX4_search 89 = .ok (.getfield 24, 3)) ∧ (decode cX4_search 92 = .ok (.iload_n 1, 1)) ∧ (decode cX4_search 93 = .ok (.bipush 18, 2)) ∧ (decode cX4_search 95 = .ok (.iastore, 1)) ∧ (decode cX4_search 96 = .ok (.aload_n 0, 1)) ∧ (decode cX4_search 97 = .ok (.iload_n 1, 1)) ∧ (decode cX4_search 98 = .ok (.iconst 1, 1)) ∧ (decode cX4_search 99 = .ok (.iadd, 1)) := by decide +kernel
theorem dX4_search_89 : decode cX4_search 89 = .ok (.getfield 24, 3) := db_X4_search_89.1
theorem dX4_search_92 : decode cX4_search 92 = .ok (.iload_n 1, 1) := db_X4_search_89.2.1
theorem dX4_search_93 : decode cX4_search 93 = .ok (.bipush 18, 2) := db_X4_search_89.2.2.1
theorem dX4_search_95 : decode cX4_search 95 = .ok (.iastore, 1) := db_X4_search_89.2.2.2.1
theorem dX4_search_96 : decode cX4_search 96 = .ok (.aload_n 0, 1) := db_X4_search_89.2.2.2.2.1
theorem dX4_search_97 : decode cX4_search 97 = .ok (.iload_n 1, 1) := db_X4_search_89.2.2.2.2.2.1
theorem dX4_search_98 : decode cX4_search 98 = .ok (.iconst 1, 1) := db_X4_search_89.2.2.2.2.2.2.1
theorem dX4_search_99 : decode cX4_search 99 = .ok (.iadd, 1) := db_X4_search_89.2.2.2.2.2.2.2
set_option maxRecDepth 20000 in
theorem db_X4_search_100 : (decode cX4_search 100 = .ok (.iload_n 2, 1)) ∧ (decode cX4_search 101 = .ok (.aload_n 0, 1)) ∧ (decode cX4_search 102 = .ok (.getfield 15, 3)) ∧ (decode cX4_search 105 = .ok (.iload_n 1, 1)) ∧ (decode cX4_search 106 = .ok (.iaload, 1)) ∧ (decode cX4_search 107 = .ok (.iconst 4, 1)) ∧ (decode cX4_search 108 = .ok (.imul, 1)) ∧ (decode cX4_search 109 = .ok (.iadd, 1)) := by decide +kernel
theorem dX4_search_100 : decode cX4_search 100 = .ok (.iload_n 2, 1) := db_X4_search_100.1
theorem dX4_search_101 : decode cX4_search 101 = .ok (.aload_n 0, 1) := db_X4_search_100.2.1
theorem dX4_search_102 : decode cX4_search 102 = .ok (.getfield 15, 3) := db_X4_search_100.2.2.1
theorem dX4_search_105 : decode cX4_search 105 = .ok (.iload_n 1, 1) := db_X4_search_100.2.2.2.1
theorem dX4_search_106 : decode cX4_search 106 = .ok (.iaload, 1) := db_X4_search_100.2.2.2.2.1
theorem dX4_search_107 : decode cX4_search 107 = .ok (.iconst 4, 1) := db_X4_search_100.2.2.2.2.2.1
theorem dX4_search_108 : decode cX4_search 108 = .ok (.imul, 1) := db_X4_search_100.2.2.2.2.2.2.1
theorem dX4_search_109 : decode cX4_search 109 = .ok (.iadd, 1) := db_X4_search_100.2.2.2.2.2.2.2
set_option maxRecDepth 20000 in
theorem ggX4_search_X4_search : GoodIn wsX4_search wsX4_search := goodIn_r _ [0, 1, 2, 3, 4, 5, 6, 7, 8, 9, 10, 11, 12, 13, 14, 15, 16, 17, 18, 19, 20, 21, 22, 23, 24, 25, 26, 27, 28, 29, 30, 31, 32, 33, 34, 35, 36, 37, 38, 39, 40] rfl (by decide +kernel)
set_option maxRecDepth 20000 in
theorem gX4_search_X4_search : GoodIn wsX4_search (wsV RX4 64 RX4 yX4_search wsX4_search) := goodIn_app (goodIn_r _ [22, 23, 24, 15] rfl (by decide +kernel)) ggX4_search_X4_search
set_option maxRecDepth 20000 in
theorem db_X4_search_110 : (decode cX4_search 110 = .ok (.invokevirtual 64, 3)) ∧ (decode cX4_search 113 = .ok (.return_, 1)) ∧ (decode cX4_search 53 = .ok (.aload_n 0, 1)) ∧ (decode cX4_search 54 = .ok (.getfield 33, 3)) ∧ (decode cX4_search 57 = .ok (.iload_n 3, 1)) ∧ (decode cX4_search 58 = .ok (.iaload, 1)) ∧ (decode cX4_search 59 = .ok (.aload_n 0, 1)) ∧ (decode cX4_search 60 = .ok (.getfield 48, 3)) := by decide +kernel
theorem dX4_search_110 : decode cX4_search 110 = .ok (.invokevirtual 64, 3) := db_X4_search_110.1
theorem dX4_search_113 : decode cX4_search 113 = .ok (.return_, 1) := db_X4_search_110.2.1
theorem dX4_search_53 : decode cX4_search 53 = .ok (.aload_n 0, 1) := db_X4_search_110.2.2.1
theorem dX4_search_54 : decode cX4_search 54 = .ok (.getfield 33, 3) := db_X4_search_110.2.2.2.1
theorem dX4_search_57 : decode cX4_search 57 = .ok (.iload_n 3, 1) := db_X4_search_110.2.2.2.2.1
theorem dX4_search_58 : decode cX4_search 58 = .ok (.iaload, 1) := db_X4_search_110.2.2.2.2.2.1
theorem dX4_search_59 : decode cX4_search 59 = .ok (.aload_n 0, 1) := db_X4_search_110.2.2.2.2.2.2.1
theorem dX4_search_60 : decode cX4_search 60 = .ok (.getfield 48, 3) := db_X4_search_110.2.2.2.2.2.2.2
set_option maxRecDepth 20000 in
theorem db_X4_search_63 : (decode cX4_search 63 = .ok (.if_icmp .ge 19, 3)) ∧ (decode cX4_search 82 = .ok (.iinc 3 1, 3)) ∧ (decode cX4_search 85 = .ok (.goto (-37), 3)) ∧ (decode cX4_search 66 = .ok (.aload_n 0, 1)) ∧ (decode cX4_search 67 = .ok (.iload_n 1, 1)) ∧ (decode cX4_search 68 = .ok (.iload_n 2, 1)) ∧ (decode cX4_search 69 = .ok (.aload_n 0, 1)) ∧ (decode cX4_search 70 = .ok (.getfield 15, 3)) := by decide +kernel
theorem dX4_search_63 : decode cX4_search 63 = .ok (.if_icmp .ge 19, 3) := db_X4_search_63.1
theorem dX4_search_82 : decode cX4_search 82 = .ok (.iinc 3 1, 3) := db_X4_search_63.2.1
theorem dX4_search_85 : decode cX4_search 85 = .ok (.goto (-37), 3) := db_X4_search_63.2.2.1
theorem dX4_search_66 : decode cX4_search 66 = .ok (.aload_n 0, 1) := db_X4_search_63.2.2.2.1
theorem dX4_search_67 : decode cX4_search 67 = .ok (.iload_n 1, 1) := db_X4_search_63.2.2.2.2.1
theorem dX4_search_68 : decode cX4_search 68 = .ok (.iload_n 2, 1) := db_X4_search_63.2.2.2.2.2.1
theorem dX4_search_69 : decode cX4_search 69 = .ok (.aload_n 0, 1) := db_X4_search_63.2.2.2.2.2.2.1
theorem dX4_search_70 : decode cX4_search 70 = .ok (.getfield 15, 3) := db_X4_search_63.2.2.2.2.2.2.2
set_option maxRecDepth 20000 in
theorem db_X4_search_73 : (decode cX4_search 73 = .ok (.iload_n 1, 1)) ∧ (decode cX4_search 74 = .ok (.iaload, 1)) ∧ (decode cX4_search 75 = .ok (.iload_n 3, 1)) ∧ (decode cX4_search 76 = .ok (.imul, 1)) ∧ (decode cX4_search 77 = .ok (.iadd, 1)) ∧ (decode cX4_search 78 = .ok (.iload_n 3, 1)) ∧ (decode cX4_search 79 = .ok (.invokevirtual 105, 3)) := by decide +kernel
theorem dX4_search_73 : decode cX4_search 73 = .ok (.iload_n 1, 1) := db_X4_search_73.1
theorem dX4_search_74 : decode cX4_search 74 = .ok (.iaload, 1) := db_X4_search_73.2.1
theorem dX4_search_75 : decode cX4_search 75 = .ok (.iload_n 3, 1) := db_X4_search_73.2.2.1
theorem dX4_search_76 : decode cX4_search 76 = .ok (.imul, 1) := db_X4_search_73.2.2.2.1
theorem dX4_search_77 : decode cX4_search 77 = .ok (.iadd, 1) := db_X4_search_73.2.2.2.2.1
theorem dX4_search_78 : decode cX4_search 78 = .ok (.iload_n 3, 1) := db_X4_search_73.2.2.2.2.2.1
set_option maxRecDepth 20000 in
theorem ggX4_search_X4_searchDay : GoodIn wsX4_search wsX4_searchDay := goodIn_r _ [25, 18, 26, 3, 9, 27, 28, 29, 22, 23, 24, 15, 0, 1, 2, 4, 5, 6, 7, 8, 10, 11, 12, 13, 14, 16, 17, 19, 20, 21, 30, 31, 32, 33, 34, 35, 36, 37, 38, 39, 40] rfl (by decide +kernel)
set_option maxRecDepth 20000 in
theorem gX4_search_X4_searchDay : GoodIn wsX4_search (wsV RX4 105 RX4 yX4_searchDay wsX4_searchDay) := goodIn_app (goodIn_r _ [19, 20, 21, 15] rfl (by decide +kernel)) ggX4_search_X4_searchDay
theorem dX4_search_79 : decode cX4_search 79 = .ok (.invokevirtual 105, 3) := db_X4_search_73.2.2.2.2.2.2
set_option maxHeartbeats 4000000 in
set_option maxRecDepth 100000 in
theorem g_X4_search_0 (l : Launch) (dC : Nat → ClassId) (dI : Nat → Nat → Nat) (cy : Nat → ClassId) (sz : Nat) (ad : Nat → Nat) (kv : Value) (N : Nat) (hN : 119 ≤ N) (v : Nat → Nat → Int32) (hv : Iv v) (x0 x1 : Int32) (hs : 4 ≤ x0.toInt ∧ x0.toInt ≤ 4) (t1 t2 : Nat) : Met l yX4_search wsX4_search ({ frames := 1, cells := 0, slots := 0, locals := 64 }) (va_Pc [.ref (ad 1), .int x0, .int x1] (ex_PreT dC dI cy sz (wl ad kv cy N v) t1 t2)) (va_Qv (fun (u : Nat → Nat → Int32) => Iv u ∧ Fz v u) (fun u t => ex_Pst dC dI (va_A (wl ad kv cy N v) sz) (wl ad kv cy N u) t) (va_A (wl ad kv cy N v) sz)) 0 0 (va_A (wl ad kv cy N v) sz) := by
  refine Met.ofW (cc := cX4_search) (maxL := 4) (ret := none) (by decide) rfl ?_
  intro p e s m args below meth c s₁ B hml hv
  obtain ⟨rfl, ⟨hsz, hE, hP, hK, hD0⟩, hSt⟩ := hv
  have hx := B.exec
  have hb := B.bytes
  have hr := B.returns
  have hts := atoms_spec (ws := wsX4_search) B.pre
  have hown : s.vm.findClass RX4 = some m.cls := findClass_of_methodNamed B.named
  have hlocks := B.notSynchronized
  subst hsz
  have hD := hD0.self (sz := s.heap.size)
  generalize hAe : va_A (wl ad kv cy N v) s.heap.size = A at hD hSt ⊢
  have hA : ∀ q : Nat, s.heap.size ≤ q → A q := fun q h => by rw [← hAe]; exact Or.inr h
  have hS : va_S A s.heap s.heap [] := va_S.rf
  have hP : va_P (dC, dI) vwCl (wl ad kv cy N v) s.heap := hP
  have hl := lv_entry ([.ref (ad 1), .int x0, .int x1]) (n := 4) (Nat.le_of_ble_eq_true rfl)
  rw [lg_entry_eq]
  generalize (lg_sl ([.ref (ad 1), .int x0, .int x1]) ++ List.replicate (4 - (lg_sl ([.ref (ad 1), .int x0, .int x1])).length) Slot.unset).toArray = ls at hl ⊢
  have hl : lv_has ls 4 [(0, .ref (ad 1)), (1, .int x0), (2, .int x1)] := hl
  have hfr : Fz v v := Fz.rf
  refine lv_iload_n hx hb dX4_search_0 rfl (lv_at hl 2 rfl) ?_
  refine lv_aload_n hx hb dX4_search_1 rfl (lv_at hl 0 rfl) ?_
  refine lv_iload_n hx hb dX4_search_2 rfl (lv_at hl 1 rfl) ?_
  refine yw_i (w1 := fun (u : Nat → Nat → Int32) => wl ad kv cy N u) hD hS hA (va_runV (As := [.int x0]) (rest := [.int x1]) ⟨hx, hb, hml, hown, hts⟩ (g_X4_leastBehind l dC dI cy _ ad kv N hN v hv x0) (cwV 1 hts gX4_search_X4_leastBehind rfl rfl rfl hd_V_X4_leastBehind_1 ⟨Nat.le_of_ble_eq_true rfl, Nat.le_of_ble_eq_true rfl⟩) (yw_preV hE hK hP hD (ci := 4) (q0 := 1) rfl (wl_at (by omega) (ce_1 (by decide)))) rfl rfl hl.1 rfl (lv_room (Nat.le_of_ble_eq_true rfl)) dX4_search_3 ⟨Nat.le_of_ble_eq_true rfl, Nat.le_of_ble_eq_true rfl⟩) (fun r_1 v_1 H locs hw_1 hP hD hS => ?_)
  obtain ⟨hv, hw_1⟩ := hw_1
  have hfr : Fz v v_1 := hfr.trans hw_1
  refine lv_iadd hx hb dX4_search_6 ?_
  refine lv_topi (fun x_2 ex_2 => ?_)
  refine lv_aload_n hx hb dX4_search_7 rfl (lv_at hl 0 rfl) ?_
  refine va_get (D := (dC, dI)) (ci := 4) (v := .int (v_1 (1) 0)) (C := RX4) (T := TX4) (N := 11) hx hb hts iwX4_search_X4 hown hK hP (1) (wl_at (by omega) (ce_1 (by decide))) rfl 0 (by decide) (hts (.fieldLink RX4 58 "QuietStairs$Planner" "leastWait" "I") fwX4_search_1) (fun _ h9 => h9) rfl dX4_search_8 ?_
  refine lv_topi (fun x_3 ex_3 => ?_)
  refine lv_icmp_lt (tgt := 15) hx hb dX4_search_11 (by decide) (fun c_4 => ?_) (fun c_4 => ?_)
  · have tc_4 : x_2.toInt < x_3.toInt := Int32.lt_iff_toInt_lt.mp c_4
    refine lv_iload_n hx hb dX4_search_15 rfl (lv_at hl 1 rfl) ?_
    refine lv_aload_n hx hb dX4_search_16 rfl (lv_at hl 0 rfl) ?_
    refine va_get (D := (dC, dI)) (ci := 4) (v := .int (v_1 (1) 1)) (C := RX4) (T := TX4) (N := 11) hx hb hts iwX4_search_X4 hown hK hP (1) (wl_at (by omega) (ce_1 (by decide))) rfl 1 (by decide) (hts (.fieldLink RX4 61 "QuietStairs$Planner" "count" "I") fwX4_search_2) (fun _ h9 => h9) rfl dX4_search_17 ?_
    refine lv_topi (fun x_5 ex_5 => ?_)
    have bx_5 : 0 ≤ x_5.toInt ∧ x_5.toInt ≤ 4 := by rw [ex_5]; exact hv.at (K := 1) (by decide) rfl
    refine lv_icmp_lt (tgt := 46) hx hb dX4_search_20 (by decide) (fun c_6 => ?_) (fun c_6 => ?_)
    · have tc_6 : x0.toInt < x_5.toInt := Int32.lt_iff_toInt_lt.mp c_6
      exfalso
      omega
    · have tc_6 : x0.toInt ≥ x_5.toInt := Int32.le_iff_toInt_le.mp (Int32.not_lt.mp c_6)
      refine lv_aload_n hx hb dX4_search_23 rfl (lv_at hl 0 rfl) ?_
      refine lv_iload_n hx hb dX4_search_24 rfl (lv_at hl 2 rfl) ?_
      refine va_put (D := (dC, dI)) (ci := 4) (v := .int x1) (ty := .int) (C := RX4) (T := TX4) (N := 11) hx hb hts iwX4_search_X4 tyX4 tyX4_ok nmX4 hown hK hP hD hS (1) (wl_at (by omega) (ce_1 (by decide))) rfl 0 (by decide) (hts (.fieldLink RX4 58 "QuietStairs$Planner" "leastWait" "I") fwX4_search_1) (fun _ h9 => h9) rfl (by decide +kernel) rfl rfl (Nat.le_of_ble_eq_true rfl) dX4_search_25 (fun H locs hP hD hS => ?_)
      obtain ⟨v_7, ev_7⟩ : ∃ u : Nat → Nat → Int32, u = upr v_1 (1) (upd (v_1 (1)) 0 x1) := ⟨_, rfl⟩
      have hP : va_P (dC, dI) vwCl (wl ad kv cy N v_7) H := by rw [ev_7, ← wl_put (e := _) (ce_1 (by decide))]; exact hP
      have hD : va_D A (wl ad kv cy N v_7) := by rw [ev_7, ← wl_put (e := _) (ce_1 (by decide))]; exact hD
      have hv : Iv v_7 := by rw [ev_7]; exact hv.put (K := 1) (by decide) (fun h q => by simp [bd] at q)
      have hfr : Fz v v_7 := by rw [ev_7]; exact hfr.put (by omega) (by omega) (by omega)
      refine lv_aload_n hx hb dX4_search_28 rfl (lv_at hl 0 rfl) ?_
      refine va_get (D := (dC, dI)) (ci := 4) (v := .ref (ad 6)) (C := RX4) (T := TX4) (N := 11) hx hb hts iwX4_search_X4 hown hK hP (1) (wl_at (by omega) (ce_1 (by decide))) rfl 7 (by decide) (hts (.fieldLink RX4 24 "QuietStairs$Planner" "seats" "[I") fwX4_search_3) (fun _ h9 => h9) rfl dX4_search_29 ?_
      refine lv_iconst (v := 0) hx hb dX4_search_32 (by decide) ?_
      refine lv_aload_n hx hb dX4_search_33 rfl (lv_at hl 0 rfl) ?_
      refine va_get (D := (dC, dI)) (ci := 4) (v := .ref (ad 7)) (C := RX4) (T := TX4) (N := 11) hx hb hts iwX4_search_X4 hown hK hP (1) (wl_at (by omega) (ce_1 (by decide))) rfl 8 (by decide) (hts (.fieldLink RX4 27 "QuietStairs$Planner" "bestSeats" "[I") fwX4_search_4) (fun _ h9 => h9) rfl dX4_search_34 ?_
      refine lv_iconst (v := 0) hx hb dX4_search_37 (by decide) ?_
      refine lv_aload_n hx hb dX4_search_38 rfl (lv_at hl 0 rfl) ?_
      refine va_get (D := (dC, dI)) (ci := 4) (v := .int (v_7 (1) 1)) (C := RX4) (T := TX4) (N := 11) hx hb hts iwX4_search_X4 hown hK hP (1) (wl_at (by omega) (ce_1 (by decide))) rfl 1 (by decide) (hts (.fieldLink RX4 61 "QuietStairs$Planner" "count" "I") fwX4_search_2) (fun _ h9 => h9) rfl dX4_search_39 ?_
      refine lv_topi (fun x_8 ex_8 => ?_)
      rw [ev_7, upr_s, pk_un (by decide)] at ex_8
      rw [← ex_5] at ex_8; replace ex_8 := ex_8.symm; subst ex_8
      have hn_9 := t_n (x := x_5) (m := 4) ⟨by omega, by omega⟩
      refine va_copyi hx hb (hml.trans hl.1.symm) hown (hts (.methodLink RX4 99 arraycopyName) fwX4_search_5) (hts (.native arraycopyName) fwX4_search_6) (hts (.static arraycopyName) fwX4_search_7) (hts (.initialized "java/lang/System") fwX4_search_8) hK hP hD hS (6) (7) 0 0 (wl_at (by omega) (ce_17 (by decide))) (wl_at (by omega) (ce_17 (by decide))) rfl rfl rfl (by decide) (by decide) hn_9.1 (by rw [sb_cl0]; have := hn_9.2; omega) (by rw [sb_cl0]; have := hn_9.2; omega) (fun i hi => rfl) (Nat.le_of_ble_eq_true rfl) (Nat.le_of_ble_eq_true rfl) dX4_search_42 (fun H locs hP hD hS => ?_)
      obtain ⟨v_9, ev_9⟩ : ∃ u : Nat → Nat → Int32, u = upr v_7 (7) (va_cpy (v_7 (6)) (v_7 (7)) (0 : Int32).toNatClampNeg (0 : Int32).toNatClampNeg x_5.toNatClampNeg) := ⟨_, rfl⟩
      have hP : va_P (dC, dI) vwCl (wl ad kv cy N v_9) H := by rw [ev_9, ← wl_put (e := _) (ce_17 (by decide))]; exact hP
      have hD : va_D A (wl ad kv cy N v_9) := by rw [ev_9, ← wl_put (e := _) (ce_17 (by decide))]; exact hD
      have hv : Iv v_9 := by rw [ev_9]; exact hv.row (K := 17) (by decide) (fun j => rfl)
      have hfr : Fz v v_9 := by rw [ev_9]; exact hfr.row (by omega) (by omega) (by omega)
      exact W.vret hx hb hr (fun t ht hW => ⟨⟨v_9, rfl, ⟨hv, hfr⟩, by rw [ht]; exact hP, hD⟩, hS.F ht⟩) hS.2.2 dX4_search_45
  · have tc_4 : x_2.toInt ≥ x_3.toInt := Int32.le_iff_toInt_le.mp (Int32.not_lt.mp c_4)
    exact W.vret hx hb hr (fun t ht hW => ⟨⟨v_1, rfl, ⟨hv, hfr⟩, by rw [ht]; exact hP, hD⟩, hS.F ht⟩) hS.2.2 dX4_search_14

set_option maxHeartbeats 4000000 in
set_option maxRecDepth 100000 in
theorem g_X4_searchDay_1 (l : Launch) (dC : Nat → ClassId) (dI : Nat → Nat → Nat) (cy : Nat → ClassId) (sz : Nat) (ad : Nat → Nat) (kv : Value) (N : Nat) (hN : 119 ≤ N) (v : Nat → Nat → Int32) (hv : Iv v) (x0 x1 x2 : Int32) (hs : 3 ≤ x0.toInt ∧ x0.toInt ≤ 3) (ht : 0 ≤ x2.toInt ∧ x2.toInt ≤ 2) (t1 t2 : Nat) : Met l yX4_searchDay wsX4_searchDay ({ frames := 2, cells := 0, slots := 0, locals := 128 }) (va_Pc [.ref (ad 1), .int x0, .int x1, .int x2] (ex_PreT dC dI cy sz (wl ad kv cy N v) t1 t2)) (va_Qv (fun (u : Nat → Nat → Int32) => Iv u ∧ Fz v u) (fun u t => ex_Pst dC dI (va_A (wl ad kv cy N v) sz) (wl ad kv cy N u) t) (va_A (wl ad kv cy N v) sz)) 0 0 (va_A (wl ad kv cy N v) sz) := by
  refine Met.ofW (cc := cX4_searchDay) (maxL := 6) (ret := none) (by decide) rfl ?_
  intro p e s m args below meth c s₁ B hml hv
  obtain ⟨rfl, ⟨hsz, hE, hP, hK, hD0⟩, hSt⟩ := hv
  have hx := B.exec
  have hb := B.bytes
  have hr := B.returns
  have hts := atoms_spec (ws := wsX4_searchDay) B.pre
  have hown : s.vm.findClass RX4 = some m.cls := findClass_of_methodNamed B.named
  have hlocks := B.notSynchronized
  subst hsz
  have hD := hD0.self (sz := s.heap.size)
  generalize hAe : va_A (wl ad kv cy N v) s.heap.size = A at hD hSt ⊢
  have hA : ∀ q : Nat, s.heap.size ≤ q → A q := fun q h => by rw [← hAe]; exact Or.inr h
  have hS : va_S A s.heap s.heap [] := va_S.rf
  have hP : va_P (dC, dI) vwCl (wl ad kv cy N v) s.heap := hP
  have hl := lv_entry ([.ref (ad 1), .int x0, .int x1, .int x2]) (n := 6) (Nat.le_of_ble_eq_true rfl)
  rw [lg_entry_eq]
  generalize (lg_sl ([.ref (ad 1), .int x0, .int x1, .int x2]) ++ List.replicate (6 - (lg_sl ([.ref (ad 1), .int x0, .int x1, .int x2])).length) Slot.unset).toArray = ls at hl ⊢
  have hl : lv_has ls 6 [(0, .ref (ad 1)), (1, .int x0), (2, .int x1), (3, .int x2)] := hl
  have hfr : Fz v v := Fz.rf
  refine lv_iconst (v := 0) hx hb dX4_searchDay_0 (by decide) ?_
  refine lv_istore (lv' := [(4, .int 0), (0, .ref (ad 1)), (1, .int x0), (2, .int x1), (3, .int x2)]) hx hb dX4_searchDay_1 hl (by decide) rfl (fun ls hl => ?_)
  have k_0 : (0 : Int32).toInt = 0 := by decide
  have hloop_1 : ∀ (n : Nat) (y1_4 : Int32) (u1 : Nat → Nat → Int32) (H : Heap) (locs : List Loc), 0 ≤ y1_4.toInt → y1_4.toInt ≤ 6 → (6 - y1_4.toInt).toNat < n → Iv u1 → Fz v u1 → va_P (dC, dI) vwCl (wl ad kv cy N u1) H → va_D A (wl ad kv cy N u1) → va_S A s.heap H locs → ∀ ls : Array Slot, lv_has ls 6 [(4, .int y1_4), (0, .ref (ad 1)), (1, .int x0), (2, .int x1), (3, .int x2)] → W p l e (headSpec wsX4_searchDay ({ frames := 2, cells := 0, slots := 0, locals := 128 })).room s m [Value.ref (ad 1), Value.int x0, Value.int x1, Value.int x2].toArray below meth c H locs 0 0 (MQ below (va_Qv (fun (u : Nat → Nat → Int32) => Iv u ∧ Fz v u) (fun u t => ex_Pst dC dI A (wl ad kv cy N u) t) A) [Value.ref (ad 1), Value.int x0, Value.int x1, Value.int x2].toArray s 0 0 A) (F0 m 3 ls []) := by
    intro n
    induction n with
    | zero =>
      intro y1_4 u1 H locs ay1_4 by1_4 hm_1 hv hfr hP hD hS ls hl
      exact absurd hm_1 (by omega)
    | succ n ih_1 =>
      intro y1_4 u1 H locs ay1_4 by1_4 hm_1 hv hfr hP hD hS ls hl
      refine lv_iload hx hb dX4_searchDay_3 (lv_at hl 0 rfl) ?_
      refine lv_bipush (v := 6) hx hb dX4_searchDay_5 (by decide) ?_
      have k_6 : (6 : Int32).toInt = 6 := by decide
      refine lv_icmp_ge (tgt := 124) hx hb dX4_searchDay_7 (by decide) (fun c_2 => ?_) (fun c_2 => ?_)
      · have tc_2 : y1_4.toInt ≥ (6 : Int32).toInt := Int32.le_iff_toInt_le.mp c_2
        exact W.vret hx hb hr (fun t ht hW => ⟨⟨u1, rfl, ⟨hv, hfr⟩, by rw [ht]; exact hP, hD⟩, hS.F ht⟩) hS.2.2 dX4_searchDay_124
      · have tc_2 : y1_4.toInt < (6 : Int32).toInt := Int32.lt_iff_toInt_lt.mp (Int32.not_le.mp c_2)
        refine lv_iconst (v := 1) hx hb dX4_searchDay_10 (by decide) ?_
        refine va_getsN hx hb hSt.2.1 hS hown (va_Nw.use rfl hE.2.2.2.2.2.2.2.2.2.2.2.2.2.2.2.1) (fun _ h => h) dX4_searchDay_11 ?_
        refine lv_iload hx hb dX4_searchDay_14 (lv_at hl 0 rfl) ?_
        obtain ⟨pi3, i3, hi3, ni3, mi3⟩ := t_in (x := y1_4) (n := 6) ⟨by omega, by omega⟩
        refine va_ti (v := .int (st_l y1_4.toNatClampNeg)) hx hb hSt.2.2 hS pi3 rfl dX4_searchDay_16 ?_
        refine lv_topi (fun x_4 ex_4 => ?_)
        have bx_4 : 0 ≤ x_4.toInt ∧ x_4.toInt ≤ 3 := by rw [ex_4]; exact (st_b _).2
        refine lv_ishl hx hb dX4_searchDay_17 ?_
        refine lv_topi (fun x_5 ex_5 => ?_)
        have tx_5 : 1 ≤ x_5.toInt ∧ x_5.toInt ≤ 32 := by rw [ex_5]; exact t_shl ⟨by omega, by omega⟩
        refine lv_iconst (v := 1) hx hb dX4_searchDay_18 (by decide) ?_
        refine va_getsN hx hb hSt.1.1 hS hown (va_Nw.use rfl hE.2.2.2.2.2.2.2.2.2.2.2.2.2.2.2.2) (fun _ h => h) dX4_searchDay_19 ?_
        refine lv_iload hx hb dX4_searchDay_22 (lv_at hl 0 rfl) ?_
        refine va_ti (v := .int (st_o y1_4.toNatClampNeg)) hx hb hSt.1.2 hS pi3 rfl dX4_searchDay_24 ?_
        refine lv_topi (fun x_6 ex_6 => ?_)
        have bx_6 : 0 ≤ x_6.toInt ∧ x_6.toInt ≤ 3 := by rw [ex_6]; exact (st_b _).1
        refine lv_ishl hx hb dX4_searchDay_25 ?_
        refine lv_topi (fun x_7 ex_7 => ?_)
        have tx_7 : 1 ≤ x_7.toInt ∧ x_7.toInt ≤ 32 := by rw [ex_7]; exact t_shl ⟨by omega, by omega⟩
        refine lv_ior hx hb dX4_searchDay_26 ?_
        refine lv_topi (fun x_8 ex_8 => ?_)
        refine lv_istore (lv' := [(5, .int x_8), (4, .int y1_4), (0, .ref (ad 1)), (1, .int x0), (2, .int x1), (3, .int x2)]) hx hb dX4_searchDay_27 hl (by decide) rfl (fun ls hl => ?_)
        refine lv_aload_n hx hb dX4_searchDay_29 rfl (lv_at hl 2 rfl) ?_
        refine va_get (D := (dC, dI)) (ci := 4) (v := .ref (ad 4)) (C := RX4) (T := TX4) (N := 11) hx hb hts iwX4_searchDay_X4 hown hK hP (1) (wl_at (by omega) (ce_1 (by decide))) rfl 5 (by decide) (hts (.fieldLink RX4 18 "QuietStairs$Planner" "pairBits" "[I") fwX4_searchDay_1) (fun _ h9 => h9) rfl dX4_searchDay_30 ?_
        refine lv_iload_n hx hb dX4_searchDay_33 rfl (lv_at hl 3 rfl) ?_
        obtain ⟨pi9, i9, hi9, ni9, mi9⟩ := t_in (x := x0) (n := 4) ⟨by omega, by omega⟩
        refine va_iald hx hb hK hP (4) 0 (wl_at (by omega) (ce_17 (by decide))) rfl pi9 dX4_searchDay_34 ?_
        refine lv_topi (fun x_10 ex_10 => ?_)
        refine lv_iload hx hb dX4_searchDay_35 (lv_at hl 1 rfl) ?_
        refine yc_p hP hS (va_runSN (As := [.int x_10, .int y1_4]) (rest := []) ⟨hx, hb, hml, hown, hts⟩ (c_X7_hasBit l x_10 y1_4) ⟨va_cnB 2 hts gX4_searchDay_X7_hasBit_n115 rfl rfl rfl hE.2.2.2.2.2.2.2.2.2.2.2.1 (hts (.initialized RX7) fwX4_searchDay_6) (by decide +kernel) ⟨Nat.le_of_ble_eq_true rfl, Nat.le_of_ble_eq_true rfl⟩, (hts (.static yX7_hasBit) fwX4_searchDay_5), trivial⟩ ex_preP rfl rfl hl.1 rfl (lv_room (Nat.le_of_ble_eq_true rfl)) dX4_searchDay_37 ⟨Nat.le_of_ble_eq_true rfl, Nat.le_of_ble_eq_true rfl⟩) (fun r_11 H locs hw_11 hP hS => ?_)
        rcases hw_11 with rfl | rfl
        · refine lv_if_eq (tgt := 118) hx hb dX4_searchDay_40 (by decide) (fun _ => ?_) (fun c9 => absurd c9 (by decide))
          obtain ⟨x_12, ex_12⟩ : ∃ y : Int32, y = y1_4 + 1 := ⟨_, rfl⟩
          refine lv_iinc (v := x_12) (lv' := [(4, .int x_12), (5, .int x_8), (0, .ref (ad 1)), (1, .int x0), (2, .int x1), (3, .int x2)]) hx hb dX4_searchDay_118 hl (k := 1) rfl (by rw [ex_12]; rfl) (by decide) rfl (fun ls hl => ?_)
          have k_1 : (1 : Int32).toInt = 1 := by decide
          have tx_12 : x_12.toInt = y1_4.toInt + (1 : Int32).toInt := by rw [ex_12]; exact t_add ⟨by omega, by omega⟩
          refine lv_goto (tgt := 3) hx hb dX4_searchDay_121 (by decide) ?_
          exact ih_1 x_12 u1 H locs (by omega) (by omega) (by omega) hv hfr hP hD hS ls (lv_sub hl [0, 2, 3, 4, 5] rfl)
        · refine lv_if_eq (tgt := 118) hx hb dX4_searchDay_40 (by decide) (fun c9 => absurd c9 (by decide)) (fun _ => ?_)
          refine lv_aload_n hx hb dX4_searchDay_43 rfl (lv_at hl 2 rfl) ?_
          refine va_get (D := (dC, dI)) (ci := 4) (v := .ref (ad 8)) (C := RX4) (T := TX4) (N := 11) hx hb hts iwX4_searchDay_X4 hown hK hP (1) (wl_at (by omega) (ce_1 (by decide))) rfl 9 (by decide) (hts (.fieldLink RX4 30 "QuietStairs$Planner" "busyBits" "[I") fwX4_searchDay_2) (fun _ h9 => h9) rfl dX4_searchDay_44 ?_
          refine lv_iload_n hx hb dX4_searchDay_47 rfl (lv_at hl 5 rfl) ?_
          obtain ⟨pi12, i12, hi12, ni12, mi12⟩ := t_in (x := x2) (n := 3) ⟨by omega, by omega⟩
          refine va_iald hx hb hK hP (8) 0 (wl_at (by omega) (ce_18 (by decide))) rfl pi12 dX4_searchDay_48 ?_
          refine lv_topi (fun x_13 ex_13 => ?_)
          refine lv_iload hx hb dX4_searchDay_49 (lv_at hl 0 rfl) ?_
          refine lv_iand hx hb dX4_searchDay_51 ?_
          refine lv_topi (fun x_14 ex_14 => ?_)
          refine lv_if_ne (tgt := 118) hx hb dX4_searchDay_52 (by decide) (fun c_15 => ?_) (fun c_15 => ?_)
          · have tc_15 : x_14.toInt ≠ (0 : Int32).toInt := fun q => absurd (Int32.toInt_inj.mp q) c_15
            obtain ⟨x_16, ex_16⟩ : ∃ y : Int32, y = y1_4 + 1 := ⟨_, rfl⟩
            refine lv_iinc (v := x_16) (lv' := [(4, .int x_16), (5, .int x_8), (0, .ref (ad 1)), (1, .int x0), (2, .int x1), (3, .int x2)]) hx hb dX4_searchDay_118 hl (k := 1) rfl (by rw [ex_16]; rfl) (by decide) rfl (fun ls hl => ?_)
            have k_1 : (1 : Int32).toInt = 1 := by decide
            have tx_16 : x_16.toInt = y1_4.toInt + (1 : Int32).toInt := by rw [ex_16]; exact t_add ⟨by omega, by omega⟩
            refine lv_goto (tgt := 3) hx hb dX4_searchDay_121 (by decide) ?_
            exact ih_1 x_16 u1 H locs (by omega) (by omega) (by omega) hv hfr hP hD hS ls (lv_sub hl [0, 2, 3, 4, 5] rfl)
          · have tc_15 : x_14.toInt = (0 : Int32).toInt := by rw [c_15]
            refine lv_aload_n hx hb dX4_searchDay_55 rfl (lv_at hl 2 rfl) ?_
            refine va_get (D := (dC, dI)) (ci := 4) (v := .ref (ad 6)) (C := RX4) (T := TX4) (N := 11) hx hb hts iwX4_searchDay_X4 hown hK hP (1) (wl_at (by omega) (ce_1 (by decide))) rfl 7 (by decide) (hts (.fieldLink RX4 24 "QuietStairs$Planner" "seats" "[I") fwX4_searchDay_3) (fun _ h9 => h9) rfl dX4_searchDay_56 ?_
            refine lv_iload_n hx hb dX4_searchDay_59 rfl (lv_at hl 3 rfl) ?_
            refine lv_bipush (v := 6) hx hb dX4_searchDay_60 (by decide) ?_
            refine lv_iload_n hx hb dX4_searchDay_62 rfl (lv_at hl 5 rfl) ?_
            refine lv_imul hx hb dX4_searchDay_63 ?_
            refine lv_topi (fun x_16 ex_16 => ?_)
            refine lv_iload hx hb dX4_searchDay_64 (lv_at hl 1 rfl) ?_
            refine lv_iadd hx hb dX4_searchDay_66 ?_
            refine lv_topi (fun x_17 ex_17 => ?_)
            refine va_iast hx hb hK hP hD hS (6) 0 (wl_at (by omega) (ce_17 (by decide))) rfl pi9 dX4_searchDay_67 (fun H locs hP hD hS => ?_)
            obtain ⟨v_18, ev_18⟩ : ∃ u : Nat → Nat → Int32, u = upr u1 (6) (upd (u1 (6)) (x0.toNatClampNeg) x_17) := ⟨_, rfl⟩
            have hP : va_P (dC, dI) vwCl (wl ad kv cy N v_18) H := by rw [ev_18, ← wl_put (e := _) (ce_17 (by decide))]; exact hP
            have hD : va_D A (wl ad kv cy N v_18) := by rw [ev_18, ← wl_put (e := _) (ce_17 (by decide))]; exact hD
            have hv : Iv v_18 := by rw [ev_18]; exact hv.put (K := 17) (by decide) (fun h q => by simp [bd] at q)
            have hfr : Fz v v_18 := by rw [ev_18]; exact hfr.put (by omega) (by omega) (by omega)
            refine lv_aload_n hx hb dX4_searchDay_68 rfl (lv_at hl 2 rfl) ?_
            refine va_get (D := (dC, dI)) (ci := 4) (v := .ref (ad 8)) (C := RX4) (T := TX4) (N := 11) hx hb hts iwX4_searchDay_X4 hown hK hP (1) (wl_at (by omega) (ce_1 (by decide))) rfl 9 (by decide) (hts (.fieldLink RX4 30 "QuietStairs$Planner" "busyBits" "[I") fwX4_searchDay_2) (fun _ h9 => h9) rfl dX4_searchDay_69 ?_
            refine lv_iload_n hx hb dX4_searchDay_72 rfl (lv_at hl 5 rfl) ?_
            refine lv_dup2_11 hx hb dX4_searchDay_73 rfl rfl ?_
            refine va_iald hx hb hK hP (8) 0 (wl_at (by omega) (ce_18 (by decide))) rfl pi12 dX4_searchDay_74 ?_
            refine lv_topi (fun x_19 ex_19 => ?_)
            refine lv_iload hx hb dX4_searchDay_75 (lv_at hl 0 rfl) ?_
            refine lv_ior hx hb dX4_searchDay_77 ?_
            refine lv_topi (fun x_20 ex_20 => ?_)
            refine va_iast hx hb hK hP hD hS (8) 0 (wl_at (by omega) (ce_18 (by decide))) rfl pi12 dX4_searchDay_78 (fun H locs hP hD hS => ?_)
            obtain ⟨v_21, ev_21⟩ : ∃ u : Nat → Nat → Int32, u = upr v_18 (8) (upd (v_18 (8)) (x2.toNatClampNeg) x_20) := ⟨_, rfl⟩
            have hP : va_P (dC, dI) vwCl (wl ad kv cy N v_21) H := by rw [ev_21, ← wl_put (e := _) (ce_18 (by decide))]; exact hP
            have hD : va_D A (wl ad kv cy N v_21) := by rw [ev_21, ← wl_put (e := _) (ce_18 (by decide))]; exact hD
            have hv : Iv v_21 := by rw [ev_21]; exact hv.put (K := 18) (by decide) (fun h q => by simp [bd] at q)
            have hfr : Fz v v_21 := by rw [ev_21]; exact hfr.put (by omega) (by omega) (by omega)
            refine lv_aload_n hx hb dX4_searchDay_79 rfl (lv_at hl 2 rfl) ?_
            refine va_get (D := (dC, dI)) (ci := 4) (v := .ref (ad 9)) (C := RX4) (T := TX4) (N := 11) hx hb hts iwX4_searchDay_X4 hown hK hP (1) (wl_at (by omega) (ce_1 (by decide))) rfl 10 (by decide) (hts (.fieldLink RX4 33 "QuietStairs$Planner" "sittings" "[I") fwX4_searchDay_4) (fun _ h9 => h9) rfl dX4_searchDay_80 ?_
            refine lv_iload_n hx hb dX4_searchDay_83 rfl (lv_at hl 5 rfl) ?_
            refine lv_dup2_11 hx hb dX4_searchDay_84 rfl rfl ?_
            refine va_iald hx hb hK hP (9) 0 (wl_at (by omega) (ce_18 (by decide))) rfl pi12 dX4_searchDay_85 ?_
            refine lv_topi (fun x_22 ex_22 => ?_)
            refine lv_iconst (v := 1) hx hb dX4_searchDay_86 (by decide) ?_
            have k_1 : (1 : Int32).toInt = 1 := by decide
            refine lv_iadd hx hb dX4_searchDay_87 ?_
            refine lv_topi (fun x_23 ex_23 => ?_)
            refine va_iast hx hb hK hP hD hS (9) 0 (wl_at (by omega) (ce_18 (by decide))) rfl pi12 dX4_searchDay_88 (fun H locs hP hD hS => ?_)
            obtain ⟨v_24, ev_24⟩ : ∃ u : Nat → Nat → Int32, u = upr v_21 (9) (upd (v_21 (9)) (x2.toNatClampNeg) x_23) := ⟨_, rfl⟩
            have hP : va_P (dC, dI) vwCl (wl ad kv cy N v_24) H := by rw [ev_24, ← wl_put (e := _) (ce_18 (by decide))]; exact hP
            have hD : va_D A (wl ad kv cy N v_24) := by rw [ev_24, ← wl_put (e := _) (ce_18 (by decide))]; exact hD
            have hv : Iv v_24 := by rw [ev_24]; exact hv.put (K := 18) (by decide) (fun h q => by simp [bd] at q)
            have hfr : Fz v v_24 := by rw [ev_24]; exact hfr.put (by omega) (by omega) (by omega)
            refine lv_aload_n hx hb dX4_searchDay_89 rfl (lv_at hl 2 rfl) ?_
            refine lv_iload_n hx hb dX4_searchDay_90 rfl (lv_at hl 3 rfl) ?_
            refine lv_iconst (v := 1) hx hb dX4_searchDay_91 (by decide) ?_
            refine lv_iadd hx hb dX4_searchDay_92 ?_
            refine lv_topi (fun x_25 ex_25 => ?_)
            have tx_25 : x_25.toInt = x0.toInt + (1 : Int32).toInt := by rw [ex_25]; exact t_add ⟨by omega, by omega⟩
            refine lv_iload_n hx hb dX4_searchDay_93 rfl (lv_at hl 4 rfl) ?_
            refine yw_v (w1 := fun (u : Nat → Nat → Int32) => wl ad kv cy N u) hD hS hA (va_runV (As := [.int x_25, .int x1]) (rest := []) ⟨hx, hb, hml, hown, hts⟩ (g_X4_search_0 l dC dI cy _ ad kv N hN v_24 hv x_25 x1 ⟨by omega, by omega⟩ t1 t2) (cwV 2 hts gX4_searchDay_X4_search rfl rfl rfl hd_V_X4_search_2 ⟨Nat.le_of_ble_eq_true rfl, Nat.le_of_ble_eq_true rfl⟩) ⟨ex_blindT, va_recv hK hP (ci := 4) (q0 := 1) rfl (wl_at (by omega) (ce_1 (by decide))), fun U hU hW => ⟨rfl, ((yw_preS (As := []) hE hK hP hD).2 U hU hW).2, hSt.go hS (yw_F hD hS hA) hU hW⟩⟩ rfl rfl hl.1 rfl (lv_room (Nat.le_of_ble_eq_true rfl)) dX4_searchDay_94 ⟨Nat.le_of_ble_eq_true rfl, Nat.le_of_ble_eq_true rfl⟩) (fun v_26 H locs hw_26 hP hD hS => ?_)
            obtain ⟨hv, hw_26⟩ := hw_26
            have hfr : Fz v v_26 := hfr.trans hw_26
            refine lv_aload_n hx hb dX4_searchDay_97 rfl (lv_at hl 2 rfl) ?_
            refine va_get (D := (dC, dI)) (ci := 4) (v := .ref (ad 9)) (C := RX4) (T := TX4) (N := 11) hx hb hts iwX4_searchDay_X4 hown hK hP (1) (wl_at (by omega) (ce_1 (by decide))) rfl 10 (by decide) (hts (.fieldLink RX4 33 "QuietStairs$Planner" "sittings" "[I") fwX4_searchDay_4) (fun _ h9 => h9) rfl dX4_searchDay_98 ?_
            refine lv_iload_n hx hb dX4_searchDay_101 rfl (lv_at hl 5 rfl) ?_
            refine lv_dup2_11 hx hb dX4_searchDay_102 rfl rfl ?_
            refine va_iald hx hb hK hP (9) 0 (wl_at (by omega) (ce_18 (by decide))) rfl pi12 dX4_searchDay_103 ?_
            refine lv_topi (fun x_27 ex_27 => ?_)
            refine lv_iconst (v := 1) hx hb dX4_searchDay_104 (by decide) ?_
            refine lv_isub hx hb dX4_searchDay_105 ?_
            refine lv_topi (fun x_28 ex_28 => ?_)
            refine va_iast hx hb hK hP hD hS (9) 0 (wl_at (by omega) (ce_18 (by decide))) rfl pi12 dX4_searchDay_106 (fun H locs hP hD hS => ?_)
            obtain ⟨v_29, ev_29⟩ : ∃ u : Nat → Nat → Int32, u = upr v_26 (9) (upd (v_26 (9)) (x2.toNatClampNeg) x_28) := ⟨_, rfl⟩
            have hP : va_P (dC, dI) vwCl (wl ad kv cy N v_29) H := by rw [ev_29, ← wl_put (e := _) (ce_18 (by decide))]; exact hP
            have hD : va_D A (wl ad kv cy N v_29) := by rw [ev_29, ← wl_put (e := _) (ce_18 (by decide))]; exact hD
            have hv : Iv v_29 := by rw [ev_29]; exact hv.put (K := 18) (by decide) (fun h q => by simp [bd] at q)
            have hfr : Fz v v_29 := by rw [ev_29]; exact hfr.put (by omega) (by omega) (by omega)
            refine lv_aload_n hx hb dX4_searchDay_107 rfl (lv_at hl 2 rfl) ?_
            refine va_get (D := (dC, dI)) (ci := 4) (v := .ref (ad 8)) (C := RX4) (T := TX4) (N := 11) hx hb hts iwX4_searchDay_X4 hown hK hP (1) (wl_at (by omega) (ce_1 (by decide))) rfl 9 (by decide) (hts (.fieldLink RX4 30 "QuietStairs$Planner" "busyBits" "[I") fwX4_searchDay_2) (fun _ h9 => h9) rfl dX4_searchDay_108 ?_
            refine lv_iload_n hx hb dX4_searchDay_111 rfl (lv_at hl 5 rfl) ?_
            refine lv_dup2_11 hx hb dX4_searchDay_112 rfl rfl ?_
            refine va_iald hx hb hK hP (8) 0 (wl_at (by omega) (ce_18 (by decide))) rfl pi12 dX4_searchDay_113 ?_
            refine lv_topi (fun x_30 ex_30 => ?_)
            refine lv_iload hx hb dX4_searchDay_114 (lv_at hl 0 rfl) ?_
            refine lv_ixor hx hb dX4_searchDay_116 ?_
            refine lv_topi (fun x_31 ex_31 => ?_)
            refine va_iast hx hb hK hP hD hS (8) 0 (wl_at (by omega) (ce_18 (by decide))) rfl pi12 dX4_searchDay_117 (fun H locs hP hD hS => ?_)
            obtain ⟨v_32, ev_32⟩ : ∃ u : Nat → Nat → Int32, u = upr v_29 (8) (upd (v_29 (8)) (x2.toNatClampNeg) x_31) := ⟨_, rfl⟩
            have hP : va_P (dC, dI) vwCl (wl ad kv cy N v_32) H := by rw [ev_32, ← wl_put (e := _) (ce_18 (by decide))]; exact hP
            have hD : va_D A (wl ad kv cy N v_32) := by rw [ev_32, ← wl_put (e := _) (ce_18 (by decide))]; exact hD
            have hv : Iv v_32 := by rw [ev_32]; exact hv.put (K := 18) (by decide) (fun h q => by simp [bd] at q)
            have hfr : Fz v v_32 := by rw [ev_32]; exact hfr.put (by omega) (by omega) (by omega)
            obtain ⟨x_33, ex_33⟩ : ∃ y : Int32, y = y1_4 + 1 := ⟨_, rfl⟩
            refine lv_iinc (v := x_33) (lv' := [(4, .int x_33), (5, .int x_8), (0, .ref (ad 1)), (1, .int x0), (2, .int x1), (3, .int x2)]) hx hb dX4_searchDay_118 hl (k := 1) rfl (by rw [ex_33]; rfl) (by decide) rfl (fun ls hl => ?_)
            have tx_33 : x_33.toInt = y1_4.toInt + (1 : Int32).toInt := by rw [ex_33]; exact t_add ⟨by omega, by omega⟩
            refine lv_goto (tgt := 3) hx hb dX4_searchDay_121 (by decide) ?_
            exact ih_1 x_33 v_32 H locs (by omega) (by omega) (by omega) hv hfr hP hD hS ls (lv_sub hl [0, 2, 3, 4, 5] rfl)
  exact hloop_1 ((6 - (0 : Int32).toInt).toNat + 1) 0 v _ _ (by omega) (by omega) (by omega) hv hfr hP hD hS ls hl

set_option maxHeartbeats 4000000 in
set_option maxRecDepth 100000 in
theorem g_X4_search_1 (l : Launch) (dC : Nat → ClassId) (dI : Nat → Nat → Nat) (cy : Nat → ClassId) (sz : Nat) (ad : Nat → Nat) (kv : Value) (N : Nat) (hN : 119 ≤ N) (v : Nat → Nat → Int32) (hv : Iv v) (x0 x1 : Int32) (hs : 3 ≤ x0.toInt ∧ x0.toInt ≤ 4) (t1 t2 : Nat) : Met l yX4_search wsX4_search ({ frames := 3, cells := 0, slots := 0, locals := 192 }) (va_Pc [.ref (ad 1), .int x0, .int x1] (ex_PreT dC dI cy sz (wl ad kv cy N v) t1 t2)) (va_Qv (fun (u : Nat → Nat → Int32) => Iv u ∧ Fz v u) (fun u t => ex_Pst dC dI (va_A (wl ad kv cy N v) sz) (wl ad kv cy N u) t) (va_A (wl ad kv cy N v) sz)) 0 0 (va_A (wl ad kv cy N v) sz) := by
  refine Met.ofW (cc := cX4_search) (maxL := 4) (ret := none) (by decide) rfl ?_
  intro p e s m args below meth c s₁ B hml hv
  obtain ⟨rfl, ⟨hsz, hE, hP, hK, hD0⟩, hSt⟩ := hv
  have hx := B.exec
  have hb := B.bytes
  have hr := B.returns
  have hts := atoms_spec (ws := wsX4_search) B.pre
  have hown : s.vm.findClass RX4 = some m.cls := findClass_of_methodNamed B.named
  have hlocks := B.notSynchronized
  subst hsz
  have hD := hD0.self (sz := s.heap.size)
  generalize hAe : va_A (wl ad kv cy N v) s.heap.size = A at hD hSt ⊢
  have hA : ∀ q : Nat, s.heap.size ≤ q → A q := fun q h => by rw [← hAe]; exact Or.inr h
  have hS : va_S A s.heap s.heap [] := va_S.rf
  have hP : va_P (dC, dI) vwCl (wl ad kv cy N v) s.heap := hP
  have hl := lv_entry ([.ref (ad 1), .int x0, .int x1]) (n := 4) (Nat.le_of_ble_eq_true rfl)
  rw [lg_entry_eq]
  generalize (lg_sl ([.ref (ad 1), .int x0, .int x1]) ++ List.replicate (4 - (lg_sl ([.ref (ad 1), .int x0, .int x1])).length) Slot.unset).toArray = ls at hl ⊢
  have hl : lv_has ls 4 [(0, .ref (ad 1)), (1, .int x0), (2, .int x1)] := hl
  have hfr : Fz v v := Fz.rf
  refine lv_iload_n hx hb dX4_search_0 rfl (lv_at hl 2 rfl) ?_
  refine lv_aload_n hx hb dX4_search_1 rfl (lv_at hl 0 rfl) ?_
  refine lv_iload_n hx hb dX4_search_2 rfl (lv_at hl 1 rfl) ?_
  refine yw_i (w1 := fun (u : Nat → Nat → Int32) => wl ad kv cy N u) hD hS hA (va_runV (As := [.int x0]) (rest := [.int x1]) ⟨hx, hb, hml, hown, hts⟩ (g_X4_leastBehind l dC dI cy _ ad kv N hN v hv x0) (cwV 1 hts gX4_search_X4_leastBehind rfl rfl rfl hd_V_X4_leastBehind_1 ⟨Nat.le_of_ble_eq_true rfl, Nat.le_of_ble_eq_true rfl⟩) (yw_preV hE hK hP hD (ci := 4) (q0 := 1) rfl (wl_at (by omega) (ce_1 (by decide)))) rfl rfl hl.1 rfl (lv_room (Nat.le_of_ble_eq_true rfl)) dX4_search_3 ⟨Nat.le_of_ble_eq_true rfl, Nat.le_of_ble_eq_true rfl⟩) (fun r_1 v_1 H locs hw_1 hP hD hS => ?_)
  obtain ⟨hv, hw_1⟩ := hw_1
  have hfr : Fz v v_1 := hfr.trans hw_1
  refine lv_iadd hx hb dX4_search_6 ?_
  refine lv_topi (fun x_2 ex_2 => ?_)
  refine lv_aload_n hx hb dX4_search_7 rfl (lv_at hl 0 rfl) ?_
  refine va_get (D := (dC, dI)) (ci := 4) (v := .int (v_1 (1) 0)) (C := RX4) (T := TX4) (N := 11) hx hb hts iwX4_search_X4 hown hK hP (1) (wl_at (by omega) (ce_1 (by decide))) rfl 0 (by decide) (hts (.fieldLink RX4 58 "QuietStairs$Planner" "leastWait" "I") fwX4_search_1) (fun _ h9 => h9) rfl dX4_search_8 ?_
  refine lv_topi (fun x_3 ex_3 => ?_)
  refine lv_icmp_lt (tgt := 15) hx hb dX4_search_11 (by decide) (fun c_4 => ?_) (fun c_4 => ?_)
  · have tc_4 : x_2.toInt < x_3.toInt := Int32.lt_iff_toInt_lt.mp c_4
    refine lv_iload_n hx hb dX4_search_15 rfl (lv_at hl 1 rfl) ?_
    refine lv_aload_n hx hb dX4_search_16 rfl (lv_at hl 0 rfl) ?_
    refine va_get (D := (dC, dI)) (ci := 4) (v := .int (v_1 (1) 1)) (C := RX4) (T := TX4) (N := 11) hx hb hts iwX4_search_X4 hown hK hP (1) (wl_at (by omega) (ce_1 (by decide))) rfl 1 (by decide) (hts (.fieldLink RX4 61 "QuietStairs$Planner" "count" "I") fwX4_search_2) (fun _ h9 => h9) rfl dX4_search_17 ?_
    refine lv_topi (fun x_5 ex_5 => ?_)
    have bx_5 : 0 ≤ x_5.toInt ∧ x_5.toInt ≤ 4 := by rw [ex_5]; exact hv.at (K := 1) (by decide) rfl
    refine lv_icmp_lt (tgt := 46) hx hb dX4_search_20 (by decide) (fun c_6 => ?_) (fun c_6 => ?_)
    · have tc_6 : x0.toInt < x_5.toInt := Int32.lt_iff_toInt_lt.mp c_6
      refine lv_iconst (v := 0) hx hb dX4_search_46 (by decide) ?_
      refine lv_istore_n (lv' := [(3, .int 0), (0, .ref (ad 1)), (1, .int x0), (2, .int x1)]) hx hb dX4_search_47 rfl hl (by decide) rfl (fun ls hl => ?_)
      have k_0 : (0 : Int32).toInt = 0 := by decide
      have hloop_7 : ∀ (n : Nat) (y7_3 : Int32) (u7 : Nat → Nat → Int32) (H : Heap) (locs : List Loc), 0 ≤ y7_3.toInt → y7_3.toInt ≤ 3 → (3 - y7_3.toInt).toNat < n → Iv u7 → Fz v u7 → va_P (dC, dI) vwCl (wl ad kv cy N u7) H → va_D A (wl ad kv cy N u7) → va_S A s.heap H locs → ∀ ls : Array Slot, lv_has ls 4 [(3, .int y7_3), (0, .ref (ad 1)), (1, .int x0), (2, .int x1)] → W p l e (headSpec wsX4_search ({ frames := 3, cells := 0, slots := 0, locals := 192 })).room s m [Value.ref (ad 1), Value.int x0, Value.int x1].toArray below meth c H locs 0 0 (MQ below (va_Qv (fun (u : Nat → Nat → Int32) => Iv u ∧ Fz v u) (fun u t => ex_Pst dC dI A (wl ad kv cy N u) t) A) [Value.ref (ad 1), Value.int x0, Value.int x1].toArray s 0 0 A) (F0 m 48 ls []) := by
        intro n
        induction n with
        | zero =>
          intro y7_3 u7 H locs ay7_3 by7_3 hm_7 hv hfr hP hD hS ls hl
          exact absurd hm_7 (by omega)
        | succ n ih_7 =>
          intro y7_3 u7 H locs ay7_3 by7_3 hm_7 hv hfr hP hD hS ls hl
          refine lv_iload_n hx hb dX4_search_48 rfl (lv_at hl 0 rfl) ?_
          refine lv_iconst (v := 3) hx hb dX4_search_49 (by decide) ?_
          have k_3 : (3 : Int32).toInt = 3 := by decide
          refine lv_icmp_ge (tgt := 88) hx hb dX4_search_50 (by decide) (fun c_8 => ?_) (fun c_8 => ?_)
          · have tc_8 : y7_3.toInt ≥ (3 : Int32).toInt := Int32.le_iff_toInt_le.mp c_8
            refine lv_aload_n hx hb dX4_search_88 rfl (lv_at hl 1 rfl) ?_
            refine va_get (D := (dC, dI)) (ci := 4) (v := .ref (ad 6)) (C := RX4) (T := TX4) (N := 11) hx hb hts iwX4_search_X4 hown hK hP (1) (wl_at (by omega) (ce_1 (by decide))) rfl 7 (by decide) (hts (.fieldLink RX4 24 "QuietStairs$Planner" "seats" "[I") fwX4_search_3) (fun _ h9 => h9) rfl dX4_search_89 ?_
            refine lv_iload_n hx hb dX4_search_92 rfl (lv_at hl 2 rfl) ?_
            refine lv_bipush (v := 18) hx hb dX4_search_93 (by decide) ?_
            obtain ⟨pi9, i9, hi9, ni9, mi9⟩ := t_in (x := x0) (n := 4) ⟨by omega, by omega⟩
            refine va_iast hx hb hK hP hD hS (6) 0 (wl_at (by omega) (ce_17 (by decide))) rfl pi9 dX4_search_95 (fun H locs hP hD hS => ?_)
            have k_18 : (18 : Int32).toInt = 18 := by decide
            obtain ⟨v_10, ev_10⟩ : ∃ u : Nat → Nat → Int32, u = upr u7 (6) (upd (u7 (6)) (x0.toNatClampNeg) 18) := ⟨_, rfl⟩
            have hP : va_P (dC, dI) vwCl (wl ad kv cy N v_10) H := by rw [ev_10, ← wl_put (e := _) (ce_17 (by decide))]; exact hP
            have hD : va_D A (wl ad kv cy N v_10) := by rw [ev_10, ← wl_put (e := _) (ce_17 (by decide))]; exact hD
            have hv : Iv v_10 := by rw [ev_10]; exact hv.put (K := 17) (by decide) (fun h q => by simp [bd] at q)
            have hfr : Fz v v_10 := by rw [ev_10]; exact hfr.put (by omega) (by omega) (by omega)
            refine lv_aload_n hx hb dX4_search_96 rfl (lv_at hl 1 rfl) ?_
            refine lv_iload_n hx hb dX4_search_97 rfl (lv_at hl 2 rfl) ?_
            refine lv_iconst (v := 1) hx hb dX4_search_98 (by decide) ?_
            have k_1 : (1 : Int32).toInt = 1 := by decide
            refine lv_iadd hx hb dX4_search_99 ?_
            refine lv_topi (fun x_11 ex_11 => ?_)
            have tx_11 : x_11.toInt = x0.toInt + (1 : Int32).toInt := by rw [ex_11]; exact t_add ⟨by omega, by omega⟩
            refine lv_iload_n hx hb dX4_search_100 rfl (lv_at hl 3 rfl) ?_
            refine lv_aload_n hx hb dX4_search_101 rfl (lv_at hl 1 rfl) ?_
            refine va_get (D := (dC, dI)) (ci := 4) (v := .ref (ad 3)) (C := RX4) (T := TX4) (N := 11) hx hb hts iwX4_search_X4 hown hK hP (1) (wl_at (by omega) (ce_1 (by decide))) rfl 4 (by decide) (hts (.fieldLink RX4 15 "QuietStairs$Planner" "weights" "[I") fwX4_search_11) (fun _ h9 => h9) rfl dX4_search_102 ?_
            refine lv_iload_n hx hb dX4_search_105 rfl (lv_at hl 2 rfl) ?_
            refine va_iald hx hb hK hP (3) 0 (wl_at (by omega) (ce_17 (by decide))) rfl pi9 dX4_search_106 ?_
            refine lv_topi (fun x_12 ex_12 => ?_)
            refine lv_iconst (v := 4) hx hb dX4_search_107 (by decide) ?_
            refine lv_imul hx hb dX4_search_108 ?_
            refine lv_topi (fun x_13 ex_13 => ?_)
            refine lv_iadd hx hb dX4_search_109 ?_
            refine lv_topi (fun x_14 ex_14 => ?_)
            refine yw_v (w1 := fun (u : Nat → Nat → Int32) => wl ad kv cy N u) hD hS hA (va_runV (As := [.int x_11, .int x_14]) (rest := []) ⟨hx, hb, hml, hown, hts⟩ (g_X4_search_0 l dC dI cy _ ad kv N hN v_10 hv x_11 x_14 ⟨by omega, by omega⟩ t1 t2) (cwV 2 hts gX4_search_X4_search rfl rfl rfl hd_V_X4_search_2 ⟨Nat.le_of_ble_eq_true rfl, Nat.le_of_ble_eq_true rfl⟩) ⟨ex_blindT, va_recv hK hP (ci := 4) (q0 := 1) rfl (wl_at (by omega) (ce_1 (by decide))), fun U hU hW => ⟨rfl, ((yw_preS (As := []) hE hK hP hD).2 U hU hW).2, hSt.go hS (yw_F hD hS hA) hU hW⟩⟩ rfl rfl hl.1 rfl (lv_room (Nat.le_of_ble_eq_true rfl)) dX4_search_110 ⟨Nat.le_of_ble_eq_true rfl, Nat.le_of_ble_eq_true rfl⟩) (fun v_15 H locs hw_15 hP hD hS => ?_)
            obtain ⟨hv, hw_15⟩ := hw_15
            have hfr : Fz v v_15 := hfr.trans hw_15
            exact W.vret hx hb hr (fun t ht hW => ⟨⟨v_15, rfl, ⟨hv, hfr⟩, by rw [ht]; exact hP, hD⟩, hS.F ht⟩) hS.2.2 dX4_search_113
          · have tc_8 : y7_3.toInt < (3 : Int32).toInt := Int32.lt_iff_toInt_lt.mp (Int32.not_le.mp c_8)
            refine lv_aload_n hx hb dX4_search_53 rfl (lv_at hl 1 rfl) ?_
            refine va_get (D := (dC, dI)) (ci := 4) (v := .ref (ad 9)) (C := RX4) (T := TX4) (N := 11) hx hb hts iwX4_search_X4 hown hK hP (1) (wl_at (by omega) (ce_1 (by decide))) rfl 10 (by decide) (hts (.fieldLink RX4 33 "QuietStairs$Planner" "sittings" "[I") fwX4_search_9) (fun _ h9 => h9) rfl dX4_search_54 ?_
            refine lv_iload_n hx hb dX4_search_57 rfl (lv_at hl 0 rfl) ?_
            obtain ⟨pi9, i9, hi9, ni9, mi9⟩ := t_in (x := y7_3) (n := 3) ⟨by omega, by omega⟩
            refine va_iald hx hb hK hP (9) 0 (wl_at (by omega) (ce_18 (by decide))) rfl pi9 dX4_search_58 ?_
            refine lv_topi (fun x_10 ex_10 => ?_)
            refine lv_aload_n hx hb dX4_search_59 rfl (lv_at hl 1 rfl) ?_
            refine va_get (D := (dC, dI)) (ci := 4) (v := .int (u7 (1) 2)) (C := RX4) (T := TX4) (N := 11) hx hb hts iwX4_search_X4 hown hK hP (1) (wl_at (by omega) (ce_1 (by decide))) rfl 2 (by decide) (hts (.fieldLink RX4 48 "QuietStairs$Planner" "seatsADay" "I") fwX4_search_10) (fun _ h9 => h9) rfl dX4_search_60 ?_
            refine lv_topi (fun x_11 ex_11 => ?_)
            refine lv_icmp_ge (tgt := 82) hx hb dX4_search_63 (by decide) (fun c_12 => ?_) (fun c_12 => ?_)
            · have tc_12 : x_10.toInt ≥ x_11.toInt := Int32.le_iff_toInt_le.mp c_12
              obtain ⟨x_13, ex_13⟩ : ∃ y : Int32, y = y7_3 + 1 := ⟨_, rfl⟩
              refine lv_iinc (v := x_13) (lv' := [(3, .int x_13), (0, .ref (ad 1)), (1, .int x0), (2, .int x1)]) hx hb dX4_search_82 hl (k := 0) rfl (by rw [ex_13]; rfl) (by decide) rfl (fun ls hl => ?_)
              have k_1 : (1 : Int32).toInt = 1 := by decide
              have tx_13 : x_13.toInt = y7_3.toInt + (1 : Int32).toInt := by rw [ex_13]; exact t_add ⟨by omega, by omega⟩
              refine lv_goto (tgt := 48) hx hb dX4_search_85 (by decide) ?_
              exact ih_7 x_13 u7 H locs (by omega) (by omega) (by omega) hv hfr hP hD hS ls (lv_sub hl [0, 1, 2, 3] rfl)
            · have tc_12 : x_10.toInt < x_11.toInt := Int32.lt_iff_toInt_lt.mp (Int32.not_le.mp c_12)
              refine lv_aload_n hx hb dX4_search_66 rfl (lv_at hl 1 rfl) ?_
              refine lv_iload_n hx hb dX4_search_67 rfl (lv_at hl 2 rfl) ?_
              refine lv_iload_n hx hb dX4_search_68 rfl (lv_at hl 3 rfl) ?_
              refine lv_aload_n hx hb dX4_search_69 rfl (lv_at hl 1 rfl) ?_
              refine va_get (D := (dC, dI)) (ci := 4) (v := .ref (ad 3)) (C := RX4) (T := TX4) (N := 11) hx hb hts iwX4_search_X4 hown hK hP (1) (wl_at (by omega) (ce_1 (by decide))) rfl 4 (by decide) (hts (.fieldLink RX4 15 "QuietStairs$Planner" "weights" "[I") fwX4_search_11) (fun _ h9 => h9) rfl dX4_search_70 ?_
              refine lv_iload_n hx hb dX4_search_73 rfl (lv_at hl 2 rfl) ?_
              obtain ⟨pi13, i13, hi13, ni13, mi13⟩ := t_in (x := x0) (n := 4) ⟨by omega, by omega⟩
              refine va_iald hx hb hK hP (3) 0 (wl_at (by omega) (ce_17 (by decide))) rfl pi13 dX4_search_74 ?_
              refine lv_topi (fun x_14 ex_14 => ?_)
              refine lv_iload_n hx hb dX4_search_75 rfl (lv_at hl 0 rfl) ?_
              refine lv_imul hx hb dX4_search_76 ?_
              refine lv_topi (fun x_15 ex_15 => ?_)
              refine lv_iadd hx hb dX4_search_77 ?_
              refine lv_topi (fun x_16 ex_16 => ?_)
              refine lv_iload_n hx hb dX4_search_78 rfl (lv_at hl 0 rfl) ?_
              refine yw_v (w1 := fun (u : Nat → Nat → Int32) => wl ad kv cy N u) hD hS hA (va_runV (As := [.int x0, .int x_16, .int y7_3]) (rest := []) ⟨hx, hb, hml, hown, hts⟩ (g_X4_searchDay_1 l dC dI cy _ ad kv N hN u7 hv x0 x_16 y7_3 ⟨by omega, by omega⟩ ⟨by omega, by omega⟩ t1 t2) (cwV 3 hts gX4_search_X4_searchDay rfl rfl rfl hd_V_X4_searchDay_3 ⟨Nat.le_of_ble_eq_true rfl, Nat.le_of_ble_eq_true rfl⟩) ⟨ex_blindT, va_recv hK hP (ci := 4) (q0 := 1) rfl (wl_at (by omega) (ce_1 (by decide))), fun U hU hW => ⟨rfl, ((yw_preS (As := []) hE hK hP hD).2 U hU hW).2, hSt.go hS (yw_F hD hS hA) hU hW⟩⟩ rfl rfl hl.1 rfl (lv_room (Nat.le_of_ble_eq_true rfl)) dX4_search_79 ⟨Nat.le_of_ble_eq_true rfl, Nat.le_of_ble_eq_true rfl⟩) (fun v_17 H locs hw_17 hP hD hS => ?_)
              obtain ⟨hv, hw_17⟩ := hw_17
              have hfr : Fz v v_17 := hfr.trans hw_17
              obtain ⟨x_18, ex_18⟩ : ∃ y : Int32, y = y7_3 + 1 := ⟨_, rfl⟩
              refine lv_iinc (v := x_18) (lv' := [(3, .int x_18), (0, .ref (ad 1)), (1, .int x0), (2, .int x1)]) hx hb dX4_search_82 hl (k := 0) rfl (by rw [ex_18]; rfl) (by decide) rfl (fun ls hl => ?_)
              have k_1 : (1 : Int32).toInt = 1 := by decide
              have tx_18 : x_18.toInt = y7_3.toInt + (1 : Int32).toInt := by rw [ex_18]; exact t_add ⟨by omega, by omega⟩
              refine lv_goto (tgt := 48) hx hb dX4_search_85 (by decide) ?_
              exact ih_7 x_18 v_17 H locs (by omega) (by omega) (by omega) hv hfr hP hD hS ls (lv_sub hl [0, 1, 2, 3] rfl)
      exact hloop_7 ((3 - (0 : Int32).toInt).toNat + 1) 0 v_1 _ _ (by omega) (by omega) (by omega) hv hfr hP hD hS ls hl
    · have tc_6 : x0.toInt ≥ x_5.toInt := Int32.le_iff_toInt_le.mp (Int32.not_lt.mp c_6)
      refine lv_aload_n hx hb dX4_search_23 rfl (lv_at hl 0 rfl) ?_
      refine lv_iload_n hx hb dX4_search_24 rfl (lv_at hl 2 rfl) ?_
      refine va_put (D := (dC, dI)) (ci := 4) (v := .int x1) (ty := .int) (C := RX4) (T := TX4) (N := 11) hx hb hts iwX4_search_X4 tyX4 tyX4_ok nmX4 hown hK hP hD hS (1) (wl_at (by omega) (ce_1 (by decide))) rfl 0 (by decide) (hts (.fieldLink RX4 58 "QuietStairs$Planner" "leastWait" "I") fwX4_search_1) (fun _ h9 => h9) rfl (by decide +kernel) rfl rfl (Nat.le_of_ble_eq_true rfl) dX4_search_25 (fun H locs hP hD hS => ?_)
      obtain ⟨v_7, ev_7⟩ : ∃ u : Nat → Nat → Int32, u = upr v_1 (1) (upd (v_1 (1)) 0 x1) := ⟨_, rfl⟩
      have hP : va_P (dC, dI) vwCl (wl ad kv cy N v_7) H := by rw [ev_7, ← wl_put (e := _) (ce_1 (by decide))]; exact hP
      have hD : va_D A (wl ad kv cy N v_7) := by rw [ev_7, ← wl_put (e := _) (ce_1 (by decide))]; exact hD
      have hv : Iv v_7 := by rw [ev_7]; exact hv.put (K := 1) (by decide) (fun h q => by simp [bd] at q)
      have hfr : Fz v v_7 := by rw [ev_7]; exact hfr.put (by omega) (by omega) (by omega)
      refine lv_aload_n hx hb dX4_search_28 rfl (lv_at hl 0 rfl) ?_
      refine va_get (D := (dC, dI)) (ci := 4) (v := .ref (ad 6)) (C := RX4) (T := TX4) (N := 11) hx hb hts iwX4_search_X4 hown hK hP (1) (wl_at (by omega) (ce_1 (by decide))) rfl 7 (by decide) (hts (.fieldLink RX4 24 "QuietStairs$Planner" "seats" "[I") fwX4_search_3) (fun _ h9 => h9) rfl dX4_search_29 ?_
      refine lv_iconst (v := 0) hx hb dX4_search_32 (by decide) ?_
      refine lv_aload_n hx hb dX4_search_33 rfl (lv_at hl 0 rfl) ?_
      refine va_get (D := (dC, dI)) (ci := 4) (v := .ref (ad 7)) (C := RX4) (T := TX4) (N := 11) hx hb hts iwX4_search_X4 hown hK hP (1) (wl_at (by omega) (ce_1 (by decide))) rfl 8 (by decide) (hts (.fieldLink RX4 27 "QuietStairs$Planner" "bestSeats" "[I") fwX4_search_4) (fun _ h9 => h9) rfl dX4_search_34 ?_
      refine lv_iconst (v := 0) hx hb dX4_search_37 (by decide) ?_
      refine lv_aload_n hx hb dX4_search_38 rfl (lv_at hl 0 rfl) ?_
      refine va_get (D := (dC, dI)) (ci := 4) (v := .int (v_7 (1) 1)) (C := RX4) (T := TX4) (N := 11) hx hb hts iwX4_search_X4 hown hK hP (1) (wl_at (by omega) (ce_1 (by decide))) rfl 1 (by decide) (hts (.fieldLink RX4 61 "QuietStairs$Planner" "count" "I") fwX4_search_2) (fun _ h9 => h9) rfl dX4_search_39 ?_
      refine lv_topi (fun x_8 ex_8 => ?_)
      rw [ev_7, upr_s, pk_un (by decide)] at ex_8
      rw [← ex_5] at ex_8; replace ex_8 := ex_8.symm; subst ex_8
      have hn_9 := t_n (x := x_5) (m := 4) ⟨by omega, by omega⟩
      refine va_copyi hx hb (hml.trans hl.1.symm) hown (hts (.methodLink RX4 99 arraycopyName) fwX4_search_5) (hts (.native arraycopyName) fwX4_search_6) (hts (.static arraycopyName) fwX4_search_7) (hts (.initialized "java/lang/System") fwX4_search_8) hK hP hD hS (6) (7) 0 0 (wl_at (by omega) (ce_17 (by decide))) (wl_at (by omega) (ce_17 (by decide))) rfl rfl rfl (by decide) (by decide) hn_9.1 (by rw [sb_cl0]; have := hn_9.2; omega) (by rw [sb_cl0]; have := hn_9.2; omega) (fun i hi => rfl) (Nat.le_of_ble_eq_true rfl) (Nat.le_of_ble_eq_true rfl) dX4_search_42 (fun H locs hP hD hS => ?_)
      obtain ⟨v_9, ev_9⟩ : ∃ u : Nat → Nat → Int32, u = upr v_7 (7) (va_cpy (v_7 (6)) (v_7 (7)) (0 : Int32).toNatClampNeg (0 : Int32).toNatClampNeg x_5.toNatClampNeg) := ⟨_, rfl⟩
      have hP : va_P (dC, dI) vwCl (wl ad kv cy N v_9) H := by rw [ev_9, ← wl_put (e := _) (ce_17 (by decide))]; exact hP
      have hD : va_D A (wl ad kv cy N v_9) := by rw [ev_9, ← wl_put (e := _) (ce_17 (by decide))]; exact hD
      have hv : Iv v_9 := by rw [ev_9]; exact hv.row (K := 17) (by decide) (fun j => rfl)
      have hfr : Fz v v_9 := by rw [ev_9]; exact hfr.row (by omega) (by omega) (by omega)
      exact W.vret hx hb hr (fun t ht hW => ⟨⟨v_9, rfl, ⟨hv, hfr⟩, by rw [ht]; exact hP, hD⟩, hS.F ht⟩) hS.2.2 dX4_search_45
  · have tc_4 : x_2.toInt ≥ x_3.toInt := Int32.le_iff_toInt_le.mp (Int32.not_lt.mp c_4)
    exact W.vret hx hb hr (fun t ht hW => ⟨⟨v_1, rfl, ⟨hv, hfr⟩, by rw [ht]; exact hP, hD⟩, hS.F ht⟩) hS.2.2 dX4_search_14

set_option maxHeartbeats 4000000 in
set_option maxRecDepth 100000 in
theorem g_X4_searchDay_2 (l : Launch) (dC : Nat → ClassId) (dI : Nat → Nat → Nat) (cy : Nat → ClassId) (sz : Nat) (ad : Nat → Nat) (kv : Value) (N : Nat) (hN : 119 ≤ N) (v : Nat → Nat → Int32) (hv : Iv v) (x0 x1 x2 : Int32) (hs : 2 ≤ x0.toInt ∧ x0.toInt ≤ 3) (ht : 0 ≤ x2.toInt ∧ x2.toInt ≤ 2) (t1 t2 : Nat) : Met l yX4_searchDay wsX4_searchDay ({ frames := 4, cells := 0, slots := 0, locals := 256 }) (va_Pc [.ref (ad 1), .int x0, .int x1, .int x2] (ex_PreT dC dI cy sz (wl ad kv cy N v) t1 t2)) (va_Qv (fun (u : Nat → Nat → Int32) => Iv u ∧ Fz v u) (fun u t => ex_Pst dC dI (va_A (wl ad kv cy N v) sz) (wl ad kv cy N u) t) (va_A (wl ad kv cy N v) sz)) 0 0 (va_A (wl ad kv cy N v) sz) := by
  refine Met.ofW (cc := cX4_searchDay) (maxL := 6) (ret := none) (by decide) rfl ?_
  intro p e s m args below meth c s₁ B hml hv
  obtain ⟨rfl, ⟨hsz, hE, hP, hK, hD0⟩, hSt⟩ := hv
  have hx := B.exec
  have hb := B.bytes
  have hr := B.returns
  have hts := atoms_spec (ws := wsX4_searchDay) B.pre
  have hown : s.vm.findClass RX4 = some m.cls := findClass_of_methodNamed B.named
  have hlocks := B.notSynchronized
  subst hsz
  have hD := hD0.self (sz := s.heap.size)
  generalize hAe : va_A (wl ad kv cy N v) s.heap.size = A at hD hSt ⊢
  have hA : ∀ q : Nat, s.heap.size ≤ q → A q := fun q h => by rw [← hAe]; exact Or.inr h
  have hS : va_S A s.heap s.heap [] := va_S.rf
  have hP : va_P (dC, dI) vwCl (wl ad kv cy N v) s.heap := hP
  have hl := lv_entry ([.ref (ad 1), .int x0, .int x1, .int x2]) (n := 6) (Nat.le_of_ble_eq_true rfl)
  rw [lg_entry_eq]
  generalize (lg_sl ([.ref (ad 1), .int x0, .int x1, .int x2]) ++ List.replicate (6 - (lg_sl ([.ref (ad 1), .int x0, .int x1, .int x2])).length) Slot.unset).toArray = ls at hl ⊢
  have hl : lv_has ls 6 [(0, .ref (ad 1)), (1, .int x0), (2, .int x1), (3, .int x2)] := hl
  have hfr : Fz v v := Fz.rf
  refine lv_iconst (v := 0) hx hb dX4_searchDay_0 (by decide) ?_
  refine lv_istore (lv' := [(4, .int 0), (0, .ref (ad 1)), (1, .int x0), (2, .int x1), (3, .int x2)]) hx hb dX4_searchDay_1 hl (by decide) rfl (fun ls hl => ?_)
  have k_0 : (0 : Int32).toInt = 0 := by decide
  have hloop_1 : ∀ (n : Nat) (y1_4 : Int32) (u1 : Nat → Nat → Int32) (H : Heap) (locs : List Loc), 0 ≤ y1_4.toInt → y1_4.toInt ≤ 6 → (6 - y1_4.toInt).toNat < n → Iv u1 → Fz v u1 → va_P (dC, dI) vwCl (wl ad kv cy N u1) H → va_D A (wl ad kv cy N u1) → va_S A s.heap H locs → ∀ ls : Array Slot, lv_has ls 6 [(4, .int y1_4), (0, .ref (ad 1)), (1, .int x0), (2, .int x1), (3, .int x2)] → W p l e (headSpec wsX4_searchDay ({ frames := 4, cells := 0, slots := 0, locals := 256 })).room s m [Value.ref (ad 1), Value.int x0, Value.int x1, Value.int x2].toArray below meth c H locs 0 0 (MQ below (va_Qv (fun (u : Nat → Nat → Int32) => Iv u ∧ Fz v u) (fun u t => ex_Pst dC dI A (wl ad kv cy N u) t) A) [Value.ref (ad 1), Value.int x0, Value.int x1, Value.int x2].toArray s 0 0 A) (F0 m 3 ls []) := by
    intro n
    induction n with
    | zero =>
      intro y1_4 u1 H locs ay1_4 by1_4 hm_1 hv hfr hP hD hS ls hl
      exact absurd hm_1 (by omega)
    | succ n ih_1 =>
      intro y1_4 u1 H locs ay1_4 by1_4 hm_1 hv hfr hP hD hS ls hl
      refine lv_iload hx hb dX4_searchDay_3 (lv_at hl 0 rfl) ?_
      refine lv_bipush (v := 6) hx hb dX4_searchDay_5 (by decide) ?_
      have k_6 : (6 : Int32).toInt = 6 := by decide
      refine lv_icmp_ge (tgt := 124) hx hb dX4_searchDay_7 (by decide) (fun c_2 => ?_) (fun c_2 => ?_)
      · have tc_2 : y1_4.toInt ≥ (6 : Int32).toInt := Int32.le_iff_toInt_le.mp c_2
        exact W.vret hx hb hr (fun t ht hW => ⟨⟨u1, rfl, ⟨hv, hfr⟩, by rw [ht]; exact hP, hD⟩, hS.F ht⟩) hS.2.2 dX4_searchDay_124
      · have tc_2 : y1_4.toInt < (6 : Int32).toInt := Int32.lt_iff_toInt_lt.mp (Int32.not_le.mp c_2)
        refine lv_iconst (v := 1) hx hb dX4_searchDay_10 (by decide) ?_
        refine va_getsN hx hb hSt.2.1 hS hown (va_Nw.use rfl hE.2.2.2.2.2.2.2.2.2.2.2.2.2.2.2.1) (fun _ h => h) dX4_searchDay_11 ?_
        refine lv_iload hx hb dX4_searchDay_14 (lv_at hl 0 rfl) ?_
        obtain ⟨pi3, i3, hi3, ni3, mi3⟩ := t_in (x := y1_4) (n := 6) ⟨by omega, by omega⟩
        refine va_ti (v := .int (st_l y1_4.toNatClampNeg)) hx hb hSt.2.2 hS pi3 rfl dX4_searchDay_16 ?_
        refine lv_topi (fun x_4 ex_4 => ?_)
        have bx_4 : 0 ≤ x_4.toInt ∧ x_4.toInt ≤ 3 := by rw [ex_4]; exact (st_b _).2
        refine lv_ishl hx hb dX4_searchDay_17 ?_
        refine lv_topi (fun x_5 ex_5 => ?_)
        have tx_5 : 1 ≤ x_5.toInt ∧ x_5.toInt ≤ 32 := by rw [ex_5]; exact t_shl ⟨by omega, by omega⟩
        refine lv_iconst (v := 1) hx hb dX4_searchDay_18 (by decide) ?_
        refine va_getsN hx hb hSt.1.1 hS hown (va_Nw.use rfl hE.2.2.2.2.2.2.2.2.2.2.2.2.2.2.2.2) (fun _ h => h) dX4_searchDay_19 ?_
        refine lv_iload hx hb dX4_searchDay_22 (lv_at hl 0 rfl) ?_
        refine va_ti (v := .int (st_o y1_4.toNatClampNeg)) hx hb hSt.1.2 hS pi3 rfl dX4_searchDay_24 ?_
        refine lv_topi (fun x_6 ex_6 => ?_)
        have bx_6 : 0 ≤ x_6.toInt ∧ x_6.toInt ≤ 3 := by rw [ex_6]; exact (st_b _).1
        refine lv_ishl hx hb dX4_searchDay_25 ?_
        refine lv_topi (fun x_7 ex_7 => ?_)
        have tx_7 : 1 ≤ x_7.toInt ∧ x_7.toInt ≤ 32 := by rw [ex_7]; exact t_shl ⟨by omega, by omega⟩
        refine lv_ior hx hb dX4_searchDay_26 ?_
        refine lv_topi (fun x_8 ex_8 => ?_)
        refine lv_istore (lv' := [(5, .int x_8), (4, .int y1_4), (0, .ref (ad 1)), (1, .int x0), (2, .int x1), (3, .int x2)]) hx hb dX4_searchDay_27 hl (by decide) rfl (fun ls hl => ?_)
        refine lv_aload_n hx hb dX4_searchDay_29 rfl (lv_at hl 2 rfl) ?_
        refine va_get (D := (dC, dI)) (ci := 4) (v := .ref (ad 4)) (C := RX4) (T := TX4) (N := 11) hx hb hts iwX4_searchDay_X4 hown hK hP (1) (wl_at (by omega) (ce_1 (by decide))) rfl 5 (by decide) (hts (.fieldLink RX4 18 "QuietStairs$Planner" "pairBits" "[I") fwX4_searchDay_1) (fun _ h9 => h9) rfl dX4_searchDay_30 ?_
        refine lv_iload_n hx hb dX4_searchDay_33 rfl (lv_at hl 3 rfl) ?_
        obtain ⟨pi9, i9, hi9, ni9, mi9⟩ := t_in (x := x0) (n := 4) ⟨by omega, by omega⟩
        refine va_iald hx hb hK hP (4) 0 (wl_at (by omega) (ce_17 (by decide))) rfl pi9 dX4_searchDay_34 ?_
        refine lv_topi (fun x_10 ex_10 => ?_)
        refine lv_iload hx hb dX4_searchDay_35 (lv_at hl 1 rfl) ?_
        refine yc_p hP hS (va_runSN (As := [.int x_10, .int y1_4]) (rest := []) ⟨hx, hb, hml, hown, hts⟩ (c_X7_hasBit l x_10 y1_4) ⟨va_cnB 2 hts gX4_searchDay_X7_hasBit_n115 rfl rfl rfl hE.2.2.2.2.2.2.2.2.2.2.2.1 (hts (.initialized RX7) fwX4_searchDay_6) (by decide +kernel) ⟨Nat.le_of_ble_eq_true rfl, Nat.le_of_ble_eq_true rfl⟩, (hts (.static yX7_hasBit) fwX4_searchDay_5), trivial⟩ ex_preP rfl rfl hl.1 rfl (lv_room (Nat.le_of_ble_eq_true rfl)) dX4_searchDay_37 ⟨Nat.le_of_ble_eq_true rfl, Nat.le_of_ble_eq_true rfl⟩) (fun r_11 H locs hw_11 hP hS => ?_)
        rcases hw_11 with rfl | rfl
        · refine lv_if_eq (tgt := 118) hx hb dX4_searchDay_40 (by decide) (fun _ => ?_) (fun c9 => absurd c9 (by decide))
          obtain ⟨x_12, ex_12⟩ : ∃ y : Int32, y = y1_4 + 1 := ⟨_, rfl⟩
          refine lv_iinc (v := x_12) (lv' := [(4, .int x_12), (5, .int x_8), (0, .ref (ad 1)), (1, .int x0), (2, .int x1), (3, .int x2)]) hx hb dX4_searchDay_118 hl (k := 1) rfl (by rw [ex_12]; rfl) (by decide) rfl (fun ls hl => ?_)
          have k_1 : (1 : Int32).toInt = 1 := by decide
          have tx_12 : x_12.toInt = y1_4.toInt + (1 : Int32).toInt := by rw [ex_12]; exact t_add ⟨by omega, by omega⟩
          refine lv_goto (tgt := 3) hx hb dX4_searchDay_121 (by decide) ?_
          exact ih_1 x_12 u1 H locs (by omega) (by omega) (by omega) hv hfr hP hD hS ls (lv_sub hl [0, 2, 3, 4, 5] rfl)
        · refine lv_if_eq (tgt := 118) hx hb dX4_searchDay_40 (by decide) (fun c9 => absurd c9 (by decide)) (fun _ => ?_)
          refine lv_aload_n hx hb dX4_searchDay_43 rfl (lv_at hl 2 rfl) ?_
          refine va_get (D := (dC, dI)) (ci := 4) (v := .ref (ad 8)) (C := RX4) (T := TX4) (N := 11) hx hb hts iwX4_searchDay_X4 hown hK hP (1) (wl_at (by omega) (ce_1 (by decide))) rfl 9 (by decide) (hts (.fieldLink RX4 30 "QuietStairs$Planner" "busyBits" "[I") fwX4_searchDay_2) (fun _ h9 => h9) rfl dX4_searchDay_44 ?_
          refine lv_iload_n hx hb dX4_searchDay_47 rfl (lv_at hl 5 rfl) ?_
          obtain ⟨pi12, i12, hi12, ni12, mi12⟩ := t_in (x := x2) (n := 3) ⟨by omega, by omega⟩
          refine va_iald hx hb hK hP (8) 0 (wl_at (by omega) (ce_18 (by decide))) rfl pi12 dX4_searchDay_48 ?_
          refine lv_topi (fun x_13 ex_13 => ?_)
          refine lv_iload hx hb dX4_searchDay_49 (lv_at hl 0 rfl) ?_
          refine lv_iand hx hb dX4_searchDay_51 ?_
          refine lv_topi (fun x_14 ex_14 => ?_)
          refine lv_if_ne (tgt := 118) hx hb dX4_searchDay_52 (by decide) (fun c_15 => ?_) (fun c_15 => ?_)
          · have tc_15 : x_14.toInt ≠ (0 : Int32).toInt := fun q => absurd (Int32.toInt_inj.mp q) c_15
            obtain ⟨x_16, ex_16⟩ : ∃ y : Int32, y = y1_4 + 1 := ⟨_, rfl⟩
            refine lv_iinc (v := x_16) (lv' := [(4, .int x_16), (5, .int x_8), (0, .ref (ad 1)), (1, .int x0), (2, .int x1), (3, .int x2)]) hx hb dX4_searchDay_118 hl (k := 1) rfl (by rw [ex_16]; rfl) (by decide) rfl (fun ls hl => ?_)
            have k_1 : (1 : Int32).toInt = 1 := by decide
            have tx_16 : x_16.toInt = y1_4.toInt + (1 : Int32).toInt := by rw [ex_16]; exact t_add ⟨by omega, by omega⟩
            refine lv_goto (tgt := 3) hx hb dX4_searchDay_121 (by decide) ?_
            exact ih_1 x_16 u1 H locs (by omega) (by omega) (by omega) hv hfr hP hD hS ls (lv_sub hl [0, 2, 3, 4, 5] rfl)
          · have tc_15 : x_14.toInt = (0 : Int32).toInt := by rw [c_15]
            refine lv_aload_n hx hb dX4_searchDay_55 rfl (lv_at hl 2 rfl) ?_
            refine va_get (D := (dC, dI)) (ci := 4) (v := .ref (ad 6)) (C := RX4) (T := TX4) (N := 11) hx hb hts iwX4_searchDay_X4 hown hK hP (1) (wl_at (by omega) (ce_1 (by decide))) rfl 7 (by decide) (hts (.fieldLink RX4 24 "QuietStairs$Planner" "seats" "[I") fwX4_searchDay_3) (fun _ h9 => h9) rfl dX4_searchDay_56 ?_
            refine lv_iload_n hx hb dX4_searchDay_59 rfl (lv_at hl 3 rfl) ?_
            refine lv_bipush (v := 6) hx hb dX4_searchDay_60 (by decide) ?_
            refine lv_iload_n hx hb dX4_searchDay_62 rfl (lv_at hl 5 rfl) ?_
            refine lv_imul hx hb dX4_searchDay_63 ?_
            refine lv_topi (fun x_16 ex_16 => ?_)
            refine lv_iload hx hb dX4_searchDay_64 (lv_at hl 1 rfl) ?_
            refine lv_iadd hx hb dX4_searchDay_66 ?_
            refine lv_topi (fun x_17 ex_17 => ?_)
            refine va_iast hx hb hK hP hD hS (6) 0 (wl_at (by omega) (ce_17 (by decide))) rfl pi9 dX4_searchDay_67 (fun H locs hP hD hS => ?_)
            obtain ⟨v_18, ev_18⟩ : ∃ u : Nat → Nat → Int32, u = upr u1 (6) (upd (u1 (6)) (x0.toNatClampNeg) x_17) := ⟨_, rfl⟩
            have hP : va_P (dC, dI) vwCl (wl ad kv cy N v_18) H := by rw [ev_18, ← wl_put (e := _) (ce_17 (by decide))]; exact hP
            have hD : va_D A (wl ad kv cy N v_18) := by rw [ev_18, ← wl_put (e := _) (ce_17 (by decide))]; exact hD
            have hv : Iv v_18 := by rw [ev_18]; exact hv.put (K := 17) (by decide) (fun h q => by simp [bd] at q)
            have hfr : Fz v v_18 := by rw [ev_18]; exact hfr.put (by omega) (by omega) (by omega)
            refine lv_aload_n hx hb dX4_searchDay_68 rfl (lv_at hl 2 rfl) ?_
            refine va_get (D := (dC, dI)) (ci := 4) (v := .ref (ad 8)) (C := RX4) (T := TX4) (N := 11) hx hb hts iwX4_searchDay_X4 hown hK hP (1) (wl_at (by omega) (ce_1 (by decide))) rfl 9 (by decide) (hts (.fieldLink RX4 30 "QuietStairs$Planner" "busyBits" "[I") fwX4_searchDay_2) (fun _ h9 => h9) rfl dX4_searchDay_69 ?_
            refine lv_iload_n hx hb dX4_searchDay_72 rfl (lv_at hl 5 rfl) ?_
            refine lv_dup2_11 hx hb dX4_searchDay_73 rfl rfl ?_
            refine va_iald hx hb hK hP (8) 0 (wl_at (by omega) (ce_18 (by decide))) rfl pi12 dX4_searchDay_74 ?_
            refine lv_topi (fun x_19 ex_19 => ?_)
            refine lv_iload hx hb dX4_searchDay_75 (lv_at hl 0 rfl) ?_
            refine lv_ior hx hb dX4_searchDay_77 ?_
            refine lv_topi (fun x_20 ex_20 => ?_)
            refine va_iast hx hb hK hP hD hS (8) 0 (wl_at (by omega) (ce_18 (by decide))) rfl pi12 dX4_searchDay_78 (fun H locs hP hD hS => ?_)
            obtain ⟨v_21, ev_21⟩ : ∃ u : Nat → Nat → Int32, u = upr v_18 (8) (upd (v_18 (8)) (x2.toNatClampNeg) x_20) := ⟨_, rfl⟩
            have hP : va_P (dC, dI) vwCl (wl ad kv cy N v_21) H := by rw [ev_21, ← wl_put (e := _) (ce_18 (by decide))]; exact hP
            have hD : va_D A (wl ad kv cy N v_21) := by rw [ev_21, ← wl_put (e := _) (ce_18 (by decide))]; exact hD
            have hv : Iv v_21 := by rw [ev_21]; exact hv.put (K := 18) (by decide) (fun h q => by simp [bd] at q)
            have hfr : Fz v v_21 := by rw [ev_21]; exact hfr.put (by omega) (by omega) (by omega)
            refine lv_aload_n hx hb dX4_searchDay_79 rfl (lv_at hl 2 rfl) ?_
            refine va_get (D := (dC, dI)) (ci := 4) (v := .ref (ad 9)) (C := RX4) (T := TX4) (N := 11) hx hb hts iwX4_searchDay_X4 hown hK hP (1) (wl_at (by omega) (ce_1 (by decide))) rfl 10 (by decide) (hts (.fieldLink RX4 33 "QuietStairs$Planner" "sittings" "[I") fwX4_searchDay_4) (fun _ h9 => h9) rfl dX4_searchDay_80 ?_
            refine lv_iload_n hx hb dX4_searchDay_83 rfl (lv_at hl 5 rfl) ?_
            refine lv_dup2_11 hx hb dX4_searchDay_84 rfl rfl ?_
            refine va_iald hx hb hK hP (9) 0 (wl_at (by omega) (ce_18 (by decide))) rfl pi12 dX4_searchDay_85 ?_
            refine lv_topi (fun x_22 ex_22 => ?_)
            refine lv_iconst (v := 1) hx hb dX4_searchDay_86 (by decide) ?_
            have k_1 : (1 : Int32).toInt = 1 := by decide
            refine lv_iadd hx hb dX4_searchDay_87 ?_
            refine lv_topi (fun x_23 ex_23 => ?_)
            refine va_iast hx hb hK hP hD hS (9) 0 (wl_at (by omega) (ce_18 (by decide))) rfl pi12 dX4_searchDay_88 (fun H locs hP hD hS => ?_)
            obtain ⟨v_24, ev_24⟩ : ∃ u : Nat → Nat → Int32, u = upr v_21 (9) (upd (v_21 (9)) (x2.toNatClampNeg) x_23) := ⟨_, rfl⟩
            have hP : va_P (dC, dI) vwCl (wl ad kv cy N v_24) H := by rw [ev_24, ← wl_put (e := _) (ce_18 (by decide))]; exact hP
            have hD : va_D A (wl ad kv cy N v_24) := by rw [ev_24, ← wl_put (e := _) (ce_18 (by decide))]; exact hD
            have hv : Iv v_24 := by rw [ev_24]; exact hv.put (K := 18) (by decide) (fun h q => by simp [bd] at q)
            have hfr : Fz v v_24 := by rw [ev_24]; exact hfr.put (by omega) (by omega) (by omega)
            refine lv_aload_n hx hb dX4_searchDay_89 rfl (lv_at hl 2 rfl) ?_
            refine lv_iload_n hx hb dX4_searchDay_90 rfl (lv_at hl 3 rfl) ?_
            refine lv_iconst (v := 1) hx hb dX4_searchDay_91 (by decide) ?_
            refine lv_iadd hx hb dX4_searchDay_92 ?_
            refine lv_topi (fun x_25 ex_25 => ?_)
            have tx_25 : x_25.toInt = x0.toInt + (1 : Int32).toInt := by rw [ex_25]; exact t_add ⟨by omega, by omega⟩
            refine lv_iload_n hx hb dX4_searchDay_93 rfl (lv_at hl 4 rfl) ?_
            refine yw_v (w1 := fun (u : Nat → Nat → Int32) => wl ad kv cy N u) hD hS hA (va_runV (As := [.int x_25, .int x1]) (rest := []) ⟨hx, hb, hml, hown, hts⟩ (g_X4_search_1 l dC dI cy _ ad kv N hN v_24 hv x_25 x1 ⟨by omega, by omega⟩ t1 t2) (cwV 2 hts gX4_searchDay_X4_search rfl rfl rfl hd_V_X4_search_2 ⟨Nat.le_of_ble_eq_true rfl, Nat.le_of_ble_eq_true rfl⟩) ⟨ex_blindT, va_recv hK hP (ci := 4) (q0 := 1) rfl (wl_at (by omega) (ce_1 (by decide))), fun U hU hW => ⟨rfl, ((yw_preS (As := []) hE hK hP hD).2 U hU hW).2, hSt.go hS (yw_F hD hS hA) hU hW⟩⟩ rfl rfl hl.1 rfl (lv_room (Nat.le_of_ble_eq_true rfl)) dX4_searchDay_94 ⟨Nat.le_of_ble_eq_true rfl, Nat.le_of_ble_eq_true rfl⟩) (fun v_26 H locs hw_26 hP hD hS => ?_)
            obtain ⟨hv, hw_26⟩ := hw_26
            have hfr : Fz v v_26 := hfr.trans hw_26
            refine lv_aload_n hx hb dX4_searchDay_97 rfl (lv_at hl 2 rfl) ?_
            refine va_get (D := (dC, dI)) (ci := 4) (v := .ref (ad 9)) (C := RX4) (T := TX4) (N := 11) hx hb hts iwX4_searchDay_X4 hown hK hP (1) (wl_at (by omega) (ce_1 (by decide))) rfl 10 (by decide) (hts (.fieldLink RX4 33 "QuietStairs$Planner" "sittings" "[I") fwX4_searchDay_4) (fun _ h9 => h9) rfl dX4_searchDay_98 ?_
            refine lv_iload_n hx hb dX4_searchDay_101 rfl (lv_at hl 5 rfl) ?_
            refine lv_dup2_11 hx hb dX4_searchDay_102 rfl rfl ?_
            refine va_iald hx hb hK hP (9) 0 (wl_at (by omega) (ce_18 (by decide))) rfl pi12 dX4_searchDay_103 ?_
            refine lv_topi (fun x_27 ex_27 => ?_)
            refine lv_iconst (v := 1) hx hb dX4_searchDay_104 (by decide) ?_
            refine lv_isub hx hb dX4_searchDay_105 ?_
            refine lv_topi (fun x_28 ex_28 => ?_)
            refine va_iast hx hb hK hP hD hS (9) 0 (wl_at (by omega) (ce_18 (by decide))) rfl pi12 dX4_searchDay_106 (fun H locs hP hD hS => ?_)
            obtain ⟨v_29, ev_29⟩ : ∃ u : Nat → Nat → Int32, u = upr v_26 (9) (upd (v_26 (9)) (x2.toNatClampNeg) x_28) := ⟨_, rfl⟩
            have hP : va_P (dC, dI) vwCl (wl ad kv cy N v_29) H := by rw [ev_29, ← wl_put (e := _) (ce_18 (by decide))]; exact hP
            have hD : va_D A (wl ad kv cy N v_29) := by rw [ev_29, ← wl_put (e := _) (ce_18 (by decide))]; exact hD
            have hv : Iv v_29 := by rw [ev_29]; exact hv.put (K := 18) (by decide) (fun h q => by simp [bd] at q)
            have hfr : Fz v v_29 := by rw [ev_29]; exact hfr.put (by omega) (by omega) (by omega)
            refine lv_aload_n hx hb dX4_searchDay_107 rfl (lv_at hl 2 rfl) ?_
            refine va_get (D := (dC, dI)) (ci := 4) (v := .ref (ad 8)) (C := RX4) (T := TX4) (N := 11) hx hb hts iwX4_searchDay_X4 hown hK hP (1) (wl_at (by omega) (ce_1 (by decide))) rfl 9 (by decide) (hts (.fieldLink RX4 30 "QuietStairs$Planner" "busyBits" "[I") fwX4_searchDay_2) (fun _ h9 => h9) rfl dX4_searchDay_108 ?_
            refine lv_iload_n hx hb dX4_searchDay_111 rfl (lv_at hl 5 rfl) ?_
            refine lv_dup2_11 hx hb dX4_searchDay_112 rfl rfl ?_
            refine va_iald hx hb hK hP (8) 0 (wl_at (by omega) (ce_18 (by decide))) rfl pi12 dX4_searchDay_113 ?_
            refine lv_topi (fun x_30 ex_30 => ?_)
            refine lv_iload hx hb dX4_searchDay_114 (lv_at hl 0 rfl) ?_
            refine lv_ixor hx hb dX4_searchDay_116 ?_
            refine lv_topi (fun x_31 ex_31 => ?_)
            refine va_iast hx hb hK hP hD hS (8) 0 (wl_at (by omega) (ce_18 (by decide))) rfl pi12 dX4_searchDay_117 (fun H locs hP hD hS => ?_)
            obtain ⟨v_32, ev_32⟩ : ∃ u : Nat → Nat → Int32, u = upr v_29 (8) (upd (v_29 (8)) (x2.toNatClampNeg) x_31) := ⟨_, rfl⟩
            have hP : va_P (dC, dI) vwCl (wl ad kv cy N v_32) H := by rw [ev_32, ← wl_put (e := _) (ce_18 (by decide))]; exact hP
            have hD : va_D A (wl ad kv cy N v_32) := by rw [ev_32, ← wl_put (e := _) (ce_18 (by decide))]; exact hD
            have hv : Iv v_32 := by rw [ev_32]; exact hv.put (K := 18) (by decide) (fun h q => by simp [bd] at q)
            have hfr : Fz v v_32 := by rw [ev_32]; exact hfr.put (by omega) (by omega) (by omega)
            obtain ⟨x_33, ex_33⟩ : ∃ y : Int32, y = y1_4 + 1 := ⟨_, rfl⟩
            refine lv_iinc (v := x_33) (lv' := [(4, .int x_33), (5, .int x_8), (0, .ref (ad 1)), (1, .int x0), (2, .int x1), (3, .int x2)]) hx hb dX4_searchDay_118 hl (k := 1) rfl (by rw [ex_33]; rfl) (by decide) rfl (fun ls hl => ?_)
            have tx_33 : x_33.toInt = y1_4.toInt + (1 : Int32).toInt := by rw [ex_33]; exact t_add ⟨by omega, by omega⟩
            refine lv_goto (tgt := 3) hx hb dX4_searchDay_121 (by decide) ?_
            exact ih_1 x_33 v_32 H locs (by omega) (by omega) (by omega) hv hfr hP hD hS ls (lv_sub hl [0, 2, 3, 4, 5] rfl)
  exact hloop_1 ((6 - (0 : Int32).toInt).toNat + 1) 0 v _ _ (by omega) (by omega) (by omega) hv hfr hP hD hS ls hl

set_option maxHeartbeats 4000000 in
set_option maxRecDepth 100000 in
theorem g_X4_search_2 (l : Launch) (dC : Nat → ClassId) (dI : Nat → Nat → Nat) (cy : Nat → ClassId) (sz : Nat) (ad : Nat → Nat) (kv : Value) (N : Nat) (hN : 119 ≤ N) (v : Nat → Nat → Int32) (hv : Iv v) (x0 x1 : Int32) (hs : 2 ≤ x0.toInt ∧ x0.toInt ≤ 4) (t1 t2 : Nat) : Met l yX4_search wsX4_search ({ frames := 5, cells := 0, slots := 0, locals := 320 }) (va_Pc [.ref (ad 1), .int x0, .int x1] (ex_PreT dC dI cy sz (wl ad kv cy N v) t1 t2)) (va_Qv (fun (u : Nat → Nat → Int32) => Iv u ∧ Fz v u) (fun u t => ex_Pst dC dI (va_A (wl ad kv cy N v) sz) (wl ad kv cy N u) t) (va_A (wl ad kv cy N v) sz)) 0 0 (va_A (wl ad kv cy N v) sz) := by
  refine Met.ofW (cc := cX4_search) (maxL := 4) (ret := none) (by decide) rfl ?_
  intro p e s m args below meth c s₁ B hml hv
  obtain ⟨rfl, ⟨hsz, hE, hP, hK, hD0⟩, hSt⟩ := hv
  have hx := B.exec
  have hb := B.bytes
  have hr := B.returns
  have hts := atoms_spec (ws := wsX4_search) B.pre
  have hown : s.vm.findClass RX4 = some m.cls := findClass_of_methodNamed B.named
  have hlocks := B.notSynchronized
  subst hsz
  have hD := hD0.self (sz := s.heap.size)
  generalize hAe : va_A (wl ad kv cy N v) s.heap.size = A at hD hSt ⊢
  have hA : ∀ q : Nat, s.heap.size ≤ q → A q := fun q h => by rw [← hAe]; exact Or.inr h
  have hS : va_S A s.heap s.heap [] := va_S.rf
  have hP : va_P (dC, dI) vwCl (wl ad kv cy N v) s.heap := hP
  have hl := lv_entry ([.ref (ad 1), .int x0, .int x1]) (n := 4) (Nat.le_of_ble_eq_true rfl)
  rw [lg_entry_eq]
  generalize (lg_sl ([.ref (ad 1), .int x0, .int x1]) ++ List.replicate (4 - (lg_sl ([.ref (ad 1), .int x0, .int x1])).length) Slot.unset).toArray = ls at hl ⊢
  have hl : lv_has ls 4 [(0, .ref (ad 1)), (1, .int x0), (2, .int x1)] := hl
  have hfr : Fz v v := Fz.rf
  refine lv_iload_n hx hb dX4_search_0 rfl (lv_at hl 2 rfl) ?_
  refine lv_aload_n hx hb dX4_search_1 rfl (lv_at hl 0 rfl) ?_
  refine lv_iload_n hx hb dX4_search_2 rfl (lv_at hl 1 rfl) ?_
  refine yw_i (w1 := fun (u : Nat → Nat → Int32) => wl ad kv cy N u) hD hS hA (va_runV (As := [.int x0]) (rest := [.int x1]) ⟨hx, hb, hml, hown, hts⟩ (g_X4_leastBehind l dC dI cy _ ad kv N hN v hv x0) (cwV 1 hts gX4_search_X4_leastBehind rfl rfl rfl hd_V_X4_leastBehind_1 ⟨Nat.le_of_ble_eq_true rfl, Nat.le_of_ble_eq_true rfl⟩) (yw_preV hE hK hP hD (ci := 4) (q0 := 1) rfl (wl_at (by omega) (ce_1 (by decide)))) rfl rfl hl.1 rfl (lv_room (Nat.le_of_ble_eq_true rfl)) dX4_search_3 ⟨Nat.le_of_ble_eq_true rfl, Nat.le_of_ble_eq_true rfl⟩) (fun r_1 v_1 H locs hw_1 hP hD hS => ?_)
  obtain ⟨hv, hw_1⟩ := hw_1
  have hfr : Fz v v_1 := hfr.trans hw_1
  refine lv_iadd hx hb dX4_search_6 ?_
  refine lv_topi (fun x_2 ex_2 => ?_)
  refine lv_aload_n hx hb dX4_search_7 rfl (lv_at hl 0 rfl) ?_
  refine va_get (D := (dC, dI)) (ci := 4) (v := .int (v_1 (1) 0)) (C := RX4) (T := TX4) (N := 11) hx hb hts iwX4_search_X4 hown hK hP (1) (wl_at (by omega) (ce_1 (by decide))) rfl 0 (by decide) (hts (.fieldLink RX4 58 "QuietStairs$Planner" "leastWait" "I") fwX4_search_1) (fun _ h9 => h9) rfl dX4_search_8 ?_
  refine lv_topi (fun x_3 ex_3 => ?_)
  refine lv_icmp_lt (tgt := 15) hx hb dX4_search_11 (by decide) (fun c_4 => ?_) (fun c_4 => ?_)
  · have tc_4 : x_2.toInt < x_3.toInt := Int32.lt_iff_toInt_lt.mp c_4
    refine lv_iload_n hx hb dX4_search_15 rfl (lv_at hl 1 rfl) ?_
    refine lv_aload_n hx hb dX4_search_16 rfl (lv_at hl 0 rfl) ?_
    refine va_get (D := (dC, dI)) (ci := 4) (v := .int (v_1 (1) 1)) (C := RX4) (T := TX4) (N := 11) hx hb hts iwX4_search_X4 hown hK hP (1) (wl_at (by omega) (ce_1 (by decide))) rfl 1 (by decide) (hts (.fieldLink RX4 61 "QuietStairs$Planner" "count" "I") fwX4_search_2) (fun _ h9 => h9) rfl dX4_search_17 ?_
    refine lv_topi (fun x_5 ex_5 => ?_)
    have bx_5 : 0 ≤ x_5.toInt ∧ x_5.toInt ≤ 4 := by rw [ex_5]; exact hv.at (K := 1) (by decide) rfl
    refine lv_icmp_lt (tgt := 46) hx hb dX4_search_20 (by decide) (fun c_6 => ?_) (fun c_6 => ?_)
    · have tc_6 : x0.toInt < x_5.toInt := Int32.lt_iff_toInt_lt.mp c_6
      refine lv_iconst (v := 0) hx hb dX4_search_46 (by decide) ?_
      refine lv_istore_n (lv' := [(3, .int 0), (0, .ref (ad 1)), (1, .int x0), (2, .int x1)]) hx hb dX4_search_47 rfl hl (by decide) rfl (fun ls hl => ?_)
      have k_0 : (0 : Int32).toInt = 0 := by decide
      have hloop_7 : ∀ (n : Nat) (y7_3 : Int32) (u7 : Nat → Nat → Int32) (H : Heap) (locs : List Loc), 0 ≤ y7_3.toInt → y7_3.toInt ≤ 3 → (3 - y7_3.toInt).toNat < n → Iv u7 → Fz v u7 → va_P (dC, dI) vwCl (wl ad kv cy N u7) H → va_D A (wl ad kv cy N u7) → va_S A s.heap H locs → ∀ ls : Array Slot, lv_has ls 4 [(3, .int y7_3), (0, .ref (ad 1)), (1, .int x0), (2, .int x1)] → W p l e (headSpec wsX4_search ({ frames := 5, cells := 0, slots := 0, locals := 320 })).room s m [Value.ref (ad 1), Value.int x0, Value.int x1].toArray below meth c H locs 0 0 (MQ below (va_Qv (fun (u : Nat → Nat → Int32) => Iv u ∧ Fz v u) (fun u t => ex_Pst dC dI A (wl ad kv cy N u) t) A) [Value.ref (ad 1), Value.int x0, Value.int x1].toArray s 0 0 A) (F0 m 48 ls []) := by
        intro n
        induction n with
        | zero =>
          intro y7_3 u7 H locs ay7_3 by7_3 hm_7 hv hfr hP hD hS ls hl
          exact absurd hm_7 (by omega)
        | succ n ih_7 =>
          intro y7_3 u7 H locs ay7_3 by7_3 hm_7 hv hfr hP hD hS ls hl
          refine lv_iload_n hx hb dX4_search_48 rfl (lv_at hl 0 rfl) ?_
          refine lv_iconst (v := 3) hx hb dX4_search_49 (by decide) ?_
          have k_3 : (3 : Int32).toInt = 3 := by decide
          refine lv_icmp_ge (tgt := 88) hx hb dX4_search_50 (by decide) (fun c_8 => ?_) (fun c_8 => ?_)
          · have tc_8 : y7_3.toInt ≥ (3 : Int32).toInt := Int32.le_iff_toInt_le.mp c_8
            refine lv_aload_n hx hb dX4_search_88 rfl (lv_at hl 1 rfl) ?_
            refine va_get (D := (dC, dI)) (ci := 4) (v := .ref (ad 6)) (C := RX4) (T := TX4) (N := 11) hx hb hts iwX4_search_X4 hown hK hP (1) (wl_at (by omega) (ce_1 (by decide))) rfl 7 (by decide) (hts (.fieldLink RX4 24 "QuietStairs$Planner" "seats" "[I") fwX4_search_3) (fun _ h9 => h9) rfl dX4_search_89 ?_
            refine lv_iload_n hx hb dX4_search_92 rfl (lv_at hl 2 rfl) ?_
            refine lv_bipush (v := 18) hx hb dX4_search_93 (by decide) ?_
            obtain ⟨pi9, i9, hi9, ni9, mi9⟩ := t_in (x := x0) (n := 4) ⟨by omega, by omega⟩
            refine va_iast hx hb hK hP hD hS (6) 0 (wl_at (by omega) (ce_17 (by decide))) rfl pi9 dX4_search_95 (fun H locs hP hD hS => ?_)
            have k_18 : (18 : Int32).toInt = 18 := by decide
            obtain ⟨v_10, ev_10⟩ : ∃ u : Nat → Nat → Int32, u = upr u7 (6) (upd (u7 (6)) (x0.toNatClampNeg) 18) := ⟨_, rfl⟩
            have hP : va_P (dC, dI) vwCl (wl ad kv cy N v_10) H := by rw [ev_10, ← wl_put (e := _) (ce_17 (by decide))]; exact hP
            have hD : va_D A (wl ad kv cy N v_10) := by rw [ev_10, ← wl_put (e := _) (ce_17 (by decide))]; exact hD
            have hv : Iv v_10 := by rw [ev_10]; exact hv.put (K := 17) (by decide) (fun h q => by simp [bd] at q)
            have hfr : Fz v v_10 := by rw [ev_10]; exact hfr.put (by omega) (by omega) (by omega)
            refine lv_aload_n hx hb dX4_search_96 rfl (lv_at hl 1 rfl) ?_
            refine lv_iload_n hx hb dX4_search_97 rfl (lv_at hl 2 rfl) ?_
            refine lv_iconst (v := 1) hx hb dX4_search_98 (by decide) ?_
            have k_1 : (1 : Int32).toInt = 1 := by decide
            refine lv_iadd hx hb dX4_search_99 ?_
            refine lv_topi (fun x_11 ex_11 => ?_)
            have tx_11 : x_11.toInt = x0.toInt + (1 : Int32).toInt := by rw [ex_11]; exact t_add ⟨by omega, by omega⟩
            refine lv_iload_n hx hb dX4_search_100 rfl (lv_at hl 3 rfl) ?_
            refine lv_aload_n hx hb dX4_search_101 rfl (lv_at hl 1 rfl) ?_
            refine va_get (D := (dC, dI)) (ci := 4) (v := .ref (ad 3)) (C := RX4) (T := TX4) (N := 11) hx hb hts iwX4_search_X4 hown hK hP (1) (wl_at (by omega) (ce_1 (by decide))) rfl 4 (by decide) (hts (.fieldLink RX4 15 "QuietStairs$Planner" "weights" "[I") fwX4_search_11) (fun _ h9 => h9) rfl dX4_search_102 ?_
            refine lv_iload_n hx hb dX4_search_105 rfl (lv_at hl 2 rfl) ?_
            refine va_iald hx hb hK hP (3) 0 (wl_at (by omega) (ce_17 (by decide))) rfl pi9 dX4_search_106 ?_
            refine lv_topi (fun x_12 ex_12 => ?_)
            refine lv_iconst (v := 4) hx hb dX4_search_107 (by decide) ?_
            refine lv_imul hx hb dX4_search_108 ?_
            refine lv_topi (fun x_13 ex_13 => ?_)
            refine lv_iadd hx hb dX4_search_109 ?_
            refine lv_topi (fun x_14 ex_14 => ?_)
            refine yw_v (w1 := fun (u : Nat → Nat → Int32) => wl ad kv cy N u) hD hS hA (va_runV (As := [.int x_11, .int x_14]) (rest := []) ⟨hx, hb, hml, hown, hts⟩ (g_X4_search_1 l dC dI cy _ ad kv N hN v_10 hv x_11 x_14 ⟨by omega, by omega⟩ t1 t2) (cwV 2 hts gX4_search_X4_search rfl rfl rfl hd_V_X4_search_2 ⟨Nat.le_of_ble_eq_true rfl, Nat.le_of_ble_eq_true rfl⟩) ⟨ex_blindT, va_recv hK hP (ci := 4) (q0 := 1) rfl (wl_at (by omega) (ce_1 (by decide))), fun U hU hW => ⟨rfl, ((yw_preS (As := []) hE hK hP hD).2 U hU hW).2, hSt.go hS (yw_F hD hS hA) hU hW⟩⟩ rfl rfl hl.1 rfl (lv_room (Nat.le_of_ble_eq_true rfl)) dX4_search_110 ⟨Nat.le_of_ble_eq_true rfl, Nat.le_of_ble_eq_true rfl⟩) (fun v_15 H locs hw_15 hP hD hS => ?_)
            obtain ⟨hv, hw_15⟩ := hw_15
            have hfr : Fz v v_15 := hfr.trans hw_15
            exact W.vret hx hb hr (fun t ht hW => ⟨⟨v_15, rfl, ⟨hv, hfr⟩, by rw [ht]; exact hP, hD⟩, hS.F ht⟩) hS.2.2 dX4_search_113
          · have tc_8 : y7_3.toInt < (3 : Int32).toInt := Int32.lt_iff_toInt_lt.mp (Int32.not_le.mp c_8)
            refine lv_aload_n hx hb dX4_search_53 rfl (lv_at hl 1 rfl) ?_
            refine va_get (D := (dC, dI)) (ci := 4) (v := .ref (ad 9)) (C := RX4) (T := TX4) (N := 11) hx hb hts iwX4_search_X4 hown hK hP (1) (wl_at (by omega) (ce_1 (by decide))) rfl 10 (by decide) (hts (.fieldLink RX4 33 "QuietStairs$Planner" "sittings" "[I") fwX4_search_9) (fun _ h9 => h9) rfl dX4_search_54 ?_
            refine lv_iload_n hx hb dX4_search_57 rfl (lv_at hl 0 rfl) ?_
            obtain ⟨pi9, i9, hi9, ni9, mi9⟩ := t_in (x := y7_3) (n := 3) ⟨by omega, by omega⟩
            refine va_iald hx hb hK hP (9) 0 (wl_at (by omega) (ce_18 (by decide))) rfl pi9 dX4_search_58 ?_
            refine lv_topi (fun x_10 ex_10 => ?_)
            refine lv_aload_n hx hb dX4_search_59 rfl (lv_at hl 1 rfl) ?_
            refine va_get (D := (dC, dI)) (ci := 4) (v := .int (u7 (1) 2)) (C := RX4) (T := TX4) (N := 11) hx hb hts iwX4_search_X4 hown hK hP (1) (wl_at (by omega) (ce_1 (by decide))) rfl 2 (by decide) (hts (.fieldLink RX4 48 "QuietStairs$Planner" "seatsADay" "I") fwX4_search_10) (fun _ h9 => h9) rfl dX4_search_60 ?_
            refine lv_topi (fun x_11 ex_11 => ?_)
            refine lv_icmp_ge (tgt := 82) hx hb dX4_search_63 (by decide) (fun c_12 => ?_) (fun c_12 => ?_)
            · have tc_12 : x_10.toInt ≥ x_11.toInt := Int32.le_iff_toInt_le.mp c_12
              obtain ⟨x_13, ex_13⟩ : ∃ y : Int32, y = y7_3 + 1 := ⟨_, rfl⟩
              refine lv_iinc (v := x_13) (lv' := [(3, .int x_13), (0, .ref (ad 1)), (1, .int x0), (2, .int x1)]) hx hb dX4_search_82 hl (k := 0) rfl (by rw [ex_13]; rfl) (by decide) rfl (fun ls hl => ?_)
              have k_1 : (1 : Int32).toInt = 1 := by decide
              have tx_13 : x_13.toInt = y7_3.toInt + (1 : Int32).toInt := by rw [ex_13]; exact t_add ⟨by omega, by omega⟩
              refine lv_goto (tgt := 48) hx hb dX4_search_85 (by decide) ?_
              exact ih_7 x_13 u7 H locs (by omega) (by omega) (by omega) hv hfr hP hD hS ls (lv_sub hl [0, 1, 2, 3] rfl)
            · have tc_12 : x_10.toInt < x_11.toInt := Int32.lt_iff_toInt_lt.mp (Int32.not_le.mp c_12)
              refine lv_aload_n hx hb dX4_search_66 rfl (lv_at hl 1 rfl) ?_
              refine lv_iload_n hx hb dX4_search_67 rfl (lv_at hl 2 rfl) ?_
              refine lv_iload_n hx hb dX4_search_68 rfl (lv_at hl 3 rfl) ?_
              refine lv_aload_n hx hb dX4_search_69 rfl (lv_at hl 1 rfl) ?_
              refine va_get (D := (dC, dI)) (ci := 4) (v := .ref (ad 3)) (C := RX4) (T := TX4) (N := 11) hx hb hts iwX4_search_X4 hown hK hP (1) (wl_at (by omega) (ce_1 (by decide))) rfl 4 (by decide) (hts (.fieldLink RX4 15 "QuietStairs$Planner" "weights" "[I") fwX4_search_11) (fun _ h9 => h9) rfl dX4_search_70 ?_
              refine lv_iload_n hx hb dX4_search_73 rfl (lv_at hl 2 rfl) ?_
              obtain ⟨pi13, i13, hi13, ni13, mi13⟩ := t_in (x := x0) (n := 4) ⟨by omega, by omega⟩
              refine va_iald hx hb hK hP (3) 0 (wl_at (by omega) (ce_17 (by decide))) rfl pi13 dX4_search_74 ?_
              refine lv_topi (fun x_14 ex_14 => ?_)
              refine lv_iload_n hx hb dX4_search_75 rfl (lv_at hl 0 rfl) ?_
              refine lv_imul hx hb dX4_search_76 ?_
              refine lv_topi (fun x_15 ex_15 => ?_)
              refine lv_iadd hx hb dX4_search_77 ?_
              refine lv_topi (fun x_16 ex_16 => ?_)
              refine lv_iload_n hx hb dX4_search_78 rfl (lv_at hl 0 rfl) ?_
              refine yw_v (w1 := fun (u : Nat → Nat → Int32) => wl ad kv cy N u) hD hS hA (va_runV (As := [.int x0, .int x_16, .int y7_3]) (rest := []) ⟨hx, hb, hml, hown, hts⟩ (g_X4_searchDay_2 l dC dI cy _ ad kv N hN u7 hv x0 x_16 y7_3 ⟨by omega, by omega⟩ ⟨by omega, by omega⟩ t1 t2) (cwV 3 hts gX4_search_X4_searchDay rfl rfl rfl hd_V_X4_searchDay_3 ⟨Nat.le_of_ble_eq_true rfl, Nat.le_of_ble_eq_true rfl⟩) ⟨ex_blindT, va_recv hK hP (ci := 4) (q0 := 1) rfl (wl_at (by omega) (ce_1 (by decide))), fun U hU hW => ⟨rfl, ((yw_preS (As := []) hE hK hP hD).2 U hU hW).2, hSt.go hS (yw_F hD hS hA) hU hW⟩⟩ rfl rfl hl.1 rfl (lv_room (Nat.le_of_ble_eq_true rfl)) dX4_search_79 ⟨Nat.le_of_ble_eq_true rfl, Nat.le_of_ble_eq_true rfl⟩) (fun v_17 H locs hw_17 hP hD hS => ?_)
              obtain ⟨hv, hw_17⟩ := hw_17
              have hfr : Fz v v_17 := hfr.trans hw_17
              obtain ⟨x_18, ex_18⟩ : ∃ y : Int32, y = y7_3 + 1 := ⟨_, rfl⟩
              refine lv_iinc (v := x_18) (lv' := [(3, .int x_18), (0, .ref (ad 1)), (1, .int x0), (2, .int x1)]) hx hb dX4_search_82 hl (k := 0) rfl (by rw [ex_18]; rfl) (by decide) rfl (fun ls hl => ?_)
              have k_1 : (1 : Int32).toInt = 1 := by decide
              have tx_18 : x_18.toInt = y7_3.toInt + (1 : Int32).toInt := by rw [ex_18]; exact t_add ⟨by omega, by omega⟩
              refine lv_goto (tgt := 48) hx hb dX4_search_85 (by decide) ?_
              exact ih_7 x_18 v_17 H locs (by omega) (by omega) (by omega) hv hfr hP hD hS ls (lv_sub hl [0, 1, 2, 3] rfl)
      exact hloop_7 ((3 - (0 : Int32).toInt).toNat + 1) 0 v_1 _ _ (by omega) (by omega) (by omega) hv hfr hP hD hS ls hl
    · have tc_6 : x0.toInt ≥ x_5.toInt := Int32.le_iff_toInt_le.mp (Int32.not_lt.mp c_6)
      refine lv_aload_n hx hb dX4_search_23 rfl (lv_at hl 0 rfl) ?_
      refine lv_iload_n hx hb dX4_search_24 rfl (lv_at hl 2 rfl) ?_
      refine va_put (D := (dC, dI)) (ci := 4) (v := .int x1) (ty := .int) (C := RX4) (T := TX4) (N := 11) hx hb hts iwX4_search_X4 tyX4 tyX4_ok nmX4 hown hK hP hD hS (1) (wl_at (by omega) (ce_1 (by decide))) rfl 0 (by decide) (hts (.fieldLink RX4 58 "QuietStairs$Planner" "leastWait" "I") fwX4_search_1) (fun _ h9 => h9) rfl (by decide +kernel) rfl rfl (Nat.le_of_ble_eq_true rfl) dX4_search_25 (fun H locs hP hD hS => ?_)
      obtain ⟨v_7, ev_7⟩ : ∃ u : Nat → Nat → Int32, u = upr v_1 (1) (upd (v_1 (1)) 0 x1) := ⟨_, rfl⟩
      have hP : va_P (dC, dI) vwCl (wl ad kv cy N v_7) H := by rw [ev_7, ← wl_put (e := _) (ce_1 (by decide))]; exact hP
      have hD : va_D A (wl ad kv cy N v_7) := by rw [ev_7, ← wl_put (e := _) (ce_1 (by decide))]; exact hD
      have hv : Iv v_7 := by rw [ev_7]; exact hv.put (K := 1) (by decide) (fun h q => by simp [bd] at q)
      have hfr : Fz v v_7 := by rw [ev_7]; exact hfr.put (by omega) (by omega) (by omega)
      refine lv_aload_n hx hb dX4_search_28 rfl (lv_at hl 0 rfl) ?_
      refine va_get (D := (dC, dI)) (ci := 4) (v := .ref (ad 6)) (C := RX4) (T := TX4) (N := 11) hx hb hts iwX4_search_X4 hown hK hP (1) (wl_at (by omega) (ce_1 (by decide))) rfl 7 (by decide) (hts (.fieldLink RX4 24 "QuietStairs$Planner" "seats" "[I") fwX4_search_3) (fun _ h9 => h9) rfl dX4_search_29 ?_
      refine lv_iconst (v := 0) hx hb dX4_search_32 (by decide) ?_
      refine lv_aload_n hx hb dX4_search_33 rfl (lv_at hl 0 rfl) ?_
      refine va_get (D := (dC, dI)) (ci := 4) (v := .ref (ad 7)) (C := RX4) (T := TX4) (N := 11) hx hb hts iwX4_search_X4 hown hK hP (1) (wl_at (by omega) (ce_1 (by decide))) rfl 8 (by decide) (hts (.fieldLink RX4 27 "QuietStairs$Planner" "bestSeats" "[I") fwX4_search_4) (fun _ h9 => h9) rfl dX4_search_34 ?_
      refine lv_iconst (v := 0) hx hb dX4_search_37 (by decide) ?_
      refine lv_aload_n hx hb dX4_search_38 rfl (lv_at hl 0 rfl) ?_
      refine va_get (D := (dC, dI)) (ci := 4) (v := .int (v_7 (1) 1)) (C := RX4) (T := TX4) (N := 11) hx hb hts iwX4_search_X4 hown hK hP (1) (wl_at (by omega) (ce_1 (by decide))) rfl 1 (by decide) (hts (.fieldLink RX4 61 "QuietStairs$Planner" "count" "I") fwX4_search_2) (fun _ h9 => h9) rfl dX4_search_39 ?_
      refine lv_topi (fun x_8 ex_8 => ?_)
      rw [ev_7, upr_s, pk_un (by decide)] at ex_8
      rw [← ex_5] at ex_8; replace ex_8 := ex_8.symm; subst ex_8
      have hn_9 := t_n (x := x_5) (m := 4) ⟨by omega, by omega⟩
      refine va_copyi hx hb (hml.trans hl.1.symm) hown (hts (.methodLink RX4 99 arraycopyName) fwX4_search_5) (hts (.native arraycopyName) fwX4_search_6) (hts (.static arraycopyName) fwX4_search_7) (hts (.initialized "java/lang/System") fwX4_search_8) hK hP hD hS (6) (7) 0 0 (wl_at (by omega) (ce_17 (by decide))) (wl_at (by omega) (ce_17 (by decide))) rfl rfl rfl (by decide) (by decide) hn_9.1 (by rw [sb_cl0]; have := hn_9.2; omega) (by rw [sb_cl0]; have := hn_9.2; omega) (fun i hi => rfl) (Nat.le_of_ble_eq_true rfl) (Nat.le_of_ble_eq_true rfl) dX4_search_42 (fun H locs hP hD hS => ?_)
      obtain ⟨v_9, ev_9⟩ : ∃ u : Nat → Nat → Int32, u = upr v_7 (7) (va_cpy (v_7 (6)) (v_7 (7)) (0 : Int32).toNatClampNeg (0 : Int32).toNatClampNeg x_5.toNatClampNeg) := ⟨_, rfl⟩
      have hP : va_P (dC, dI) vwCl (wl ad kv cy N v_9) H := by rw [ev_9, ← wl_put (e := _) (ce_17 (by decide))]; exact hP
      have hD : va_D A (wl ad kv cy N v_9) := by rw [ev_9, ← wl_put (e := _) (ce_17 (by decide))]; exact hD
      have hv : Iv v_9 := by rw [ev_9]; exact hv.row (K := 17) (by decide) (fun j => rfl)
      have hfr : Fz v v_9 := by rw [ev_9]; exact hfr.row (by omega) (by omega) (by omega)
      exact W.vret hx hb hr (fun t ht hW => ⟨⟨v_9, rfl, ⟨hv, hfr⟩, by rw [ht]; exact hP, hD⟩, hS.F ht⟩) hS.2.2 dX4_search_45
  · have tc_4 : x_2.toInt ≥ x_3.toInt := Int32.le_iff_toInt_le.mp (Int32.not_lt.mp c_4)
    exact W.vret hx hb hr (fun t ht hW => ⟨⟨v_1, rfl, ⟨hv, hfr⟩, by rw [ht]; exact hP, hD⟩, hS.F ht⟩) hS.2.2 dX4_search_14

set_option maxHeartbeats 4000000 in
set_option maxRecDepth 100000 in
theorem g_X4_searchDay_3 (l : Launch) (dC : Nat → ClassId) (dI : Nat → Nat → Nat) (cy : Nat → ClassId) (sz : Nat) (ad : Nat → Nat) (kv : Value) (N : Nat) (hN : 119 ≤ N) (v : Nat → Nat → Int32) (hv : Iv v) (x0 x1 x2 : Int32) (hs : 1 ≤ x0.toInt ∧ x0.toInt ≤ 3) (ht : 0 ≤ x2.toInt ∧ x2.toInt ≤ 2) (t1 t2 : Nat) : Met l yX4_searchDay wsX4_searchDay ({ frames := 6, cells := 0, slots := 0, locals := 384 }) (va_Pc [.ref (ad 1), .int x0, .int x1, .int x2] (ex_PreT dC dI cy sz (wl ad kv cy N v) t1 t2)) (va_Qv (fun (u : Nat → Nat → Int32) => Iv u ∧ Fz v u) (fun u t => ex_Pst dC dI (va_A (wl ad kv cy N v) sz) (wl ad kv cy N u) t) (va_A (wl ad kv cy N v) sz)) 0 0 (va_A (wl ad kv cy N v) sz) := by
  refine Met.ofW (cc := cX4_searchDay) (maxL := 6) (ret := none) (by decide) rfl ?_
  intro p e s m args below meth c s₁ B hml hv
  obtain ⟨rfl, ⟨hsz, hE, hP, hK, hD0⟩, hSt⟩ := hv
  have hx := B.exec
  have hb := B.bytes
  have hr := B.returns
  have hts := atoms_spec (ws := wsX4_searchDay) B.pre
  have hown : s.vm.findClass RX4 = some m.cls := findClass_of_methodNamed B.named
  have hlocks := B.notSynchronized
  subst hsz
  have hD := hD0.self (sz := s.heap.size)
  generalize hAe : va_A (wl ad kv cy N v) s.heap.size = A at hD hSt ⊢
  have hA : ∀ q : Nat, s.heap.size ≤ q → A q := fun q h => by rw [← hAe]; exact Or.inr h
  have hS : va_S A s.heap s.heap [] := va_S.rf
  have hP : va_P (dC, dI) vwCl (wl ad kv cy N v) s.heap := hP
  have hl := lv_entry ([.ref (ad 1), .int x0, .int x1, .int x2]) (n := 6) (Nat.le_of_ble_eq_true rfl)
  rw [lg_entry_eq]
  generalize (lg_sl ([.ref (ad 1), .int x0, .int x1, .int x2]) ++ List.replicate (6 - (lg_sl ([.ref (ad 1), .int x0, .int x1, .int x2])).length) Slot.unset).toArray = ls at hl ⊢
  have hl : lv_has ls 6 [(0, .ref (ad 1)), (1, .int x0), (2, .int x1), (3, .int x2)] := hl
  have hfr : Fz v v := Fz.rf
  refine lv_iconst (v := 0) hx hb dX4_searchDay_0 (by decide) ?_
  refine lv_istore (lv' := [(4, .int 0), (0, .ref (ad 1)), (1, .int x0), (2, .int x1), (3, .int x2)]) hx hb dX4_searchDay_1 hl (by decide) rfl (fun ls hl => ?_)
  have k_0 : (0 : Int32).toInt = 0 := by decide
  have hloop_1 : ∀ (n : Nat) (y1_4 : Int32) (u1 : Nat → Nat → Int32) (H : Heap) (locs : List Loc), 0 ≤ y1_4.toInt → y1_4.toInt ≤ 6 → (6 - y1_4.toInt).toNat < n → Iv u1 → Fz v u1 → va_P (dC, dI) vwCl (wl ad kv cy N u1) H → va_D A (wl ad kv cy N u1) → va_S A s.heap H locs → ∀ ls : Array Slot, lv_has ls 6 [(4, .int y1_4), (0, .ref (ad 1)), (1, .int x0), (2, .int x1), (3, .int x2)] → W p l e (headSpec wsX4_searchDay ({ frames := 6, cells := 0, slots := 0, locals := 384 })).room s m [Value.ref (ad 1), Value.int x0, Value.int x1, Value.int x2].toArray below meth c H locs 0 0 (MQ below (va_Qv (fun (u : Nat → Nat → Int32) => Iv u ∧ Fz v u) (fun u t => ex_Pst dC dI A (wl ad kv cy N u) t) A) [Value.ref (ad 1), Value.int x0, Value.int x1, Value.int x2].toArray s 0 0 A) (F0 m 3 ls []) := by
    intro n
    induction n with
    | zero =>
      intro y1_4 u1 H locs ay1_4 by1_4 hm_1 hv hfr hP hD hS ls hl
      exact absurd hm_1 (by omega)
    | succ n ih_1 =>
      intro y1_4 u1 H locs ay1_4 by1_4 hm_1 hv hfr hP hD hS ls hl
      refine lv_iload hx hb dX4_searchDay_3 (lv_at hl 0 rfl) ?_
      refine lv_bipush (v := 6) hx hb dX4_searchDay_5 (by decide) ?_
      have k_6 : (6 : Int32).toInt = 6 := by decide
      refine lv_icmp_ge (tgt := 124) hx hb dX4_searchDay_7 (by decide) (fun c_2 => ?_) (fun c_2 => ?_)
      · have tc_2 : y1_4.toInt ≥ (6 : Int32).toInt := Int32.le_iff_toInt_le.mp c_2
        exact W.vret hx hb hr (fun t ht hW => ⟨⟨u1, rfl, ⟨hv, hfr⟩, by rw [ht]; exact hP, hD⟩, hS.F ht⟩) hS.2.2 dX4_searchDay_124
      · have tc_2 : y1_4.toInt < (6 : Int32).toInt := Int32.lt_iff_toInt_lt.mp (Int32.not_le.mp c_2)
        refine lv_iconst (v := 1) hx hb dX4_searchDay_10 (by decide) ?_
        refine va_getsN hx hb hSt.2.1 hS hown (va_Nw.use rfl hE.2.2.2.2.2.2.2.2.2.2.2.2.2.2.2.1) (fun _ h => h) dX4_searchDay_11 ?_
        refine lv_iload hx hb dX4_searchDay_14 (lv_at hl 0 rfl) ?_
        obtain ⟨pi3, i3, hi3, ni3, mi3⟩ := t_in (x := y1_4) (n := 6) ⟨by omega, by omega⟩
        refine va_ti (v := .int (st_l y1_4.toNatClampNeg)) hx hb hSt.2.2 hS pi3 rfl dX4_searchDay_16 ?_
        refine lv_topi (fun x_4 ex_4 => ?_)
        have bx_4 : 0 ≤ x_4.toInt ∧ x_4.toInt ≤ 3 := by rw [ex_4]; exact (st_b _).2
        refine lv_ishl hx hb dX4_searchDay_17 ?_
        refine lv_topi (fun x_5 ex_5 => ?_)
        have tx_5 : 1 ≤ x_5.toInt ∧ x_5.toInt ≤ 32 := by rw [ex_5]; exact t_shl ⟨by omega, by omega⟩
        refine lv_iconst (v := 1) hx hb dX4_searchDay_18 (by decide) ?_
        refine va_getsN hx hb hSt.1.1 hS hown (va_Nw.use rfl hE.2.2.2.2.2.2.2.2.2.2.2.2.2.2.2.2) (fun _ h => h) dX4_searchDay_19 ?_
        refine lv_iload hx hb dX4_searchDay_22 (lv_at hl 0 rfl) ?_
        refine va_ti (v := .int (st_o y1_4.toNatClampNeg)) hx hb hSt.1.2 hS pi3 rfl dX4_searchDay_24 ?_
        refine lv_topi (fun x_6 ex_6 => ?_)
        have bx_6 : 0 ≤ x_6.toInt ∧ x_6.toInt ≤ 3 := by rw [ex_6]; exact (st_b _).1
        refine lv_ishl hx hb dX4_searchDay_25 ?_
        refine lv_topi (fun x_7 ex_7 => ?_)
        have tx_7 : 1 ≤ x_7.toInt ∧ x_7.toInt ≤ 32 := by rw [ex_7]; exact t_shl ⟨by omega, by omega⟩
        refine lv_ior hx hb dX4_searchDay_26 ?_
        refine lv_topi (fun x_8 ex_8 => ?_)
        refine lv_istore (lv' := [(5, .int x_8), (4, .int y1_4), (0, .ref (ad 1)), (1, .int x0), (2, .int x1), (3, .int x2)]) hx hb dX4_searchDay_27 hl (by decide) rfl (fun ls hl => ?_)
        refine lv_aload_n hx hb dX4_searchDay_29 rfl (lv_at hl 2 rfl) ?_
        refine va_get (D := (dC, dI)) (ci := 4) (v := .ref (ad 4)) (C := RX4) (T := TX4) (N := 11) hx hb hts iwX4_searchDay_X4 hown hK hP (1) (wl_at (by omega) (ce_1 (by decide))) rfl 5 (by decide) (hts (.fieldLink RX4 18 "QuietStairs$Planner" "pairBits" "[I") fwX4_searchDay_1) (fun _ h9 => h9) rfl dX4_searchDay_30 ?_
        refine lv_iload_n hx hb dX4_searchDay_33 rfl (lv_at hl 3 rfl) ?_
        obtain ⟨pi9, i9, hi9, ni9, mi9⟩ := t_in (x := x0) (n := 4) ⟨by omega, by omega⟩
        refine va_iald hx hb hK hP (4) 0 (wl_at (by omega) (ce_17 (by decide))) rfl pi9 dX4_searchDay_34 ?_
        refine lv_topi (fun x_10 ex_10 => ?_)
        refine lv_iload hx hb dX4_searchDay_35 (lv_at hl 1 rfl) ?_
        refine yc_p hP hS (va_runSN (As := [.int x_10, .int y1_4]) (rest := []) ⟨hx, hb, hml, hown, hts⟩ (c_X7_hasBit l x_10 y1_4) ⟨va_cnB 2 hts gX4_searchDay_X7_hasBit_n115 rfl rfl rfl hE.2.2.2.2.2.2.2.2.2.2.2.1 (hts (.initialized RX7) fwX4_searchDay_6) (by decide +kernel) ⟨Nat.le_of_ble_eq_true rfl, Nat.le_of_ble_eq_true rfl⟩, (hts (.static yX7_hasBit) fwX4_searchDay_5), trivial⟩ ex_preP rfl rfl hl.1 rfl (lv_room (Nat.le_of_ble_eq_true rfl)) dX4_searchDay_37 ⟨Nat.le_of_ble_eq_true rfl, Nat.le_of_ble_eq_true rfl⟩) (fun r_11 H locs hw_11 hP hS => ?_)
        rcases hw_11 with rfl | rfl
        · refine lv_if_eq (tgt := 118) hx hb dX4_searchDay_40 (by decide) (fun _ => ?_) (fun c9 => absurd c9 (by decide))
          obtain ⟨x_12, ex_12⟩ : ∃ y : Int32, y = y1_4 + 1 := ⟨_, rfl⟩
          refine lv_iinc (v := x_12) (lv' := [(4, .int x_12), (5, .int x_8), (0, .ref (ad 1)), (1, .int x0), (2, .int x1), (3, .int x2)]) hx hb dX4_searchDay_118 hl (k := 1) rfl (by rw [ex_12]; rfl) (by decide) rfl (fun ls hl => ?_)
          have k_1 : (1 : Int32).toInt = 1 := by decide
          have tx_12 : x_12.toInt = y1_4.toInt + (1 : Int32).toInt := by rw [ex_12]; exact t_add ⟨by omega, by omega⟩
          refine lv_goto (tgt := 3) hx hb dX4_searchDay_121 (by decide) ?_
          exact ih_1 x_12 u1 H locs (by omega) (by omega) (by omega) hv hfr hP hD hS ls (lv_sub hl [0, 2, 3, 4, 5] rfl)
        · refine lv_if_eq (tgt := 118) hx hb dX4_searchDay_40 (by decide) (fun c9 => absurd c9 (by decide)) (fun _ => ?_)
          refine lv_aload_n hx hb dX4_searchDay_43 rfl (lv_at hl 2 rfl) ?_
          refine va_get (D := (dC, dI)) (ci := 4) (v := .ref (ad 8)) (C := RX4) (T := TX4) (N := 11) hx hb hts iwX4_searchDay_X4 hown hK hP (1) (wl_at (by omega) (ce_1 (by decide))) rfl 9 (by decide) (hts (.fieldLink RX4 30 "QuietStairs$Planner" "busyBits" "[I") fwX4_searchDay_2) (fun _ h9 => h9) rfl dX4_searchDay_44 ?_
          refine lv_iload_n hx hb dX4_searchDay_47 rfl (lv_at hl 5 rfl) ?_
          obtain ⟨pi12, i12, hi12, ni12, mi12⟩ := t_in (x := x2) (n := 3) ⟨by omega, by omega⟩
          refine va_iald hx hb hK hP (8) 0 (wl_at (by omega) (ce_18 (by decide))) rfl pi12 dX4_searchDay_48 ?_
          refine lv_topi (fun x_13 ex_13 => ?_)
          refine lv_iload hx hb dX4_searchDay_49 (lv_at hl 0 rfl) ?_
          refine lv_iand hx hb dX4_searchDay_51 ?_
          refine lv_topi (fun x_14 ex_14 => ?_)
          refine lv_if_ne (tgt := 118) hx hb dX4_searchDay_52 (by decide) (fun c_15 => ?_) (fun c_15 => ?_)
          · have tc_15 : x_14.toInt ≠ (0 : Int32).toInt := fun q => absurd (Int32.toInt_inj.mp q) c_15
            obtain ⟨x_16, ex_16⟩ : ∃ y : Int32, y = y1_4 + 1 := ⟨_, rfl⟩
            refine lv_iinc (v := x_16) (lv' := [(4, .int x_16), (5, .int x_8), (0, .ref (ad 1)), (1, .int x0), (2, .int x1), (3, .int x2)]) hx hb dX4_searchDay_118 hl (k := 1) rfl (by rw [ex_16]; rfl) (by decide) rfl (fun ls hl => ?_)
            have k_1 : (1 : Int32).toInt = 1 := by decide
            have tx_16 : x_16.toInt = y1_4.toInt + (1 : Int32).toInt := by rw [ex_16]; exact t_add ⟨by omega, by omega⟩
            refine lv_goto (tgt := 3) hx hb dX4_searchDay_121 (by decide) ?_
            exact ih_1 x_16 u1 H locs (by omega) (by omega) (by omega) hv hfr hP hD hS ls (lv_sub hl [0, 2, 3, 4, 5] rfl)
          · have tc_15 : x_14.toInt = (0 : Int32).toInt := by rw [c_15]
            refine lv_aload_n hx hb dX4_searchDay_55 rfl (lv_at hl 2 rfl) ?_
            refine va_get (D := (dC, dI)) (ci := 4) (v := .ref (ad 6)) (C := RX4) (T := TX4) (N := 11) hx hb hts iwX4_searchDay_X4 hown hK hP (1) (wl_at (by omega) (ce_1 (by decide))) rfl 7 (by decide) (hts (.fieldLink RX4 24 "QuietStairs$Planner" "seats" "[I") fwX4_searchDay_3) (fun _ h9 => h9) rfl dX4_searchDay_56 ?_
            refine lv_iload_n hx hb dX4_searchDay_59 rfl (lv_at hl 3 rfl) ?_
            refine lv_bipush (v := 6) hx hb dX4_searchDay_60 (by decide) ?_
            refine lv_iload_n hx hb dX4_searchDay_62 rfl (lv_at hl 5 rfl) ?_
            refine lv_imul hx hb dX4_searchDay_63 ?_
            refine lv_topi (fun x_16 ex_16 => ?_)
            refine lv_iload hx hb dX4_searchDay_64 (lv_at hl 1 rfl) ?_
            refine lv_iadd hx hb dX4_searchDay_66 ?_
            refine lv_topi (fun x_17 ex_17 => ?_)
            refine va_iast hx hb hK hP hD hS (6) 0 (wl_at (by omega) (ce_17 (by decide))) rfl pi9 dX4_searchDay_67 (fun H locs hP hD hS => ?_)
            obtain ⟨v_18, ev_18⟩ : ∃ u : Nat → Nat → Int32, u = upr u1 (6) (upd (u1 (6)) (x0.toNatClampNeg) x_17) := ⟨_, rfl⟩
            have hP : va_P (dC, dI) vwCl (wl ad kv cy N v_18) H := by rw [ev_18, ← wl_put (e := _) (ce_17 (by decide))]; exact hP
            have hD : va_D A (wl ad kv cy N v_18) := by rw [ev_18, ← wl_put (e := _) (ce_17 (by decide))]; exact hD
            have hv : Iv v_18 := by rw [ev_18]; exact hv.put (K := 17) (by decide) (fun h q => by simp [bd] at q)
            have hfr : Fz v v_18 := by rw [ev_18]; exact hfr.put (by omega) (by omega) (by omega)
            refine lv_aload_n hx hb dX4_searchDay_68 rfl (lv_at hl 2 rfl) ?_
            refine va_get (D := (dC, dI)) (ci := 4) (v := .ref (ad 8)) (C := RX4) (T := TX4) (N := 11) hx hb hts iwX4_searchDay_X4 hown hK hP (1) (wl_at (by omega) (ce_1 (by decide))) rfl 9 (by decide) (hts (.fieldLink RX4 30 "QuietStairs$Planner" "busyBits" "[I") fwX4_searchDay_2) (fun _ h9 => h9) rfl dX4_searchDay_69 ?_
            refine lv_iload_n hx hb dX4_searchDay_72 rfl (lv_at hl 5 rfl) ?_
            refine lv_dup2_11 hx hb dX4_searchDay_73 rfl rfl ?_
            refine va_iald hx hb hK hP (8) 0 (wl_at (by omega) (ce_18 (by decide))) rfl pi12 dX4_searchDay_74 ?_
            refine lv_topi (fun x_19 ex_19 => ?_)
            refine lv_iload hx hb dX4_searchDay_75 (lv_at hl 0 rfl) ?_
            refine lv_ior hx hb dX4_searchDay_77 ?_
            refine lv_topi (fun x_20 ex_20 => ?_)
            refine va_iast hx hb hK hP hD hS (8) 0 (wl_at (by omega) (ce_18 (by decide))) rfl pi12 dX4_searchDay_78 (fun H locs hP hD hS => ?_)
            obtain ⟨v_21, ev_21⟩ : ∃ u : Nat → Nat → Int32, u = upr v_18 (8) (upd (v_18 (8)) (x2.toNatClampNeg) x_20) := ⟨_, rfl⟩
            have hP : va_P (dC, dI) vwCl (wl ad kv cy N v_21) H := by rw [ev_21, ← wl_put (e := _) (ce_18 (by decide))]; exact hP
            have hD : va_D A (wl ad kv cy N v_21) := by rw [ev_21, ← wl_put (e := _) (ce_18 (by decide))]; exact hD
            have hv : Iv v_21 := by rw [ev_21]; exact hv.put (K := 18) (by decide) (fun h q => by simp [bd] at q)
            have hfr : Fz v v_21 := by rw [ev_21]; exact hfr.put (by omega) (by omega) (by omega)
            refine lv_aload_n hx hb dX4_searchDay_79 rfl (lv_at hl 2 rfl) ?_
            refine va_get (D := (dC, dI)) (ci := 4) (v := .ref (ad 9)) (C := RX4) (T := TX4) (N := 11) hx hb hts iwX4_searchDay_X4 hown hK hP (1) (wl_at (by omega) (ce_1 (by decide))) rfl 10 (by decide) (hts (.fieldLink RX4 33 "QuietStairs$Planner" "sittings" "[I") fwX4_searchDay_4) (fun _ h9 => h9) rfl dX4_searchDay_80 ?_
            refine lv_iload_n hx hb dX4_searchDay_83 rfl (lv_at hl 5 rfl) ?_
            refine lv_dup2_11 hx hb dX4_searchDay_84 rfl rfl ?_
            refine va_iald hx hb hK hP (9) 0 (wl_at (by omega) (ce_18 (by decide))) rfl pi12 dX4_searchDay_85 ?_
            refine lv_topi (fun x_22 ex_22 => ?_)
            refine lv_iconst (v := 1) hx hb dX4_searchDay_86 (by decide) ?_
            have k_1 : (1 : Int32).toInt = 1 := by decide
            refine lv_iadd hx hb dX4_searchDay_87 ?_
            refine lv_topi (fun x_23 ex_23 => ?_)
            refine va_iast hx hb hK hP hD hS (9) 0 (wl_at (by omega) (ce_18 (by decide))) rfl pi12 dX4_searchDay_88 (fun H locs hP hD hS => ?_)
            obtain ⟨v_24, ev_24⟩ : ∃ u : Nat → Nat → Int32, u = upr v_21 (9) (upd (v_21 (9)) (x2.toNatClampNeg) x_23) := ⟨_, rfl⟩
            have hP : va_P (dC, dI) vwCl (wl ad kv cy N v_24) H := by rw [ev_24, ← wl_put (e := _) (ce_18 (by decide))]; exact hP
            have hD : va_D A (wl ad kv cy N v_24) := by rw [ev_24, ← wl_put (e := _) (ce_18 (by decide))]; exact hD
            have hv : Iv v_24 := by rw [ev_24]; exact hv.put (K := 18) (by decide) (fun h q => by simp [bd] at q)
            have hfr : Fz v v_24 := by rw [ev_24]; exact hfr.put (by omega) (by omega) (by omega)
            refine lv_aload_n hx hb dX4_searchDay_89 rfl (lv_at hl 2 rfl) ?_
            refine lv_iload_n hx hb dX4_searchDay_90 rfl (lv_at hl 3 rfl) ?_
            refine lv_iconst (v := 1) hx hb dX4_searchDay_91 (by decide) ?_
            refine lv_iadd hx hb dX4_searchDay_92 ?_
            refine lv_topi (fun x_25 ex_25 => ?_)
            have tx_25 : x_25.toInt = x0.toInt + (1 : Int32).toInt := by rw [ex_25]; exact t_add ⟨by omega, by omega⟩
            refine lv_iload_n hx hb dX4_searchDay_93 rfl (lv_at hl 4 rfl) ?_
            refine yw_v (w1 := fun (u : Nat → Nat → Int32) => wl ad kv cy N u) hD hS hA (va_runV (As := [.int x_25, .int x1]) (rest := []) ⟨hx, hb, hml, hown, hts⟩ (g_X4_search_2 l dC dI cy _ ad kv N hN v_24 hv x_25 x1 ⟨by omega, by omega⟩ t1 t2) (cwV 2 hts gX4_searchDay_X4_search rfl rfl rfl hd_V_X4_search_2 ⟨Nat.le_of_ble_eq_true rfl, Nat.le_of_ble_eq_true rfl⟩) ⟨ex_blindT, va_recv hK hP (ci := 4) (q0 := 1) rfl (wl_at (by omega) (ce_1 (by decide))), fun U hU hW => ⟨rfl, ((yw_preS (As := []) hE hK hP hD).2 U hU hW).2, hSt.go hS (yw_F hD hS hA) hU hW⟩⟩ rfl rfl hl.1 rfl (lv_room (Nat.le_of_ble_eq_true rfl)) dX4_searchDay_94 ⟨Nat.le_of_ble_eq_true rfl, Nat.le_of_ble_eq_true rfl⟩) (fun v_26 H locs hw_26 hP hD hS => ?_)
            obtain ⟨hv, hw_26⟩ := hw_26
            have hfr : Fz v v_26 := hfr.trans hw_26
            refine lv_aload_n hx hb dX4_searchDay_97 rfl (lv_at hl 2 rfl) ?_
            refine va_get (D := (dC, dI)) (ci := 4) (v := .ref (ad 9)) (C := RX4) (T := TX4) (N := 11) hx hb hts iwX4_searchDay_X4 hown hK hP (1) (wl_at (by omega) (ce_1 (by decide))) rfl 10 (by decide) (hts (.fieldLink RX4 33 "QuietStairs$Planner" "sittings" "[I") fwX4_searchDay_4) (fun _ h9 => h9) rfl dX4_searchDay_98 ?_
            refine lv_iload_n hx hb dX4_searchDay_101 rfl (lv_at hl 5 rfl) ?_
            refine lv_dup2_11 hx hb dX4_searchDay_102 rfl rfl ?_
            refine va_iald hx hb hK hP (9) 0 (wl_at (by omega) (ce_18 (by decide))) rfl pi12 dX4_searchDay_103 ?_
            refine lv_topi (fun x_27 ex_27 => ?_)
            refine lv_iconst (v := 1) hx hb dX4_searchDay_104 (by decide) ?_
            refine lv_isub hx hb dX4_searchDay_105 ?_
            refine lv_topi (fun x_28 ex_28 => ?_)
            refine va_iast hx hb hK hP hD hS (9) 0 (wl_at (by omega) (ce_18 (by decide))) rfl pi12 dX4_searchDay_106 (fun H locs hP hD hS => ?_)
            obtain ⟨v_29, ev_29⟩ : ∃ u : Nat → Nat → Int32, u = upr v_26 (9) (upd (v_26 (9)) (x2.toNatClampNeg) x_28) := ⟨_, rfl⟩
            have hP : va_P (dC, dI) vwCl (wl ad kv cy N v_29) H := by rw [ev_29, ← wl_put (e := _) (ce_18 (by decide))]; exact hP
            have hD : va_D A (wl ad kv cy N v_29) := by rw [ev_29, ← wl_put (e := _) (ce_18 (by decide))]; exact hD
            have hv : Iv v_29 := by rw [ev_29]; exact hv.put (K := 18) (by decide) (fun h q => by simp [bd] at q)
            have hfr : Fz v v_29 := by rw [ev_29]; exact hfr.put (by omega) (by omega) (by omega)
            refine lv_aload_n hx hb dX4_searchDay_107 rfl (lv_at hl 2 rfl) ?_
            refine va_get (D := (dC, dI)) (ci := 4) (v := .ref (ad 8)) (C := RX4) (T := TX4) (N := 11) hx hb hts iwX4_searchDay_X4 hown hK hP (1) (wl_at (by omega) (ce_1 (by decide))) rfl 9 (by decide) (hts (.fieldLink RX4 30 "QuietStairs$Planner" "busyBits" "[I") fwX4_searchDay_2) (fun _ h9 => h9) rfl dX4_searchDay_108 ?_
            refine lv_iload_n hx hb dX4_searchDay_111 rfl (lv_at hl 5 rfl) ?_
            refine lv_dup2_11 hx hb dX4_searchDay_112 rfl rfl ?_
            refine va_iald hx hb hK hP (8) 0 (wl_at (by omega) (ce_18 (by decide))) rfl pi12 dX4_searchDay_113 ?_
            refine lv_topi (fun x_30 ex_30 => ?_)
            refine lv_iload hx hb dX4_searchDay_114 (lv_at hl 0 rfl) ?_
            refine lv_ixor hx hb dX4_searchDay_116 ?_
            refine lv_topi (fun x_31 ex_31 => ?_)
            refine va_iast hx hb hK hP hD hS (8) 0 (wl_at (by omega) (ce_18 (by decide))) rfl pi12 dX4_searchDay_117 (fun H locs hP hD hS => ?_)
            obtain ⟨v_32, ev_32⟩ : ∃ u : Nat → Nat → Int32, u = upr v_29 (8) (upd (v_29 (8)) (x2.toNatClampNeg) x_31) := ⟨_, rfl⟩
            have hP : va_P (dC, dI) vwCl (wl ad kv cy N v_32) H := by rw [ev_32, ← wl_put (e := _) (ce_18 (by decide))]; exact hP
            have hD : va_D A (wl ad kv cy N v_32) := by rw [ev_32, ← wl_put (e := _) (ce_18 (by decide))]; exact hD
            have hv : Iv v_32 := by rw [ev_32]; exact hv.put (K := 18) (by decide) (fun h q => by simp [bd] at q)
            have hfr : Fz v v_32 := by rw [ev_32]; exact hfr.put (by omega) (by omega) (by omega)
            obtain ⟨x_33, ex_33⟩ : ∃ y : Int32, y = y1_4 + 1 := ⟨_, rfl⟩
            refine lv_iinc (v := x_33) (lv' := [(4, .int x_33), (5, .int x_8), (0, .ref (ad 1)), (1, .int x0), (2, .int x1), (3, .int x2)]) hx hb dX4_searchDay_118 hl (k := 1) rfl (by rw [ex_33]; rfl) (by decide) rfl (fun ls hl => ?_)
            have tx_33 : x_33.toInt = y1_4.toInt + (1 : Int32).toInt := by rw [ex_33]; exact t_add ⟨by omega, by omega⟩
            refine lv_goto (tgt := 3) hx hb dX4_searchDay_121 (by decide) ?_
            exact ih_1 x_33 v_32 H locs (by omega) (by omega) (by omega) hv hfr hP hD hS ls (lv_sub hl [0, 2, 3, 4, 5] rfl)
  exact hloop_1 ((6 - (0 : Int32).toInt).toNat + 1) 0 v _ _ (by omega) (by omega) (by omega) hv hfr hP hD hS ls hl

set_option maxHeartbeats 4000000 in
set_option maxRecDepth 100000 in
theorem g_X4_search_3 (l : Launch) (dC : Nat → ClassId) (dI : Nat → Nat → Nat) (cy : Nat → ClassId) (sz : Nat) (ad : Nat → Nat) (kv : Value) (N : Nat) (hN : 119 ≤ N) (v : Nat → Nat → Int32) (hv : Iv v) (x0 x1 : Int32) (hs : 1 ≤ x0.toInt ∧ x0.toInt ≤ 4) (t1 t2 : Nat) : Met l yX4_search wsX4_search ({ frames := 7, cells := 0, slots := 0, locals := 448 }) (va_Pc [.ref (ad 1), .int x0, .int x1] (ex_PreT dC dI cy sz (wl ad kv cy N v) t1 t2)) (va_Qv (fun (u : Nat → Nat → Int32) => Iv u ∧ Fz v u) (fun u t => ex_Pst dC dI (va_A (wl ad kv cy N v) sz) (wl ad kv cy N u) t) (va_A (wl ad kv cy N v) sz)) 0 0 (va_A (wl ad kv cy N v) sz) := by
  refine Met.ofW (cc := cX4_search) (maxL := 4) (ret := none) (by decide) rfl ?_
  intro p e s m args below meth c s₁ B hml hv
  obtain ⟨rfl, ⟨hsz, hE, hP, hK, hD0⟩, hSt⟩ := hv
  have hx := B.exec
  have hb := B.bytes
  have hr := B.returns
  have hts := atoms_spec (ws := wsX4_search) B.pre
  have hown : s.vm.findClass RX4 = some m.cls := findClass_of_methodNamed B.named
  have hlocks := B.notSynchronized
  subst hsz
  have hD := hD0.self (sz := s.heap.size)
  generalize hAe : va_A (wl ad kv cy N v) s.heap.size = A at hD hSt ⊢
  have hA : ∀ q : Nat, s.heap.size ≤ q → A q := fun q h => by rw [← hAe]; exact Or.inr h
  have hS : va_S A s.heap s.heap [] := va_S.rf
  have hP : va_P (dC, dI) vwCl (wl ad kv cy N v) s.heap := hP
  have hl := lv_entry ([.ref (ad 1), .int x0, .int x1]) (n := 4) (Nat.le_of_ble_eq_true rfl)
  rw [lg_entry_eq]
  generalize (lg_sl ([.ref (ad 1), .int x0, .int x1]) ++ List.replicate (4 - (lg_sl ([.ref (ad 1), .int x0, .int x1])).length) Slot.unset).toArray = ls at hl ⊢
  have hl : lv_has ls 4 [(0, .ref (ad 1)), (1, .int x0), (2, .int x1)] := hl
  have hfr : Fz v v := Fz.rf
  refine lv_iload_n hx hb dX4_search_0 rfl (lv_at hl 2 rfl) ?_
  refine lv_aload_n hx hb dX4_search_1 rfl (lv_at hl 0 rfl) ?_
  refine lv_iload_n hx hb dX4_search_2 rfl (lv_at hl 1 rfl) ?_
  refine yw_i (w1 := fun (u : Nat → Nat → Int32) => wl ad kv cy N u) hD hS hA (va_runV (As := [.int x0]) (rest := [.int x1]) ⟨hx, hb, hml, hown, hts⟩ (g_X4_leastBehind l dC dI cy _ ad kv N hN v hv x0) (cwV 1 hts gX4_search_X4_leastBehind rfl rfl rfl hd_V_X4_leastBehind_1 ⟨Nat.le_of_ble_eq_true rfl, Nat.le_of_ble_eq_true rfl⟩) (yw_preV hE hK hP hD (ci := 4) (q0 := 1) rfl (wl_at (by omega) (ce_1 (by decide)))) rfl rfl hl.1 rfl (lv_room (Nat.le_of_ble_eq_true rfl)) dX4_search_3 ⟨Nat.le_of_ble_eq_true rfl, Nat.le_of_ble_eq_true rfl⟩) (fun r_1 v_1 H locs hw_1 hP hD hS => ?_)
  obtain ⟨hv, hw_1⟩ := hw_1
  have hfr : Fz v v_1 := hfr.trans hw_1
  refine lv_iadd hx hb dX4_search_6 ?_
  refine lv_topi (fun x_2 ex_2 => ?_)
  refine lv_aload_n hx hb dX4_search_7 rfl (lv_at hl 0 rfl) ?_
  refine va_get (D := (dC, dI)) (ci := 4) (v := .int (v_1 (1) 0)) (C := RX4) (T := TX4) (N := 11) hx hb hts iwX4_search_X4 hown hK hP (1) (wl_at (by omega) (ce_1 (by decide))) rfl 0 (by decide) (hts (.fieldLink RX4 58 "QuietStairs$Planner" "leastWait" "I") fwX4_search_1) (fun _ h9 => h9) rfl dX4_search_8 ?_
  refine lv_topi (fun x_3 ex_3 => ?_)
  refine lv_icmp_lt (tgt := 15) hx hb dX4_search_11 (by decide) (fun c_4 => ?_) (fun c_4 => ?_)
  · have tc_4 : x_2.toInt < x_3.toInt := Int32.lt_iff_toInt_lt.mp c_4
    refine lv_iload_n hx hb dX4_search_15 rfl (lv_at hl 1 rfl) ?_
    refine lv_aload_n hx hb dX4_search_16 rfl (lv_at hl 0 rfl) ?_
    refine va_get (D := (dC, dI)) (ci := 4) (v := .int (v_1 (1) 1)) (C := RX4) (T := TX4) (N := 11) hx hb hts iwX4_search_X4 hown hK hP (1) (wl_at (by omega) (ce_1 (by decide))) rfl 1 (by decide) (hts (.fieldLink RX4 61 "QuietStairs$Planner" "count" "I") fwX4_search_2) (fun _ h9 => h9) rfl dX4_search_17 ?_
    refine lv_topi (fun x_5 ex_5 => ?_)
    have bx_5 : 0 ≤ x_5.toInt ∧ x_5.toInt ≤ 4 := by rw [ex_5]; exact hv.at (K := 1) (by decide) rfl
    refine lv_icmp_lt (tgt := 46) hx hb dX4_search_20 (by decide) (fun c_6 => ?_) (fun c_6 => ?_)
    · have tc_6 : x0.toInt < x_5.toInt := Int32.lt_iff_toInt_lt.mp c_6
      refine lv_iconst (v := 0) hx hb dX4_search_46 (by decide) ?_
      refine lv_istore_n (lv' := [(3, .int 0), (0, .ref (ad 1)), (1, .int x0), (2, .int x1)]) hx hb dX4_search_47 rfl hl (by decide) rfl (fun ls hl => ?_)
      have k_0 : (0 : Int32).toInt = 0 := by decide
      have hloop_7 : ∀ (n : Nat) (y7_3 : Int32) (u7 : Nat → Nat → Int32) (H : Heap) (locs : List Loc), 0 ≤ y7_3.toInt → y7_3.toInt ≤ 3 → (3 - y7_3.toInt).toNat < n → Iv u7 → Fz v u7 → va_P (dC, dI) vwCl (wl ad kv cy N u7) H → va_D A (wl ad kv cy N u7) → va_S A s.heap H locs → ∀ ls : Array Slot, lv_has ls 4 [(3, .int y7_3), (0, .ref (ad 1)), (1, .int x0), (2, .int x1)] → W p l e (headSpec wsX4_search ({ frames := 7, cells := 0, slots := 0, locals := 448 })).room s m [Value.ref (ad 1), Value.int x0, Value.int x1].toArray below meth c H locs 0 0 (MQ below (va_Qv (fun (u : Nat → Nat → Int32) => Iv u ∧ Fz v u) (fun u t => ex_Pst dC dI A (wl ad kv cy N u) t) A) [Value.ref (ad 1), Value.int x0, Value.int x1].toArray s 0 0 A) (F0 m 48 ls []) := by
        intro n
        induction n with
        | zero =>
          intro y7_3 u7 H locs ay7_3 by7_3 hm_7 hv hfr hP hD hS ls hl
          exact absurd hm_7 (by omega)
        | succ n ih_7 =>
          intro y7_3 u7 H locs ay7_3 by7_3 hm_7 hv hfr hP hD hS ls hl
          refine lv_iload_n hx hb dX4_search_48 rfl (lv_at hl 0 rfl) ?_
          refine lv_iconst (v := 3) hx hb dX4_search_49 (by decide) ?_
          have k_3 : (3 : Int32).toInt = 3 := by decide
          refine lv_icmp_ge (tgt := 88) hx hb dX4_search_50 (by decide) (fun c_8 => ?_) (fun c_8 => ?_)
          · have tc_8 : y7_3.toInt ≥ (3 : Int32).toInt := Int32.le_iff_toInt_le.mp c_8
            refine lv_aload_n hx hb dX4_search_88 rfl (lv_at hl 1 rfl) ?_
            refine va_get (D := (dC, dI)) (ci := 4) (v := .ref (ad 6)) (C := RX4) (T := TX4) (N := 11) hx hb hts iwX4_search_X4 hown hK hP (1) (wl_at (by omega) (ce_1 (by decide))) rfl 7 (by decide) (hts (.fieldLink RX4 24 "QuietStairs$Planner" "seats" "[I") fwX4_search_3) (fun _ h9 => h9) rfl dX4_search_89 ?_
            refine lv_iload_n hx hb dX4_search_92 rfl (lv_at hl 2 rfl) ?_
            refine lv_bipush (v := 18) hx hb dX4_search_93 (by decide) ?_
            obtain ⟨pi9, i9, hi9, ni9, mi9⟩ := t_in (x := x0) (n := 4) ⟨by omega, by omega⟩
            refine va_iast hx hb hK hP hD hS (6) 0 (wl_at (by omega) (ce_17 (by decide))) rfl pi9 dX4_search_95 (fun H locs hP hD hS => ?_)
            have k_18 : (18 : Int32).toInt = 18 := by decide
            obtain ⟨v_10, ev_10⟩ : ∃ u : Nat → Nat → Int32, u = upr u7 (6) (upd (u7 (6)) (x0.toNatClampNeg) 18) := ⟨_, rfl⟩
            have hP : va_P (dC, dI) vwCl (wl ad kv cy N v_10) H := by rw [ev_10, ← wl_put (e := _) (ce_17 (by decide))]; exact hP
            have hD : va_D A (wl ad kv cy N v_10) := by rw [ev_10, ← wl_put (e := _) (ce_17 (by decide))]; exact hD
            have hv : Iv v_10 := by rw [ev_10]; exact hv.put (K := 17) (by decide) (fun h q => by simp [bd] at q)
            have hfr : Fz v v_10 := by rw [ev_10]; exact hfr.put (by omega) (by omega) (by omega)
            refine lv_aload_n hx hb dX4_search_96 rfl (lv_at hl 1 rfl) ?_
            refine lv_iload_n hx hb dX4_search_97 rfl (lv_at hl 2 rfl) ?_
            refine lv_iconst (v := 1) hx hb dX4_search_98 (by decide) ?_
            have k_1 : (1 : Int32).toInt = 1 := by decide
            refine lv_iadd hx hb dX4_search_99 ?_
            refine lv_topi (fun x_11 ex_11 => ?_)
            have tx_11 : x_11.toInt = x0.toInt + (1 : Int32).toInt := by rw [ex_11]; exact t_add ⟨by omega, by omega⟩
            refine lv_iload_n hx hb dX4_search_100 rfl (lv_at hl 3 rfl) ?_
            refine lv_aload_n hx hb dX4_search_101 rfl (lv_at hl 1 rfl) ?_
            refine va_get (D := (dC, dI)) (ci := 4) (v := .ref (ad 3)) (C := RX4) (T := TX4) (N := 11) hx hb hts iwX4_search_X4 hown hK hP (1) (wl_at (by omega) (ce_1 (by decide))) rfl 4 (by decide) (hts (.fieldLink RX4 15 "QuietStairs$Planner" "weights" "[I") fwX4_search_11) (fun _ h9 => h9) rfl dX4_search_102 ?_
            refine lv_iload_n hx hb dX4_search_105 rfl (lv_at hl 2 rfl) ?_
            refine va_iald hx hb hK hP (3) 0 (wl_at (by omega) (ce_17 (by decide))) rfl pi9 dX4_search_106 ?_
            refine lv_topi (fun x_12 ex_12 => ?_)
            refine lv_iconst (v := 4) hx hb dX4_search_107 (by decide) ?_
            refine lv_imul hx hb dX4_search_108 ?_
            refine lv_topi (fun x_13 ex_13 => ?_)
            refine lv_iadd hx hb dX4_search_109 ?_
            refine lv_topi (fun x_14 ex_14 => ?_)
            refine yw_v (w1 := fun (u : Nat → Nat → Int32) => wl ad kv cy N u) hD hS hA (va_runV (As := [.int x_11, .int x_14]) (rest := []) ⟨hx, hb, hml, hown, hts⟩ (g_X4_search_2 l dC dI cy _ ad kv N hN v_10 hv x_11 x_14 ⟨by omega, by omega⟩ t1 t2) (cwV 2 hts gX4_search_X4_search rfl rfl rfl hd_V_X4_search_2 ⟨Nat.le_of_ble_eq_true rfl, Nat.le_of_ble_eq_true rfl⟩) ⟨ex_blindT, va_recv hK hP (ci := 4) (q0 := 1) rfl (wl_at (by omega) (ce_1 (by decide))), fun U hU hW => ⟨rfl, ((yw_preS (As := []) hE hK hP hD).2 U hU hW).2, hSt.go hS (yw_F hD hS hA) hU hW⟩⟩ rfl rfl hl.1 rfl (lv_room (Nat.le_of_ble_eq_true rfl)) dX4_search_110 ⟨Nat.le_of_ble_eq_true rfl, Nat.le_of_ble_eq_true rfl⟩) (fun v_15 H locs hw_15 hP hD hS => ?_)
            obtain ⟨hv, hw_15⟩ := hw_15
            have hfr : Fz v v_15 := hfr.trans hw_15
            exact W.vret hx hb hr (fun t ht hW => ⟨⟨v_15, rfl, ⟨hv, hfr⟩, by rw [ht]; exact hP, hD⟩, hS.F ht⟩) hS.2.2 dX4_search_113
          · have tc_8 : y7_3.toInt < (3 : Int32).toInt := Int32.lt_iff_toInt_lt.mp (Int32.not_le.mp c_8)
            refine lv_aload_n hx hb dX4_search_53 rfl (lv_at hl 1 rfl) ?_
            refine va_get (D := (dC, dI)) (ci := 4) (v := .ref (ad 9)) (C := RX4) (T := TX4) (N := 11) hx hb hts iwX4_search_X4 hown hK hP (1) (wl_at (by omega) (ce_1 (by decide))) rfl 10 (by decide) (hts (.fieldLink RX4 33 "QuietStairs$Planner" "sittings" "[I") fwX4_search_9) (fun _ h9 => h9) rfl dX4_search_54 ?_
            refine lv_iload_n hx hb dX4_search_57 rfl (lv_at hl 0 rfl) ?_
            obtain ⟨pi9, i9, hi9, ni9, mi9⟩ := t_in (x := y7_3) (n := 3) ⟨by omega, by omega⟩
            refine va_iald hx hb hK hP (9) 0 (wl_at (by omega) (ce_18 (by decide))) rfl pi9 dX4_search_58 ?_
            refine lv_topi (fun x_10 ex_10 => ?_)
            refine lv_aload_n hx hb dX4_search_59 rfl (lv_at hl 1 rfl) ?_
            refine va_get (D := (dC, dI)) (ci := 4) (v := .int (u7 (1) 2)) (C := RX4) (T := TX4) (N := 11) hx hb hts iwX4_search_X4 hown hK hP (1) (wl_at (by omega) (ce_1 (by decide))) rfl 2 (by decide) (hts (.fieldLink RX4 48 "QuietStairs$Planner" "seatsADay" "I") fwX4_search_10) (fun _ h9 => h9) rfl dX4_search_60 ?_
            refine lv_topi (fun x_11 ex_11 => ?_)
            refine lv_icmp_ge (tgt := 82) hx hb dX4_search_63 (by decide) (fun c_12 => ?_) (fun c_12 => ?_)
            · have tc_12 : x_10.toInt ≥ x_11.toInt := Int32.le_iff_toInt_le.mp c_12
              obtain ⟨x_13, ex_13⟩ : ∃ y : Int32, y = y7_3 + 1 := ⟨_, rfl⟩
              refine lv_iinc (v := x_13) (lv' := [(3, .int x_13), (0, .ref (ad 1)), (1, .int x0), (2, .int x1)]) hx hb dX4_search_82 hl (k := 0) rfl (by rw [ex_13]; rfl) (by decide) rfl (fun ls hl => ?_)
              have k_1 : (1 : Int32).toInt = 1 := by decide
              have tx_13 : x_13.toInt = y7_3.toInt + (1 : Int32).toInt := by rw [ex_13]; exact t_add ⟨by omega, by omega⟩
              refine lv_goto (tgt := 48) hx hb dX4_search_85 (by decide) ?_
              exact ih_7 x_13 u7 H locs (by omega) (by omega) (by omega) hv hfr hP hD hS ls (lv_sub hl [0, 1, 2, 3] rfl)
            · have tc_12 : x_10.toInt < x_11.toInt := Int32.lt_iff_toInt_lt.mp (Int32.not_le.mp c_12)
              refine lv_aload_n hx hb dX4_search_66 rfl (lv_at hl 1 rfl) ?_
              refine lv_iload_n hx hb dX4_search_67 rfl (lv_at hl 2 rfl) ?_
              refine lv_iload_n hx hb dX4_search_68 rfl (lv_at hl 3 rfl) ?_
              refine lv_aload_n hx hb dX4_search_69 rfl (lv_at hl 1 rfl) ?_
              refine va_get (D := (dC, dI)) (ci := 4) (v := .ref (ad 3)) (C := RX4) (T := TX4) (N := 11) hx hb hts iwX4_search_X4 hown hK hP (1) (wl_at (by omega) (ce_1 (by decide))) rfl 4 (by decide) (hts (.fieldLink RX4 15 "QuietStairs$Planner" "weights" "[I") fwX4_search_11) (fun _ h9 => h9) rfl dX4_search_70 ?_
              refine lv_iload_n hx hb dX4_search_73 rfl (lv_at hl 2 rfl) ?_
              obtain ⟨pi13, i13, hi13, ni13, mi13⟩ := t_in (x := x0) (n := 4) ⟨by omega, by omega⟩
              refine va_iald hx hb hK hP (3) 0 (wl_at (by omega) (ce_17 (by decide))) rfl pi13 dX4_search_74 ?_
              refine lv_topi (fun x_14 ex_14 => ?_)
              refine lv_iload_n hx hb dX4_search_75 rfl (lv_at hl 0 rfl) ?_
              refine lv_imul hx hb dX4_search_76 ?_
              refine lv_topi (fun x_15 ex_15 => ?_)
              refine lv_iadd hx hb dX4_search_77 ?_
              refine lv_topi (fun x_16 ex_16 => ?_)
              refine lv_iload_n hx hb dX4_search_78 rfl (lv_at hl 0 rfl) ?_
              refine yw_v (w1 := fun (u : Nat → Nat → Int32) => wl ad kv cy N u) hD hS hA (va_runV (As := [.int x0, .int x_16, .int y7_3]) (rest := []) ⟨hx, hb, hml, hown, hts⟩ (g_X4_searchDay_3 l dC dI cy _ ad kv N hN u7 hv x0 x_16 y7_3 ⟨by omega, by omega⟩ ⟨by omega, by omega⟩ t1 t2) (cwV 3 hts gX4_search_X4_searchDay rfl rfl rfl hd_V_X4_searchDay_3 ⟨Nat.le_of_ble_eq_true rfl, Nat.le_of_ble_eq_true rfl⟩) ⟨ex_blindT, va_recv hK hP (ci := 4) (q0 := 1) rfl (wl_at (by omega) (ce_1 (by decide))), fun U hU hW => ⟨rfl, ((yw_preS (As := []) hE hK hP hD).2 U hU hW).2, hSt.go hS (yw_F hD hS hA) hU hW⟩⟩ rfl rfl hl.1 rfl (lv_room (Nat.le_of_ble_eq_true rfl)) dX4_search_79 ⟨Nat.le_of_ble_eq_true rfl, Nat.le_of_ble_eq_true rfl⟩) (fun v_17 H locs hw_17 hP hD hS => ?_)
              obtain ⟨hv, hw_17⟩ := hw_17
              have hfr : Fz v v_17 := hfr.trans hw_17
              obtain ⟨x_18, ex_18⟩ : ∃ y : Int32, y = y7_3 + 1 := ⟨_, rfl⟩
              refine lv_iinc (v := x_18) (lv' := [(3, .int x_18), (0, .ref (ad 1)), (1, .int x0), (2, .int x1)]) hx hb dX4_search_82 hl (k := 0) rfl (by rw [ex_18]; rfl) (by decide) rfl (fun ls hl => ?_)
              have k_1 : (1 : Int32).toInt = 1 := by decide
              have tx_18 : x_18.toInt = y7_3.toInt + (1 : Int32).toInt := by rw [ex_18]; exact t_add ⟨by omega, by omega⟩
              refine lv_goto (tgt := 48) hx hb dX4_search_85 (by decide) ?_
              exact ih_7 x_18 v_17 H locs (by omega) (by omega) (by omega) hv hfr hP hD hS ls (lv_sub hl [0, 1, 2, 3] rfl)
      exact hloop_7 ((3 - (0 : Int32).toInt).toNat + 1) 0 v_1 _ _ (by omega) (by omega) (by omega) hv hfr hP hD hS ls hl
    · have tc_6 : x0.toInt ≥ x_5.toInt := Int32.le_iff_toInt_le.mp (Int32.not_lt.mp c_6)
      refine lv_aload_n hx hb dX4_search_23 rfl (lv_at hl 0 rfl) ?_
      refine lv_iload_n hx hb dX4_search_24 rfl (lv_at hl 2 rfl) ?_
      refine va_put (D := (dC, dI)) (ci := 4) (v := .int x1) (ty := .int) (C := RX4) (T := TX4) (N := 11) hx hb hts iwX4_search_X4 tyX4 tyX4_ok nmX4 hown hK hP hD hS (1) (wl_at (by omega) (ce_1 (by decide))) rfl 0 (by decide) (hts (.fieldLink RX4 58 "QuietStairs$Planner" "leastWait" "I") fwX4_search_1) (fun _ h9 => h9) rfl (by decide +kernel) rfl rfl (Nat.le_of_ble_eq_true rfl) dX4_search_25 (fun H locs hP hD hS => ?_)
      obtain ⟨v_7, ev_7⟩ : ∃ u : Nat → Nat → Int32, u = upr v_1 (1) (upd (v_1 (1)) 0 x1) := ⟨_, rfl⟩
      have hP : va_P (dC, dI) vwCl (wl ad kv cy N v_7) H := by rw [ev_7, ← wl_put (e := _) (ce_1 (by decide))]; exact hP
      have hD : va_D A (wl ad kv cy N v_7) := by rw [ev_7, ← wl_put (e := _) (ce_1 (by decide))]; exact hD
      have hv : Iv v_7 := by rw [ev_7]; exact hv.put (K := 1) (by decide) (fun h q => by simp [bd] at q)
      have hfr : Fz v v_7 := by rw [ev_7]; exact hfr.put (by omega) (by omega) (by omega)
      refine lv_aload_n hx hb dX4_search_28 rfl (lv_at hl 0 rfl) ?_
      refine va_get (D := (dC, dI)) (ci := 4) (v := .ref (ad 6)) (C := RX4) (T := TX4) (N := 11) hx hb hts iwX4_search_X4 hown hK hP (1) (wl_at (by omega) (ce_1 (by decide))) rfl 7 (by decide) (hts (.fieldLink RX4 24 "QuietStairs$Planner" "seats" "[I") fwX4_search_3) (fun _ h9 => h9) rfl dX4_search_29 ?_
      refine lv_iconst (v := 0) hx hb dX4_search_32 (by decide) ?_
      refine lv_aload_n hx hb dX4_search_33 rfl (lv_at hl 0 rfl) ?_
      refine va_get (D := (dC, dI)) (ci := 4) (v := .ref (ad 7)) (C := RX4) (T := TX4) (N := 11) hx hb hts iwX4_search_X4 hown hK hP (1) (wl_at (by omega) (ce_1 (by decide))) rfl 8 (by decide) (hts (.fieldLink RX4 27 "QuietStairs$Planner" "bestSeats" "[I") fwX4_search_4) (fun _ h9 => h9) rfl dX4_search_34 ?_
      refine lv_iconst (v := 0) hx hb dX4_search_37 (by decide) ?_
      refine lv_aload_n hx hb dX4_search_38 rfl (lv_at hl 0 rfl) ?_
      refine va_get (D := (dC, dI)) (ci := 4) (v := .int (v_7 (1) 1)) (C := RX4) (T := TX4) (N := 11) hx hb hts iwX4_search_X4 hown hK hP (1) (wl_at (by omega) (ce_1 (by decide))) rfl 1 (by decide) (hts (.fieldLink RX4 61 "QuietStairs$Planner" "count" "I") fwX4_search_2) (fun _ h9 => h9) rfl dX4_search_39 ?_
      refine lv_topi (fun x_8 ex_8 => ?_)
      rw [ev_7, upr_s, pk_un (by decide)] at ex_8
      rw [← ex_5] at ex_8; replace ex_8 := ex_8.symm; subst ex_8
      have hn_9 := t_n (x := x_5) (m := 4) ⟨by omega, by omega⟩
      refine va_copyi hx hb (hml.trans hl.1.symm) hown (hts (.methodLink RX4 99 arraycopyName) fwX4_search_5) (hts (.native arraycopyName) fwX4_search_6) (hts (.static arraycopyName) fwX4_search_7) (hts (.initialized "java/lang/System") fwX4_search_8) hK hP hD hS (6) (7) 0 0 (wl_at (by omega) (ce_17 (by decide))) (wl_at (by omega) (ce_17 (by decide))) rfl rfl rfl (by decide) (by decide) hn_9.1 (by rw [sb_cl0]; have := hn_9.2; omega) (by rw [sb_cl0]; have := hn_9.2; omega) (fun i hi => rfl) (Nat.le_of_ble_eq_true rfl) (Nat.le_of_ble_eq_true rfl) dX4_search_42 (fun H locs hP hD hS => ?_)
      obtain ⟨v_9, ev_9⟩ : ∃ u : Nat → Nat → Int32, u = upr v_7 (7) (va_cpy (v_7 (6)) (v_7 (7)) (0 : Int32).toNatClampNeg (0 : Int32).toNatClampNeg x_5.toNatClampNeg) := ⟨_, rfl⟩
      have hP : va_P (dC, dI) vwCl (wl ad kv cy N v_9) H := by rw [ev_9, ← wl_put (e := _) (ce_17 (by decide))]; exact hP
      have hD : va_D A (wl ad kv cy N v_9) := by rw [ev_9, ← wl_put (e := _) (ce_17 (by decide))]; exact hD
      have hv : Iv v_9 := by rw [ev_9]; exact hv.row (K := 17) (by decide) (fun j => rfl)
      have hfr : Fz v v_9 := by rw [ev_9]; exact hfr.row (by omega) (by omega) (by omega)
      exact W.vret hx hb hr (fun t ht hW => ⟨⟨v_9, rfl, ⟨hv, hfr⟩, by rw [ht]; exact hP, hD⟩, hS.F ht⟩) hS.2.2 dX4_search_45
  · have tc_4 : x_2.toInt ≥ x_3.toInt := Int32.le_iff_toInt_le.mp (Int32.not_lt.mp c_4)
    exact W.vret hx hb hr (fun t ht hW => ⟨⟨v_1, rfl, ⟨hv, hfr⟩, by rw [ht]; exact hP, hD⟩, hS.F ht⟩) hS.2.2 dX4_search_14

set_option maxHeartbeats 4000000 in
set_option maxRecDepth 100000 in
theorem g_X4_searchDay_4 (l : Launch) (dC : Nat → ClassId) (dI : Nat → Nat → Nat) (cy : Nat → ClassId) (sz : Nat) (ad : Nat → Nat) (kv : Value) (N : Nat) (hN : 119 ≤ N) (v : Nat → Nat → Int32) (hv : Iv v) (x0 x1 x2 : Int32) (hs : 0 ≤ x0.toInt ∧ x0.toInt ≤ 3) (ht : 0 ≤ x2.toInt ∧ x2.toInt ≤ 2) (t1 t2 : Nat) : Met l yX4_searchDay wsX4_searchDay ({ frames := 8, cells := 0, slots := 0, locals := 512 }) (va_Pc [.ref (ad 1), .int x0, .int x1, .int x2] (ex_PreT dC dI cy sz (wl ad kv cy N v) t1 t2)) (va_Qv (fun (u : Nat → Nat → Int32) => Iv u ∧ Fz v u) (fun u t => ex_Pst dC dI (va_A (wl ad kv cy N v) sz) (wl ad kv cy N u) t) (va_A (wl ad kv cy N v) sz)) 0 0 (va_A (wl ad kv cy N v) sz) := by
  refine Met.ofW (cc := cX4_searchDay) (maxL := 6) (ret := none) (by decide) rfl ?_
  intro p e s m args below meth c s₁ B hml hv
  obtain ⟨rfl, ⟨hsz, hE, hP, hK, hD0⟩, hSt⟩ := hv
  have hx := B.exec
  have hb := B.bytes
  have hr := B.returns
  have hts := atoms_spec (ws := wsX4_searchDay) B.pre
  have hown : s.vm.findClass RX4 = some m.cls := findClass_of_methodNamed B.named
  have hlocks := B.notSynchronized
  subst hsz
  have hD := hD0.self (sz := s.heap.size)
  generalize hAe : va_A (wl ad kv cy N v) s.heap.size = A at hD hSt ⊢
  have hA : ∀ q : Nat, s.heap.size ≤ q → A q := fun q h => by rw [← hAe]; exact Or.inr h
  have hS : va_S A s.heap s.heap [] := va_S.rf
  have hP : va_P (dC, dI) vwCl (wl ad kv cy N v) s.heap := hP
  have hl := lv_entry ([.ref (ad 1), .int x0, .int x1, .int x2]) (n := 6) (Nat.le_of_ble_eq_true rfl)
  rw [lg_entry_eq]
  generalize (lg_sl ([.ref (ad 1), .int x0, .int x1, .int x2]) ++ List.replicate (6 - (lg_sl ([.ref (ad 1), .int x0, .int x1, .int x2])).length) Slot.unset).toArray = ls at hl ⊢
  have hl : lv_has ls 6 [(0, .ref (ad 1)), (1, .int x0), (2, .int x1), (3, .int x2)] := hl
  have hfr : Fz v v := Fz.rf
  refine lv_iconst (v := 0) hx hb dX4_searchDay_0 (by decide) ?_
  refine lv_istore (lv' := [(4, .int 0), (0, .ref (ad 1)), (1, .int x0), (2, .int x1), (3, .int x2)]) hx hb dX4_searchDay_1 hl (by decide) rfl (fun ls hl => ?_)
  have k_0 : (0 : Int32).toInt = 0 := by decide
  have hloop_1 : ∀ (n : Nat) (y1_4 : Int32) (u1 : Nat → Nat → Int32) (H : Heap) (locs : List Loc), 0 ≤ y1_4.toInt → y1_4.toInt ≤ 6 → (6 - y1_4.toInt).toNat < n → Iv u1 → Fz v u1 → va_P (dC, dI) vwCl (wl ad kv cy N u1) H → va_D A (wl ad kv cy N u1) → va_S A s.heap H locs → ∀ ls : Array Slot, lv_has ls 6 [(4, .int y1_4), (0, .ref (ad 1)), (1, .int x0), (2, .int x1), (3, .int x2)] → W p l e (headSpec wsX4_searchDay ({ frames := 8, cells := 0, slots := 0, locals := 512 })).room s m [Value.ref (ad 1), Value.int x0, Value.int x1, Value.int x2].toArray below meth c H locs 0 0 (MQ below (va_Qv (fun (u : Nat → Nat → Int32) => Iv u ∧ Fz v u) (fun u t => ex_Pst dC dI A (wl ad kv cy N u) t) A) [Value.ref (ad 1), Value.int x0, Value.int x1, Value.int x2].toArray s 0 0 A) (F0 m 3 ls []) := by
    intro n
    induction n with
    | zero =>
      intro y1_4 u1 H locs ay1_4 by1_4 hm_1 hv hfr hP hD hS ls hl
      exact absurd hm_1 (by omega)
    | succ n ih_1 =>
      intro y1_4 u1 H locs ay1_4 by1_4 hm_1 hv hfr hP hD hS ls hl
      refine lv_iload hx hb dX4_searchDay_3 (lv_at hl 0 rfl) ?_
      refine lv_bipush (v := 6) hx hb dX4_searchDay_5 (by decide) ?_
      have k_6 : (6 : Int32).toInt = 6 := by decide
      refine lv_icmp_ge (tgt := 124) hx hb dX4_searchDay_7 (by decide) (fun c_2 => ?_) (fun c_2 => ?_)
      · have tc_2 : y1_4.toInt ≥ (6 : Int32).toInt := Int32.le_iff_toInt_le.mp c_2
        exact W.vret hx hb hr (fun t ht hW => ⟨⟨u1, rfl, ⟨hv, hfr⟩, by rw [ht]; exact hP, hD⟩, hS.F ht⟩) hS.2.2 dX4_searchDay_124
      · have tc_2 : y1_4.toInt < (6 : Int32).toInt := Int32.lt_iff_toInt_lt.mp (Int32.not_le.mp c_2)
        refine lv_iconst (v := 1) hx hb dX4_searchDay_10 (by decide) ?_
        refine va_getsN hx hb hSt.2.1 hS hown (va_Nw.use rfl hE.2.2.2.2.2.2.2.2.2.2.2.2.2.2.2.1) (fun _ h => h) dX4_searchDay_11 ?_
        refine lv_iload hx hb dX4_searchDay_14 (lv_at hl 0 rfl) ?_
        obtain ⟨pi3, i3, hi3, ni3, mi3⟩ := t_in (x := y1_4) (n := 6) ⟨by omega, by omega⟩
        refine va_ti (v := .int (st_l y1_4.toNatClampNeg)) hx hb hSt.2.2 hS pi3 rfl dX4_searchDay_16 ?_
        refine lv_topi (fun x_4 ex_4 => ?_)
        have bx_4 : 0 ≤ x_4.toInt ∧ x_4.toInt ≤ 3 := by rw [ex_4]; exact (st_b _).2
        refine lv_ishl hx hb dX4_searchDay_17 ?_
        refine lv_topi (fun x_5 ex_5 => ?_)
        have tx_5 : 1 ≤ x_5.toInt ∧ x_5.toInt ≤ 32 := by rw [ex_5]; exact t_shl ⟨by omega, by omega⟩
        refine lv_iconst (v := 1) hx hb dX4_searchDay_18 (by decide) ?_
        refine va_getsN hx hb hSt.1.1 hS hown (va_Nw.use rfl hE.2.2.2.2.2.2.2.2.2.2.2.2.2.2.2.2) (fun _ h => h) dX4_searchDay_19 ?_
        refine lv_iload hx hb dX4_searchDay_22 (lv_at hl 0 rfl) ?_
        refine va_ti (v := .int (st_o y1_4.toNatClampNeg)) hx hb hSt.1.2 hS pi3 rfl dX4_searchDay_24 ?_
        refine lv_topi (fun x_6 ex_6 => ?_)
        have bx_6 : 0 ≤ x_6.toInt ∧ x_6.toInt ≤ 3 := by rw [ex_6]; exact (st_b _).1
        refine lv_ishl hx hb dX4_searchDay_25 ?_
        refine lv_topi (fun x_7 ex_7 => ?_)
        have tx_7 : 1 ≤ x_7.toInt ∧ x_7.toInt ≤ 32 := by rw [ex_7]; exact t_shl ⟨by omega, by omega⟩
        refine lv_ior hx hb dX4_searchDay_26 ?_
        refine lv_topi (fun x_8 ex_8 => ?_)
        refine lv_istore (lv' := [(5, .int x_8), (4, .int y1_4), (0, .ref (ad 1)), (1, .int x0), (2, .int x1), (3, .int x2)]) hx hb dX4_searchDay_27 hl (by decide) rfl (fun ls hl => ?_)
        refine lv_aload_n hx hb dX4_searchDay_29 rfl (lv_at hl 2 rfl) ?_
        refine va_get (D := (dC, dI)) (ci := 4) (v := .ref (ad 4)) (C := RX4) (T := TX4) (N := 11) hx hb hts iwX4_searchDay_X4 hown hK hP (1) (wl_at (by omega) (ce_1 (by decide))) rfl 5 (by decide) (hts (.fieldLink RX4 18 "QuietStairs$Planner" "pairBits" "[I") fwX4_searchDay_1) (fun _ h9 => h9) rfl dX4_searchDay_30 ?_
        refine lv_iload_n hx hb dX4_searchDay_33 rfl (lv_at hl 3 rfl) ?_
        obtain ⟨pi9, i9, hi9, ni9, mi9⟩ := t_in (x := x0) (n := 4) ⟨by omega, by omega⟩
        refine va_iald hx hb hK hP (4) 0 (wl_at (by omega) (ce_17 (by decide))) rfl pi9 dX4_searchDay_34 ?_
        refine lv_topi (fun x_10 ex_10 => ?_)
        refine lv_iload hx hb dX4_searchDay_35 (lv_at hl 1 rfl) ?_
        refine yc_p hP hS (va_runSN (As := [.int x_10, .int y1_4]) (rest := []) ⟨hx, hb, hml, hown, hts⟩ (c_X7_hasBit l x_10 y1_4) ⟨va_cnB 2 hts gX4_searchDay_X7_hasBit_n115 rfl rfl rfl hE.2.2.2.2.2.2.2.2.2.2.2.1 (hts (.initialized RX7) fwX4_searchDay_6) (by decide +kernel) ⟨Nat.le_of_ble_eq_true rfl, Nat.le_of_ble_eq_true rfl⟩, (hts (.static yX7_hasBit) fwX4_searchDay_5), trivial⟩ ex_preP rfl rfl hl.1 rfl (lv_room (Nat.le_of_ble_eq_true rfl)) dX4_searchDay_37 ⟨Nat.le_of_ble_eq_true rfl, Nat.le_of_ble_eq_true rfl⟩) (fun r_11 H locs hw_11 hP hS => ?_)
        rcases hw_11 with rfl | rfl
        · refine lv_if_eq (tgt := 118) hx hb dX4_searchDay_40 (by decide) (fun _ => ?_) (fun c9 => absurd c9 (by decide))
          obtain ⟨x_12, ex_12⟩ : ∃ y : Int32, y = y1_4 + 1 := ⟨_, rfl⟩
          refine lv_iinc (v := x_12) (lv' := [(4, .int x_12), (5, .int x_8), (0, .ref (ad 1)), (1, .int x0), (2, .int x1), (3, .int x2)]) hx hb dX4_searchDay_118 hl (k := 1) rfl (by rw [ex_12]; rfl) (by decide) rfl (fun ls hl => ?_)
          have k_1 : (1 : Int32).toInt = 1 := by decide
          have tx_12 : x_12.toInt = y1_4.toInt + (1 : Int32).toInt := by rw [ex_12]; exact t_add ⟨by omega, by omega⟩
          refine lv_goto (tgt := 3) hx hb dX4_searchDay_121 (by decide) ?_
          exact ih_1 x_12 u1 H locs (by omega) (by omega) (by omega) hv hfr hP hD hS ls (lv_sub hl [0, 2, 3, 4, 5] rfl)
        · refine lv_if_eq (tgt := 118) hx hb dX4_searchDay_40 (by decide) (fun c9 => absurd c9 (by decide)) (fun _ => ?_)
          refine lv_aload_n hx hb dX4_searchDay_43 rfl (lv_at hl 2 rfl) ?_
          refine va_get (D := (dC, dI)) (ci := 4) (v := .ref (ad 8)) (C := RX4) (T := TX4) (N := 11) hx hb hts iwX4_searchDay_X4 hown hK hP (1) (wl_at (by omega) (ce_1 (by decide))) rfl 9 (by decide) (hts (.fieldLink RX4 30 "QuietStairs$Planner" "busyBits" "[I") fwX4_searchDay_2) (fun _ h9 => h9) rfl dX4_searchDay_44 ?_
          refine lv_iload_n hx hb dX4_searchDay_47 rfl (lv_at hl 5 rfl) ?_
          obtain ⟨pi12, i12, hi12, ni12, mi12⟩ := t_in (x := x2) (n := 3) ⟨by omega, by omega⟩
          refine va_iald hx hb hK hP (8) 0 (wl_at (by omega) (ce_18 (by decide))) rfl pi12 dX4_searchDay_48 ?_
          refine lv_topi (fun x_13 ex_13 => ?_)
          refine lv_iload hx hb dX4_searchDay_49 (lv_at hl 0 rfl) ?_
          refine lv_iand hx hb dX4_searchDay_51 ?_
          refine lv_topi (fun x_14 ex_14 => ?_)
          refine lv_if_ne (tgt := 118) hx hb dX4_searchDay_52 (by decide) (fun c_15 => ?_) (fun c_15 => ?_)
          · have tc_15 : x_14.toInt ≠ (0 : Int32).toInt := fun q => absurd (Int32.toInt_inj.mp q) c_15
            obtain ⟨x_16, ex_16⟩ : ∃ y : Int32, y = y1_4 + 1 := ⟨_, rfl⟩
            refine lv_iinc (v := x_16) (lv' := [(4, .int x_16), (5, .int x_8), (0, .ref (ad 1)), (1, .int x0), (2, .int x1), (3, .int x2)]) hx hb dX4_searchDay_118 hl (k := 1) rfl (by rw [ex_16]; rfl) (by decide) rfl (fun ls hl => ?_)
            have k_1 : (1 : Int32).toInt = 1 := by decide
            have tx_16 : x_16.toInt = y1_4.toInt + (1 : Int32).toInt := by rw [ex_16]; exact t_add ⟨by omega, by omega⟩
            refine lv_goto (tgt := 3) hx hb dX4_searchDay_121 (by decide) ?_
            exact ih_1 x_16 u1 H locs (by omega) (by omega) (by omega) hv hfr hP hD hS ls (lv_sub hl [0, 2, 3, 4, 5] rfl)
          · have tc_15 : x_14.toInt = (0 : Int32).toInt := by rw [c_15]
            refine lv_aload_n hx hb dX4_searchDay_55 rfl (lv_at hl 2 rfl) ?_
            refine va_get (D := (dC, dI)) (ci := 4) (v := .ref (ad 6)) (C := RX4) (T := TX4) (N := 11) hx hb hts iwX4_searchDay_X4 hown hK hP (1) (wl_at (by omega) (ce_1 (by decide))) rfl 7 (by decide) (hts (.fieldLink RX4 24 "QuietStairs$Planner" "seats" "[I") fwX4_searchDay_3) (fun _ h9 => h9) rfl dX4_searchDay_56 ?_
            refine lv_iload_n hx hb dX4_searchDay_59 rfl (lv_at hl 3 rfl) ?_
            refine lv_bipush (v := 6) hx hb dX4_searchDay_60 (by decide) ?_
            refine lv_iload_n hx hb dX4_searchDay_62 rfl (lv_at hl 5 rfl) ?_
            refine lv_imul hx hb dX4_searchDay_63 ?_
            refine lv_topi (fun x_16 ex_16 => ?_)
            refine lv_iload hx hb dX4_searchDay_64 (lv_at hl 1 rfl) ?_
            refine lv_iadd hx hb dX4_searchDay_66 ?_
            refine lv_topi (fun x_17 ex_17 => ?_)
            refine va_iast hx hb hK hP hD hS (6) 0 (wl_at (by omega) (ce_17 (by decide))) rfl pi9 dX4_searchDay_67 (fun H locs hP hD hS => ?_)
            obtain ⟨v_18, ev_18⟩ : ∃ u : Nat → Nat → Int32, u = upr u1 (6) (upd (u1 (6)) (x0.toNatClampNeg) x_17) := ⟨_, rfl⟩
            have hP : va_P (dC, dI) vwCl (wl ad kv cy N v_18) H := by rw [ev_18, ← wl_put (e := _) (ce_17 (by decide))]; exact hP
            have hD : va_D A (wl ad kv cy N v_18) := by rw [ev_18, ← wl_put (e := _) (ce_17 (by decide))]; exact hD
            have hv : Iv v_18 := by rw [ev_18]; exact hv.put (K := 17) (by decide) (fun h q => by simp [bd] at q)
            have hfr : Fz v v_18 := by rw [ev_18]; exact hfr.put (by omega) (by omega) (by omega)
            refine lv_aload_n hx hb dX4_searchDay_68 rfl (lv_at hl 2 rfl) ?_
            refine va_get (D := (dC, dI)) (ci := 4) (v := .ref (ad 8)) (C := RX4) (T := TX4) (N := 11) hx hb hts iwX4_searchDay_X4 hown hK hP (1) (wl_at (by omega) (ce_1 (by decide))) rfl 9 (by decide) (hts (.fieldLink RX4 30 "QuietStairs$Planner" "busyBits" "[I") fwX4_searchDay_2) (fun _ h9 => h9) rfl dX4_searchDay_69 ?_
            refine lv_iload_n hx hb dX4_searchDay_72 rfl (lv_at hl 5 rfl) ?_
            refine lv_dup2_11 hx hb dX4_searchDay_73 rfl rfl ?_
            refine va_iald hx hb hK hP (8) 0 (wl_at (by omega) (ce_18 (by decide))) rfl pi12 dX4_searchDay_74 ?_
            refine lv_topi (fun x_19 ex_19 => ?_)
            refine lv_iload hx hb dX4_searchDay_75 (lv_at hl 0 rfl) ?_
            refine lv_ior hx hb dX4_searchDay_77 ?_
            refine lv_topi (fun x_20 ex_20 => ?_)
            refine va_iast hx hb hK hP hD hS (8) 0 (wl_at (by omega) (ce_18 (by decide))) rfl pi12 dX4_searchDay_78 (fun H locs hP hD hS => ?_)
            obtain ⟨v_21, ev_21⟩ : ∃ u : Nat → Nat → Int32, u = upr v_18 (8) (upd (v_18 (8)) (x2.toNatClampNeg) x_20) := ⟨_, rfl⟩
            have hP : va_P (dC, dI) vwCl (wl ad kv cy N v_21) H := by rw [ev_21, ← wl_put (e := _) (ce_18 (by decide))]; exact hP
            have hD : va_D A (wl ad kv cy N v_21) := by rw [ev_21, ← wl_put (e := _) (ce_18 (by decide))]; exact hD
            have hv : Iv v_21 := by rw [ev_21]; exact hv.put (K := 18) (by decide) (fun h q => by simp [bd] at q)
            have hfr : Fz v v_21 := by rw [ev_21]; exact hfr.put (by omega) (by omega) (by omega)
            refine lv_aload_n hx hb dX4_searchDay_79 rfl (lv_at hl 2 rfl) ?_
            refine va_get (D := (dC, dI)) (ci := 4) (v := .ref (ad 9)) (C := RX4) (T := TX4) (N := 11) hx hb hts iwX4_searchDay_X4 hown hK hP (1) (wl_at (by omega) (ce_1 (by decide))) rfl 10 (by decide) (hts (.fieldLink RX4 33 "QuietStairs$Planner" "sittings" "[I") fwX4_searchDay_4) (fun _ h9 => h9) rfl dX4_searchDay_80 ?_
            refine lv_iload_n hx hb dX4_searchDay_83 rfl (lv_at hl 5 rfl) ?_
            refine lv_dup2_11 hx hb dX4_searchDay_84 rfl rfl ?_
            refine va_iald hx hb hK hP (9) 0 (wl_at (by omega) (ce_18 (by decide))) rfl pi12 dX4_searchDay_85 ?_
            refine lv_topi (fun x_22 ex_22 => ?_)
            refine lv_iconst (v := 1) hx hb dX4_searchDay_86 (by decide) ?_
            have k_1 : (1 : Int32).toInt = 1 := by decide
            refine lv_iadd hx hb dX4_searchDay_87 ?_
            refine lv_topi (fun x_23 ex_23 => ?_)
            refine va_iast hx hb hK hP hD hS (9) 0 (wl_at (by omega) (ce_18 (by decide))) rfl pi12 dX4_searchDay_88 (fun H locs hP hD hS => ?_)
            obtain ⟨v_24, ev_24⟩ : ∃ u : Nat → Nat → Int32, u = upr v_21 (9) (upd (v_21 (9)) (x2.toNatClampNeg) x_23) := ⟨_, rfl⟩
            have hP : va_P (dC, dI) vwCl (wl ad kv cy N v_24) H := by rw [ev_24, ← wl_put (e := _) (ce_18 (by decide))]; exact hP
            have hD : va_D A (wl ad kv cy N v_24) := by rw [ev_24, ← wl_put (e := _) (ce_18 (by decide))]; exact hD
            have hv : Iv v_24 := by rw [ev_24]; exact hv.put (K := 18) (by decide) (fun h q => by simp [bd] at q)
            have hfr : Fz v v_24 := by rw [ev_24]; exact hfr.put (by omega) (by omega) (by omega)
            refine lv_aload_n hx hb dX4_searchDay_89 rfl (lv_at hl 2 rfl) ?_
            refine lv_iload_n hx hb dX4_searchDay_90 rfl (lv_at hl 3 rfl) ?_
            refine lv_iconst (v := 1) hx hb dX4_searchDay_91 (by decide) ?_
            refine lv_iadd hx hb dX4_searchDay_92 ?_
            refine lv_topi (fun x_25 ex_25 => ?_)
            have tx_25 : x_25.toInt = x0.toInt + (1 : Int32).toInt := by rw [ex_25]; exact t_add ⟨by omega, by omega⟩
            refine lv_iload_n hx hb dX4_searchDay_93 rfl (lv_at hl 4 rfl) ?_
            refine yw_v (w1 := fun (u : Nat → Nat → Int32) => wl ad kv cy N u) hD hS hA (va_runV (As := [.int x_25, .int x1]) (rest := []) ⟨hx, hb, hml, hown, hts⟩ (g_X4_search_3 l dC dI cy _ ad kv N hN v_24 hv x_25 x1 ⟨by omega, by omega⟩ t1 t2) (cwV 2 hts gX4_searchDay_X4_search rfl rfl rfl hd_V_X4_search_2 ⟨Nat.le_of_ble_eq_true rfl, Nat.le_of_ble_eq_true rfl⟩) ⟨ex_blindT, va_recv hK hP (ci := 4) (q0 := 1) rfl (wl_at (by omega) (ce_1 (by decide))), fun U hU hW => ⟨rfl, ((yw_preS (As := []) hE hK hP hD).2 U hU hW).2, hSt.go hS (yw_F hD hS hA) hU hW⟩⟩ rfl rfl hl.1 rfl (lv_room (Nat.le_of_ble_eq_true rfl)) dX4_searchDay_94 ⟨Nat.le_of_ble_eq_true rfl, Nat.le_of_ble_eq_true rfl⟩) (fun v_26 H locs hw_26 hP hD hS => ?_)
            obtain ⟨hv, hw_26⟩ := hw_26
            have hfr : Fz v v_26 := hfr.trans hw_26
            refine lv_aload_n hx hb dX4_searchDay_97 rfl (lv_at hl 2 rfl) ?_
            refine va_get (D := (dC, dI)) (ci := 4) (v := .ref (ad 9)) (C := RX4) (T := TX4) (N := 11) hx hb hts iwX4_searchDay_X4 hown hK hP (1) (wl_at (by omega) (ce_1 (by decide))) rfl 10 (by decide) (hts (.fieldLink RX4 33 "QuietStairs$Planner" "sittings" "[I") fwX4_searchDay_4) (fun _ h9 => h9) rfl dX4_searchDay_98 ?_
            refine lv_iload_n hx hb dX4_searchDay_101 rfl (lv_at hl 5 rfl) ?_
            refine lv_dup2_11 hx hb dX4_searchDay_102 rfl rfl ?_
            refine va_iald hx hb hK hP (9) 0 (wl_at (by omega) (ce_18 (by decide))) rfl pi12 dX4_searchDay_103 ?_
            refine lv_topi (fun x_27 ex_27 => ?_)
            refine lv_iconst (v := 1) hx hb dX4_searchDay_104 (by decide) ?_
            refine lv_isub hx hb dX4_searchDay_105 ?_
            refine lv_topi (fun x_28 ex_28 => ?_)
            refine va_iast hx hb hK hP hD hS (9) 0 (wl_at (by omega) (ce_18 (by decide))) rfl pi12 dX4_searchDay_106 (fun H locs hP hD hS => ?_)
            obtain ⟨v_29, ev_29⟩ : ∃ u : Nat → Nat → Int32, u = upr v_26 (9) (upd (v_26 (9)) (x2.toNatClampNeg) x_28) := ⟨_, rfl⟩
            have hP : va_P (dC, dI) vwCl (wl ad kv cy N v_29) H := by rw [ev_29, ← wl_put (e := _) (ce_18 (by decide))]; exact hP
            have hD : va_D A (wl ad kv cy N v_29) := by rw [ev_29, ← wl_put (e := _) (ce_18 (by decide))]; exact hD
            have hv : Iv v_29 := by rw [ev_29]; exact hv.put (K := 18) (by decide) (fun h q => by simp [bd] at q)
            have hfr : Fz v v_29 := by rw [ev_29]; exact hfr.put (by omega) (by omega) (by omega)
            refine lv_aload_n hx hb dX4_searchDay_107 rfl (lv_at hl 2 rfl) ?_
            refine va_get (D := (dC, dI)) (ci := 4) (v := .ref (ad 8)) (C := RX4) (T := TX4) (N := 11) hx hb hts iwX4_searchDay_X4 hown hK hP (1) (wl_at (by omega) (ce_1 (by decide))) rfl 9 (by decide) (hts (.fieldLink RX4 30 "QuietStairs$Planner" "busyBits" "[I") fwX4_searchDay_2) (fun _ h9 => h9) rfl dX4_searchDay_108 ?_
            refine lv_iload_n hx hb dX4_searchDay_111 rfl (lv_at hl 5 rfl) ?_
            refine lv_dup2_11 hx hb dX4_searchDay_112 rfl rfl ?_
            refine va_iald hx hb hK hP (8) 0 (wl_at (by omega) (ce_18 (by decide))) rfl pi12 dX4_searchDay_113 ?_
            refine lv_topi (fun x_30 ex_30 => ?_)
            refine lv_iload hx hb dX4_searchDay_114 (lv_at hl 0 rfl) ?_
            refine lv_ixor hx hb dX4_searchDay_116 ?_
            refine lv_topi (fun x_31 ex_31 => ?_)
            refine va_iast hx hb hK hP hD hS (8) 0 (wl_at (by omega) (ce_18 (by decide))) rfl pi12 dX4_searchDay_117 (fun H locs hP hD hS => ?_)
            obtain ⟨v_32, ev_32⟩ : ∃ u : Nat → Nat → Int32, u = upr v_29 (8) (upd (v_29 (8)) (x2.toNatClampNeg) x_31) := ⟨_, rfl⟩
            have hP : va_P (dC, dI) vwCl (wl ad kv cy N v_32) H := by rw [ev_32, ← wl_put (e := _) (ce_18 (by decide))]; exact hP
            have hD : va_D A (wl ad kv cy N v_32) := by rw [ev_32, ← wl_put (e := _) (ce_18 (by decide))]; exact hD
            have hv : Iv v_32 := by rw [ev_32]; exact hv.put (K := 18) (by decide) (fun h q => by simp [bd] at q)
            have hfr : Fz v v_32 := by rw [ev_32]; exact hfr.put (by omega) (by omega) (by omega)
            obtain ⟨x_33, ex_33⟩ : ∃ y : Int32, y = y1_4 + 1 := ⟨_, rfl⟩
            refine lv_iinc (v := x_33) (lv' := [(4, .int x_33), (5, .int x_8), (0, .ref (ad 1)), (1, .int x0), (2, .int x1), (3, .int x2)]) hx hb dX4_searchDay_118 hl (k := 1) rfl (by rw [ex_33]; rfl) (by decide) rfl (fun ls hl => ?_)
            have tx_33 : x_33.toInt = y1_4.toInt + (1 : Int32).toInt := by rw [ex_33]; exact t_add ⟨by omega, by omega⟩
            refine lv_goto (tgt := 3) hx hb dX4_searchDay_121 (by decide) ?_
            exact ih_1 x_33 v_32 H locs (by omega) (by omega) (by omega) hv hfr hP hD hS ls (lv_sub hl [0, 2, 3, 4, 5] rfl)
  exact hloop_1 ((6 - (0 : Int32).toInt).toNat + 1) 0 v _ _ (by omega) (by omega) (by omega) hv hfr hP hD hS ls hl

set_option maxHeartbeats 4000000 in
set_option maxRecDepth 100000 in
theorem g_X4_search_4 (l : Launch) (dC : Nat → ClassId) (dI : Nat → Nat → Nat) (cy : Nat → ClassId) (sz : Nat) (ad : Nat → Nat) (kv : Value) (N : Nat) (hN : 119 ≤ N) (v : Nat → Nat → Int32) (hv : Iv v) (x0 x1 : Int32) (hs : 0 ≤ x0.toInt ∧ x0.toInt ≤ 4) (t1 t2 : Nat) : Met l yX4_search wsX4_search ({ frames := 9, cells := 0, slots := 0, locals := 576 }) (va_Pc [.ref (ad 1), .int x0, .int x1] (ex_PreT dC dI cy sz (wl ad kv cy N v) t1 t2)) (va_Qv (fun (u : Nat → Nat → Int32) => Iv u ∧ Fz v u) (fun u t => ex_Pst dC dI (va_A (wl ad kv cy N v) sz) (wl ad kv cy N u) t) (va_A (wl ad kv cy N v) sz)) 0 0 (va_A (wl ad kv cy N v) sz) := by
  refine Met.ofW (cc := cX4_search) (maxL := 4) (ret := none) (by decide) rfl ?_
  intro p e s m args below meth c s₁ B hml hv
  obtain ⟨rfl, ⟨hsz, hE, hP, hK, hD0⟩, hSt⟩ := hv
  have hx := B.exec
  have hb := B.bytes
  have hr := B.returns
  have hts := atoms_spec (ws := wsX4_search) B.pre
  have hown : s.vm.findClass RX4 = some m.cls := findClass_of_methodNamed B.named
  have hlocks := B.notSynchronized
  subst hsz
  have hD := hD0.self (sz := s.heap.size)
  generalize hAe : va_A (wl ad kv cy N v) s.heap.size = A at hD hSt ⊢
  have hA : ∀ q : Nat, s.heap.size ≤ q → A q := fun q h => by rw [← hAe]; exact Or.inr h
  have hS : va_S A s.heap s.heap [] := va_S.rf
  have hP : va_P (dC, dI) vwCl (wl ad kv cy N v) s.heap := hP
  have hl := lv_entry ([.ref (ad 1), .int x0, .int x1]) (n := 4) (Nat.le_of_ble_eq_true rfl)
  rw [lg_entry_eq]
  generalize (lg_sl ([.ref (ad 1), .int x0, .int x1]) ++ List.replicate (4 - (lg_sl ([.ref (ad 1), .int x0, .int x1])).length) Slot.unset).toArray = ls at hl ⊢
  have hl : lv_has ls 4 [(0, .ref (ad 1)), (1, .int x0), (2, .int x1)] := hl
  have hfr : Fz v v := Fz.rf
  refine lv_iload_n hx hb dX4_search_0 rfl (lv_at hl 2 rfl) ?_
  refine lv_aload_n hx hb dX4_search_1 rfl (lv_at hl 0 rfl) ?_
  refine lv_iload_n hx hb dX4_search_2 rfl (lv_at hl 1 rfl) ?_
  refine yw_i (w1 := fun (u : Nat → Nat → Int32) => wl ad kv cy N u) hD hS hA (va_runV (As := [.int x0]) (rest := [.int x1]) ⟨hx, hb, hml, hown, hts⟩ (g_X4_leastBehind l dC dI cy _ ad kv N hN v hv x0) (cwV 1 hts gX4_search_X4_leastBehind rfl rfl rfl hd_V_X4_leastBehind_1 ⟨Nat.le_of_ble_eq_true rfl, Nat.le_of_ble_eq_true rfl⟩) (yw_preV hE hK hP hD (ci := 4) (q0 := 1) rfl (wl_at (by omega) (ce_1 (by decide)))) rfl rfl hl.1 rfl (lv_room (Nat.le_of_ble_eq_true rfl)) dX4_search_3 ⟨Nat.le_of_ble_eq_true rfl, Nat.le_of_ble_eq_true rfl⟩) (fun r_1 v_1 H locs hw_1 hP hD hS => ?_)
  obtain ⟨hv, hw_1⟩ := hw_1
  have hfr : Fz v v_1 := hfr.trans hw_1
  refine lv_iadd hx hb dX4_search_6 ?_
  refine lv_topi (fun x_2 ex_2 => ?_)
  refine lv_aload_n hx hb dX4_search_7 rfl (lv_at hl 0 rfl) ?_
  refine va_get (D := (dC, dI)) (ci := 4) (v := .int (v_1 (1) 0)) (C := RX4) (T := TX4) (N := 11) hx hb hts iwX4_search_X4 hown hK hP (1) (wl_at (by omega) (ce_1 (by decide))) rfl 0 (by decide) (hts (.fieldLink RX4 58 "QuietStairs$Planner" "leastWait" "I") fwX4_search_1) (fun _ h9 => h9) rfl dX4_search_8 ?_
  refine lv_topi (fun x_3 ex_3 => ?_)
  refine lv_icmp_lt (tgt := 15) hx hb dX4_search_11 (by decide) (fun c_4 => ?_) (fun c_4 => ?_)
  · have tc_4 : x_2.toInt < x_3.toInt := Int32.lt_iff_toInt_lt.mp c_4
    refine lv_iload_n hx hb dX4_search_15 rfl (lv_at hl 1 rfl) ?_
    refine lv_aload_n hx hb dX4_search_16 rfl (lv_at hl 0 rfl) ?_
    refine va_get (D := (dC, dI)) (ci := 4) (v := .int (v_1 (1) 1)) (C := RX4) (T := TX4) (N := 11) hx hb hts iwX4_search_X4 hown hK hP (1) (wl_at (by omega) (ce_1 (by decide))) rfl 1 (by decide) (hts (.fieldLink RX4 61 "QuietStairs$Planner" "count" "I") fwX4_search_2) (fun _ h9 => h9) rfl dX4_search_17 ?_
    refine lv_topi (fun x_5 ex_5 => ?_)
    have bx_5 : 0 ≤ x_5.toInt ∧ x_5.toInt ≤ 4 := by rw [ex_5]; exact hv.at (K := 1) (by decide) rfl
    refine lv_icmp_lt (tgt := 46) hx hb dX4_search_20 (by decide) (fun c_6 => ?_) (fun c_6 => ?_)
    · have tc_6 : x0.toInt < x_5.toInt := Int32.lt_iff_toInt_lt.mp c_6
      refine lv_iconst (v := 0) hx hb dX4_search_46 (by decide) ?_
      refine lv_istore_n (lv' := [(3, .int 0), (0, .ref (ad 1)), (1, .int x0), (2, .int x1)]) hx hb dX4_search_47 rfl hl (by decide) rfl (fun ls hl => ?_)
      have k_0 : (0 : Int32).toInt = 0 := by decide
      have hloop_7 : ∀ (n : Nat) (y7_3 : Int32) (u7 : Nat → Nat → Int32) (H : Heap) (locs : List Loc), 0 ≤ y7_3.toInt → y7_3.toInt ≤ 3 → (3 - y7_3.toInt).toNat < n → Iv u7 → Fz v u7 → va_P (dC, dI) vwCl (wl ad kv cy N u7) H → va_D A (wl ad kv cy N u7) → va_S A s.heap H locs → ∀ ls : Array Slot, lv_has ls 4 [(3, .int y7_3), (0, .ref (ad 1)), (1, .int x0), (2, .int x1)] → W p l e (headSpec wsX4_search ({ frames := 9, cells := 0, slots := 0, locals := 576 })).room s m [Value.ref (ad 1), Value.int x0, Value.int x1].toArray below meth c H locs 0 0 (MQ below (va_Qv (fun (u : Nat → Nat → Int32) => Iv u ∧ Fz v u) (fun u t => ex_Pst dC dI A (wl ad kv cy N u) t) A) [Value.ref (ad 1), Value.int x0, Value.int x1].toArray s 0 0 A) (F0 m 48 ls []) := by
        intro n
        induction n with
        | zero =>
          intro y7_3 u7 H locs ay7_3 by7_3 hm_7 hv hfr hP hD hS ls hl
          exact absurd hm_7 (by omega)
        | succ n ih_7 =>
          intro y7_3 u7 H locs ay7_3 by7_3 hm_7 hv hfr hP hD hS ls hl
          refine lv_iload_n hx hb dX4_search_48 rfl (lv_at hl 0 rfl) ?_
          refine lv_iconst (v := 3) hx hb dX4_search_49 (by decide) ?_
          have k_3 : (3 : Int32).toInt = 3 := by decide
          refine lv_icmp_ge (tgt := 88) hx hb dX4_search_50 (by decide) (fun c_8 => ?_) (fun c_8 => ?_)
          · have tc_8 : y7_3.toInt ≥ (3 : Int32).toInt := Int32.le_iff_toInt_le.mp c_8
            refine lv_aload_n hx hb dX4_search_88 rfl (lv_at hl 1 rfl) ?_
            refine va_get (D := (dC, dI)) (ci := 4) (v := .ref (ad 6)) (C := RX4) (T := TX4) (N := 11) hx hb hts iwX4_search_X4 hown hK hP (1) (wl_at (by omega) (ce_1 (by decide))) rfl 7 (by decide) (hts (.fieldLink RX4 24 "QuietStairs$Planner" "seats" "[I") fwX4_search_3) (fun _ h9 => h9) rfl dX4_search_89 ?_
            refine lv_iload_n hx hb dX4_search_92 rfl (lv_at hl 2 rfl) ?_
            refine lv_bipush (v := 18) hx hb dX4_search_93 (by decide) ?_
            obtain ⟨pi9, i9, hi9, ni9, mi9⟩ := t_in (x := x0) (n := 4) ⟨by omega, by omega⟩
            refine va_iast hx hb hK hP hD hS (6) 0 (wl_at (by omega) (ce_17 (by decide))) rfl pi9 dX4_search_95 (fun H locs hP hD hS => ?_)
            have k_18 : (18 : Int32).toInt = 18 := by decide
            obtain ⟨v_10, ev_10⟩ : ∃ u : Nat → Nat → Int32, u = upr u7 (6) (upd (u7 (6)) (x0.toNatClampNeg) 18) := ⟨_, rfl⟩
            have hP : va_P (dC, dI) vwCl (wl ad kv cy N v_10) H := by rw [ev_10, ← wl_put (e := _) (ce_17 (by decide))]; exact hP
            have hD : va_D A (wl ad kv cy N v_10) := by rw [ev_10, ← wl_put (e := _) (ce_17 (by decide))]; exact hD
            have hv : Iv v_10 := by rw [ev_10]; exact hv.put (K := 17) (by decide) (fun h q => by simp [bd] at q)
            have hfr : Fz v v_10 := by rw [ev_10]; exact hfr.put (by omega) (by omega) (by omega)
            refine lv_aload_n hx hb dX4_search_96 rfl (lv_at hl 1 rfl) ?_
            refine lv_iload_n hx hb dX4_search_97 rfl (lv_at hl 2 rfl) ?_
            refine lv_iconst (v := 1) hx hb dX4_search_98 (by decide) ?_
            have k_1 : (1 : Int32).toInt = 1 := by decide
            refine lv_iadd hx hb dX4_search_99 ?_
            refine lv_topi (fun x_11 ex_11 => ?_)
            have tx_11 : x_11.toInt = x0.toInt + (1 : Int32).toInt := by rw [ex_11]; exact t_add ⟨by omega, by omega⟩
            refine lv_iload_n hx hb dX4_search_100 rfl (lv_at hl 3 rfl) ?_
            refine lv_aload_n hx hb dX4_search_101 rfl (lv_at hl 1 rfl) ?_
            refine va_get (D := (dC, dI)) (ci := 4) (v := .ref (ad 3)) (C := RX4) (T := TX4) (N := 11) hx hb hts iwX4_search_X4 hown hK hP (1) (wl_at (by omega) (ce_1 (by decide))) rfl 4 (by decide) (hts (.fieldLink RX4 15 "QuietStairs$Planner" "weights" "[I") fwX4_search_11) (fun _ h9 => h9) rfl dX4_search_102 ?_
            refine lv_iload_n hx hb dX4_search_105 rfl (lv_at hl 2 rfl) ?_
            refine va_iald hx hb hK hP (3) 0 (wl_at (by omega) (ce_17 (by decide))) rfl pi9 dX4_search_106 ?_
            refine lv_topi (fun x_12 ex_12 => ?_)
            refine lv_iconst (v := 4) hx hb dX4_search_107 (by decide) ?_
            refine lv_imul hx hb dX4_search_108 ?_
            refine lv_topi (fun x_13 ex_13 => ?_)
            refine lv_iadd hx hb dX4_search_109 ?_
            refine lv_topi (fun x_14 ex_14 => ?_)
            refine yw_v (w1 := fun (u : Nat → Nat → Int32) => wl ad kv cy N u) hD hS hA (va_runV (As := [.int x_11, .int x_14]) (rest := []) ⟨hx, hb, hml, hown, hts⟩ (g_X4_search_3 l dC dI cy _ ad kv N hN v_10 hv x_11 x_14 ⟨by omega, by omega⟩ t1 t2) (cwV 2 hts gX4_search_X4_search rfl rfl rfl hd_V_X4_search_2 ⟨Nat.le_of_ble_eq_true rfl, Nat.le_of_ble_eq_true rfl⟩) ⟨ex_blindT, va_recv hK hP (ci := 4) (q0 := 1) rfl (wl_at (by omega) (ce_1 (by decide))), fun U hU hW => ⟨rfl, ((yw_preS (As := []) hE hK hP hD).2 U hU hW).2, hSt.go hS (yw_F hD hS hA) hU hW⟩⟩ rfl rfl hl.1 rfl (lv_room (Nat.le_of_ble_eq_true rfl)) dX4_search_110 ⟨Nat.le_of_ble_eq_true rfl, Nat.le_of_ble_eq_true rfl⟩) (fun v_15 H locs hw_15 hP hD hS => ?_)
            obtain ⟨hv, hw_15⟩ := hw_15
            have hfr : Fz v v_15 := hfr.trans hw_15
            exact W.vret hx hb hr (fun t ht hW => ⟨⟨v_15, rfl, ⟨hv, hfr⟩, by rw [ht]; exact hP, hD⟩, hS.F ht⟩) hS.2.2 dX4_search_113
          · have tc_8 : y7_3.toInt < (3 : Int32).toInt := Int32.lt_iff_toInt_lt.mp (Int32.not_le.mp c_8)
            refine lv_aload_n hx hb dX4_search_53 rfl (lv_at hl 1 rfl) ?_
            refine va_get (D := (dC, dI)) (ci := 4) (v := .ref (ad 9)) (C := RX4) (T := TX4) (N := 11) hx hb hts iwX4_search_X4 hown hK hP (1) (wl_at (by omega) (ce_1 (by decide))) rfl 10 (by decide) (hts (.fieldLink RX4 33 "QuietStairs$Planner" "sittings" "[I") fwX4_search_9) (fun _ h9 => h9) rfl dX4_search_54 ?_
            refine lv_iload_n hx hb dX4_search_57 rfl (lv_at hl 0 rfl) ?_
            obtain ⟨pi9, i9, hi9, ni9, mi9⟩ := t_in (x := y7_3) (n := 3) ⟨by omega, by omega⟩
            refine va_iald hx hb hK hP (9) 0 (wl_at (by omega) (ce_18 (by decide))) rfl pi9 dX4_search_58 ?_
            refine lv_topi (fun x_10 ex_10 => ?_)
            refine lv_aload_n hx hb dX4_search_59 rfl (lv_at hl 1 rfl) ?_
            refine va_get (D := (dC, dI)) (ci := 4) (v := .int (u7 (1) 2)) (C := RX4) (T := TX4) (N := 11) hx hb hts iwX4_search_X4 hown hK hP (1) (wl_at (by omega) (ce_1 (by decide))) rfl 2 (by decide) (hts (.fieldLink RX4 48 "QuietStairs$Planner" "seatsADay" "I") fwX4_search_10) (fun _ h9 => h9) rfl dX4_search_60 ?_
            refine lv_topi (fun x_11 ex_11 => ?_)
            refine lv_icmp_ge (tgt := 82) hx hb dX4_search_63 (by decide) (fun c_12 => ?_) (fun c_12 => ?_)
            · have tc_12 : x_10.toInt ≥ x_11.toInt := Int32.le_iff_toInt_le.mp c_12
              obtain ⟨x_13, ex_13⟩ : ∃ y : Int32, y = y7_3 + 1 := ⟨_, rfl⟩
              refine lv_iinc (v := x_13) (lv' := [(3, .int x_13), (0, .ref (ad 1)), (1, .int x0), (2, .int x1)]) hx hb dX4_search_82 hl (k := 0) rfl (by rw [ex_13]; rfl) (by decide) rfl (fun ls hl => ?_)
              have k_1 : (1 : Int32).toInt = 1 := by decide
              have tx_13 : x_13.toInt = y7_3.toInt + (1 : Int32).toInt := by rw [ex_13]; exact t_add ⟨by omega, by omega⟩
              refine lv_goto (tgt := 48) hx hb dX4_search_85 (by decide) ?_
              exact ih_7 x_13 u7 H locs (by omega) (by omega) (by omega) hv hfr hP hD hS ls (lv_sub hl [0, 1, 2, 3] rfl)
            · have tc_12 : x_10.toInt < x_11.toInt := Int32.lt_iff_toInt_lt.mp (Int32.not_le.mp c_12)
              refine lv_aload_n hx hb dX4_search_66 rfl (lv_at hl 1 rfl) ?_
              refine lv_iload_n hx hb dX4_search_67 rfl (lv_at hl 2 rfl) ?_
              refine lv_iload_n hx hb dX4_search_68 rfl (lv_at hl 3 rfl) ?_
              refine lv_aload_n hx hb dX4_search_69 rfl (lv_at hl 1 rfl) ?_
              refine va_get (D := (dC, dI)) (ci := 4) (v := .ref (ad 3)) (C := RX4) (T := TX4) (N := 11) hx hb hts iwX4_search_X4 hown hK hP (1) (wl_at (by omega) (ce_1 (by decide))) rfl 4 (by decide) (hts (.fieldLink RX4 15 "QuietStairs$Planner" "weights" "[I") fwX4_search_11) (fun _ h9 => h9) rfl dX4_search_70 ?_
              refine lv_iload_n hx hb dX4_search_73 rfl (lv_at hl 2 rfl) ?_
              obtain ⟨pi13, i13, hi13, ni13, mi13⟩ := t_in (x := x0) (n := 4) ⟨by omega, by omega⟩
              refine va_iald hx hb hK hP (3) 0 (wl_at (by omega) (ce_17 (by decide))) rfl pi13 dX4_search_74 ?_
              refine lv_topi (fun x_14 ex_14 => ?_)
              refine lv_iload_n hx hb dX4_search_75 rfl (lv_at hl 0 rfl) ?_
              refine lv_imul hx hb dX4_search_76 ?_
              refine lv_topi (fun x_15 ex_15 => ?_)
              refine lv_iadd hx hb dX4_search_77 ?_
              refine lv_topi (fun x_16 ex_16 => ?_)
              refine lv_iload_n hx hb dX4_search_78 rfl (lv_at hl 0 rfl) ?_
              refine yw_v (w1 := fun (u : Nat → Nat → Int32) => wl ad kv cy N u) hD hS hA (va_runV (As := [.int x0, .int x_16, .int y7_3]) (rest := []) ⟨hx, hb, hml, hown, hts⟩ (g_X4_searchDay_4 l dC dI cy _ ad kv N hN u7 hv x0 x_16 y7_3 ⟨by omega, by omega⟩ ⟨by omega, by omega⟩ t1 t2) (cwV 3 hts gX4_search_X4_searchDay rfl rfl rfl hd_V_X4_searchDay_3 ⟨Nat.le_of_ble_eq_true rfl, Nat.le_of_ble_eq_true rfl⟩) ⟨ex_blindT, va_recv hK hP (ci := 4) (q0 := 1) rfl (wl_at (by omega) (ce_1 (by decide))), fun U hU hW => ⟨rfl, ((yw_preS (As := []) hE hK hP hD).2 U hU hW).2, hSt.go hS (yw_F hD hS hA) hU hW⟩⟩ rfl rfl hl.1 rfl (lv_room (Nat.le_of_ble_eq_true rfl)) dX4_search_79 ⟨Nat.le_of_ble_eq_true rfl, Nat.le_of_ble_eq_true rfl⟩) (fun v_17 H locs hw_17 hP hD hS => ?_)
              obtain ⟨hv, hw_17⟩ := hw_17
              have hfr : Fz v v_17 := hfr.trans hw_17
              obtain ⟨x_18, ex_18⟩ : ∃ y : Int32, y = y7_3 + 1 := ⟨_, rfl⟩
              refine lv_iinc (v := x_18) (lv' := [(3, .int x_18), (0, .ref (ad 1)), (1, .int x0), (2, .int x1)]) hx hb dX4_search_82 hl (k := 0) rfl (by rw [ex_18]; rfl) (by decide) rfl (fun ls hl => ?_)
              have k_1 : (1 : Int32).toInt = 1 := by decide
              have tx_18 : x_18.toInt = y7_3.toInt + (1 : Int32).toInt := by rw [ex_18]; exact t_add ⟨by omega, by omega⟩
              refine lv_goto (tgt := 48) hx hb dX4_search_85 (by decide) ?_
              exact ih_7 x_18 v_17 H locs (by omega) (by omega) (by omega) hv hfr hP hD hS ls (lv_sub hl [0, 1, 2, 3] rfl)
      exact hloop_7 ((3 - (0 : Int32).toInt).toNat + 1) 0 v_1 _ _ (by omega) (by omega) (by omega) hv hfr hP hD hS ls hl
    · have tc_6 : x0.toInt ≥ x_5.toInt := Int32.le_iff_toInt_le.mp (Int32.not_lt.mp c_6)
      refine lv_aload_n hx hb dX4_search_23 rfl (lv_at hl 0 rfl) ?_
      refine lv_iload_n hx hb dX4_search_24 rfl (lv_at hl 2 rfl) ?_
      refine va_put (D := (dC, dI)) (ci := 4) (v := .int x1) (ty := .int) (C := RX4) (T := TX4) (N := 11) hx hb hts iwX4_search_X4 tyX4 tyX4_ok nmX4 hown hK hP hD hS (1) (wl_at (by omega) (ce_1 (by decide))) rfl 0 (by decide) (hts (.fieldLink RX4 58 "QuietStairs$Planner" "leastWait" "I") fwX4_search_1) (fun _ h9 => h9) rfl (by decide +kernel) rfl rfl (Nat.le_of_ble_eq_true rfl) dX4_search_25 (fun H locs hP hD hS => ?_)
      obtain ⟨v_7, ev_7⟩ : ∃ u : Nat → Nat → Int32, u = upr v_1 (1) (upd (v_1 (1)) 0 x1) := ⟨_, rfl⟩
      have hP : va_P (dC, dI) vwCl (wl ad kv cy N v_7) H := by rw [ev_7, ← wl_put (e := _) (ce_1 (by decide))]; exact hP
      have hD : va_D A (wl ad kv cy N v_7) := by rw [ev_7, ← wl_put (e := _) (ce_1 (by decide))]; exact hD
      have hv : Iv v_7 := by rw [ev_7]; exact hv.put (K := 1) (by decide) (fun h q => by simp [bd] at q)
      have hfr : Fz v v_7 := by rw [ev_7]; exact hfr.put (by omega) (by omega) (by omega)
      refine lv_aload_n hx hb dX4_search_28 rfl (lv_at hl 0 rfl) ?_
      refine va_get (D := (dC, dI)) (ci := 4) (v := .ref (ad 6)) (C := RX4) (T := TX4) (N := 11) hx hb hts iwX4_search_X4 hown hK hP (1) (wl_at (by omega) (ce_1 (by decide))) rfl 7 (by decide) (hts (.fieldLink RX4 24 "QuietStairs$Planner" "seats" "[I") fwX4_search_3) (fun _ h9 => h9) rfl dX4_search_29 ?_
      refine lv_iconst (v := 0) hx hb dX4_search_32 (by decide) ?_
      refine lv_aload_n hx hb dX4_search_33 rfl (lv_at hl 0 rfl) ?_
      refine va_get (D := (dC, dI)) (ci := 4) (v := .ref (ad 7)) (C := RX4) (T := TX4) (N := 11) hx hb hts iwX4_search_X4 hown hK hP (1) (wl_at (by omega) (ce_1 (by decide))) rfl 8 (by decide) (hts (.fieldLink RX4 27 "QuietStairs$Planner" "bestSeats" "[I") fwX4_search_4) (fun _ h9 => h9) rfl dX4_search_34 ?_
      refine lv_iconst (v := 0) hx hb dX4_search_37 (by decide) ?_
      refine lv_aload_n hx hb dX4_search_38 rfl (lv_at hl 0 rfl) ?_
      refine va_get (D := (dC, dI)) (ci := 4) (v := .int (v_7 (1) 1)) (C := RX4) (T := TX4) (N := 11) hx hb hts iwX4_search_X4 hown hK hP (1) (wl_at (by omega) (ce_1 (by decide))) rfl 1 (by decide) (hts (.fieldLink RX4 61 "QuietStairs$Planner" "count" "I") fwX4_search_2) (fun _ h9 => h9) rfl dX4_search_39 ?_
      refine lv_topi (fun x_8 ex_8 => ?_)
      rw [ev_7, upr_s, pk_un (by decide)] at ex_8
      rw [← ex_5] at ex_8; replace ex_8 := ex_8.symm; subst ex_8
      have hn_9 := t_n (x := x_5) (m := 4) ⟨by omega, by omega⟩
      refine va_copyi hx hb (hml.trans hl.1.symm) hown (hts (.methodLink RX4 99 arraycopyName) fwX4_search_5) (hts (.native arraycopyName) fwX4_search_6) (hts (.static arraycopyName) fwX4_search_7) (hts (.initialized "java/lang/System") fwX4_search_8) hK hP hD hS (6) (7) 0 0 (wl_at (by omega) (ce_17 (by decide))) (wl_at (by omega) (ce_17 (by decide))) rfl rfl rfl (by decide) (by decide) hn_9.1 (by rw [sb_cl0]; have := hn_9.2; omega) (by rw [sb_cl0]; have := hn_9.2; omega) (fun i hi => rfl) (Nat.le_of_ble_eq_true rfl) (Nat.le_of_ble_eq_true rfl) dX4_search_42 (fun H locs hP hD hS => ?_)
      obtain ⟨v_9, ev_9⟩ : ∃ u : Nat → Nat → Int32, u = upr v_7 (7) (va_cpy (v_7 (6)) (v_7 (7)) (0 : Int32).toNatClampNeg (0 : Int32).toNatClampNeg x_5.toNatClampNeg) := ⟨_, rfl⟩
      have hP : va_P (dC, dI) vwCl (wl ad kv cy N v_9) H := by rw [ev_9, ← wl_put (e := _) (ce_17 (by decide))]; exact hP
      have hD : va_D A (wl ad kv cy N v_9) := by rw [ev_9, ← wl_put (e := _) (ce_17 (by decide))]; exact hD
      have hv : Iv v_9 := by rw [ev_9]; exact hv.row (K := 17) (by decide) (fun j => rfl)
      have hfr : Fz v v_9 := by rw [ev_9]; exact hfr.row (by omega) (by omega) (by omega)
      exact W.vret hx hb hr (fun t ht hW => ⟨⟨v_9, rfl, ⟨hv, hfr⟩, by rw [ht]; exact hP, hD⟩, hS.F ht⟩) hS.2.2 dX4_search_45
  · have tc_4 : x_2.toInt ≥ x_3.toInt := Int32.le_iff_toInt_le.mp (Int32.not_lt.mp c_4)
    exact W.vret hx hb hr (fun t ht hW => ⟨⟨v_1, rfl, ⟨hv, hfr⟩, by rw [ht]; exact hP, hD⟩, hS.F ht⟩) hS.2.2 dX4_search_14
