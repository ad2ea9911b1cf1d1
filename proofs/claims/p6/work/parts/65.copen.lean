set_option maxRecDepth 20000 in
theorem db_X0_begin_0 : (decode cX0_begin 0 = .ok (.aload_n 0, 1)) ∧ (decode cX0_begin 1 = .ok (.iconst 0, 1)) ∧ (decode cX0_begin 2 = .ok (.putfield 33, 3)) ∧ (decode cX0_begin 5 = .ok (.aload_n 0, 1)) ∧ (decode cX0_begin 6 = .ok (.iconst 0, 1)) ∧ (decode cX0_begin 7 = .ok (.putfield 37, 3)) ∧ (decode cX0_begin 10 = .ok (.aload_n 0, 1)) ∧ (decode cX0_begin 11 = .ok (.iconst 0, 1)) := by decide +kernel
theorem dX0_begin_0 : decode cX0_begin 0 = .ok (.aload_n 0, 1) := db_X0_begin_0.1
theorem dX0_begin_1 : decode cX0_begin 1 = .ok (.iconst 0, 1) := db_X0_begin_0.2.1
theorem dX0_begin_2 : decode cX0_begin 2 = .ok (.putfield 33, 3) := db_X0_begin_0.2.2.1
theorem dX0_begin_5 : decode cX0_begin 5 = .ok (.aload_n 0, 1) := db_X0_begin_0.2.2.2.1
theorem dX0_begin_6 : decode cX0_begin 6 = .ok (.iconst 0, 1) := db_X0_begin_0.2.2.2.2.1
theorem dX0_begin_7 : decode cX0_begin 7 = .ok (.putfield 37, 3) := db_X0_begin_0.2.2.2.2.2.1
theorem dX0_begin_10 : decode cX0_begin 10 = .ok (.aload_n 0, 1) := db_X0_begin_0.2.2.2.2.2.2.1
theorem dX0_begin_11 : decode cX0_begin 11 = .ok (.iconst 0, 1) := db_X0_begin_0.2.2.2.2.2.2.2
set_option maxRecDepth 20000 in
theorem db_X0_begin_12 : (decode cX0_begin 12 = .ok (.putfield 40, 3)) ∧ (decode cX0_begin 15 = .ok (.aload_n 0, 1)) ∧ (decode cX0_begin 16 = .ok (.iconst 1, 1)) ∧ (decode cX0_begin 17 = .ok (.putfield 43, 3)) ∧ (decode cX0_begin 20 = .ok (.aload_n 0, 1)) ∧ (decode cX0_begin 21 = .ok (.iconst 0, 1)) ∧ (decode cX0_begin 22 = .ok (.putfield 46, 3)) ∧ (decode cX0_begin 25 = .ok (.aload_n 0, 1)) := by decide +kernel
theorem dX0_begin_12 : decode cX0_begin 12 = .ok (.putfield 40, 3) := db_X0_begin_12.1
theorem dX0_begin_15 : decode cX0_begin 15 = .ok (.aload_n 0, 1) := db_X0_begin_12.2.1
theorem dX0_begin_16 : decode cX0_begin 16 = .ok (.iconst 1, 1) := db_X0_begin_12.2.2.1
theorem dX0_begin_17 : decode cX0_begin 17 = .ok (.putfield 43, 3) := db_X0_begin_12.2.2.2.1
theorem dX0_begin_20 : decode cX0_begin 20 = .ok (.aload_n 0, 1) := db_X0_begin_12.2.2.2.2.1
theorem dX0_begin_21 : decode cX0_begin 21 = .ok (.iconst 0, 1) := db_X0_begin_12.2.2.2.2.2.1
theorem dX0_begin_22 : decode cX0_begin 22 = .ok (.putfield 46, 3) := db_X0_begin_12.2.2.2.2.2.2.1
theorem dX0_begin_25 : decode cX0_begin 25 = .ok (.aload_n 0, 1) := db_X0_begin_12.2.2.2.2.2.2.2
set_option maxRecDepth 20000 in
theorem db_X0_begin_26 : (decode cX0_begin 26 = .ok (.iconst 0, 1)) ∧ (decode cX0_begin 27 = .ok (.putfield 49, 3)) ∧ (decode cX0_begin 30 = .ok (.aload_n 0, 1)) ∧ (decode cX0_begin 31 = .ok (.getfield 9, 3)) ∧ (decode cX0_begin 34 = .ok (.iconst 0, 1)) ∧ (decode cX0_begin 35 = .ok (.iload_n 1, 1)) ∧ (decode cX0_begin 36 = .ok (.iastore, 1)) ∧ (decode cX0_begin 37 = .ok (.aload_n 0, 1)) := by decide +kernel
theorem dX0_begin_26 : decode cX0_begin 26 = .ok (.iconst 0, 1) := db_X0_begin_26.1
theorem dX0_begin_27 : decode cX0_begin 27 = .ok (.putfield 49, 3) := db_X0_begin_26.2.1
theorem dX0_begin_30 : decode cX0_begin 30 = .ok (.aload_n 0, 1) := db_X0_begin_26.2.2.1
theorem dX0_begin_31 : decode cX0_begin 31 = .ok (.getfield 9, 3) := db_X0_begin_26.2.2.2.1
theorem dX0_begin_34 : decode cX0_begin 34 = .ok (.iconst 0, 1) := db_X0_begin_26.2.2.2.2.1
theorem dX0_begin_35 : decode cX0_begin 35 = .ok (.iload_n 1, 1) := db_X0_begin_26.2.2.2.2.2.1
theorem dX0_begin_36 : decode cX0_begin 36 = .ok (.iastore, 1) := db_X0_begin_26.2.2.2.2.2.2.1
theorem dX0_begin_37 : decode cX0_begin 37 = .ok (.aload_n 0, 1) := db_X0_begin_26.2.2.2.2.2.2.2
set_option maxRecDepth 20000 in
theorem db_X0_begin_38 : (decode cX0_begin 38 = .ok (.getfield 9, 3)) ∧ (decode cX0_begin 41 = .ok (.iconst 1, 1)) ∧ (decode cX0_begin 42 = .ok (.iload_n 2, 1)) ∧ (decode cX0_begin 43 = .ok (.iastore, 1)) ∧ (decode cX0_begin 44 = .ok (.iconst 0, 1)) ∧ (decode cX0_begin 45 = .ok (.istore_n 3, 1)) ∧ (decode cX0_begin 46 = .ok (.iload_n 3, 1)) ∧ (decode cX0_begin 47 = .ok (.iconst 2, 1)) := by decide +kernel
theorem dX0_begin_38 : decode cX0_begin 38 = .ok (.getfield 9, 3) := db_X0_begin_38.1
theorem dX0_begin_41 : decode cX0_begin 41 = .ok (.iconst 1, 1) := db_X0_begin_38.2.1
theorem dX0_begin_42 : decode cX0_begin 42 = .ok (.iload_n 2, 1) := db_X0_begin_38.2.2.1
theorem dX0_begin_43 : decode cX0_begin 43 = .ok (.iastore, 1) := db_X0_begin_38.2.2.2.1
theorem dX0_begin_44 : decode cX0_begin 44 = .ok (.iconst 0, 1) := db_X0_begin_38.2.2.2.2.1
theorem dX0_begin_45 : decode cX0_begin 45 = .ok (.istore_n 3, 1) := db_X0_begin_38.2.2.2.2.2.1
theorem dX0_begin_46 : decode cX0_begin 46 = .ok (.iload_n 3, 1) := db_X0_begin_38.2.2.2.2.2.2.1
theorem dX0_begin_47 : decode cX0_begin 47 = .ok (.iconst 2, 1) := db_X0_begin_38.2.2.2.2.2.2.2
set_option maxRecDepth 20000 in
theorem db_X0_begin_48 : (decode cX0_begin 48 = .ok (.if_icmp .ge 43, 3)) ∧ (decode cX0_begin 91 = .ok (.return_, 1)) ∧ (decode cX0_begin 51 = .ok (.aload_n 0, 1)) ∧ (decode cX0_begin 52 = .ok (.getfield 15, 3)) ∧ (decode cX0_begin 55 = .ok (.iload_n 3, 1)) ∧ (decode cX0_begin 56 = .ok (.iconst (-1), 1)) ∧ (decode cX0_begin 57 = .ok (.iastore, 1)) ∧ (decode cX0_begin 58 = .ok (.iconst 0, 1)) := by decide +kernel
theorem dX0_begin_48 : decode cX0_begin 48 = .ok (.if_icmp .ge 43, 3) := db_X0_begin_48.1
theorem dX0_begin_91 : decode cX0_begin 91 = .ok (.return_, 1) := db_X0_begin_48.2.1
theorem dX0_begin_51 : decode cX0_begin 51 = .ok (.aload_n 0, 1) := db_X0_begin_48.2.2.1
theorem dX0_begin_52 : decode cX0_begin 52 = .ok (.getfield 15, 3) := db_X0_begin_48.2.2.2.1
theorem dX0_begin_55 : decode cX0_begin 55 = .ok (.iload_n 3, 1) := db_X0_begin_48.2.2.2.2.1
theorem dX0_begin_56 : decode cX0_begin 56 = .ok (.iconst (-1), 1) := db_X0_begin_48.2.2.2.2.2.1
theorem dX0_begin_57 : decode cX0_begin 57 = .ok (.iastore, 1) := db_X0_begin_48.2.2.2.2.2.2.1
theorem dX0_begin_58 : decode cX0_begin 58 = .ok (.iconst 0, 1) := db_X0_begin_48.2.2.2.2.2.2.2
set_option maxRecDepth 20000 in
theorem db_X0_begin_59 : (decode cX0_begin 59 = .ok (.istore 4, 2)) ∧ (decode cX0_begin 61 = .ok (.iload 4, 2)) ∧ (decode cX0_begin 63 = .ok (.bipush 24, 2)) ∧ (decode cX0_begin 65 = .ok (.if_icmp .ge 20, 3)) ∧ (decode cX0_begin 85 = .ok (.iinc 3 1, 3)) ∧ (decode cX0_begin 88 = .ok (.goto (-42), 3)) ∧ (decode cX0_begin 68 = .ok (.aload_n 0, 1)) ∧ (decode cX0_begin 69 = .ok (.getfield 23, 3)) := by decide +kernel
theorem dX0_begin_59 : decode cX0_begin 59 = .ok (.istore 4, 2) := db_X0_begin_59.1
theorem dX0_begin_61 : decode cX0_begin 61 = .ok (.iload 4, 2) := db_X0_begin_59.2.1
theorem dX0_begin_63 : decode cX0_begin 63 = .ok (.bipush 24, 2) := db_X0_begin_59.2.2.1
theorem dX0_begin_65 : decode cX0_begin 65 = .ok (.if_icmp .ge 20, 3) := db_X0_begin_59.2.2.2.1
theorem dX0_begin_85 : decode cX0_begin 85 = .ok (.iinc 3 1, 3) := db_X0_begin_59.2.2.2.2.1
theorem dX0_begin_88 : decode cX0_begin 88 = .ok (.goto (-42), 3) := db_X0_begin_59.2.2.2.2.2.1
theorem dX0_begin_68 : decode cX0_begin 68 = .ok (.aload_n 0, 1) := db_X0_begin_59.2.2.2.2.2.2.1
theorem dX0_begin_69 : decode cX0_begin 69 = .ok (.getfield 23, 3) := db_X0_begin_59.2.2.2.2.2.2.2
set_option maxRecDepth 20000 in
theorem db_X0_begin_72 : (decode cX0_begin 72 = .ok (.iload_n 3, 1)) ∧ (decode cX0_begin 73 = .ok (.aaload, 1)) ∧ (decode cX0_begin 74 = .ok (.iload 4, 2)) ∧ (decode cX0_begin 76 = .ok (.bipush 7, 2)) ∧ (decode cX0_begin 78 = .ok (.iastore, 1)) ∧ (decode cX0_begin 79 = .ok (.iinc 4 1, 3)) ∧ (decode cX0_begin 82 = .ok (.goto (-21), 3)) := by decide +kernel
theorem dX0_begin_72 : decode cX0_begin 72 = .ok (.iload_n 3, 1) := db_X0_begin_72.1
theorem dX0_begin_73 : decode cX0_begin 73 = .ok (.aaload, 1) := db_X0_begin_72.2.1
theorem dX0_begin_74 : decode cX0_begin 74 = .ok (.iload 4, 2) := db_X0_begin_72.2.2.1
theorem dX0_begin_76 : decode cX0_begin 76 = .ok (.bipush 7, 2) := db_X0_begin_72.2.2.2.1
theorem dX0_begin_78 : decode cX0_begin 78 = .ok (.iastore, 1) := db_X0_begin_72.2.2.2.2.1
theorem dX0_begin_79 : decode cX0_begin 79 = .ok (.iinc 4 1, 3) := db_X0_begin_72.2.2.2.2.2.1
theorem dX0_begin_82 : decode cX0_begin 82 = .ok (.goto (-21), 3) := db_X0_begin_72.2.2.2.2.2.2
set_option maxRecDepth 20000 in
theorem db_X7_open_0 : (decode cX7_open 0 = .ok (.aload_n 0, 1)) ∧ (decode cX7_open 1 = .ok (.iload_n 1, 1)) ∧ (decode cX7_open 2 = .ok (.invokevirtual 76, 3)) ∧ (decode cX7_open 5 = .ok (.ifCond .eq 16, 3)) ∧ (decode cX7_open 8 = .ok (.aload_n 0, 1)) ∧ (decode cX7_open 9 = .ok (.iload_n 2, 1)) ∧ (decode cX7_open 10 = .ok (.invokevirtual 76, 3)) ∧ (decode cX7_open 13 = .ok (.ifCond .eq 8, 3)) := by decide +kernel
theorem dX7_open_0 : decode cX7_open 0 = .ok (.aload_n 0, 1) := db_X7_open_0.1
theorem dX7_open_1 : decode cX7_open 1 = .ok (.iload_n 1, 1) := db_X7_open_0.2.1
set_option maxRecDepth 20000 in
theorem ggX7_open_X7_isParty : GoodIn wsX7_open wsX7_isParty := goodIn_r _ [8, 1, 9, 10, 11, 7, 12, 27, 28, 29, 30, 31, 32, 33, 34, 35, 36, 37, 38] rfl (by decide +kernel)
set_option maxRecDepth 20000 in
theorem gX7_open_X7_isParty : GoodIn wsX7_open (wsV RX7 76 RX7 yX7_isParty wsX7_isParty) := goodIn_app (goodIn_r _ [4, 5, 6, 7] rfl (by decide +kernel)) ggX7_open_X7_isParty
theorem dX7_open_2 : decode cX7_open 2 = .ok (.invokevirtual 76, 3) := db_X7_open_0.2.2.1
theorem dX7_open_5 : decode cX7_open 5 = .ok (.ifCond .eq 16, 3) := db_X7_open_0.2.2.2.1
theorem dX7_open_8 : decode cX7_open 8 = .ok (.aload_n 0, 1) := db_X7_open_0.2.2.2.2.1
theorem dX7_open_9 : decode cX7_open 9 = .ok (.iload_n 2, 1) := db_X7_open_0.2.2.2.2.2.1
theorem dX7_open_10 : decode cX7_open 10 = .ok (.invokevirtual 76, 3) := db_X7_open_0.2.2.2.2.2.2.1
theorem dX7_open_13 : decode cX7_open 13 = .ok (.ifCond .eq 8, 3) := db_X7_open_0.2.2.2.2.2.2.2
set_option maxRecDepth 20000 in
theorem db_X7_open_16 : (decode cX7_open 16 = .ok (.iload_n 1, 1)) ∧ (decode cX7_open 17 = .ok (.iload_n 2, 1)) ∧ (decode cX7_open 18 = .ok (.if_icmp .ne 5, 3)) ∧ (decode cX7_open 23 = .ok (.aload_n 0, 1)) ∧ (decode cX7_open 24 = .ok (.getfield 12, 3)) ∧ (decode cX7_open 27 = .ok (.getfield 83, 3)) ∧ (decode cX7_open 30 = .ok (.bipush 6, 2)) ∧ (decode cX7_open 32 = .ok (.if_icmp .lt 6, 3)) := by decide +kernel
theorem dX7_open_16 : decode cX7_open 16 = .ok (.iload_n 1, 1) := db_X7_open_16.1
theorem dX7_open_17 : decode cX7_open 17 = .ok (.iload_n 2, 1) := db_X7_open_16.2.1
theorem dX7_open_18 : decode cX7_open 18 = .ok (.if_icmp .ne 5, 3) := db_X7_open_16.2.2.1
theorem dX7_open_23 : decode cX7_open 23 = .ok (.aload_n 0, 1) := db_X7_open_16.2.2.2.1
theorem dX7_open_24 : decode cX7_open 24 = .ok (.getfield 12, 3) := db_X7_open_16.2.2.2.2.1
theorem dX7_open_27 : decode cX7_open 27 = .ok (.getfield 83, 3) := db_X7_open_16.2.2.2.2.2.1
theorem dX7_open_30 : decode cX7_open 30 = .ok (.bipush 6, 2) := db_X7_open_16.2.2.2.2.2.2.1
theorem dX7_open_32 : decode cX7_open 32 = .ok (.if_icmp .lt 6, 3) := db_X7_open_16.2.2.2.2.2.2.2
set_option maxRecDepth 20000 in
theorem db_X7_open_38 : (decode cX7_open 38 = .ok (.aload_n 0, 1)) ∧ (decode cX7_open 39 = .ok (.getfield 12, 3)) ∧ (decode cX7_open 42 = .ok (.getfield 86, 3)) ∧ (decode cX7_open 45 = .ok (.aload_n 0, 1)) ∧ (decode cX7_open 46 = .ok (.getfield 12, 3)) ∧ (decode cX7_open 49 = .ok (.getfield 83, 3)) ∧ (decode cX7_open 52 = .ok (.aaload, 1)) ∧ (decode cX7_open 53 = .ok (.iload_n 1, 1)) := by decide +kernel
theorem dX7_open_38 : decode cX7_open 38 = .ok (.aload_n 0, 1) := db_X7_open_38.1
theorem dX7_open_39 : decode cX7_open 39 = .ok (.getfield 12, 3) := db_X7_open_38.2.1
theorem dX7_open_42 : decode cX7_open 42 = .ok (.getfield 86, 3) := db_X7_open_38.2.2.1
theorem dX7_open_45 : decode cX7_open 45 = .ok (.aload_n 0, 1) := db_X7_open_38.2.2.2.1
theorem dX7_open_46 : decode cX7_open 46 = .ok (.getfield 12, 3) := db_X7_open_38.2.2.2.2.1
theorem dX7_open_49 : decode cX7_open 49 = .ok (.getfield 83, 3) := db_X7_open_38.2.2.2.2.2.1
theorem dX7_open_52 : decode cX7_open 52 = .ok (.aaload, 1) := db_X7_open_38.2.2.2.2.2.2.1
theorem dX7_open_53 : decode cX7_open 53 = .ok (.iload_n 1, 1) := db_X7_open_38.2.2.2.2.2.2.2
set_option maxRecDepth 20000 in
theorem db_X7_open_54 : (decode cX7_open 54 = .ok (.iload_n 2, 1)) ∧ (decode cX7_open 55 = .ok (.invokevirtual 90, 3)) ∧ (decode cX7_open 58 = .ok (.aload_n 0, 1)) ∧ (decode cX7_open 59 = .ok (.getfield 12, 3)) ∧ (decode cX7_open 62 = .ok (.dup, 1)) ∧ (decode cX7_open 63 = .ok (.getfield 83, 3)) ∧ (decode cX7_open 66 = .ok (.dup_x1, 1)) ∧ (decode cX7_open 67 = .ok (.iconst 1, 1)) := by decide +kernel
theorem dX7_open_54 : decode cX7_open 54 = .ok (.iload_n 2, 1) := db_X7_open_54.1
set_option maxRecDepth 20000 in
theorem ggX7_open_X0_begin : GoodIn wsX7_open wsX0_begin := goodIn_r _ [17, 18, 19, 20, 21, 22, 23, 24, 25, 26, 39, 40, 41, 42, 43, 44, 45, 46, 47, 48, 49] rfl (by decide +kernel)
set_option maxRecDepth 20000 in
theorem gX7_open_X0_begin : GoodIn wsX7_open (wsV RX7 90 RX0 yX0_begin wsX0_begin) := goodIn_app (goodIn_r _ [13, 14, 15, 16] rfl (by decide +kernel)) ggX7_open_X0_begin
theorem dX7_open_55 : decode cX7_open 55 = .ok (.invokevirtual 90, 3) := db_X7_open_54.2.1
theorem dX7_open_58 : decode cX7_open 58 = .ok (.aload_n 0, 1) := db_X7_open_54.2.2.1
theorem dX7_open_59 : decode cX7_open 59 = .ok (.getfield 12, 3) := db_X7_open_54.2.2.2.1
theorem dX7_open_62 : decode cX7_open 62 = .ok (.dup, 1) := db_X7_open_54.2.2.2.2.1
theorem dX7_open_63 : decode cX7_open 63 = .ok (.getfield 83, 3) := db_X7_open_54.2.2.2.2.2.1
theorem dX7_open_66 : decode cX7_open 66 = .ok (.dup_x1, 1) := db_X7_open_54.2.2.2.2.2.2.1
theorem dX7_open_67 : decode cX7_open 67 = .ok (.iconst 1, 1) := db_X7_open_54.2.2.2.2.2.2.2
set_option maxRecDepth 20000 in
theorem db_X7_open_68 : (decode cX7_open 68 = .ok (.iadd, 1)) ∧ (decode cX7_open 69 = .ok (.putfield 83, 3)) ∧ (decode cX7_open 72 = .ok (.ireturn, 1)) ∧ (decode cX7_open 35 = .ok (.bipush (-2), 2)) ∧ (decode cX7_open 37 = .ok (.ireturn, 1)) ∧ (decode cX7_open 21 = .ok (.iconst (-1), 1)) ∧ (decode cX7_open 22 = .ok (.ireturn, 1)) := by decide +kernel
theorem dX7_open_68 : decode cX7_open 68 = .ok (.iadd, 1) := db_X7_open_68.1
theorem dX7_open_69 : decode cX7_open 69 = .ok (.putfield 83, 3) := db_X7_open_68.2.1
theorem dX7_open_72 : decode cX7_open 72 = .ok (.ireturn, 1) := db_X7_open_68.2.2.1
theorem dX7_open_35 : decode cX7_open 35 = .ok (.bipush (-2), 2) := db_X7_open_68.2.2.2.1
theorem dX7_open_37 : decode cX7_open 37 = .ok (.ireturn, 1) := db_X7_open_68.2.2.2.2.1
theorem dX7_open_21 : decode cX7_open 21 = .ok (.iconst (-1), 1) := db_X7_open_68.2.2.2.2.2.1
theorem dX7_open_22 : decode cX7_open 22 = .ok (.ireturn, 1) := db_X7_open_68.2.2.2.2.2.2
set_option maxHeartbeats 4000000 in
set_option maxRecDepth 100000 in
theorem e_X0_begin (l : Launch) (dC : Nat → ClassId) (dI : Nat → Nat → Nat) (cy : Nat → ClassId) (sz : Nat) (ad : Nat → Nat) (kv : Value) (N : Nat) (hN : 119 ≤ N) (v : Nat → Nat → Int32) (hv : Iv v) (i : Nat) (hi : i < 6) (x0 x1 : Int32) (h0 : 0 ≤ x0.toInt ∧ x0.toInt ≤ 7) (h1 : 0 ≤ x1.toInt ∧ x1.toInt ≤ 7) : Met l yX0_begin wsX0_begin ({ frames := 0, cells := 0, slots := 0, locals := 0 }) (va_Pc [.ref (ad (29 + 15 * i)), .int x0, .int x1] (ex_Pre dC dI cy sz (wl ad kv cy N v))) (va_Qv (fun (u : Nat → Nat → Int32) => Iv u ∧ (∀ k j : Nat, u k j = if 36 + 15 * i ≤ k ∧ (k : Int) < 36 + 15 * (i : Int) + 2 ∧ j < 24 then 7 else if k = 31 + 15 * i ∧ (j : Int) < 2 then -1 else if k = 30 + 15 * i ∧ j = 1 then x1 else if k = 30 + 15 * i ∧ j = 0 then x0 else if k = 29 + 15 * i ∧ j = 5 then 0 else if k = 29 + 15 * i ∧ j = 4 then 0 else if k = 29 + 15 * i ∧ j = 3 then 1 else if k = 29 + 15 * i ∧ j = 2 then 0 else if k = 29 + 15 * i ∧ j = 1 then 0 else if k = 29 + 15 * i ∧ j = 0 then 0 else v k j)) (fun u t => ex_Pst dC dI (va_A (wl ad kv cy N v) sz) (wl ad kv cy N u) t) (va_A (wl ad kv cy N v) sz)) 0 0 (va_A (wl ad kv cy N v) sz) := by
  refine Met.ofW (cc := cX0_begin) (maxL := 5) (ret := none) (by decide) rfl ?_
  intro p e s m args below meth c s₁ B hml hv
  obtain ⟨rfl, hsz, hE, hP, hK, hD0⟩ := hv
  have hx := B.exec
  have hb := B.bytes
  have hr := B.returns
  have hts := atoms_spec (ws := wsX0_begin) B.pre
  have hown : s.vm.findClass RX0 = some m.cls := findClass_of_methodNamed B.named
  have hlocks := B.notSynchronized
  subst hsz
  have hD := hD0.self (sz := s.heap.size)
  generalize hAe : va_A (wl ad kv cy N v) s.heap.size = A at hD ⊢
  have hA : ∀ q : Nat, s.heap.size ≤ q → A q := fun q h => by rw [← hAe]; exact Or.inr h
  have hS : va_S A s.heap s.heap [] := va_S.rf
  have hP : va_P (dC, dI) vwCl (wl ad kv cy N v) s.heap := hP
  have hl := lv_entry ([.ref (ad (29 + 15 * i)), .int x0, .int x1]) (n := 5) (Nat.le_of_ble_eq_true rfl)
  rw [lg_entry_eq]
  generalize (lg_sl ([.ref (ad (29 + 15 * i)), .int x0, .int x1]) ++ List.replicate (5 - (lg_sl ([.ref (ad (29 + 15 * i)), .int x0, .int x1])).length) Slot.unset).toArray = ls at hl ⊢
  have hl : lv_has ls 5 [(0, .ref (ad (29 + 15 * i))), (1, .int x0), (2, .int x1)] := hl
  refine lv_aload_n hx hb dX0_begin_0 rfl (lv_at hl 0 rfl) ?_
  refine lv_iconst (v := 0) hx hb dX0_begin_1 (by decide) ?_
  refine va_put (D := (dC, dI)) (ci := 0) (v := .int 0) (ty := .int) (C := RX0) (T := TX0) (N := 11) hx hb hts iwX0_begin_X0 tyX0 tyX0_ok nmX0 hown hK hP hD hS (29 + 15 * i) (wl_at (by omega) (ce_9 (kd_c _ hi).1.1)) rfl 0 (by decide) (hts (.fieldLink RX0 33 "QuietStairs$Case" "state" "I") fwX0_begin_1) (fun _ h9 => h9) rfl (by decide +kernel) rfl rfl (Nat.le_of_ble_eq_true rfl) dX0_begin_2 (fun H locs hP hD hS => ?_)
  have k_0 : (0 : Int32).toInt = 0 := by decide
  obtain ⟨v_1, ev_1⟩ : ∃ u : Nat → Nat → Int32, u = upr v (29 + 15 * i) (upd (v (29 + 15 * i)) 0 0) := ⟨_, rfl⟩
  have hP : va_P (dC, dI) vwCl (wl ad kv cy N v_1) H := by rw [ev_1, ← wl_put (e := _) (ce_9 (kd_c _ hi).1.1)]; exact hP
  have hD : va_D A (wl ad kv cy N v_1) := by rw [ev_1, ← wl_put (e := _) (ce_9 (kd_c _ hi).1.1)]; exact hD
  have hv : Iv v_1 := by rw [ev_1]; exact hv.put (K := 9) (kd_c _ hi).1.1 (fun h q => by simp [bd] at q)
  refine lv_aload_n hx hb dX0_begin_5 rfl (lv_at hl 0 rfl) ?_
  refine lv_iconst (v := 0) hx hb dX0_begin_6 (by decide) ?_
  refine va_put (D := (dC, dI)) (ci := 0) (v := .int 0) (ty := .int) (C := RX0) (T := TX0) (N := 11) hx hb hts iwX0_begin_X0 tyX0 tyX0_ok nmX0 hown hK hP hD hS (29 + 15 * i) (wl_at (by omega) (ce_9 (kd_c _ hi).1.1)) rfl 1 (by decide) (hts (.fieldLink RX0 37 "QuietStairs$Case" "sum" "I") fwX0_begin_2) (fun _ h9 => h9) rfl (by decide +kernel) rfl rfl (Nat.le_of_ble_eq_true rfl) dX0_begin_7 (fun H locs hP hD hS => ?_)
  obtain ⟨v_2, ev_2⟩ : ∃ u : Nat → Nat → Int32, u = upr v_1 (29 + 15 * i) (upd (v_1 (29 + 15 * i)) 1 0) := ⟨_, rfl⟩
  have hP : va_P (dC, dI) vwCl (wl ad kv cy N v_2) H := by rw [ev_2, ← wl_put (e := _) (ce_9 (kd_c _ hi).1.1)]; exact hP
  have hD : va_D A (wl ad kv cy N v_2) := by rw [ev_2, ← wl_put (e := _) (ce_9 (kd_c _ hi).1.1)]; exact hD
  have hv : Iv v_2 := by rw [ev_2]; exact hv.put (K := 9) (kd_c _ hi).1.1 (fun h q => by simp [bd] at q)
  refine lv_aload_n hx hb dX0_begin_10 rfl (lv_at hl 0 rfl) ?_
  refine lv_iconst (v := 0) hx hb dX0_begin_11 (by decide) ?_
  refine va_put (D := (dC, dI)) (ci := 0) (v := .int 0) (ty := .int) (C := RX0) (T := TX0) (N := 11) hx hb hts iwX0_begin_X0 tyX0 tyX0_ok nmX0 hown hK hP hD hS (29 + 15 * i) (wl_at (by omega) (ce_9 (kd_c _ hi).1.1)) rfl 2 (by decide) (hts (.fieldLink RX0 40 "QuietStairs$Case" "roundsOver" "I") fwX0_begin_3) (fun _ h9 => h9) rfl (by decide +kernel) rfl rfl (Nat.le_of_ble_eq_true rfl) dX0_begin_12 (fun H locs hP hD hS => ?_)
  obtain ⟨v_3, ev_3⟩ : ∃ u : Nat → Nat → Int32, u = upr v_2 (29 + 15 * i) (upd (v_2 (29 + 15 * i)) 2 0) := ⟨_, rfl⟩
  have hP : va_P (dC, dI) vwCl (wl ad kv cy N v_3) H := by rw [ev_3, ← wl_put (e := _) (ce_9 (kd_c _ hi).1.1)]; exact hP
  have hD : va_D A (wl ad kv cy N v_3) := by rw [ev_3, ← wl_put (e := _) (ce_9 (kd_c _ hi).1.1)]; exact hD
  have hv : Iv v_3 := by rw [ev_3]; exact hv.put (K := 9) (kd_c _ hi).1.1 (fun h q => by cases q; exact ⟨by omega, by omega⟩)
  refine lv_aload_n hx hb dX0_begin_15 rfl (lv_at hl 0 rfl) ?_
  refine lv_iconst (v := 1) hx hb dX0_begin_16 (by decide) ?_
  refine va_put (D := (dC, dI)) (ci := 0) (v := .int 1) (ty := .int) (C := RX0) (T := TX0) (N := 11) hx hb hts iwX0_begin_X0 tyX0 tyX0_ok nmX0 hown hK hP hD hS (29 + 15 * i) (wl_at (by omega) (ce_9 (kd_c _ hi).1.1)) rfl 3 (by decide) (hts (.fieldLink RX0 43 "QuietStairs$Case" "weight" "I") fwX0_begin_4) (fun _ h9 => h9) rfl (by decide +kernel) rfl rfl (Nat.le_of_ble_eq_true rfl) dX0_begin_17 (fun H locs hP hD hS => ?_)
  have k_1 : (1 : Int32).toInt = 1 := by decide
  obtain ⟨v_4, ev_4⟩ : ∃ u : Nat → Nat → Int32, u = upr v_3 (29 + 15 * i) (upd (v_3 (29 + 15 * i)) 3 1) := ⟨_, rfl⟩
  have hP : va_P (dC, dI) vwCl (wl ad kv cy N v_4) H := by rw [ev_4, ← wl_put (e := _) (ce_9 (kd_c _ hi).1.1)]; exact hP
  have hD : va_D A (wl ad kv cy N v_4) := by rw [ev_4, ← wl_put (e := _) (ce_9 (kd_c _ hi).1.1)]; exact hD
  have hv : Iv v_4 := by rw [ev_4]; exact hv.put (K := 9) (kd_c _ hi).1.1 (fun h q => by simp [bd] at q)
  refine lv_aload_n hx hb dX0_begin_20 rfl (lv_at hl 0 rfl) ?_
  refine lv_iconst (v := 0) hx hb dX0_begin_21 (by decide) ?_
  refine va_put (D := (dC, dI)) (ci := 0) (v := .int 0) (ty := .int) (C := RX0) (T := TX0) (N := 11) hx hb hts iwX0_begin_X0 tyX0 tyX0_ok nmX0 hown hK hP hD hS (29 + 15 * i) (wl_at (by omega) (ce_9 (kd_c _ hi).1.1)) rfl 4 (by decide) (hts (.fieldLink RX0 46 "QuietStairs$Case" "markedBits" "I") fwX0_begin_5) (fun _ h9 => h9) rfl (by decide +kernel) rfl rfl (Nat.le_of_ble_eq_true rfl) dX0_begin_22 (fun H locs hP hD hS => ?_)
  obtain ⟨v_5, ev_5⟩ : ∃ u : Nat → Nat → Int32, u = upr v_4 (29 + 15 * i) (upd (v_4 (29 + 15 * i)) 4 0) := ⟨_, rfl⟩
  have hP : va_P (dC, dI) vwCl (wl ad kv cy N v_5) H := by rw [ev_5, ← wl_put (e := _) (ce_9 (kd_c _ hi).1.1)]; exact hP
  have hD : va_D A (wl ad kv cy N v_5) := by rw [ev_5, ← wl_put (e := _) (ce_9 (kd_c _ hi).1.1)]; exact hD
  have hv : Iv v_5 := by rw [ev_5]; exact hv.put (K := 9) (kd_c _ hi).1.1 (fun h q => by simp [bd] at q)
  refine lv_aload_n hx hb dX0_begin_25 rfl (lv_at hl 0 rfl) ?_
  refine lv_iconst (v := 0) hx hb dX0_begin_26 (by decide) ?_
  refine va_put (D := (dC, dI)) (ci := 0) (v := .int 0) (ty := .int) (C := RX0) (T := TX0) (N := 11) hx hb hts iwX0_begin_X0 tyX0 tyX0_ok nmX0 hown hK hP hD hS (29 + 15 * i) (wl_at (by omega) (ce_9 (kd_c _ hi).1.1)) rfl 5 (by decide) (hts (.fieldLink RX0 49 "QuietStairs$Case" "termCount" "I") fwX0_begin_6) (fun _ h9 => h9) rfl (by decide +kernel) rfl rfl (Nat.le_of_ble_eq_true rfl) dX0_begin_27 (fun H locs hP hD hS => ?_)
  obtain ⟨v_6, ev_6⟩ : ∃ u : Nat → Nat → Int32, u = upr v_5 (29 + 15 * i) (upd (v_5 (29 + 15 * i)) 5 0) := ⟨_, rfl⟩
  have hP : va_P (dC, dI) vwCl (wl ad kv cy N v_6) H := by rw [ev_6, ← wl_put (e := _) (ce_9 (kd_c _ hi).1.1)]; exact hP
  have hD : va_D A (wl ad kv cy N v_6) := by rw [ev_6, ← wl_put (e := _) (ce_9 (kd_c _ hi).1.1)]; exact hD
  have hv : Iv v_6 := by rw [ev_6]; exact hv.put (K := 9) (kd_c _ hi).1.1 (fun h q => by cases q; exact ⟨by omega, by omega⟩)
  refine lv_aload_n hx hb dX0_begin_30 rfl (lv_at hl 0 rfl) ?_
  refine va_get (D := (dC, dI)) (ci := 0) (v := .ref (ad (29 + 15 * i + 1))) (C := RX0) (T := TX0) (N := 11) hx hb hts iwX0_begin_X0 hown hK hP (29 + 15 * i) (wl_at (by omega) (ce_9 (kd_c _ hi).1.1)) rfl 6 (by decide) (hts (.fieldLink RX0 9 "QuietStairs$Case" "parties" "[I") fwX0_begin_7) (fun _ h9 => h9) rfl dX0_begin_31 ?_
  refine W.eq (g2 := F0 m 34 ls [.ref (ad (30 + 15 * i))]) (by rw [show 29 + 15 * i + 1 = 30 + 15 * i from by omega]) ?_
  refine lv_iconst (v := 0) hx hb dX0_begin_34 (by decide) ?_
  refine lv_iload_n hx hb dX0_begin_35 rfl (lv_at hl 1 rfl) ?_
  refine va_iast hx hb hK hP hD hS (30 + 15 * i) 0 (wl_at (by omega) (ce_10 (kd_c _ hi).1.2.1)) rfl (by unfold vp_in; decide) dX0_begin_36 (fun H locs hP hD hS => ?_)
  have hP : va_P (dC, dI) vwCl ((wl ad kv cy N v_6).set (30 + 15 * i) (ad (30 + 15 * i), .inl (cy 0, 2, .inl (upd (v_6 (30 + 15 * i)) 0 x0)))) H := hP
  have hD : va_D A ((wl ad kv cy N v_6).set (30 + 15 * i) (ad (30 + 15 * i), .inl (cy 0, 2, .inl (upd (v_6 (30 + 15 * i)) 0 x0)))) := hD
  obtain ⟨v_7, ev_7⟩ : ∃ u : Nat → Nat → Int32, u = upr v_6 (30 + 15 * i) (upd (v_6 (30 + 15 * i)) 0 x0) := ⟨_, rfl⟩
  have hP : va_P (dC, dI) vwCl (wl ad kv cy N v_7) H := by rw [ev_7, ← wl_put (e := _) (ce_10 (kd_c _ hi).1.2.1)]; exact hP
  have hD : va_D A (wl ad kv cy N v_7) := by rw [ev_7, ← wl_put (e := _) (ce_10 (kd_c _ hi).1.2.1)]; exact hD
  have hv : Iv v_7 := by rw [ev_7]; exact hv.put (K := 10) (kd_c _ hi).1.2.1 (fun h q => by cases q; exact ⟨by omega, by omega⟩)
  refine lv_aload_n hx hb dX0_begin_37 rfl (lv_at hl 0 rfl) ?_
  refine va_get (D := (dC, dI)) (ci := 0) (v := .ref (ad (29 + 15 * i + 1))) (C := RX0) (T := TX0) (N := 11) hx hb hts iwX0_begin_X0 hown hK hP (29 + 15 * i) (wl_at (by omega) (ce_9 (kd_c _ hi).1.1)) rfl 6 (by decide) (hts (.fieldLink RX0 9 "QuietStairs$Case" "parties" "[I") fwX0_begin_7) (fun _ h9 => h9) rfl dX0_begin_38 ?_
  refine W.eq (g2 := F0 m 41 ls [.ref (ad (30 + 15 * i))]) (by rw [show 29 + 15 * i + 1 = 30 + 15 * i from by omega]) ?_
  refine lv_iconst (v := 1) hx hb dX0_begin_41 (by decide) ?_
  refine lv_iload_n hx hb dX0_begin_42 rfl (lv_at hl 2 rfl) ?_
  refine va_iast hx hb hK hP hD hS (30 + 15 * i) 0 (wl_at (by omega) (ce_10 (kd_c _ hi).1.2.1)) rfl (by unfold vp_in; decide) dX0_begin_43 (fun H locs hP hD hS => ?_)
  have hP : va_P (dC, dI) vwCl ((wl ad kv cy N v_7).set (30 + 15 * i) (ad (30 + 15 * i), .inl (cy 0, 2, .inl (upd (v_7 (30 + 15 * i)) 1 x1)))) H := hP
  have hD : va_D A ((wl ad kv cy N v_7).set (30 + 15 * i) (ad (30 + 15 * i), .inl (cy 0, 2, .inl (upd (v_7 (30 + 15 * i)) 1 x1)))) := hD
  obtain ⟨v_8, ev_8⟩ : ∃ u : Nat → Nat → Int32, u = upr v_7 (30 + 15 * i) (upd (v_7 (30 + 15 * i)) 1 x1) := ⟨_, rfl⟩
  have hP : va_P (dC, dI) vwCl (wl ad kv cy N v_8) H := by rw [ev_8, ← wl_put (e := _) (ce_10 (kd_c _ hi).1.2.1)]; exact hP
  have hD : va_D A (wl ad kv cy N v_8) := by rw [ev_8, ← wl_put (e := _) (ce_10 (kd_c _ hi).1.2.1)]; exact hD
  have hv : Iv v_8 := by rw [ev_8]; exact hv.put (K := 10) (kd_c _ hi).1.2.1 (fun h q => by cases q; exact ⟨by omega, by omega⟩)
  refine lv_iconst (v := 0) hx hb dX0_begin_44 (by decide) ?_
  refine lv_istore_n (lv' := [(3, .int 0), (0, .ref (ad (29 + 15 * i))), (1, .int x0), (2, .int x1)]) hx hb dX0_begin_45 rfl hl (by decide) rfl (fun ls hl => ?_)
  have hc_9 : ∀ (n : Nat) (y9_3 : Int32) (u9 : Nat → Nat → Int32) (H : Heap) (locs : List Loc), 0 ≤ y9_3.toInt → y9_3.toInt ≤ 2 → (∀ k j : Nat, u9 k j = if 36 + 15 * i ≤ k ∧ (k : Int) < 36 + 15 * (i : Int) + y9_3.toInt ∧ j < 24 then 7 else if k = 31 + 15 * i ∧ (j : Int) < y9_3.toInt then -1 else v_8 k j) → (2 - y9_3.toInt).toNat < n → Iv u9 → va_P (dC, dI) vwCl (wl ad kv cy N u9) H → va_D A (wl ad kv cy N u9) → va_S A s.heap H locs → ∀ ls : Array Slot, lv_has ls 5 [(3, .int y9_3), (0, .ref (ad (29 + 15 * i))), (1, .int x0), (2, .int x1)] → W p l e (headSpec wsX0_begin ({ frames := 0, cells := 0, slots := 0, locals := 0 })).room s m [Value.ref (ad (29 + 15 * i)), Value.int x0, Value.int x1].toArray below meth c H locs 0 0 (MQ below (va_Qv (fun (u : Nat → Nat → Int32) => Iv u ∧ (∀ k j : Nat, u k j = if 36 + 15 * i ≤ k ∧ (k : Int) < 36 + 15 * (i : Int) + 2 ∧ j < 24 then 7 else if k = 31 + 15 * i ∧ (j : Int) < 2 then -1 else if k = 30 + 15 * i ∧ j = 1 then x1 else if k = 30 + 15 * i ∧ j = 0 then x0 else if k = 29 + 15 * i ∧ j = 5 then 0 else if k = 29 + 15 * i ∧ j = 4 then 0 else if k = 29 + 15 * i ∧ j = 3 then 1 else if k = 29 + 15 * i ∧ j = 2 then 0 else if k = 29 + 15 * i ∧ j = 1 then 0 else if k = 29 + 15 * i ∧ j = 0 then 0 else v k j)) (fun u t => ex_Pst dC dI A (wl ad kv cy N u) t) A) [Value.ref (ad (29 + 15 * i)), Value.int x0, Value.int x1].toArray s 0 0 A) (F0 m 46 ls []) := by
    intro n
    induction n with
    | zero =>
      intro y9_3 u9 H locs ay9_3 by9_3 hi9_0 hm_9 hv hP hD hS ls hl
      exact absurd hm_9 (by omega)
    | succ n ih_9 =>
      intro y9_3 u9 H locs ay9_3 by9_3 hi9_0 hm_9 hv hP hD hS ls hl
      refine lv_iload_n hx hb dX0_begin_46 rfl (lv_at hl 0 rfl) ?_
      refine lv_iconst (v := 2) hx hb dX0_begin_47 (by decide) ?_
      have k_2 : (2 : Int32).toInt = 2 := by decide
      refine lv_icmp_ge (tgt := 91) hx hb dX0_begin_48 (by decide) (fun c_10 => ?_) (fun c_10 => ?_)
      · have tc_10 : y9_3.toInt ≥ (2 : Int32).toInt := Int32.le_iff_toInt_le.mp c_10
        have hy : y9_3.toInt = 2 := by omega
        exact W.vret hx hb hr (fun t ht hW => ⟨⟨u9, rfl, ⟨hv, fun k j => by rw [hi9_0 k j, hy, ev_8, up2, ev_7, up2, ev_6, up2, ev_5, up2, ev_4, up2, ev_3, up2, ev_2, up2, ev_1, up2]⟩, by rw [ht]; exact hP, hD⟩, hS.F ht⟩) hS.2.2 dX0_begin_91
      · have tc_10 : y9_3.toInt < (2 : Int32).toInt := Int32.lt_iff_toInt_lt.mp (Int32.not_le.mp c_10)
        refine lv_aload_n hx hb dX0_begin_51 rfl (lv_at hl 1 rfl) ?_
        refine va_get (D := (dC, dI)) (ci := 0) (v := .ref (ad (29 + 15 * i + 2))) (C := RX0) (T := TX0) (N := 11) hx hb hts iwX0_begin_X0 hown hK hP (29 + 15 * i) (wl_at (by omega) (ce_9 (kd_c _ hi).1.1)) rfl 7 (by decide) (hts (.fieldLink RX0 15 "QuietStairs$Case" "box" "[I") fwX0_begin_8) (fun _ h9 => h9) rfl dX0_begin_52 ?_
        refine W.eq (g2 := F0 m 55 ls [.ref (ad (31 + 15 * i))]) (by rw [show 29 + 15 * i + 2 = 31 + 15 * i from by omega]) ?_
        refine lv_iload_n hx hb dX0_begin_55 rfl (lv_at hl 0 rfl) ?_
        refine lv_iconst (v := (-1)) hx hb dX0_begin_56 (by decide) ?_
        have zn_y9_3 : (y9_3.toNatClampNeg : Int) = y9_3.toInt := t_nn (by omega)
        have hx_11 : y9_3.toNatClampNeg < 2 := by omega
        refine va_iast hx hb hK hP hD hS (31 + 15 * i) 0 (wl_at (by omega) (ce_20 (kd_c _ hi).1.2.2.1)) rfl (vp_in_iff.mpr ⟨by omega, by omega⟩) dX0_begin_57 (fun H locs hP hD hS => ?_)
        have k_m1 : ((-1) : Int32).toInt = -1 := by decide
        obtain ⟨v_12, ev_12⟩ : ∃ u : Nat → Nat → Int32, u = upr u9 (31 + 15 * i) (upd (u9 (31 + 15 * i)) (y9_3.toNatClampNeg) (-1)) := ⟨_, rfl⟩
        have hP : va_P (dC, dI) vwCl (wl ad kv cy N v_12) H := by rw [ev_12, ← wl_put (e := _) (ce_20 (kd_c _ hi).1.2.2.1)]; exact hP
        have hD : va_D A (wl ad kv cy N v_12) := by rw [ev_12, ← wl_put (e := _) (ce_20 (kd_c _ hi).1.2.2.1)]; exact hD
        have hv : Iv v_12 := by rw [ev_12]; exact hv.put (K := 20) (kd_c _ hi).1.2.2.1 (fun h q => by simp [bd] at q)
        refine lv_iconst (v := 0) hx hb dX0_begin_58 (by decide) ?_
        refine lv_istore (lv' := [(4, .int 0), (3, .int y9_3), (0, .ref (ad (29 + 15 * i))), (1, .int x0), (2, .int x1)]) hx hb dX0_begin_59 hl (by decide) rfl (fun ls hl => ?_)
        have hc_13 : ∀ (n : Nat) (y13_4 : Int32) (u13 : Nat → Nat → Int32) (H : Heap) (locs : List Loc), 0 ≤ y13_4.toInt → y13_4.toInt ≤ 24 → (∀ k j : Nat, u13 k j = if k = 36 + 15 * i + y9_3.toNatClampNeg ∧ (j : Int) < y13_4.toInt then 7 else v_12 k j) → (24 - y13_4.toInt).toNat < n → Iv u13 → va_P (dC, dI) vwCl (wl ad kv cy N u13) H → va_D A (wl ad kv cy N u13) → va_S A s.heap H locs → ∀ ls : Array Slot, lv_has ls 5 [(4, .int y13_4), (3, .int y9_3), (0, .ref (ad (29 + 15 * i))), (1, .int x0), (2, .int x1)] → W p l e (headSpec wsX0_begin ({ frames := 0, cells := 0, slots := 0, locals := 0 })).room s m [Value.ref (ad (29 + 15 * i)), Value.int x0, Value.int x1].toArray below meth c H locs 0 0 (MQ below (va_Qv (fun (u : Nat → Nat → Int32) => Iv u ∧ (∀ k j : Nat, u k j = if 36 + 15 * i ≤ k ∧ (k : Int) < 36 + 15 * (i : Int) + 2 ∧ j < 24 then 7 else if k = 31 + 15 * i ∧ (j : Int) < 2 then -1 else if k = 30 + 15 * i ∧ j = 1 then x1 else if k = 30 + 15 * i ∧ j = 0 then x0 else if k = 29 + 15 * i ∧ j = 5 then 0 else if k = 29 + 15 * i ∧ j = 4 then 0 else if k = 29 + 15 * i ∧ j = 3 then 1 else if k = 29 + 15 * i ∧ j = 2 then 0 else if k = 29 + 15 * i ∧ j = 1 then 0 else if k = 29 + 15 * i ∧ j = 0 then 0 else v k j)) (fun u t => ex_Pst dC dI A (wl ad kv cy N u) t) A) [Value.ref (ad (29 + 15 * i)), Value.int x0, Value.int x1].toArray s 0 0 A) (F0 m 61 ls []) := by
          intro n
          induction n with
          | zero =>
            intro y13_4 u13 H locs ay13_4 by13_4 hi13_0 hm_13 hv hP hD hS ls hl
            exact absurd hm_13 (by omega)
          | succ n ih_13 =>
            intro y13_4 u13 H locs ay13_4 by13_4 hi13_0 hm_13 hv hP hD hS ls hl
            refine lv_iload hx hb dX0_begin_61 (lv_at hl 0 rfl) ?_
            refine lv_bipush (v := 24) hx hb dX0_begin_63 (by decide) ?_
            have k_24 : (24 : Int32).toInt = 24 := by decide
            refine lv_icmp_ge (tgt := 85) hx hb dX0_begin_65 (by decide) (fun c_14 => ?_) (fun c_14 => ?_)
            · have tc_14 : y13_4.toInt ≥ (24 : Int32).toInt := Int32.le_iff_toInt_le.mp c_14
              obtain ⟨x_15, ex_15⟩ : ∃ y : Int32, y = y9_3 + 1 := ⟨_, rfl⟩
              refine lv_iinc (v := x_15) (lv' := [(3, .int x_15), (4, .int y13_4), (0, .ref (ad (29 + 15 * i))), (1, .int x0), (2, .int x1)]) hx hb dX0_begin_85 hl (k := 1) rfl (by rw [ex_15]; rfl) (by decide) rfl (fun ls hl => ?_)
              have tx_15 : x_15.toInt = y9_3.toInt + (1 : Int32).toInt := by rw [ex_15]; exact t_add ⟨by omega, by omega⟩
              refine lv_goto (tgt := 46) hx hb dX0_begin_88 (by decide) ?_
              exact ih_9 x_15 u13 _ _ (by omega) (by omega) (fun k j => by rw [hi13_0 k j, ev_12, up2, hi9_0 k j]; (repeat' split); all_goals first | rfl | (exfalso; omega)) (by omega) hv hP hD hS ls (lv_sub hl [0, 2, 3, 4] rfl)
            · have tc_14 : y13_4.toInt < (24 : Int32).toInt := Int32.lt_iff_toInt_lt.mp (Int32.not_le.mp c_14)
              refine lv_aload_n hx hb dX0_begin_68 rfl (lv_at hl 2 rfl) ?_
              refine va_get (D := (dC, dI)) (ci := 0) (v := .ref (ad (29 + 15 * i + 6))) (C := RX0) (T := TX0) (N := 11) hx hb hts iwX0_begin_X0 hown hK hP (29 + 15 * i) (wl_at (by omega) (ce_9 (kd_c _ hi).1.1)) rfl 9 (by decide) (hts (.fieldLink RX0 23 "QuietStairs$Case" "logs" "[[I") fwX0_begin_9) (fun _ h9 => h9) rfl dX0_begin_69 ?_
              refine W.eq (g2 := F0 m 72 ls [.ref (ad (35 + 15 * i))]) (by rw [show 29 + 15 * i + 6 = 35 + 15 * i from by omega]) ?_
              refine lv_iload_n hx hb dX0_begin_72 rfl (lv_at hl 1 rfl) ?_
              refine ya_ald hx hb hK hP (35 + 15 * i) (wl_at (by omega) (ce_13 (kd_c _ hi).1.2.2.2.2.1)) (vp_in_iff.mpr ⟨by omega, by omega⟩) dX0_begin_73 ?_
              refine W.eq (g2 := F0 m 74 ls [.ref (ad (36 + 15 * i + y9_3.toNatClampNeg))]) (by rw [if_pos hx_11, show 35 + 15 * i + 1 + y9_3.toNatClampNeg = 36 + 15 * i + y9_3.toNatClampNeg from by omega]; rfl) ?_
              refine lv_iload hx hb dX0_begin_74 (lv_at hl 0 rfl) ?_
              refine lv_bipush (v := 7) hx hb dX0_begin_76 (by decide) ?_
              have zn_y13_4 : (y13_4.toNatClampNeg : Int) = y13_4.toInt := t_nn (by omega)
              have hx_15 : y13_4.toNatClampNeg < 24 := by omega
              refine va_iast hx hb hK hP hD hS (36 + 15 * i + y9_3.toNatClampNeg) 0 (wl_at (by omega) (ce_14 (kd_o _ hi _ hx_11).1.2)) rfl (vp_in_iff.mpr ⟨by omega, by omega⟩) dX0_begin_78 (fun H locs hP hD hS => ?_)
              have k_7 : (7 : Int32).toInt = 7 := by decide
              obtain ⟨v_16, ev_16⟩ : ∃ u : Nat → Nat → Int32, u = upr u13 (36 + 15 * i + y9_3.toNatClampNeg) (upd (u13 (36 + 15 * i + y9_3.toNatClampNeg)) (y13_4.toNatClampNeg) 7) := ⟨_, rfl⟩
              have hP : va_P (dC, dI) vwCl (wl ad kv cy N v_16) H := by rw [ev_16, ← wl_put (e := _) (ce_14 (kd_o _ hi _ hx_11).1.2)]; exact hP
              have hD : va_D A (wl ad kv cy N v_16) := by rw [ev_16, ← wl_put (e := _) (ce_14 (kd_o _ hi _ hx_11).1.2)]; exact hD
              have hv : Iv v_16 := by rw [ev_16]; exact hv.put (K := 14) (kd_o _ hi _ hx_11).1.2 (fun h q => by simp [bd] at q)
              obtain ⟨x_17, ex_17⟩ : ∃ y : Int32, y = y13_4 + 1 := ⟨_, rfl⟩
              refine lv_iinc (v := x_17) (lv' := [(4, .int x_17), (3, .int y9_3), (0, .ref (ad (29 + 15 * i))), (1, .int x0), (2, .int x1)]) hx hb dX0_begin_79 hl (k := 0) rfl (by rw [ex_17]; rfl) (by decide) rfl (fun ls hl => ?_)
              have tx_17 : x_17.toInt = y13_4.toInt + (1 : Int32).toInt := by rw [ex_17]; exact t_add ⟨by omega, by omega⟩
              refine lv_goto (tgt := 61) hx hb dX0_begin_82 (by decide) ?_
              exact ih_13 x_17 v_16 _ _ (by omega) (by omega) (fun k j => by rw [ev_16, up2, hi13_0 k j]; (repeat' split); all_goals first | rfl | (exfalso; omega)) (by omega) hv hP hD hS ls (lv_sub hl [0, 1, 2, 3, 4] rfl)
        exact hc_13 ((24 - (0 : Int32).toInt).toNat + 1) 0 v_12 _ _ (by omega) (by omega) (fun k j => by rw [if_neg (by omega)]) (by omega) hv hP hD hS ls (lv_sub hl [0, 1, 2, 3, 4] rfl)
  exact hc_9 ((2 - (0 : Int32).toInt).toNat + 1) 0 v_8 _ _ (by omega) (by omega) (fun k j => by rw [if_neg (by omega), if_neg (by omega)]) (by omega) hv hP hD hS ls (lv_sub hl [0, 1, 2, 3] rfl)

set_option maxHeartbeats 4000000 in
set_option maxRecDepth 100000 in
theorem e_X7_open (l : Launch) (dC : Nat → ClassId) (dI : Nat → Nat → Nat) (cy : Nat → ClassId) (sz : Nat) (ad : Nat → Nat) (kv : Value) (N : Nat) (hN : 119 ≤ N) (v : Nat → Nat → Int32) (hv : Iv v) (x0 x1 : Int32) : Met l yX7_open wsX7_open ({ frames := 3, cells := 0, slots := 0, locals := 192 }) (va_Pc [.ref (ad 0), .int x0, .int x1] (ex_Pre dC dI cy sz (wl ad kv cy N v))) (va_Qi (fun (r : Int32) (u : Nat → Nat → Int32) => Iv u ∧ (¬ ((0 ≤ x0.toInt ∧ x0.toInt < (v 13 0).toInt) ∧ (0 ≤ x1.toInt ∧ x1.toInt < (v 13 0).toInt) ∧ x0.toInt ≠ x1.toInt) → r = -1 ∧ u = v) ∧ (((0 ≤ x0.toInt ∧ x0.toInt < (v 13 0).toInt) ∧ (0 ≤ x1.toInt ∧ x1.toInt < (v 13 0).toInt) ∧ x0.toInt ≠ x1.toInt) ∧ 6 ≤ (v 13 2).toInt → r = -2 ∧ u = v) ∧ (((0 ≤ x0.toInt ∧ x0.toInt < (v 13 0).toInt) ∧ (0 ≤ x1.toInt ∧ x1.toInt < (v 13 0).toInt) ∧ x0.toInt ≠ x1.toInt) ∧ (v 13 2).toInt < 6 → r = v 13 2 ∧ (∀ k j : Nat, u k j = if k = 13 ∧ j = 2 then v 13 2 + 1 else if 36 + 15 * (v 13 2).toNatClampNeg ≤ k ∧ (k : Int) < 36 + 15 * ((v 13 2).toNatClampNeg : Int) + 2 ∧ j < 24 then 7 else if k = 31 + 15 * (v 13 2).toNatClampNeg ∧ (j : Int) < 2 then -1 else if k = 30 + 15 * (v 13 2).toNatClampNeg ∧ j = 1 then x1 else if k = 30 + 15 * (v 13 2).toNatClampNeg ∧ j = 0 then x0 else if k = 29 + 15 * (v 13 2).toNatClampNeg ∧ j = 5 then 0 else if k = 29 + 15 * (v 13 2).toNatClampNeg ∧ j = 4 then 0 else if k = 29 + 15 * (v 13 2).toNatClampNeg ∧ j = 3 then 1 else if k = 29 + 15 * (v 13 2).toNatClampNeg ∧ j = 2 then 0 else if k = 29 + 15 * (v 13 2).toNatClampNeg ∧ j = 1 then 0 else if k = 29 + 15 * (v 13 2).toNatClampNeg ∧ j = 0 then 0 else v k j))) (fun u t => ex_Pst dC dI (va_A (wl ad kv cy N v) sz) (wl ad kv cy N u) t) (va_A (wl ad kv cy N v) sz)) 0 0 (va_A (wl ad kv cy N v) sz) := by
  refine Met.ofW (cc := cX7_open) (maxL := 3) (ret := (some .int)) (by decide) rfl ?_
  intro p e s m args below meth c s₁ B hml hv
  obtain ⟨rfl, hsz, hE, hP, hK, hD0⟩ := hv
  have hx := B.exec
  have hb := B.bytes
  have hr := B.returns
  have hts := atoms_spec (ws := wsX7_open) B.pre
  have hown : s.vm.findClass RX7 = some m.cls := findClass_of_methodNamed B.named
  have hlocks := B.notSynchronized
  subst hsz
  have hD := hD0.self (sz := s.heap.size)
  generalize hAe : va_A (wl ad kv cy N v) s.heap.size = A at hD ⊢
  have hA : ∀ q : Nat, s.heap.size ≤ q → A q := fun q h => by rw [← hAe]; exact Or.inr h
  have hS : va_S A s.heap s.heap [] := va_S.rf
  have hP : va_P (dC, dI) vwCl (wl ad kv cy N v) s.heap := hP
  have hl := lv_entry ([.ref (ad 0), .int x0, .int x1]) (n := 3) (Nat.le_of_ble_eq_true rfl)
  rw [lg_entry_eq]
  generalize (lg_sl ([.ref (ad 0), .int x0, .int x1]) ++ List.replicate (3 - (lg_sl ([.ref (ad 0), .int x0, .int x1])).length) Slot.unset).toArray = ls at hl ⊢
  have hl : lv_has ls 3 [(0, .ref (ad 0)), (1, .int x0), (2, .int x1)] := hl
  refine lv_aload_n hx hb dX7_open_0 rfl (lv_at hl 0 rfl) ?_
  refine lv_iload_n hx hb dX7_open_1 rfl (lv_at hl 1 rfl) ?_
  refine yw_i (w1 := fun (u : Nat → Nat → Int32) => wl ad kv cy N u) hD hS hA (va_runV (As := [.int x0]) (rest := []) ⟨hx, hb, hml, hown, hts⟩ (g_X7_isParty l dC dI cy _ ad kv N hN v hv x0) (cwV 1 hts gX7_open_X7_isParty rfl rfl rfl hd_V_X7_isParty_1 ⟨Nat.le_of_ble_eq_true rfl, Nat.le_of_ble_eq_true rfl⟩) (yw_preV hE hK hP hD (ci := 7) (q0 := 0) rfl (wl_at (by omega) (ce_0 (by decide)))) rfl rfl hl.1 rfl (lv_room (Nat.le_of_ble_eq_true rfl)) dX7_open_2 ⟨Nat.le_of_ble_eq_true rfl, Nat.le_of_ble_eq_true rfl⟩) (fun r_1 v_1 H locs hw_1 hP hD hS => ?_)
  obtain ⟨-, hu_1, hw_1⟩ := hw_1
  replace hu_1 := hu_1.symm
  subst hu_1
  rcases hw_1 with ⟨rfl, ha_2⟩ | ⟨rfl, ha_2⟩
  · have hb_2 := hv.at (k := 13) (j := 0) (K := 3) (by decide) rfl
    have hj_2 : 0 ≤ x0.toInt ∧ x0.toInt ≤ 7 := ⟨by omega, by omega⟩
    refine lv_if_eq (tgt := 21) hx hb dX7_open_5 (by decide) (fun c9 => absurd c9 (by decide)) (fun _ => ?_)
    refine lv_aload_n hx hb dX7_open_8 rfl (lv_at hl 0 rfl) ?_
    refine lv_iload_n hx hb dX7_open_9 rfl (lv_at hl 2 rfl) ?_
    refine yw_i (w1 := fun (u : Nat → Nat → Int32) => wl ad kv cy N u) hD hS hA (va_runV (As := [.int x1]) (rest := []) ⟨hx, hb, hml, hown, hts⟩ (g_X7_isParty l dC dI cy _ ad kv N hN v hv x1) (cwV 1 hts gX7_open_X7_isParty rfl rfl rfl hd_V_X7_isParty_1 ⟨Nat.le_of_ble_eq_true rfl, Nat.le_of_ble_eq_true rfl⟩) (yw_preV hE hK hP hD (ci := 7) (q0 := 0) rfl (wl_at (by omega) (ce_0 (by decide)))) rfl rfl hl.1 rfl (lv_room (Nat.le_of_ble_eq_true rfl)) dX7_open_10 ⟨Nat.le_of_ble_eq_true rfl, Nat.le_of_ble_eq_true rfl⟩) (fun r_3 v_3 H locs hw_3 hP hD hS => ?_)
    obtain ⟨-, hu_3, hw_3⟩ := hw_3
    replace hu_3 := hu_3.symm
    subst hu_3
    rcases hw_3 with ⟨rfl, ha_4⟩ | ⟨rfl, ha_4⟩
    · have hb_4 := hv.at (k := 13) (j := 0) (K := 3) (by decide) rfl
      have hj_4 : 0 ≤ x1.toInt ∧ x1.toInt ≤ 7 := ⟨by omega, by omega⟩
      refine lv_if_eq (tgt := 21) hx hb dX7_open_13 (by decide) (fun c9 => absurd c9 (by decide)) (fun _ => ?_)
      refine lv_iload_n hx hb dX7_open_16 rfl (lv_at hl 1 rfl) ?_
      refine lv_iload_n hx hb dX7_open_17 rfl (lv_at hl 2 rfl) ?_
      refine lv_icmp_ne (tgt := 23) hx hb dX7_open_18 (by decide) (fun c_5 => ?_) (fun c_5 => ?_)
      · have tc_5 : x0.toInt ≠ x1.toInt := fun q => absurd (Int32.toInt_inj.mp q) c_5
        refine lv_aload_n hx hb dX7_open_23 rfl (lv_at hl 0 rfl) ?_
        refine va_get (D := (dC, dI)) (ci := 7) (v := .ref (ad 13)) (C := RX7) (T := TX7) (N := 5) hx hb hts iwX7_open_X7 hown hK hP (0) (wl_at (by omega) (ce_0 (by decide))) rfl 0 (by decide) (hts (.fieldLink RX7 12 "QuietStairs" "now" "LQuietStairs$House;") fwX7_open_1) (fun _ h9 => h9) rfl dX7_open_24 ?_
        refine va_get (D := (dC, dI)) (ci := 1) (v := .int (v (13) 2)) (C := RX1) (T := TX1) (N := 7) hx hb hts iwX7_open_X1 hown hK hP (13) (wl_at (by omega) (ce_3 (by decide))) rfl 2 (by decide) (hts (.fieldLink RX7 83 "QuietStairs$House" "caseCount" "I") fwX7_open_2) (fun _ h9 => h9) rfl dX7_open_27 ?_
        refine lv_topi (fun x_6 ex_6 => ?_)
        have bzx_6 : 0 ≤ x_6.toInt ∧ x_6.toInt ≤ 6 := by rw [ex_6]; exact hv.at (K := 3) (by decide) rfl
        have qx_6 : x_6.toInt = (v (13) (2)).toInt := congrArg Int32.toInt ex_6
        refine lv_bipush (v := 6) hx hb dX7_open_30 (by decide) ?_
        have k_6 : (6 : Int32).toInt = 6 := by decide
        refine lv_icmp_lt (tgt := 38) hx hb dX7_open_32 (by decide) (fun c_7 => ?_) (fun c_7 => ?_)
        · have tc_7 : x_6.toInt < (6 : Int32).toInt := Int32.lt_iff_toInt_lt.mp c_7
          refine lv_aload_n hx hb dX7_open_38 rfl (lv_at hl 0 rfl) ?_
          refine va_get (D := (dC, dI)) (ci := 7) (v := .ref (ad 13)) (C := RX7) (T := TX7) (N := 5) hx hb hts iwX7_open_X7 hown hK hP (0) (wl_at (by omega) (ce_0 (by decide))) rfl 0 (by decide) (hts (.fieldLink RX7 12 "QuietStairs" "now" "LQuietStairs$House;") fwX7_open_1) (fun _ h9 => h9) rfl dX7_open_39 ?_
          refine va_get (D := (dC, dI)) (ci := 1) (v := .ref (ad 16)) (C := RX1) (T := TX1) (N := 7) hx hb hts iwX7_open_X1 hown hK hP (13) (wl_at (by omega) (ce_3 (by decide))) rfl 6 (by decide) (hts (.fieldLink RX7 86 "QuietStairs$House" "cases" "[LQuietStairs$Case;") fwX7_open_3) (fun _ h9 => h9) rfl dX7_open_42 ?_
          refine lv_aload_n hx hb dX7_open_45 rfl (lv_at hl 0 rfl) ?_
          refine va_get (D := (dC, dI)) (ci := 7) (v := .ref (ad 13)) (C := RX7) (T := TX7) (N := 5) hx hb hts iwX7_open_X7 hown hK hP (0) (wl_at (by omega) (ce_0 (by decide))) rfl 0 (by decide) (hts (.fieldLink RX7 12 "QuietStairs" "now" "LQuietStairs$House;") fwX7_open_1) (fun _ h9 => h9) rfl dX7_open_46 ?_
          refine va_get (D := (dC, dI)) (ci := 1) (v := .int (v (13) 2)) (C := RX1) (T := TX1) (N := 7) hx hb hts iwX7_open_X1 hown hK hP (13) (wl_at (by omega) (ce_3 (by decide))) rfl 2 (by decide) (hts (.fieldLink RX7 83 "QuietStairs$House" "caseCount" "I") fwX7_open_2) (fun _ h9 => h9) rfl dX7_open_49 ?_
          refine lv_topi (fun x_8 ex_8 => ?_)
          have bzx_8 : 0 ≤ x_8.toInt ∧ x_8.toInt ≤ 6 := by rw [ex_8]; exact hv.at (K := 3) (by decide) rfl
          obtain rfl : x_6 = x_8 := (ex_8.trans ex_6.symm).symm
          have zn_x_6 : (x_6.toNatClampNeg : Int) = x_6.toInt := t_nn (by omega)
          have hx_9 : x_6.toNatClampNeg < 6 := by omega
          refine va_aldq hx hb hK hP (16) 3 (wl_at (by omega) (ce_6 (by decide))) rfl (vp_in_iff.mpr ⟨by omega, by omega⟩) dX7_open_52 ?_
          refine W.eq (g2 := F0 m 53 ls [.ref (ad (29 + 15 * x_6.toNatClampNeg))]) (by rw [if_pos hx_9, show 16 + 13 + 15 * x_6.toNatClampNeg = 29 + 15 * x_6.toNatClampNeg from by omega]; rfl) ?_
          refine lv_iload_n hx hb dX7_open_53 rfl (lv_at hl 1 rfl) ?_
          refine lv_iload_n hx hb dX7_open_54 rfl (lv_at hl 2 rfl) ?_
          refine yw_v (w1 := fun (u : Nat → Nat → Int32) => wl ad kv cy N u) hD hS hA (va_runV (As := [.int x0, .int x1]) (rest := []) ⟨hx, hb, hml, hown, hts⟩ (e_X0_begin l dC dI cy _ ad kv N hN v hv x_6.toNatClampNeg hx_9 x0 x1 ⟨by omega, by omega⟩ ⟨by omega, by omega⟩) (cwV 2 hts gX7_open_X0_begin rfl rfl rfl hd_V_X0_begin_2 ⟨Nat.le_of_ble_eq_true rfl, Nat.le_of_ble_eq_true rfl⟩) (yw_preV hE hK hP hD (ci := 0) (q0 := (29 + 15 * x_6.toNatClampNeg)) rfl (wl_at (by omega) (ce_9 (kd_c _ hx_9).1.1))) rfl rfl hl.1 rfl (lv_room (Nat.le_of_ble_eq_true rfl)) dX7_open_55 ⟨Nat.le_of_ble_eq_true rfl, Nat.le_of_ble_eq_true rfl⟩) (fun v_10 H locs hw_10 hP hD hS => ?_)
          obtain ⟨hv, hw_10⟩ := hw_10
          have hk_11 : v_10 13 2 = v 13 2 := by rw [hw_10, if_neg (by omega), if_neg (by omega), if_neg (by omega), if_neg (by omega), if_neg (by omega), if_neg (by omega), if_neg (by omega), if_neg (by omega), if_neg (by omega), if_neg (by omega)]
          refine lv_aload_n hx hb dX7_open_58 rfl (lv_at hl 0 rfl) ?_
          refine va_get (D := (dC, dI)) (ci := 7) (v := .ref (ad 13)) (C := RX7) (T := TX7) (N := 5) hx hb hts iwX7_open_X7 hown hK hP (0) (wl_at (by omega) (ce_0 (by decide))) rfl 0 (by decide) (hts (.fieldLink RX7 12 "QuietStairs" "now" "LQuietStairs$House;") fwX7_open_1) (fun _ h9 => h9) rfl dX7_open_59 ?_
          refine lv_dup hx hb dX7_open_62 rfl ?_
          refine va_get (D := (dC, dI)) (ci := 1) (v := .int (v_10 (13) 2)) (C := RX1) (T := TX1) (N := 7) hx hb hts iwX7_open_X1 hown hK hP (13) (wl_at (by omega) (ce_3 (by decide))) rfl 2 (by decide) (hts (.fieldLink RX7 83 "QuietStairs$House" "caseCount" "I") fwX7_open_2) (fun _ h9 => h9) rfl dX7_open_63 ?_
          refine lv_topi (fun x_12 ex_12 => ?_)
          have bzx_12 : 0 ≤ x_12.toInt ∧ x_12.toInt ≤ 6 := by rw [ex_12]; exact hv.at (K := 3) (by decide) rfl
          rw [hk_11] at ex_12
          obtain rfl : x_6 = x_12 := (ex_12.trans ex_6.symm).symm
          refine lv_dup_x1 hx hb dX7_open_66 rfl rfl ?_
          refine lv_iconst (v := 1) hx hb dX7_open_67 (by decide) ?_
          refine lv_iadd hx hb dX7_open_68 ?_
          refine lv_topi (fun x_13 ex_13 => ?_)
          have k_1 : (1 : Int32).toInt = 1 := by decide
          have tx_13 : x_13.toInt = x_6.toInt + (1 : Int32).toInt := by rw [ex_13]; exact t_add ⟨by omega, by omega⟩
          refine va_put (D := (dC, dI)) (ci := 1) (v := .int x_13) (ty := .int) (C := RX1) (T := TX1) (N := 7) hx hb hts iwX7_open_X1 tyX1 tyX1_ok nmX1 hown hK hP hD hS (13) (wl_at (by omega) (ce_3 (by decide))) rfl 2 (by decide) (hts (.fieldLink RX7 83 "QuietStairs$House" "caseCount" "I") fwX7_open_2) (fun _ h9 => h9) rfl (by decide +kernel) rfl rfl (Nat.le_of_ble_eq_true rfl) dX7_open_69 (fun H locs hP hD hS => ?_)
          obtain ⟨v_14, ev_14⟩ : ∃ u : Nat → Nat → Int32, u = upr v_10 (13) (upd (v_10 (13)) 2 x_13) := ⟨_, rfl⟩
          have hP : va_P (dC, dI) vwCl (wl ad kv cy N v_14) H := by rw [ev_14, ← wl_put (e := _) (ce_3 (by decide))]; exact hP
          have hD : va_D A (wl ad kv cy N v_14) := by rw [ev_14, ← wl_put (e := _) (ce_3 (by decide))]; exact hD
          have hv : Iv v_14 := by rw [ev_14]; exact hv.put (K := 3) (by decide) (fun h q => by cases q; exact ⟨by omega, by omega⟩)
          have hpost : (¬ ((0 ≤ x0.toInt ∧ x0.toInt < (v 13 0).toInt) ∧ (0 ≤ x1.toInt ∧ x1.toInt < (v 13 0).toInt) ∧ x0.toInt ≠ x1.toInt) → x_6 = -1 ∧ v_14 = v) ∧ (((0 ≤ x0.toInt ∧ x0.toInt < (v 13 0).toInt) ∧ (0 ≤ x1.toInt ∧ x1.toInt < (v 13 0).toInt) ∧ x0.toInt ≠ x1.toInt) ∧ 6 ≤ (v 13 2).toInt → x_6 = -2 ∧ v_14 = v) ∧ (((0 ≤ x0.toInt ∧ x0.toInt < (v 13 0).toInt) ∧ (0 ≤ x1.toInt ∧ x1.toInt < (v 13 0).toInt) ∧ x0.toInt ≠ x1.toInt) ∧ (v 13 2).toInt < 6 → x_6 = v 13 2 ∧ (∀ k j : Nat, v_14 k j = if k = 13 ∧ j = 2 then v 13 2 + 1 else if 36 + 15 * (v 13 2).toNatClampNeg ≤ k ∧ (k : Int) < 36 + 15 * ((v 13 2).toNatClampNeg : Int) + 2 ∧ j < 24 then 7 else if k = 31 + 15 * (v 13 2).toNatClampNeg ∧ (j : Int) < 2 then -1 else if k = 30 + 15 * (v 13 2).toNatClampNeg ∧ j = 1 then x1 else if k = 30 + 15 * (v 13 2).toNatClampNeg ∧ j = 0 then x0 else if k = 29 + 15 * (v 13 2).toNatClampNeg ∧ j = 5 then 0 else if k = 29 + 15 * (v 13 2).toNatClampNeg ∧ j = 4 then 0 else if k = 29 + 15 * (v 13 2).toNatClampNeg ∧ j = 3 then 1 else if k = 29 + 15 * (v 13 2).toNatClampNeg ∧ j = 2 then 0 else if k = 29 + 15 * (v 13 2).toNatClampNeg ∧ j = 1 then 0 else if k = 29 + 15 * (v 13 2).toNatClampNeg ∧ j = 0 then 0 else v k j)) := by
            refine ⟨fun hq => ?_, fun hq => ?_, fun hq => ?_⟩
            · exfalso; omega
            · exfalso; omega
            · exact ⟨by rw [ex_6], fun k j => by rw [ev_14, up2, hw_10, ex_13, ex_6]⟩
          exact W.iret (v := x_6) hx hb hr (fun t ht hW => ⟨⟨x_6, v_14, rfl, ⟨hv, hpost⟩, by rw [ht]; exact hP, hD⟩, hS.F ht⟩) hS.2.2 dX7_open_72
        · have tc_7 : x_6.toInt ≥ (6 : Int32).toInt := Int32.le_iff_toInt_le.mp (Int32.not_lt.mp c_7)
          refine lv_bipush (v := (-2)) hx hb dX7_open_35 (by decide) ?_
          have hpost : (¬ ((0 ≤ x0.toInt ∧ x0.toInt < (v 13 0).toInt) ∧ (0 ≤ x1.toInt ∧ x1.toInt < (v 13 0).toInt) ∧ x0.toInt ≠ x1.toInt) → ((-2) : Int32) = -1 ∧ v = v) ∧ (((0 ≤ x0.toInt ∧ x0.toInt < (v 13 0).toInt) ∧ (0 ≤ x1.toInt ∧ x1.toInt < (v 13 0).toInt) ∧ x0.toInt ≠ x1.toInt) ∧ 6 ≤ (v 13 2).toInt → ((-2) : Int32) = -2 ∧ v = v) ∧ (((0 ≤ x0.toInt ∧ x0.toInt < (v 13 0).toInt) ∧ (0 ≤ x1.toInt ∧ x1.toInt < (v 13 0).toInt) ∧ x0.toInt ≠ x1.toInt) ∧ (v 13 2).toInt < 6 → ((-2) : Int32) = v 13 2 ∧ (∀ k j : Nat, v k j = if k = 13 ∧ j = 2 then v 13 2 + 1 else if 36 + 15 * (v 13 2).toNatClampNeg ≤ k ∧ (k : Int) < 36 + 15 * ((v 13 2).toNatClampNeg : Int) + 2 ∧ j < 24 then 7 else if k = 31 + 15 * (v 13 2).toNatClampNeg ∧ (j : Int) < 2 then -1 else if k = 30 + 15 * (v 13 2).toNatClampNeg ∧ j = 1 then x1 else if k = 30 + 15 * (v 13 2).toNatClampNeg ∧ j = 0 then x0 else if k = 29 + 15 * (v 13 2).toNatClampNeg ∧ j = 5 then 0 else if k = 29 + 15 * (v 13 2).toNatClampNeg ∧ j = 4 then 0 else if k = 29 + 15 * (v 13 2).toNatClampNeg ∧ j = 3 then 1 else if k = 29 + 15 * (v 13 2).toNatClampNeg ∧ j = 2 then 0 else if k = 29 + 15 * (v 13 2).toNatClampNeg ∧ j = 1 then 0 else if k = 29 + 15 * (v 13 2).toNatClampNeg ∧ j = 0 then 0 else v k j)) := by
            refine ⟨fun hq => ?_, fun hq => ?_, fun hq => ?_⟩
            · exfalso; omega
            · exact ⟨rfl, rfl⟩
            · exfalso; omega
          exact W.iret (v := (-2)) hx hb hr (fun t ht hW => ⟨⟨(-2), v, rfl, ⟨hv, hpost⟩, by rw [ht]; exact hP, hD⟩, hS.F ht⟩) hS.2.2 dX7_open_37
      · have tc_5 : x0.toInt = x1.toInt := by rw [c_5]
        refine lv_iconst (v := (-1)) hx hb dX7_open_21 (by decide) ?_
        have hpost : (¬ ((0 ≤ x0.toInt ∧ x0.toInt < (v 13 0).toInt) ∧ (0 ≤ x1.toInt ∧ x1.toInt < (v 13 0).toInt) ∧ x0.toInt ≠ x1.toInt) → ((-1) : Int32) = -1 ∧ v = v) ∧ (((0 ≤ x0.toInt ∧ x0.toInt < (v 13 0).toInt) ∧ (0 ≤ x1.toInt ∧ x1.toInt < (v 13 0).toInt) ∧ x0.toInt ≠ x1.toInt) ∧ 6 ≤ (v 13 2).toInt → ((-1) : Int32) = -2 ∧ v = v) ∧ (((0 ≤ x0.toInt ∧ x0.toInt < (v 13 0).toInt) ∧ (0 ≤ x1.toInt ∧ x1.toInt < (v 13 0).toInt) ∧ x0.toInt ≠ x1.toInt) ∧ (v 13 2).toInt < 6 → ((-1) : Int32) = v 13 2 ∧ (∀ k j : Nat, v k j = if k = 13 ∧ j = 2 then v 13 2 + 1 else if 36 + 15 * (v 13 2).toNatClampNeg ≤ k ∧ (k : Int) < 36 + 15 * ((v 13 2).toNatClampNeg : Int) + 2 ∧ j < 24 then 7 else if k = 31 + 15 * (v 13 2).toNatClampNeg ∧ (j : Int) < 2 then -1 else if k = 30 + 15 * (v 13 2).toNatClampNeg ∧ j = 1 then x1 else if k = 30 + 15 * (v 13 2).toNatClampNeg ∧ j = 0 then x0 else if k = 29 + 15 * (v 13 2).toNatClampNeg ∧ j = 5 then 0 else if k = 29 + 15 * (v 13 2).toNatClampNeg ∧ j = 4 then 0 else if k = 29 + 15 * (v 13 2).toNatClampNeg ∧ j = 3 then 1 else if k = 29 + 15 * (v 13 2).toNatClampNeg ∧ j = 2 then 0 else if k = 29 + 15 * (v 13 2).toNatClampNeg ∧ j = 1 then 0 else if k = 29 + 15 * (v 13 2).toNatClampNeg ∧ j = 0 then 0 else v k j)) := by
          refine ⟨fun hq => ?_, fun hq => ?_, fun hq => ?_⟩
          · exact ⟨rfl, rfl⟩
          · exfalso; omega
          · exfalso; omega
        exact W.iret (v := (-1)) hx hb hr (fun t ht hW => ⟨⟨(-1), v, rfl, ⟨hv, hpost⟩, by rw [ht]; exact hP, hD⟩, hS.F ht⟩) hS.2.2 dX7_open_22
    · refine lv_if_eq (tgt := 21) hx hb dX7_open_13 (by decide) (fun _ => ?_) (fun c9 => absurd c9 (by decide))
      refine lv_iconst (v := (-1)) hx hb dX7_open_21 (by decide) ?_
      have hpost : (¬ ((0 ≤ x0.toInt ∧ x0.toInt < (v 13 0).toInt) ∧ (0 ≤ x1.toInt ∧ x1.toInt < (v 13 0).toInt) ∧ x0.toInt ≠ x1.toInt) → ((-1) : Int32) = -1 ∧ v = v) ∧ (((0 ≤ x0.toInt ∧ x0.toInt < (v 13 0).toInt) ∧ (0 ≤ x1.toInt ∧ x1.toInt < (v 13 0).toInt) ∧ x0.toInt ≠ x1.toInt) ∧ 6 ≤ (v 13 2).toInt → ((-1) : Int32) = -2 ∧ v = v) ∧ (((0 ≤ x0.toInt ∧ x0.toInt < (v 13 0).toInt) ∧ (0 ≤ x1.toInt ∧ x1.toInt < (v 13 0).toInt) ∧ x0.toInt ≠ x1.toInt) ∧ (v 13 2).toInt < 6 → ((-1) : Int32) = v 13 2 ∧ (∀ k j : Nat, v k j = if k = 13 ∧ j = 2 then v 13 2 + 1 else if 36 + 15 * (v 13 2).toNatClampNeg ≤ k ∧ (k : Int) < 36 + 15 * ((v 13 2).toNatClampNeg : Int) + 2 ∧ j < 24 then 7 else if k = 31 + 15 * (v 13 2).toNatClampNeg ∧ (j : Int) < 2 then -1 else if k = 30 + 15 * (v 13 2).toNatClampNeg ∧ j = 1 then x1 else if k = 30 + 15 * (v 13 2).toNatClampNeg ∧ j = 0 then x0 else if k = 29 + 15 * (v 13 2).toNatClampNeg ∧ j = 5 then 0 else if k = 29 + 15 * (v 13 2).toNatClampNeg ∧ j = 4 then 0 else if k = 29 + 15 * (v 13 2).toNatClampNeg ∧ j = 3 then 1 else if k = 29 + 15 * (v 13 2).toNatClampNeg ∧ j = 2 then 0 else if k = 29 + 15 * (v 13 2).toNatClampNeg ∧ j = 1 then 0 else if k = 29 + 15 * (v 13 2).toNatClampNeg ∧ j = 0 then 0 else v k j)) := by
        refine ⟨fun hq => ?_, fun hq => ?_, fun hq => ?_⟩
        · exact ⟨rfl, rfl⟩
        · exfalso; omega
        · exfalso; omega
      exact W.iret (v := (-1)) hx hb hr (fun t ht hW => ⟨⟨(-1), v, rfl, ⟨hv, hpost⟩, by rw [ht]; exact hP, hD⟩, hS.F ht⟩) hS.2.2 dX7_open_22
  · refine lv_if_eq (tgt := 21) hx hb dX7_open_5 (by decide) (fun _ => ?_) (fun c9 => absurd c9 (by decide))
    refine lv_iconst (v := (-1)) hx hb dX7_open_21 (by decide) ?_
    have hpost : (¬ ((0 ≤ x0.toInt ∧ x0.toInt < (v 13 0).toInt) ∧ (0 ≤ x1.toInt ∧ x1.toInt < (v 13 0).toInt) ∧ x0.toInt ≠ x1.toInt) → ((-1) : Int32) = -1 ∧ v = v) ∧ (((0 ≤ x0.toInt ∧ x0.toInt < (v 13 0).toInt) ∧ (0 ≤ x1.toInt ∧ x1.toInt < (v 13 0).toInt) ∧ x0.toInt ≠ x1.toInt) ∧ 6 ≤ (v 13 2).toInt → ((-1) : Int32) = -2 ∧ v = v) ∧ (((0 ≤ x0.toInt ∧ x0.toInt < (v 13 0).toInt) ∧ (0 ≤ x1.toInt ∧ x1.toInt < (v 13 0).toInt) ∧ x0.toInt ≠ x1.toInt) ∧ (v 13 2).toInt < 6 → ((-1) : Int32) = v 13 2 ∧ (∀ k j : Nat, v k j = if k = 13 ∧ j = 2 then v 13 2 + 1 else if 36 + 15 * (v 13 2).toNatClampNeg ≤ k ∧ (k : Int) < 36 + 15 * ((v 13 2).toNatClampNeg : Int) + 2 ∧ j < 24 then 7 else if k = 31 + 15 * (v 13 2).toNatClampNeg ∧ (j : Int) < 2 then -1 else if k = 30 + 15 * (v 13 2).toNatClampNeg ∧ j = 1 then x1 else if k = 30 + 15 * (v 13 2).toNatClampNeg ∧ j = 0 then x0 else if k = 29 + 15 * (v 13 2).toNatClampNeg ∧ j = 5 then 0 else if k = 29 + 15 * (v 13 2).toNatClampNeg ∧ j = 4 then 0 else if k = 29 + 15 * (v 13 2).toNatClampNeg ∧ j = 3 then 1 else if k = 29 + 15 * (v 13 2).toNatClampNeg ∧ j = 2 then 0 else if k = 29 + 15 * (v 13 2).toNatClampNeg ∧ j = 1 then 0 else if k = 29 + 15 * (v 13 2).toNatClampNeg ∧ j = 0 then 0 else v k j)) := by
      refine ⟨fun hq => ?_, fun hq => ?_, fun hq => ?_⟩
      · exact ⟨rfl, rfl⟩
      · exfalso; omega
      · exfalso; omega
    exact W.iret (v := (-1)) hx hb hr (fun t ht hW => ⟨⟨(-1), v, rfl, ⟨hv, hpost⟩, by rw [ht]; exact hP, hD⟩, hS.F ht⟩) hS.2.2 dX7_open_22
