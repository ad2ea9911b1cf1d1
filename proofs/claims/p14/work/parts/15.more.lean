set_option maxRecDepth 20000 in
theorem db_X7_party_0 : (decode cX7_party 0 = .ok (.iload_n 1, 1)) ∧ (decode cX7_party 1 = .ok (.iconst 0, 1)) ∧ (decode cX7_party 2 = .ok (.bipush 9, 2)) ∧ (decode cX7_party 4 = .ok (.invokestatic 37, 3)) ∧ (decode cX7_party 7 = .ok (.ifCond .eq 12, 3)) ∧ (decode cX7_party 10 = .ok (.iload_n 2, 1)) ∧ (decode cX7_party 11 = .ok (.iconst 0, 1)) ∧ (decode cX7_party 12 = .ok (.iconst 2, 1)) := by decide +kernel
theorem dX7_party_0 : decode cX7_party 0 = .ok (.iload_n 1, 1) := db_X7_party_0.1
theorem dX7_party_1 : decode cX7_party 1 = .ok (.iconst 0, 1) := db_X7_party_0.2.1
theorem dX7_party_2 : decode cX7_party 2 = .ok (.bipush 9, 2) := db_X7_party_0.2.2.1
set_option maxRecDepth 20000 in
theorem ggX7_party_X7_isWithin : GoodIn wsX7_party wsX7_isWithin := goodIn_r _ [9] rfl (by decide +kernel)
set_option maxRecDepth 20000 in
theorem gX7_party_X7_isWithin : GoodIn wsX7_party (va_wsS RX7 37 yX7_isWithin wsX7_isWithin) := goodIn_app (goodIn_r _ [6, 7, 8] rfl (by decide +kernel)) ggX7_party_X7_isWithin
theorem dX7_party_4 : decode cX7_party 4 = .ok (.invokestatic 37, 3) := db_X7_party_0.2.2.2.1
theorem dX7_party_7 : decode cX7_party 7 = .ok (.ifCond .eq 12, 3) := db_X7_party_0.2.2.2.2.1
theorem dX7_party_10 : decode cX7_party 10 = .ok (.iload_n 2, 1) := db_X7_party_0.2.2.2.2.2.1
theorem dX7_party_11 : decode cX7_party 11 = .ok (.iconst 0, 1) := db_X7_party_0.2.2.2.2.2.2.1
theorem dX7_party_12 : decode cX7_party 12 = .ok (.iconst 2, 1) := db_X7_party_0.2.2.2.2.2.2.2
set_option maxRecDepth 20000 in
theorem db_X7_party_13 : (decode cX7_party 13 = .ok (.invokestatic 37, 3)) ∧ (decode cX7_party 16 = .ok (.ifCond .ne 5, 3)) ∧ (decode cX7_party 21 = .ok (.aload_n 0, 1)) ∧ (decode cX7_party 22 = .ok (.getfield 12, 3)) ∧ (decode cX7_party 25 = .ok (.getfield 41, 3)) ∧ (decode cX7_party 28 = .ok (.bipush 8, 2)) ∧ (decode cX7_party 30 = .ok (.if_icmp .lt 6, 3)) ∧ (decode cX7_party 36 = .ok (.aload_n 0, 1)) := by decide +kernel
theorem dX7_party_13 : decode cX7_party 13 = .ok (.invokestatic 37, 3) := db_X7_party_13.1
theorem dX7_party_16 : decode cX7_party 16 = .ok (.ifCond .ne 5, 3) := db_X7_party_13.2.1
theorem dX7_party_21 : decode cX7_party 21 = .ok (.aload_n 0, 1) := db_X7_party_13.2.2.1
theorem dX7_party_22 : decode cX7_party 22 = .ok (.getfield 12, 3) := db_X7_party_13.2.2.2.1
theorem dX7_party_25 : decode cX7_party 25 = .ok (.getfield 41, 3) := db_X7_party_13.2.2.2.2.1
theorem dX7_party_28 : decode cX7_party 28 = .ok (.bipush 8, 2) := db_X7_party_13.2.2.2.2.2.1
theorem dX7_party_30 : decode cX7_party 30 = .ok (.if_icmp .lt 6, 3) := db_X7_party_13.2.2.2.2.2.2.1
theorem dX7_party_36 : decode cX7_party 36 = .ok (.aload_n 0, 1) := db_X7_party_13.2.2.2.2.2.2.2
set_option maxRecDepth 20000 in
theorem db_X7_party_37 : (decode cX7_party 37 = .ok (.getfield 12, 3)) ∧ (decode cX7_party 40 = .ok (.getfield 44, 3)) ∧ (decode cX7_party 43 = .ok (.aload_n 0, 1)) ∧ (decode cX7_party 44 = .ok (.getfield 12, 3)) ∧ (decode cX7_party 47 = .ok (.getfield 41, 3)) ∧ (decode cX7_party 50 = .ok (.aaload, 1)) ∧ (decode cX7_party 51 = .ok (.astore_n 3, 1)) ∧ (decode cX7_party 52 = .ok (.aload_n 3, 1)) := by decide +kernel
theorem dX7_party_37 : decode cX7_party 37 = .ok (.getfield 12, 3) := db_X7_party_37.1
theorem dX7_party_40 : decode cX7_party 40 = .ok (.getfield 44, 3) := db_X7_party_37.2.1
theorem dX7_party_43 : decode cX7_party 43 = .ok (.aload_n 0, 1) := db_X7_party_37.2.2.1
theorem dX7_party_44 : decode cX7_party 44 = .ok (.getfield 12, 3) := db_X7_party_37.2.2.2.1
theorem dX7_party_47 : decode cX7_party 47 = .ok (.getfield 41, 3) := db_X7_party_37.2.2.2.2.1
theorem dX7_party_50 : decode cX7_party 50 = .ok (.aaload, 1) := db_X7_party_37.2.2.2.2.2.1
theorem dX7_party_51 : decode cX7_party 51 = .ok (.astore_n 3, 1) := db_X7_party_37.2.2.2.2.2.2.1
theorem dX7_party_52 : decode cX7_party 52 = .ok (.aload_n 3, 1) := db_X7_party_37.2.2.2.2.2.2.2
set_option maxRecDepth 20000 in
theorem db_X7_party_53 : (decode cX7_party 53 = .ok (.iload_n 1, 1)) ∧ (decode cX7_party 54 = .ok (.putfield 48, 3)) ∧ (decode cX7_party 57 = .ok (.aload_n 3, 1)) ∧ (decode cX7_party 58 = .ok (.iload_n 2, 1)) ∧ (decode cX7_party 59 = .ok (.putfield 53, 3)) ∧ (decode cX7_party 62 = .ok (.aload_n 0, 1)) ∧ (decode cX7_party 63 = .ok (.getfield 12, 3)) ∧ (decode cX7_party 66 = .ok (.dup, 1)) := by decide +kernel
theorem dX7_party_53 : decode cX7_party 53 = .ok (.iload_n 1, 1) := db_X7_party_53.1
theorem dX7_party_54 : decode cX7_party 54 = .ok (.putfield 48, 3) := db_X7_party_53.2.1
theorem dX7_party_57 : decode cX7_party 57 = .ok (.aload_n 3, 1) := db_X7_party_53.2.2.1
theorem dX7_party_58 : decode cX7_party 58 = .ok (.iload_n 2, 1) := db_X7_party_53.2.2.2.1
theorem dX7_party_59 : decode cX7_party 59 = .ok (.putfield 53, 3) := db_X7_party_53.2.2.2.2.1
theorem dX7_party_62 : decode cX7_party 62 = .ok (.aload_n 0, 1) := db_X7_party_53.2.2.2.2.2.1
theorem dX7_party_63 : decode cX7_party 63 = .ok (.getfield 12, 3) := db_X7_party_53.2.2.2.2.2.2.1
theorem dX7_party_66 : decode cX7_party 66 = .ok (.dup, 1) := db_X7_party_53.2.2.2.2.2.2.2
set_option maxRecDepth 20000 in
theorem db_X7_party_67 : (decode cX7_party 67 = .ok (.getfield 41, 3)) ∧ (decode cX7_party 70 = .ok (.dup_x1, 1)) ∧ (decode cX7_party 71 = .ok (.iconst 1, 1)) ∧ (decode cX7_party 72 = .ok (.iadd, 1)) ∧ (decode cX7_party 73 = .ok (.putfield 41, 3)) ∧ (decode cX7_party 76 = .ok (.ireturn, 1)) ∧ (decode cX7_party 33 = .ok (.bipush (-2), 2)) ∧ (decode cX7_party 35 = .ok (.ireturn, 1)) := by decide +kernel
theorem dX7_party_67 : decode cX7_party 67 = .ok (.getfield 41, 3) := db_X7_party_67.1
theorem dX7_party_70 : decode cX7_party 70 = .ok (.dup_x1, 1) := db_X7_party_67.2.1
theorem dX7_party_71 : decode cX7_party 71 = .ok (.iconst 1, 1) := db_X7_party_67.2.2.1
theorem dX7_party_72 : decode cX7_party 72 = .ok (.iadd, 1) := db_X7_party_67.2.2.2.1
theorem dX7_party_73 : decode cX7_party 73 = .ok (.putfield 41, 3) := db_X7_party_67.2.2.2.2.1
theorem dX7_party_76 : decode cX7_party 76 = .ok (.ireturn, 1) := db_X7_party_67.2.2.2.2.2.1
theorem dX7_party_33 : decode cX7_party 33 = .ok (.bipush (-2), 2) := db_X7_party_67.2.2.2.2.2.2.1
theorem dX7_party_35 : decode cX7_party 35 = .ok (.ireturn, 1) := db_X7_party_67.2.2.2.2.2.2.2
set_option maxRecDepth 20000 in
theorem db_X7_party_19 : (decode cX7_party 19 = .ok (.iconst (-1), 1)) ∧ (decode cX7_party 20 = .ok (.ireturn, 1)) := by decide +kernel
theorem dX7_party_19 : decode cX7_party 19 = .ok (.iconst (-1), 1) := db_X7_party_19.1
theorem dX7_party_20 : decode cX7_party 20 = .ok (.ireturn, 1) := db_X7_party_19.2
set_option maxRecDepth 20000 in
theorem db_X7_mediator_0 : (decode cX7_mediator 0 = .ok (.iload_n 1, 1)) ∧ (decode cX7_mediator 1 = .ok (.iconst 0, 1)) ∧ (decode cX7_mediator 2 = .ok (.bipush 9, 2)) ∧ (decode cX7_mediator 4 = .ok (.invokestatic 37, 3)) ∧ (decode cX7_mediator 7 = .ok (.ifCond .eq 13, 3)) ∧ (decode cX7_mediator 10 = .ok (.iload_n 2, 1)) ∧ (decode cX7_mediator 11 = .ok (.iconst 1, 1)) ∧ (decode cX7_mediator 12 = .ok (.bipush 7, 2)) := by decide +kernel
theorem dX7_mediator_0 : decode cX7_mediator 0 = .ok (.iload_n 1, 1) := db_X7_mediator_0.1
theorem dX7_mediator_1 : decode cX7_mediator 1 = .ok (.iconst 0, 1) := db_X7_mediator_0.2.1
theorem dX7_mediator_2 : decode cX7_mediator 2 = .ok (.bipush 9, 2) := db_X7_mediator_0.2.2.1
set_option maxRecDepth 20000 in
theorem ggX7_mediator_X7_isWithin : GoodIn wsX7_mediator wsX7_isWithin := goodIn_r _ [10] rfl (by decide +kernel)
set_option maxRecDepth 20000 in
theorem gX7_mediator_X7_isWithin : GoodIn wsX7_mediator (va_wsS RX7 37 yX7_isWithin wsX7_isWithin) := goodIn_app (goodIn_r _ [7, 8, 9] rfl (by decide +kernel)) ggX7_mediator_X7_isWithin
theorem dX7_mediator_4 : decode cX7_mediator 4 = .ok (.invokestatic 37, 3) := db_X7_mediator_0.2.2.2.1
theorem dX7_mediator_7 : decode cX7_mediator 7 = .ok (.ifCond .eq 13, 3) := db_X7_mediator_0.2.2.2.2.1
theorem dX7_mediator_10 : decode cX7_mediator 10 = .ok (.iload_n 2, 1) := db_X7_mediator_0.2.2.2.2.2.1
theorem dX7_mediator_11 : decode cX7_mediator 11 = .ok (.iconst 1, 1) := db_X7_mediator_0.2.2.2.2.2.2.1
theorem dX7_mediator_12 : decode cX7_mediator 12 = .ok (.bipush 7, 2) := db_X7_mediator_0.2.2.2.2.2.2.2
set_option maxRecDepth 20000 in
theorem db_X7_mediator_14 : (decode cX7_mediator 14 = .ok (.invokestatic 37, 3)) ∧ (decode cX7_mediator 17 = .ok (.ifCond .ne 5, 3)) ∧ (decode cX7_mediator 22 = .ok (.aload_n 0, 1)) ∧ (decode cX7_mediator 23 = .ok (.getfield 12, 3)) ∧ (decode cX7_mediator 26 = .ok (.getfield 56, 3)) ∧ (decode cX7_mediator 29 = .ok (.iconst 4, 1)) ∧ (decode cX7_mediator 30 = .ok (.if_icmp .lt 6, 3)) ∧ (decode cX7_mediator 36 = .ok (.aload_n 0, 1)) := by decide +kernel
theorem dX7_mediator_14 : decode cX7_mediator 14 = .ok (.invokestatic 37, 3) := db_X7_mediator_14.1
theorem dX7_mediator_17 : decode cX7_mediator 17 = .ok (.ifCond .ne 5, 3) := db_X7_mediator_14.2.1
theorem dX7_mediator_22 : decode cX7_mediator 22 = .ok (.aload_n 0, 1) := db_X7_mediator_14.2.2.1
theorem dX7_mediator_23 : decode cX7_mediator 23 = .ok (.getfield 12, 3) := db_X7_mediator_14.2.2.2.1
theorem dX7_mediator_26 : decode cX7_mediator 26 = .ok (.getfield 56, 3) := db_X7_mediator_14.2.2.2.2.1
theorem dX7_mediator_29 : decode cX7_mediator 29 = .ok (.iconst 4, 1) := db_X7_mediator_14.2.2.2.2.2.1
theorem dX7_mediator_30 : decode cX7_mediator 30 = .ok (.if_icmp .lt 6, 3) := db_X7_mediator_14.2.2.2.2.2.2.1
theorem dX7_mediator_36 : decode cX7_mediator 36 = .ok (.aload_n 0, 1) := db_X7_mediator_14.2.2.2.2.2.2.2
set_option maxRecDepth 20000 in
theorem db_X7_mediator_37 : (decode cX7_mediator 37 = .ok (.getfield 12, 3)) ∧ (decode cX7_mediator 40 = .ok (.getfield 59, 3)) ∧ (decode cX7_mediator 43 = .ok (.aload_n 0, 1)) ∧ (decode cX7_mediator 44 = .ok (.getfield 12, 3)) ∧ (decode cX7_mediator 47 = .ok (.getfield 56, 3)) ∧ (decode cX7_mediator 50 = .ok (.aaload, 1)) ∧ (decode cX7_mediator 51 = .ok (.astore_n 3, 1)) ∧ (decode cX7_mediator 52 = .ok (.aload_n 3, 1)) := by decide +kernel
theorem dX7_mediator_37 : decode cX7_mediator 37 = .ok (.getfield 12, 3) := db_X7_mediator_37.1
theorem dX7_mediator_40 : decode cX7_mediator 40 = .ok (.getfield 59, 3) := db_X7_mediator_37.2.1
theorem dX7_mediator_43 : decode cX7_mediator 43 = .ok (.aload_n 0, 1) := db_X7_mediator_37.2.2.1
theorem dX7_mediator_44 : decode cX7_mediator 44 = .ok (.getfield 12, 3) := db_X7_mediator_37.2.2.2.1
theorem dX7_mediator_47 : decode cX7_mediator 47 = .ok (.getfield 56, 3) := db_X7_mediator_37.2.2.2.2.1
theorem dX7_mediator_50 : decode cX7_mediator 50 = .ok (.aaload, 1) := db_X7_mediator_37.2.2.2.2.2.1
theorem dX7_mediator_51 : decode cX7_mediator 51 = .ok (.astore_n 3, 1) := db_X7_mediator_37.2.2.2.2.2.2.1
theorem dX7_mediator_52 : decode cX7_mediator 52 = .ok (.aload_n 3, 1) := db_X7_mediator_37.2.2.2.2.2.2.2
set_option maxRecDepth 20000 in
theorem db_X7_mediator_53 : (decode cX7_mediator 53 = .ok (.iload_n 1, 1)) ∧ (decode cX7_mediator 54 = .ok (.putfield 63, 3)) ∧ (decode cX7_mediator 57 = .ok (.aload_n 3, 1)) ∧ (decode cX7_mediator 58 = .ok (.iload_n 2, 1)) ∧ (decode cX7_mediator 59 = .ok (.putfield 66, 3)) ∧ (decode cX7_mediator 62 = .ok (.aload_n 3, 1)) ∧ (decode cX7_mediator 63 = .ok (.iconst 0, 1)) ∧ (decode cX7_mediator 64 = .ok (.putfield 69, 3)) := by decide +kernel
theorem dX7_mediator_53 : decode cX7_mediator 53 = .ok (.iload_n 1, 1) := db_X7_mediator_53.1
theorem dX7_mediator_54 : decode cX7_mediator 54 = .ok (.putfield 63, 3) := db_X7_mediator_53.2.1
theorem dX7_mediator_57 : decode cX7_mediator 57 = .ok (.aload_n 3, 1) := db_X7_mediator_53.2.2.1
theorem dX7_mediator_58 : decode cX7_mediator 58 = .ok (.iload_n 2, 1) := db_X7_mediator_53.2.2.2.1
theorem dX7_mediator_59 : decode cX7_mediator 59 = .ok (.putfield 66, 3) := db_X7_mediator_53.2.2.2.2.1
theorem dX7_mediator_62 : decode cX7_mediator 62 = .ok (.aload_n 3, 1) := db_X7_mediator_53.2.2.2.2.2.1
theorem dX7_mediator_63 : decode cX7_mediator 63 = .ok (.iconst 0, 1) := db_X7_mediator_53.2.2.2.2.2.2.1
theorem dX7_mediator_64 : decode cX7_mediator 64 = .ok (.putfield 69, 3) := db_X7_mediator_53.2.2.2.2.2.2.2
set_option maxRecDepth 20000 in
theorem db_X7_mediator_67 : (decode cX7_mediator 67 = .ok (.aload_n 0, 1)) ∧ (decode cX7_mediator 68 = .ok (.getfield 12, 3)) ∧ (decode cX7_mediator 71 = .ok (.dup, 1)) ∧ (decode cX7_mediator 72 = .ok (.getfield 56, 3)) ∧ (decode cX7_mediator 75 = .ok (.dup_x1, 1)) ∧ (decode cX7_mediator 76 = .ok (.iconst 1, 1)) ∧ (decode cX7_mediator 77 = .ok (.iadd, 1)) ∧ (decode cX7_mediator 78 = .ok (.putfield 56, 3)) := by decide +kernel
theorem dX7_mediator_67 : decode cX7_mediator 67 = .ok (.aload_n 0, 1) := db_X7_mediator_67.1
theorem dX7_mediator_68 : decode cX7_mediator 68 = .ok (.getfield 12, 3) := db_X7_mediator_67.2.1
theorem dX7_mediator_71 : decode cX7_mediator 71 = .ok (.dup, 1) := db_X7_mediator_67.2.2.1
theorem dX7_mediator_72 : decode cX7_mediator 72 = .ok (.getfield 56, 3) := db_X7_mediator_67.2.2.2.1
theorem dX7_mediator_75 : decode cX7_mediator 75 = .ok (.dup_x1, 1) := db_X7_mediator_67.2.2.2.2.1
theorem dX7_mediator_76 : decode cX7_mediator 76 = .ok (.iconst 1, 1) := db_X7_mediator_67.2.2.2.2.2.1
theorem dX7_mediator_77 : decode cX7_mediator 77 = .ok (.iadd, 1) := db_X7_mediator_67.2.2.2.2.2.2.1
theorem dX7_mediator_78 : decode cX7_mediator 78 = .ok (.putfield 56, 3) := db_X7_mediator_67.2.2.2.2.2.2.2
set_option maxRecDepth 20000 in
theorem db_X7_mediator_81 : (decode cX7_mediator 81 = .ok (.ireturn, 1)) ∧ (decode cX7_mediator 33 = .ok (.bipush (-2), 2)) ∧ (decode cX7_mediator 35 = .ok (.ireturn, 1)) ∧ (decode cX7_mediator 20 = .ok (.iconst (-1), 1)) ∧ (decode cX7_mediator 21 = .ok (.ireturn, 1)) := by decide +kernel
theorem dX7_mediator_81 : decode cX7_mediator 81 = .ok (.ireturn, 1) := db_X7_mediator_81.1
theorem dX7_mediator_33 : decode cX7_mediator 33 = .ok (.bipush (-2), 2) := db_X7_mediator_81.2.1
theorem dX7_mediator_35 : decode cX7_mediator 35 = .ok (.ireturn, 1) := db_X7_mediator_81.2.2.1
theorem dX7_mediator_20 : decode cX7_mediator 20 = .ok (.iconst (-1), 1) := db_X7_mediator_81.2.2.2.1
theorem dX7_mediator_21 : decode cX7_mediator 21 = .ok (.ireturn, 1) := db_X7_mediator_81.2.2.2.2
set_option maxRecDepth 20000 in
theorem db_X7_rooms_0 : (decode cX7_rooms 0 = .ok (.iload_n 1, 1)) ∧ (decode cX7_rooms 1 = .ok (.iconst 1, 1)) ∧ (decode cX7_rooms 2 = .ok (.iconst 2, 1)) ∧ (decode cX7_rooms 3 = .ok (.invokestatic 37, 3)) ∧ (decode cX7_rooms 6 = .ok (.ifCond .ne 5, 3)) ∧ (decode cX7_rooms 11 = .ok (.aload_n 0, 1)) ∧ (decode cX7_rooms 12 = .ok (.getfield 33, 3)) ∧ (decode cX7_rooms 15 = .ok (.istore_n 2, 1)) := by decide +kernel
theorem dX7_rooms_0 : decode cX7_rooms 0 = .ok (.iload_n 1, 1) := db_X7_rooms_0.1
theorem dX7_rooms_1 : decode cX7_rooms 1 = .ok (.iconst 1, 1) := db_X7_rooms_0.2.1
theorem dX7_rooms_2 : decode cX7_rooms 2 = .ok (.iconst 2, 1) := db_X7_rooms_0.2.2.1
set_option maxRecDepth 20000 in
theorem ggX7_rooms_X7_isWithin : GoodIn wsX7_rooms wsX7_isWithin := goodIn_r _ [5] rfl (by decide +kernel)
set_option maxRecDepth 20000 in
theorem gX7_rooms_X7_isWithin : GoodIn wsX7_rooms (va_wsS RX7 37 yX7_isWithin wsX7_isWithin) := goodIn_app (goodIn_r _ [2, 3, 4] rfl (by decide +kernel)) ggX7_rooms_X7_isWithin
theorem dX7_rooms_3 : decode cX7_rooms 3 = .ok (.invokestatic 37, 3) := db_X7_rooms_0.2.2.2.1
theorem dX7_rooms_6 : decode cX7_rooms 6 = .ok (.ifCond .ne 5, 3) := db_X7_rooms_0.2.2.2.2.1
theorem dX7_rooms_11 : decode cX7_rooms 11 = .ok (.aload_n 0, 1) := db_X7_rooms_0.2.2.2.2.2.1
theorem dX7_rooms_12 : decode cX7_rooms 12 = .ok (.getfield 33, 3) := db_X7_rooms_0.2.2.2.2.2.2.1
theorem dX7_rooms_15 : decode cX7_rooms 15 = .ok (.istore_n 2, 1) := db_X7_rooms_0.2.2.2.2.2.2.2
set_option maxRecDepth 20000 in
theorem db_X7_rooms_16 : (decode cX7_rooms 16 = .ok (.aload_n 0, 1)) ∧ (decode cX7_rooms 17 = .ok (.iload_n 1, 1)) ∧ (decode cX7_rooms 18 = .ok (.putfield 33, 3)) ∧ (decode cX7_rooms 21 = .ok (.iload_n 2, 1)) ∧ (decode cX7_rooms 22 = .ok (.ireturn, 1)) ∧ (decode cX7_rooms 9 = .ok (.iconst (-1), 1)) ∧ (decode cX7_rooms 10 = .ok (.ireturn, 1)) := by decide +kernel
theorem dX7_rooms_16 : decode cX7_rooms 16 = .ok (.aload_n 0, 1) := db_X7_rooms_16.1
theorem dX7_rooms_17 : decode cX7_rooms 17 = .ok (.iload_n 1, 1) := db_X7_rooms_16.2.1
theorem dX7_rooms_18 : decode cX7_rooms 18 = .ok (.putfield 33, 3) := db_X7_rooms_16.2.2.1
theorem dX7_rooms_21 : decode cX7_rooms 21 = .ok (.iload_n 2, 1) := db_X7_rooms_16.2.2.2.1
theorem dX7_rooms_22 : decode cX7_rooms 22 = .ok (.ireturn, 1) := db_X7_rooms_16.2.2.2.2.1
theorem dX7_rooms_9 : decode cX7_rooms 9 = .ok (.iconst (-1), 1) := db_X7_rooms_16.2.2.2.2.2.1
theorem dX7_rooms_10 : decode cX7_rooms 10 = .ok (.ireturn, 1) := db_X7_rooms_16.2.2.2.2.2.2
set_option maxRecDepth 20000 in
theorem db_X7_kin_0 : (decode cX7_kin 0 = .ok (.aload_n 0, 1)) ∧ (decode cX7_kin 1 = .ok (.iload_n 1, 1)) ∧ (decode cX7_kin 2 = .ok (.invokevirtual 72, 3)) ∧ (decode cX7_kin 5 = .ok (.ifCond .eq 11, 3)) ∧ (decode cX7_kin 8 = .ok (.aload_n 0, 1)) ∧ (decode cX7_kin 9 = .ok (.iload_n 2, 1)) ∧ (decode cX7_kin 10 = .ok (.invokevirtual 76, 3)) ∧ (decode cX7_kin 13 = .ok (.ifCond .ne 5, 3)) := by decide +kernel
theorem dX7_kin_0 : decode cX7_kin 0 = .ok (.aload_n 0, 1) := db_X7_kin_0.1
theorem dX7_kin_1 : decode cX7_kin 1 = .ok (.iload_n 1, 1) := db_X7_kin_0.2.1
set_option maxRecDepth 20000 in
theorem ggX7_kin_X7_isMediator : GoodIn wsX7_kin wsX7_isMediator := goodIn_r _ [8, 1, 9, 10, 11, 7, 12, 21, 22, 23, 24, 25, 26, 27, 28, 29, 30, 31, 32] rfl (by decide +kernel)
set_option maxRecDepth 20000 in
theorem gX7_kin_X7_isMediator : GoodIn wsX7_kin (wsV RX7 72 RX7 yX7_isMediator wsX7_isMediator) := goodIn_app (goodIn_r _ [4, 5, 6, 7] rfl (by decide +kernel)) ggX7_kin_X7_isMediator
theorem dX7_kin_2 : decode cX7_kin 2 = .ok (.invokevirtual 72, 3) := db_X7_kin_0.2.2.1
theorem dX7_kin_5 : decode cX7_kin 5 = .ok (.ifCond .eq 11, 3) := db_X7_kin_0.2.2.2.1
theorem dX7_kin_8 : decode cX7_kin 8 = .ok (.aload_n 0, 1) := db_X7_kin_0.2.2.2.2.1
theorem dX7_kin_9 : decode cX7_kin 9 = .ok (.iload_n 2, 1) := db_X7_kin_0.2.2.2.2.2.1
set_option maxRecDepth 20000 in
theorem ggX7_kin_X7_isParty : GoodIn wsX7_kin wsX7_isParty := goodIn_r _ [16, 1, 17, 10, 11, 7, 12, 21, 22, 23, 24, 25, 26, 27, 28, 29, 30, 31, 32] rfl (by decide +kernel)
set_option maxRecDepth 20000 in
theorem gX7_kin_X7_isParty : GoodIn wsX7_kin (wsV RX7 76 RX7 yX7_isParty wsX7_isParty) := goodIn_app (goodIn_r _ [13, 14, 15, 7] rfl (by decide +kernel)) ggX7_kin_X7_isParty
theorem dX7_kin_10 : decode cX7_kin 10 = .ok (.invokevirtual 76, 3) := db_X7_kin_0.2.2.2.2.2.2.1
theorem dX7_kin_13 : decode cX7_kin 13 = .ok (.ifCond .ne 5, 3) := db_X7_kin_0.2.2.2.2.2.2.2
set_option maxRecDepth 20000 in
theorem db_X7_kin_18 : (decode cX7_kin 18 = .ok (.aload_n 0, 1)) ∧ (decode cX7_kin 19 = .ok (.getfield 12, 3)) ∧ (decode cX7_kin 22 = .ok (.getfield 59, 3)) ∧ (decode cX7_kin 25 = .ok (.iload_n 1, 1)) ∧ (decode cX7_kin 26 = .ok (.aaload, 1)) ∧ (decode cX7_kin 27 = .ok (.astore 4, 2)) ∧ (decode cX7_kin 29 = .ok (.aload 4, 2)) ∧ (decode cX7_kin 31 = .ok (.getfield 69, 3)) := by decide +kernel
theorem dX7_kin_18 : decode cX7_kin 18 = .ok (.aload_n 0, 1) := db_X7_kin_18.1
theorem dX7_kin_19 : decode cX7_kin 19 = .ok (.getfield 12, 3) := db_X7_kin_18.2.1
theorem dX7_kin_22 : decode cX7_kin 22 = .ok (.getfield 59, 3) := db_X7_kin_18.2.2.1
theorem dX7_kin_25 : decode cX7_kin 25 = .ok (.iload_n 1, 1) := db_X7_kin_18.2.2.2.1
theorem dX7_kin_26 : decode cX7_kin 26 = .ok (.aaload, 1) := db_X7_kin_18.2.2.2.2.1
theorem dX7_kin_27 : decode cX7_kin 27 = .ok (.astore 4, 2) := db_X7_kin_18.2.2.2.2.2.1
theorem dX7_kin_29 : decode cX7_kin 29 = .ok (.aload 4, 2) := db_X7_kin_18.2.2.2.2.2.2.1
theorem dX7_kin_31 : decode cX7_kin 31 = .ok (.getfield 69, 3) := db_X7_kin_18.2.2.2.2.2.2.2
set_option maxRecDepth 20000 in
theorem db_X7_kin_34 : (decode cX7_kin 34 = .ok (.iload_n 2, 1)) ∧ (decode cX7_kin 35 = .ok (.invokestatic 79, 3)) ∧ (decode cX7_kin 38 = .ok (.iload_n 3, 1)) ∧ (decode cX7_kin 39 = .ok (.if_icmp .ne 5, 3)) ∧ (decode cX7_kin 44 = .ok (.aload 4, 2)) ∧ (decode cX7_kin 46 = .ok (.dup, 1)) ∧ (decode cX7_kin 47 = .ok (.getfield 69, 3)) ∧ (decode cX7_kin 50 = .ok (.iconst 1, 1)) := by decide +kernel
theorem dX7_kin_34 : decode cX7_kin 34 = .ok (.iload_n 2, 1) := db_X7_kin_34.1
set_option maxRecDepth 20000 in
theorem ggX7_kin_X7_hasBit : GoodIn wsX7_kin wsX7_hasBit := goodIn_r _ [20] rfl (by decide +kernel)
set_option maxRecDepth 20000 in
theorem gX7_kin_X7_hasBit : GoodIn wsX7_kin (va_wsS RX7 79 yX7_hasBit wsX7_hasBit) := goodIn_app (goodIn_r _ [18, 19, 7] rfl (by decide +kernel)) ggX7_kin_X7_hasBit
theorem dX7_kin_35 : decode cX7_kin 35 = .ok (.invokestatic 79, 3) := db_X7_kin_34.2.1
theorem dX7_kin_38 : decode cX7_kin 38 = .ok (.iload_n 3, 1) := db_X7_kin_34.2.2.1
theorem dX7_kin_39 : decode cX7_kin 39 = .ok (.if_icmp .ne 5, 3) := db_X7_kin_34.2.2.2.1
theorem dX7_kin_44 : decode cX7_kin 44 = .ok (.aload 4, 2) := db_X7_kin_34.2.2.2.2.1
theorem dX7_kin_46 : decode cX7_kin 46 = .ok (.dup, 1) := db_X7_kin_34.2.2.2.2.2.1
theorem dX7_kin_47 : decode cX7_kin 47 = .ok (.getfield 69, 3) := db_X7_kin_34.2.2.2.2.2.2.1
theorem dX7_kin_50 : decode cX7_kin 50 = .ok (.iconst 1, 1) := db_X7_kin_34.2.2.2.2.2.2.2
set_option maxRecDepth 20000 in
theorem db_X7_kin_51 : (decode cX7_kin 51 = .ok (.iload_n 2, 1)) ∧ (decode cX7_kin 52 = .ok (.ishl, 1)) ∧ (decode cX7_kin 53 = .ok (.ixor, 1)) ∧ (decode cX7_kin 54 = .ok (.putfield 69, 3)) ∧ (decode cX7_kin 57 = .ok (.iconst 1, 1)) ∧ (decode cX7_kin 58 = .ok (.ireturn, 1)) ∧ (decode cX7_kin 42 = .ok (.iconst 0, 1)) ∧ (decode cX7_kin 43 = .ok (.ireturn, 1)) := by decide +kernel
theorem dX7_kin_51 : decode cX7_kin 51 = .ok (.iload_n 2, 1) := db_X7_kin_51.1
theorem dX7_kin_52 : decode cX7_kin 52 = .ok (.ishl, 1) := db_X7_kin_51.2.1
theorem dX7_kin_53 : decode cX7_kin 53 = .ok (.ixor, 1) := db_X7_kin_51.2.2.1
theorem dX7_kin_54 : decode cX7_kin 54 = .ok (.putfield 69, 3) := db_X7_kin_51.2.2.2.1
theorem dX7_kin_57 : decode cX7_kin 57 = .ok (.iconst 1, 1) := db_X7_kin_51.2.2.2.2.1
theorem dX7_kin_58 : decode cX7_kin 58 = .ok (.ireturn, 1) := db_X7_kin_51.2.2.2.2.2.1
theorem dX7_kin_42 : decode cX7_kin 42 = .ok (.iconst 0, 1) := db_X7_kin_51.2.2.2.2.2.2.1
theorem dX7_kin_43 : decode cX7_kin 43 = .ok (.ireturn, 1) := db_X7_kin_51.2.2.2.2.2.2.2
set_option maxRecDepth 20000 in
theorem db_X7_kin_16 : (decode cX7_kin 16 = .ok (.iconst (-1), 1)) ∧ (decode cX7_kin 17 = .ok (.ireturn, 1)) := by decide +kernel
theorem dX7_kin_16 : decode cX7_kin 16 = .ok (.iconst (-1), 1) := db_X7_kin_16.1
theorem dX7_kin_17 : decode cX7_kin 17 = .ok (.ireturn, 1) := db_X7_kin_16.2
set_option maxRecDepth 20000 in
theorem db_X7_mark_0 : (decode cX7_mark 0 = .ok (.aload_n 0, 1)) ∧ (decode cX7_mark 1 = .ok (.iload_n 1, 1)) ∧ (decode cX7_mark 2 = .ok (.invokevirtual 96, 3)) ∧ (decode cX7_mark 5 = .ok (.ifCond .eq 16, 3)) ∧ (decode cX7_mark 8 = .ok (.aload_n 0, 1)) ∧ (decode cX7_mark 9 = .ok (.iload_n 2, 1)) ∧ (decode cX7_mark 10 = .ok (.invokevirtual 96, 3)) ∧ (decode cX7_mark 13 = .ok (.ifCond .eq 8, 3)) := by decide +kernel
theorem dX7_mark_0 : decode cX7_mark 0 = .ok (.aload_n 0, 1) := db_X7_mark_0.1
theorem dX7_mark_1 : decode cX7_mark 1 = .ok (.iload_n 1, 1) := db_X7_mark_0.2.1
set_option maxRecDepth 20000 in
theorem ggX7_mark_X7_isCase : GoodIn wsX7_mark wsX7_isCase := goodIn_r _ [9, 1, 10, 11, 12, 8, 13, 17, 18, 19, 20, 21, 22, 23, 24, 25, 26, 27, 28] rfl (by decide +kernel)
set_option maxRecDepth 20000 in
theorem gX7_mark_X7_isCase : GoodIn wsX7_mark (wsV RX7 96 RX7 yX7_isCase wsX7_isCase) := goodIn_app (goodIn_r _ [5, 6, 7, 8] rfl (by decide +kernel)) ggX7_mark_X7_isCase
theorem dX7_mark_2 : decode cX7_mark 2 = .ok (.invokevirtual 96, 3) := db_X7_mark_0.2.2.1
theorem dX7_mark_5 : decode cX7_mark 5 = .ok (.ifCond .eq 16, 3) := db_X7_mark_0.2.2.2.1
theorem dX7_mark_8 : decode cX7_mark 8 = .ok (.aload_n 0, 1) := db_X7_mark_0.2.2.2.2.1
theorem dX7_mark_9 : decode cX7_mark 9 = .ok (.iload_n 2, 1) := db_X7_mark_0.2.2.2.2.2.1
theorem dX7_mark_10 : decode cX7_mark 10 = .ok (.invokevirtual 96, 3) := db_X7_mark_0.2.2.2.2.2.2.1
theorem dX7_mark_13 : decode cX7_mark 13 = .ok (.ifCond .eq 8, 3) := db_X7_mark_0.2.2.2.2.2.2.2
set_option maxRecDepth 20000 in
theorem db_X7_mark_16 : (decode cX7_mark 16 = .ok (.iload_n 1, 1)) ∧ (decode cX7_mark 17 = .ok (.iload_n 2, 1)) ∧ (decode cX7_mark 18 = .ok (.if_icmp .ne 5, 3)) ∧ (decode cX7_mark 23 = .ok (.aload_n 0, 1)) ∧ (decode cX7_mark 24 = .ok (.getfield 12, 3)) ∧ (decode cX7_mark 27 = .ok (.getfield 86, 3)) ∧ (decode cX7_mark 30 = .ok (.iload_n 1, 1)) ∧ (decode cX7_mark 31 = .ok (.aaload, 1)) := by decide +kernel
theorem dX7_mark_16 : decode cX7_mark 16 = .ok (.iload_n 1, 1) := db_X7_mark_16.1
theorem dX7_mark_17 : decode cX7_mark 17 = .ok (.iload_n 2, 1) := db_X7_mark_16.2.1
theorem dX7_mark_18 : decode cX7_mark 18 = .ok (.if_icmp .ne 5, 3) := db_X7_mark_16.2.2.1
theorem dX7_mark_23 : decode cX7_mark 23 = .ok (.aload_n 0, 1) := db_X7_mark_16.2.2.2.1
theorem dX7_mark_24 : decode cX7_mark 24 = .ok (.getfield 12, 3) := db_X7_mark_16.2.2.2.2.1
theorem dX7_mark_27 : decode cX7_mark 27 = .ok (.getfield 86, 3) := db_X7_mark_16.2.2.2.2.2.1
theorem dX7_mark_30 : decode cX7_mark 30 = .ok (.iload_n 1, 1) := db_X7_mark_16.2.2.2.2.2.2.1
theorem dX7_mark_31 : decode cX7_mark 31 = .ok (.aaload, 1) := db_X7_mark_16.2.2.2.2.2.2.2
set_option maxRecDepth 20000 in
theorem db_X7_mark_32 : (decode cX7_mark 32 = .ok (.getfield 105, 3)) ∧ (decode cX7_mark 35 = .ok (.iload_n 2, 1)) ∧ (decode cX7_mark 36 = .ok (.invokestatic 79, 3)) ∧ (decode cX7_mark 39 = .ok (.ifCond .eq 6, 3)) ∧ (decode cX7_mark 45 = .ok (.aload_n 0, 1)) ∧ (decode cX7_mark 46 = .ok (.getfield 12, 3)) ∧ (decode cX7_mark 49 = .ok (.getfield 108, 3)) ∧ (decode cX7_mark 52 = .ok (.bipush 6, 2)) := by decide +kernel
theorem dX7_mark_32 : decode cX7_mark 32 = .ok (.getfield 105, 3) := db_X7_mark_32.1
theorem dX7_mark_35 : decode cX7_mark 35 = .ok (.iload_n 2, 1) := db_X7_mark_32.2.1
set_option maxRecDepth 20000 in
theorem ggX7_mark_X7_hasBit : GoodIn wsX7_mark wsX7_hasBit := goodIn_r _ [16] rfl (by decide +kernel)
set_option maxRecDepth 20000 in
theorem gX7_mark_X7_hasBit : GoodIn wsX7_mark (va_wsS RX7 79 yX7_hasBit wsX7_hasBit) := goodIn_app (goodIn_r _ [14, 15, 8] rfl (by decide +kernel)) ggX7_mark_X7_hasBit
theorem dX7_mark_36 : decode cX7_mark 36 = .ok (.invokestatic 79, 3) := db_X7_mark_32.2.2.1
theorem dX7_mark_39 : decode cX7_mark 39 = .ok (.ifCond .eq 6, 3) := db_X7_mark_32.2.2.2.1
theorem dX7_mark_45 : decode cX7_mark 45 = .ok (.aload_n 0, 1) := db_X7_mark_32.2.2.2.2.1
theorem dX7_mark_46 : decode cX7_mark 46 = .ok (.getfield 12, 3) := db_X7_mark_32.2.2.2.2.2.1
theorem dX7_mark_49 : decode cX7_mark 49 = .ok (.getfield 108, 3) := db_X7_mark_32.2.2.2.2.2.2.1
theorem dX7_mark_52 : decode cX7_mark 52 = .ok (.bipush 6, 2) := db_X7_mark_32.2.2.2.2.2.2.2
set_option maxRecDepth 20000 in
theorem db_X7_mark_54 : (decode cX7_mark 54 = .ok (.if_icmp .lt 6, 3)) ∧ (decode cX7_mark 60 = .ok (.aload_n 0, 1)) ∧ (decode cX7_mark 61 = .ok (.getfield 12, 3)) ∧ (decode cX7_mark 64 = .ok (.getfield 86, 3)) ∧ (decode cX7_mark 67 = .ok (.iload_n 1, 1)) ∧ (decode cX7_mark 68 = .ok (.aaload, 1)) ∧ (decode cX7_mark 69 = .ok (.dup, 1)) ∧ (decode cX7_mark 70 = .ok (.getfield 105, 3)) := by decide +kernel
theorem dX7_mark_54 : decode cX7_mark 54 = .ok (.if_icmp .lt 6, 3) := db_X7_mark_54.1
theorem dX7_mark_60 : decode cX7_mark 60 = .ok (.aload_n 0, 1) := db_X7_mark_54.2.1
theorem dX7_mark_61 : decode cX7_mark 61 = .ok (.getfield 12, 3) := db_X7_mark_54.2.2.1
theorem dX7_mark_64 : decode cX7_mark 64 = .ok (.getfield 86, 3) := db_X7_mark_54.2.2.2.1
theorem dX7_mark_67 : decode cX7_mark 67 = .ok (.iload_n 1, 1) := db_X7_mark_54.2.2.2.2.1
theorem dX7_mark_68 : decode cX7_mark 68 = .ok (.aaload, 1) := db_X7_mark_54.2.2.2.2.2.1
theorem dX7_mark_69 : decode cX7_mark 69 = .ok (.dup, 1) := db_X7_mark_54.2.2.2.2.2.2.1
theorem dX7_mark_70 : decode cX7_mark 70 = .ok (.getfield 105, 3) := db_X7_mark_54.2.2.2.2.2.2.2
set_option maxRecDepth 20000 in
theorem db_X7_mark_73 : (decode cX7_mark 73 = .ok (.iconst 1, 1)) ∧ (decode cX7_mark 74 = .ok (.iload_n 2, 1)) ∧ (decode cX7_mark 75 = .ok (.ishl, 1)) ∧ (decode cX7_mark 76 = .ok (.ior, 1)) ∧ (decode cX7_mark 77 = .ok (.putfield 105, 3)) ∧ (decode cX7_mark 80 = .ok (.aload_n 0, 1)) ∧ (decode cX7_mark 81 = .ok (.getfield 12, 3)) ∧ (decode cX7_mark 84 = .ok (.getfield 86, 3)) := by decide +kernel
theorem dX7_mark_73 : decode cX7_mark 73 = .ok (.iconst 1, 1) := db_X7_mark_73.1
theorem dX7_mark_74 : decode cX7_mark 74 = .ok (.iload_n 2, 1) := db_X7_mark_73.2.1
theorem dX7_mark_75 : decode cX7_mark 75 = .ok (.ishl, 1) := db_X7_mark_73.2.2.1
theorem dX7_mark_76 : decode cX7_mark 76 = .ok (.ior, 1) := db_X7_mark_73.2.2.2.1
theorem dX7_mark_77 : decode cX7_mark 77 = .ok (.putfield 105, 3) := db_X7_mark_73.2.2.2.2.1
theorem dX7_mark_80 : decode cX7_mark 80 = .ok (.aload_n 0, 1) := db_X7_mark_73.2.2.2.2.2.1
theorem dX7_mark_81 : decode cX7_mark 81 = .ok (.getfield 12, 3) := db_X7_mark_73.2.2.2.2.2.2.1
theorem dX7_mark_84 : decode cX7_mark 84 = .ok (.getfield 86, 3) := db_X7_mark_73.2.2.2.2.2.2.2
set_option maxRecDepth 20000 in
theorem db_X7_mark_87 : (decode cX7_mark 87 = .ok (.iload_n 2, 1)) ∧ (decode cX7_mark 88 = .ok (.aaload, 1)) ∧ (decode cX7_mark 89 = .ok (.dup, 1)) ∧ (decode cX7_mark 90 = .ok (.getfield 105, 3)) ∧ (decode cX7_mark 93 = .ok (.iconst 1, 1)) ∧ (decode cX7_mark 94 = .ok (.iload_n 1, 1)) ∧ (decode cX7_mark 95 = .ok (.ishl, 1)) ∧ (decode cX7_mark 96 = .ok (.ior, 1)) := by decide +kernel
theorem dX7_mark_87 : decode cX7_mark 87 = .ok (.iload_n 2, 1) := db_X7_mark_87.1
theorem dX7_mark_88 : decode cX7_mark 88 = .ok (.aaload, 1) := db_X7_mark_87.2.1
theorem dX7_mark_89 : decode cX7_mark 89 = .ok (.dup, 1) := db_X7_mark_87.2.2.1
theorem dX7_mark_90 : decode cX7_mark 90 = .ok (.getfield 105, 3) := db_X7_mark_87.2.2.2.1
theorem dX7_mark_93 : decode cX7_mark 93 = .ok (.iconst 1, 1) := db_X7_mark_87.2.2.2.2.1
theorem dX7_mark_94 : decode cX7_mark 94 = .ok (.iload_n 1, 1) := db_X7_mark_87.2.2.2.2.2.1
theorem dX7_mark_95 : decode cX7_mark 95 = .ok (.ishl, 1) := db_X7_mark_87.2.2.2.2.2.2.1
theorem dX7_mark_96 : decode cX7_mark 96 = .ok (.ior, 1) := db_X7_mark_87.2.2.2.2.2.2.2
set_option maxRecDepth 20000 in
theorem db_X7_mark_97 : (decode cX7_mark 97 = .ok (.putfield 105, 3)) ∧ (decode cX7_mark 100 = .ok (.aload_n 0, 1)) ∧ (decode cX7_mark 101 = .ok (.getfield 12, 3)) ∧ (decode cX7_mark 104 = .ok (.dup, 1)) ∧ (decode cX7_mark 105 = .ok (.getfield 108, 3)) ∧ (decode cX7_mark 108 = .ok (.iconst 1, 1)) ∧ (decode cX7_mark 109 = .ok (.iadd, 1)) ∧ (decode cX7_mark 110 = .ok (.putfield 108, 3)) := by decide +kernel
theorem dX7_mark_97 : decode cX7_mark 97 = .ok (.putfield 105, 3) := db_X7_mark_97.1
theorem dX7_mark_100 : decode cX7_mark 100 = .ok (.aload_n 0, 1) := db_X7_mark_97.2.1
theorem dX7_mark_101 : decode cX7_mark 101 = .ok (.getfield 12, 3) := db_X7_mark_97.2.2.1
theorem dX7_mark_104 : decode cX7_mark 104 = .ok (.dup, 1) := db_X7_mark_97.2.2.2.1
theorem dX7_mark_105 : decode cX7_mark 105 = .ok (.getfield 108, 3) := db_X7_mark_97.2.2.2.2.1
theorem dX7_mark_108 : decode cX7_mark 108 = .ok (.iconst 1, 1) := db_X7_mark_97.2.2.2.2.2.1
theorem dX7_mark_109 : decode cX7_mark 109 = .ok (.iadd, 1) := db_X7_mark_97.2.2.2.2.2.2.1
theorem dX7_mark_110 : decode cX7_mark 110 = .ok (.putfield 108, 3) := db_X7_mark_97.2.2.2.2.2.2.2
set_option maxRecDepth 20000 in
theorem db_X7_mark_113 : (decode cX7_mark 113 = .ok (.aload_n 0, 1)) ∧ (decode cX7_mark 114 = .ok (.getfield 12, 3)) ∧ (decode cX7_mark 117 = .ok (.getfield 108, 3)) ∧ (decode cX7_mark 120 = .ok (.ireturn, 1)) ∧ (decode cX7_mark 57 = .ok (.bipush (-2), 2)) ∧ (decode cX7_mark 59 = .ok (.ireturn, 1)) ∧ (decode cX7_mark 42 = .ok (.bipush (-3), 2)) ∧ (decode cX7_mark 44 = .ok (.ireturn, 1)) := by decide +kernel
theorem dX7_mark_113 : decode cX7_mark 113 = .ok (.aload_n 0, 1) := db_X7_mark_113.1
theorem dX7_mark_114 : decode cX7_mark 114 = .ok (.getfield 12, 3) := db_X7_mark_113.2.1
theorem dX7_mark_117 : decode cX7_mark 117 = .ok (.getfield 108, 3) := db_X7_mark_113.2.2.1
theorem dX7_mark_120 : decode cX7_mark 120 = .ok (.ireturn, 1) := db_X7_mark_113.2.2.2.1
theorem dX7_mark_57 : decode cX7_mark 57 = .ok (.bipush (-2), 2) := db_X7_mark_113.2.2.2.2.1
theorem dX7_mark_59 : decode cX7_mark 59 = .ok (.ireturn, 1) := db_X7_mark_113.2.2.2.2.2.1
theorem dX7_mark_42 : decode cX7_mark 42 = .ok (.bipush (-3), 2) := db_X7_mark_113.2.2.2.2.2.2.1
theorem dX7_mark_44 : decode cX7_mark 44 = .ok (.ireturn, 1) := db_X7_mark_113.2.2.2.2.2.2.2
set_option maxRecDepth 20000 in
theorem db_X7_mark_21 : (decode cX7_mark 21 = .ok (.iconst (-1), 1)) ∧ (decode cX7_mark 22 = .ok (.ireturn, 1)) := by decide +kernel
theorem dX7_mark_21 : decode cX7_mark 21 = .ok (.iconst (-1), 1) := db_X7_mark_21.1
theorem dX7_mark_22 : decode cX7_mark 22 = .ok (.ireturn, 1) := db_X7_mark_21.2
set_option maxRecDepth 20000 in
theorem db_X7_term_0 : (decode cX7_term 0 = .ok (.aload_n 0, 1)) ∧ (decode cX7_term 1 = .ok (.iload_n 1, 1)) ∧ (decode cX7_term 2 = .ok (.invokevirtual 96, 3)) ∧ (decode cX7_term 5 = .ok (.ifCond .eq 43, 3)) ∧ (decode cX7_term 8 = .ok (.iload_n 2, 1)) ∧ (decode cX7_term 9 = .ok (.invokestatic 132, 3)) ∧ (decode cX7_term 12 = .ok (.ifCond .eq 36, 3)) ∧ (decode cX7_term 15 = .ok (.iload 4, 2)) := by decide +kernel
theorem dX7_term_0 : decode cX7_term 0 = .ok (.aload_n 0, 1) := db_X7_term_0.1
theorem dX7_term_1 : decode cX7_term 1 = .ok (.iload_n 1, 1) := db_X7_term_0.2.1
set_option maxRecDepth 20000 in
theorem ggX7_term_X7_isCase : GoodIn wsX7_term wsX7_isCase := goodIn_r _ [15, 1, 16, 17, 18, 14, 19, 26, 27, 28, 29, 30, 31, 32, 33, 34, 35, 36, 37] rfl (by decide +kernel)
set_option maxRecDepth 20000 in
theorem gX7_term_X7_isCase : GoodIn wsX7_term (wsV RX7 96 RX7 yX7_isCase wsX7_isCase) := goodIn_app (goodIn_r _ [11, 12, 13, 14] rfl (by decide +kernel)) ggX7_term_X7_isCase
theorem dX7_term_2 : decode cX7_term 2 = .ok (.invokevirtual 96, 3) := db_X7_term_0.2.2.1
theorem dX7_term_5 : decode cX7_term 5 = .ok (.ifCond .eq 43, 3) := db_X7_term_0.2.2.2.1
theorem dX7_term_8 : decode cX7_term 8 = .ok (.iload_n 2, 1) := db_X7_term_0.2.2.2.2.1
set_option maxRecDepth 20000 in
theorem ggX7_term_X7_isSide : GoodIn wsX7_term wsX7_isSide := goodIn_r _ [22, 17, 18, 14, 19] rfl (by decide +kernel)
set_option maxRecDepth 20000 in
theorem gX7_term_X7_isSide : GoodIn wsX7_term (va_wsS RX7 132 yX7_isSide wsX7_isSide) := goodIn_app (goodIn_r _ [20, 21, 14] rfl (by decide +kernel)) ggX7_term_X7_isSide
theorem dX7_term_9 : decode cX7_term 9 = .ok (.invokestatic 132, 3) := db_X7_term_0.2.2.2.2.2.1
theorem dX7_term_12 : decode cX7_term 12 = .ok (.ifCond .eq 36, 3) := db_X7_term_0.2.2.2.2.2.2.1
theorem dX7_term_15 : decode cX7_term 15 = .ok (.iload 4, 2) := db_X7_term_0.2.2.2.2.2.2.2
set_option maxRecDepth 20000 in
theorem db_X7_term_17 : (decode cX7_term 17 = .ok (.iconst 0, 1)) ∧ (decode cX7_term 18 = .ok (.iconst 5, 1)) ∧ (decode cX7_term 19 = .ok (.invokestatic 37, 3)) ∧ (decode cX7_term 22 = .ok (.ifCond .eq 26, 3)) ∧ (decode cX7_term 25 = .ok (.iload 5, 2)) ∧ (decode cX7_term 27 = .ok (.invokestatic 166, 3)) ∧ (decode cX7_term 30 = .ok (.ifCond .eq 18, 3)) ∧ (decode cX7_term 33 = .ok (.iload 6, 2)) := by decide +kernel
theorem dX7_term_17 : decode cX7_term 17 = .ok (.iconst 0, 1) := db_X7_term_17.1
theorem dX7_term_18 : decode cX7_term 18 = .ok (.iconst 5, 1) := db_X7_term_17.2.1
set_option maxRecDepth 20000 in
theorem ggX7_term_X7_isWithin : GoodIn wsX7_term wsX7_isWithin := goodIn_r _ [19] rfl (by decide +kernel)
set_option maxRecDepth 20000 in
theorem gX7_term_X7_isWithin : GoodIn wsX7_term (va_wsS RX7 37 yX7_isWithin wsX7_isWithin) := goodIn_app (goodIn_r _ [17, 18, 14] rfl (by decide +kernel)) ggX7_term_X7_isWithin
theorem dX7_term_19 : decode cX7_term 19 = .ok (.invokestatic 37, 3) := db_X7_term_17.2.2.1
theorem dX7_term_22 : decode cX7_term 22 = .ok (.ifCond .eq 26, 3) := db_X7_term_17.2.2.2.1
theorem dX7_term_25 : decode cX7_term 25 = .ok (.iload 5, 2) := db_X7_term_17.2.2.2.2.1
set_option maxRecDepth 20000 in
theorem ggX7_term_X7_isHour : GoodIn wsX7_term wsX7_isHour := goodIn_r _ [25, 17, 18, 14, 19] rfl (by decide +kernel)
set_option maxRecDepth 20000 in
theorem gX7_term_X7_isHour : GoodIn wsX7_term (va_wsS RX7 166 yX7_isHour wsX7_isHour) := goodIn_app (goodIn_r _ [23, 24, 14] rfl (by decide +kernel)) ggX7_term_X7_isHour
theorem dX7_term_27 : decode cX7_term 27 = .ok (.invokestatic 166, 3) := db_X7_term_17.2.2.2.2.2.1
theorem dX7_term_30 : decode cX7_term 30 = .ok (.ifCond .eq 18, 3) := db_X7_term_17.2.2.2.2.2.2.1
theorem dX7_term_33 : decode cX7_term 33 = .ok (.iload 6, 2) := db_X7_term_17.2.2.2.2.2.2.2
set_option maxRecDepth 20000 in
theorem db_X7_term_35 : (decode cX7_term 35 = .ok (.invokestatic 166, 3)) ∧ (decode cX7_term 38 = .ok (.ifCond .eq 10, 3)) ∧ (decode cX7_term 41 = .ok (.iload 5, 2)) ∧ (decode cX7_term 43 = .ok (.iload 6, 2)) ∧ (decode cX7_term 45 = .ok (.if_icmp .le 5, 3)) ∧ (decode cX7_term 50 = .ok (.aload_n 0, 1)) ∧ (decode cX7_term 51 = .ok (.getfield 12, 3)) ∧ (decode cX7_term 54 = .ok (.getfield 86, 3)) := by decide +kernel
theorem dX7_term_35 : decode cX7_term 35 = .ok (.invokestatic 166, 3) := db_X7_term_35.1
theorem dX7_term_38 : decode cX7_term 38 = .ok (.ifCond .eq 10, 3) := db_X7_term_35.2.1
theorem dX7_term_41 : decode cX7_term 41 = .ok (.iload 5, 2) := db_X7_term_35.2.2.1
theorem dX7_term_43 : decode cX7_term 43 = .ok (.iload 6, 2) := db_X7_term_35.2.2.2.1
theorem dX7_term_45 : decode cX7_term 45 = .ok (.if_icmp .le 5, 3) := db_X7_term_35.2.2.2.2.1
theorem dX7_term_50 : decode cX7_term 50 = .ok (.aload_n 0, 1) := db_X7_term_35.2.2.2.2.2.1
theorem dX7_term_51 : decode cX7_term 51 = .ok (.getfield 12, 3) := db_X7_term_35.2.2.2.2.2.2.1
theorem dX7_term_54 : decode cX7_term 54 = .ok (.getfield 86, 3) := db_X7_term_35.2.2.2.2.2.2.2
set_option maxRecDepth 20000 in
theorem db_X7_term_57 : (decode cX7_term 57 = .ok (.iload_n 1, 1)) ∧ (decode cX7_term 58 = .ok (.aaload, 1)) ∧ (decode cX7_term 59 = .ok (.astore 7, 2)) ∧ (decode cX7_term 61 = .ok (.aload 7, 2)) ∧ (decode cX7_term 63 = .ok (.getfield 99, 3)) ∧ (decode cX7_term 66 = .ok (.iconst 1, 1)) ∧ (decode cX7_term 67 = .ok (.if_icmp .eq 6, 3)) ∧ (decode cX7_term 73 = .ok (.aload 7, 2)) := by decide +kernel
theorem dX7_term_57 : decode cX7_term 57 = .ok (.iload_n 1, 1) := db_X7_term_57.1
theorem dX7_term_58 : decode cX7_term 58 = .ok (.aaload, 1) := db_X7_term_57.2.1
theorem dX7_term_59 : decode cX7_term 59 = .ok (.astore 7, 2) := db_X7_term_57.2.2.1
theorem dX7_term_61 : decode cX7_term 61 = .ok (.aload 7, 2) := db_X7_term_57.2.2.2.1
theorem dX7_term_63 : decode cX7_term 63 = .ok (.getfield 99, 3) := db_X7_term_57.2.2.2.2.1
theorem dX7_term_66 : decode cX7_term 66 = .ok (.iconst 1, 1) := db_X7_term_57.2.2.2.2.2.1
theorem dX7_term_67 : decode cX7_term 67 = .ok (.if_icmp .eq 6, 3) := db_X7_term_57.2.2.2.2.2.2.1
theorem dX7_term_73 : decode cX7_term 73 = .ok (.aload 7, 2) := db_X7_term_57.2.2.2.2.2.2.2
set_option maxRecDepth 20000 in
theorem db_X7_term_75 : (decode cX7_term 75 = .ok (.getfield 169, 3)) ∧ (decode cX7_term 78 = .ok (.iconst 5, 1)) ∧ (decode cX7_term 79 = .ok (.if_icmp .lt 6, 3)) ∧ (decode cX7_term 85 = .ok (.aload 7, 2)) ∧ (decode cX7_term 87 = .ok (.getfield 172, 3)) ∧ (decode cX7_term 90 = .ok (.aload 7, 2)) ∧ (decode cX7_term 92 = .ok (.getfield 169, 3)) ∧ (decode cX7_term 95 = .ok (.aaload, 1)) := by decide +kernel
theorem dX7_term_75 : decode cX7_term 75 = .ok (.getfield 169, 3) := db_X7_term_75.1
theorem dX7_term_78 : decode cX7_term 78 = .ok (.iconst 5, 1) := db_X7_term_75.2.1
theorem dX7_term_79 : decode cX7_term 79 = .ok (.if_icmp .lt 6, 3) := db_X7_term_75.2.2.1
theorem dX7_term_85 : decode cX7_term 85 = .ok (.aload 7, 2) := db_X7_term_75.2.2.2.1
theorem dX7_term_87 : decode cX7_term 87 = .ok (.getfield 172, 3) := db_X7_term_75.2.2.2.2.1
theorem dX7_term_90 : decode cX7_term 90 = .ok (.aload 7, 2) := db_X7_term_75.2.2.2.2.2.1
theorem dX7_term_92 : decode cX7_term 92 = .ok (.getfield 169, 3) := db_X7_term_75.2.2.2.2.2.2.1
theorem dX7_term_95 : decode cX7_term 95 = .ok (.aaload, 1) := db_X7_term_75.2.2.2.2.2.2.2
set_option maxRecDepth 20000 in
theorem db_X7_term_96 : (decode cX7_term 96 = .ok (.astore 8, 2)) ∧ (decode cX7_term 98 = .ok (.aload 8, 2)) ∧ (decode cX7_term 100 = .ok (.iload_n 2, 1)) ∧ (decode cX7_term 101 = .ok (.putfield 176, 3)) ∧ (decode cX7_term 104 = .ok (.aload 8, 2)) ∧ (decode cX7_term 106 = .ok (.iload_n 3, 1)) ∧ (decode cX7_term 107 = .ok (.putfield 181, 3)) ∧ (decode cX7_term 110 = .ok (.aload 8, 2)) := by decide +kernel
theorem dX7_term_96 : decode cX7_term 96 = .ok (.astore 8, 2) := db_X7_term_96.1
theorem dX7_term_98 : decode cX7_term 98 = .ok (.aload 8, 2) := db_X7_term_96.2.1
theorem dX7_term_100 : decode cX7_term 100 = .ok (.iload_n 2, 1) := db_X7_term_96.2.2.1
theorem dX7_term_101 : decode cX7_term 101 = .ok (.putfield 176, 3) := db_X7_term_96.2.2.2.1
theorem dX7_term_104 : decode cX7_term 104 = .ok (.aload 8, 2) := db_X7_term_96.2.2.2.2.1
theorem dX7_term_106 : decode cX7_term 106 = .ok (.iload_n 3, 1) := db_X7_term_96.2.2.2.2.2.1
theorem dX7_term_107 : decode cX7_term 107 = .ok (.putfield 181, 3) := db_X7_term_96.2.2.2.2.2.2.1
theorem dX7_term_110 : decode cX7_term 110 = .ok (.aload 8, 2) := db_X7_term_96.2.2.2.2.2.2.2
set_option maxRecDepth 20000 in
theorem db_X7_term_112 : (decode cX7_term 112 = .ok (.iload 4, 2)) ∧ (decode cX7_term 114 = .ok (.putfield 185, 3)) ∧ (decode cX7_term 117 = .ok (.aload 8, 2)) ∧ (decode cX7_term 119 = .ok (.iload 5, 2)) ∧ (decode cX7_term 121 = .ok (.putfield 188, 3)) ∧ (decode cX7_term 124 = .ok (.aload 8, 2)) ∧ (decode cX7_term 126 = .ok (.iload 6, 2)) ∧ (decode cX7_term 128 = .ok (.putfield 191, 3)) := by decide +kernel
theorem dX7_term_112 : decode cX7_term 112 = .ok (.iload 4, 2) := db_X7_term_112.1
theorem dX7_term_114 : decode cX7_term 114 = .ok (.putfield 185, 3) := db_X7_term_112.2.1
theorem dX7_term_117 : decode cX7_term 117 = .ok (.aload 8, 2) := db_X7_term_112.2.2.1
theorem dX7_term_119 : decode cX7_term 119 = .ok (.iload 5, 2) := db_X7_term_112.2.2.2.1
theorem dX7_term_121 : decode cX7_term 121 = .ok (.putfield 188, 3) := db_X7_term_112.2.2.2.2.1
theorem dX7_term_124 : decode cX7_term 124 = .ok (.aload 8, 2) := db_X7_term_112.2.2.2.2.2.1
theorem dX7_term_126 : decode cX7_term 126 = .ok (.iload 6, 2) := db_X7_term_112.2.2.2.2.2.2.1
theorem dX7_term_128 : decode cX7_term 128 = .ok (.putfield 191, 3) := db_X7_term_112.2.2.2.2.2.2.2
set_option maxRecDepth 20000 in
theorem db_X7_term_131 : (decode cX7_term 131 = .ok (.aload 7, 2)) ∧ (decode cX7_term 133 = .ok (.dup, 1)) ∧ (decode cX7_term 134 = .ok (.getfield 169, 3)) ∧ (decode cX7_term 137 = .ok (.dup_x1, 1)) ∧ (decode cX7_term 138 = .ok (.iconst 1, 1)) ∧ (decode cX7_term 139 = .ok (.iadd, 1)) ∧ (decode cX7_term 140 = .ok (.putfield 169, 3)) ∧ (decode cX7_term 143 = .ok (.ireturn, 1)) := by decide +kernel
theorem dX7_term_131 : decode cX7_term 131 = .ok (.aload 7, 2) := db_X7_term_131.1
theorem dX7_term_133 : decode cX7_term 133 = .ok (.dup, 1) := db_X7_term_131.2.1
theorem dX7_term_134 : decode cX7_term 134 = .ok (.getfield 169, 3) := db_X7_term_131.2.2.1
theorem dX7_term_137 : decode cX7_term 137 = .ok (.dup_x1, 1) := db_X7_term_131.2.2.2.1
theorem dX7_term_138 : decode cX7_term 138 = .ok (.iconst 1, 1) := db_X7_term_131.2.2.2.2.1
theorem dX7_term_139 : decode cX7_term 139 = .ok (.iadd, 1) := db_X7_term_131.2.2.2.2.2.1
theorem dX7_term_140 : decode cX7_term 140 = .ok (.putfield 169, 3) := db_X7_term_131.2.2.2.2.2.2.1
theorem dX7_term_143 : decode cX7_term 143 = .ok (.ireturn, 1) := db_X7_term_131.2.2.2.2.2.2.2
set_option maxRecDepth 20000 in
theorem db_X7_term_82 : (decode cX7_term 82 = .ok (.bipush (-2), 2)) ∧ (decode cX7_term 84 = .ok (.ireturn, 1)) ∧ (decode cX7_term 70 = .ok (.bipush (-4), 2)) ∧ (decode cX7_term 72 = .ok (.ireturn, 1)) ∧ (decode cX7_term 48 = .ok (.iconst (-1), 1)) ∧ (decode cX7_term 49 = .ok (.ireturn, 1)) := by decide +kernel
theorem dX7_term_82 : decode cX7_term 82 = .ok (.bipush (-2), 2) := db_X7_term_82.1
theorem dX7_term_84 : decode cX7_term 84 = .ok (.ireturn, 1) := db_X7_term_82.2.1
theorem dX7_term_70 : decode cX7_term 70 = .ok (.bipush (-4), 2) := db_X7_term_82.2.2.1
theorem dX7_term_72 : decode cX7_term 72 = .ok (.ireturn, 1) := db_X7_term_82.2.2.2.1
theorem dX7_term_48 : decode cX7_term 48 = .ok (.iconst (-1), 1) := db_X7_term_82.2.2.2.2.1
theorem dX7_term_49 : decode cX7_term 49 = .ok (.ireturn, 1) := db_X7_term_82.2.2.2.2.2
set_option maxRecDepth 20000 in
theorem db_X7_isTerm_0 : (decode cX7_isTerm 0 = .ok (.aload_n 0, 1)) ∧ (decode cX7_isTerm 1 = .ok (.iload_n 1, 1)) ∧ (decode cX7_isTerm 2 = .ok (.invokevirtual 96, 3)) ∧ (decode cX7_isTerm 5 = .ok (.ifCond .eq 29, 3)) ∧ (decode cX7_isTerm 8 = .ok (.iload_n 2, 1)) ∧ (decode cX7_isTerm 9 = .ok (.iconst 0, 1)) ∧ (decode cX7_isTerm 10 = .ok (.aload_n 0, 1)) ∧ (decode cX7_isTerm 11 = .ok (.getfield 12, 3)) := by decide +kernel
theorem dX7_isTerm_0 : decode cX7_isTerm 0 = .ok (.aload_n 0, 1) := db_X7_isTerm_0.1
theorem dX7_isTerm_1 : decode cX7_isTerm 1 = .ok (.iload_n 1, 1) := db_X7_isTerm_0.2.1
set_option maxRecDepth 20000 in
theorem ggX7_isTerm_X7_isCase : GoodIn wsX7_isTerm wsX7_isCase := goodIn_r _ [8, 1, 9, 10, 11, 7, 12, 13, 14, 15, 16, 17, 18, 19, 20, 21, 22, 23, 24] rfl (by decide +kernel)
set_option maxRecDepth 20000 in
theorem gX7_isTerm_X7_isCase : GoodIn wsX7_isTerm (wsV RX7 96 RX7 yX7_isCase wsX7_isCase) := goodIn_app (goodIn_r _ [4, 5, 6, 7] rfl (by decide +kernel)) ggX7_isTerm_X7_isCase
theorem dX7_isTerm_2 : decode cX7_isTerm 2 = .ok (.invokevirtual 96, 3) := db_X7_isTerm_0.2.2.1
theorem dX7_isTerm_5 : decode cX7_isTerm 5 = .ok (.ifCond .eq 29, 3) := db_X7_isTerm_0.2.2.2.1
theorem dX7_isTerm_8 : decode cX7_isTerm 8 = .ok (.iload_n 2, 1) := db_X7_isTerm_0.2.2.2.2.1
theorem dX7_isTerm_9 : decode cX7_isTerm 9 = .ok (.iconst 0, 1) := db_X7_isTerm_0.2.2.2.2.2.1
theorem dX7_isTerm_10 : decode cX7_isTerm 10 = .ok (.aload_n 0, 1) := db_X7_isTerm_0.2.2.2.2.2.2.1
theorem dX7_isTerm_11 : decode cX7_isTerm 11 = .ok (.getfield 12, 3) := db_X7_isTerm_0.2.2.2.2.2.2.2
set_option maxRecDepth 20000 in
theorem db_X7_isTerm_14 : (decode cX7_isTerm 14 = .ok (.getfield 86, 3)) ∧ (decode cX7_isTerm 17 = .ok (.iload_n 1, 1)) ∧ (decode cX7_isTerm 18 = .ok (.aaload, 1)) ∧ (decode cX7_isTerm 19 = .ok (.getfield 169, 3)) ∧ (decode cX7_isTerm 22 = .ok (.iconst 1, 1)) ∧ (decode cX7_isTerm 23 = .ok (.isub, 1)) ∧ (decode cX7_isTerm 24 = .ok (.invokestatic 37, 3)) ∧ (decode cX7_isTerm 27 = .ok (.ifCond .eq 7, 3)) := by decide +kernel
theorem dX7_isTerm_14 : decode cX7_isTerm 14 = .ok (.getfield 86, 3) := db_X7_isTerm_14.1
theorem dX7_isTerm_17 : decode cX7_isTerm 17 = .ok (.iload_n 1, 1) := db_X7_isTerm_14.2.1
theorem dX7_isTerm_18 : decode cX7_isTerm 18 = .ok (.aaload, 1) := db_X7_isTerm_14.2.2.1
theorem dX7_isTerm_19 : decode cX7_isTerm 19 = .ok (.getfield 169, 3) := db_X7_isTerm_14.2.2.2.1
theorem dX7_isTerm_22 : decode cX7_isTerm 22 = .ok (.iconst 1, 1) := db_X7_isTerm_14.2.2.2.2.1
theorem dX7_isTerm_23 : decode cX7_isTerm 23 = .ok (.isub, 1) := db_X7_isTerm_14.2.2.2.2.2.1
set_option maxRecDepth 20000 in
theorem ggX7_isTerm_X7_isWithin : GoodIn wsX7_isTerm wsX7_isWithin := goodIn_r _ [12] rfl (by decide +kernel)
set_option maxRecDepth 20000 in
theorem gX7_isTerm_X7_isWithin : GoodIn wsX7_isTerm (va_wsS RX7 37 yX7_isWithin wsX7_isWithin) := goodIn_app (goodIn_r _ [10, 11, 7] rfl (by decide +kernel)) ggX7_isTerm_X7_isWithin
theorem dX7_isTerm_24 : decode cX7_isTerm 24 = .ok (.invokestatic 37, 3) := db_X7_isTerm_14.2.2.2.2.2.2.1
theorem dX7_isTerm_27 : decode cX7_isTerm 27 = .ok (.ifCond .eq 7, 3) := db_X7_isTerm_14.2.2.2.2.2.2.2
set_option maxRecDepth 20000 in
theorem db_X7_isTerm_30 : (decode cX7_isTerm 30 = .ok (.iconst 1, 1)) ∧ (decode cX7_isTerm 31 = .ok (.goto 4, 3)) ∧ (decode cX7_isTerm 35 = .ok (.ireturn, 1)) ∧ (decode cX7_isTerm 34 = .ok (.iconst 0, 1)) := by decide +kernel
theorem dX7_isTerm_30 : decode cX7_isTerm 30 = .ok (.iconst 1, 1) := db_X7_isTerm_30.1
theorem dX7_isTerm_31 : decode cX7_isTerm 31 = .ok (.goto 4, 3) := db_X7_isTerm_30.2.1
theorem dX7_isTerm_35 : decode cX7_isTerm 35 = .ok (.ireturn, 1) := db_X7_isTerm_30.2.2.1
theorem dX7_isTerm_34 : decode cX7_isTerm 34 = .ok (.iconst 0, 1) := db_X7_isTerm_30.2.2.2
theorem t_bool {x : Int32} (h : 0 ≤ x.toInt ∧ x.toInt ≤ 1) : x = 0 ∨ x = 1 := by
  have k0 : (0 : Int32).toInt = 0 := by decide
  have k1 : (1 : Int32).toInt = 1 := by decide
  rcases (show x.toInt = 0 ∨ x.toInt = 1 by omega) with q | q
  · exact Or.inl (Int32.toInt_inj.mp (by rw [q, k0]))
  · exact Or.inr (Int32.toInt_inj.mp (by rw [q, k1]))

set_option maxHeartbeats 4000000 in
set_option maxRecDepth 100000 in
theorem g_X7_party (l : Launch) (dC : Nat → ClassId) (dI : Nat → Nat → Nat) (cy : Nat → ClassId) (sz : Nat) (ad : Nat → Nat) (kv : Value) (N : Nat) (hN : 119 ≤ N) (v : Nat → Nat → Int32) (hv : Iv v)  (x0 x1 : Int32) : Met l yX7_party wsX7_party ({ frames := 1, cells := 0, slots := 0, locals := 64 }) (va_Pc [.ref (ad 0), .int x0, .int x1] (ex_Pre dC dI cy sz (wl ad kv cy N v))) (va_Qi (fun (r : Int32) (u : Nat → Nat → Int32) => Iv u ∧ True) (fun u t => ex_Pst dC dI (va_A (wl ad kv cy N v) sz) (wl ad kv cy N u) t) (va_A (wl ad kv cy N v) sz)) 0 0 (va_A (wl ad kv cy N v) sz) := by
  refine Met.ofW (cc := cX7_party) (maxL := 4) (ret := (some .int)) (by decide) rfl ?_
  intro p e s m args below meth c s₁ B hml hv
  obtain ⟨rfl, hsz, hE, hP, hK, hD0⟩ := hv
  have hx := B.exec
  have hb := B.bytes
  have hr := B.returns
  have hts := atoms_spec (ws := wsX7_party) B.pre
  have hown : s.vm.findClass RX7 = some m.cls := findClass_of_methodNamed B.named
  have hlocks := B.notSynchronized
  subst hsz
  have hD := hD0.self (sz := s.heap.size)
  generalize hAe : va_A (wl ad kv cy N v) s.heap.size = A at hD ⊢
  have hA : ∀ q : Nat, s.heap.size ≤ q → A q := fun q h => by rw [← hAe]; exact Or.inr h
  have hS : va_S A s.heap s.heap [] := va_S.rf
  have hP : va_P (dC, dI) vwCl (wl ad kv cy N v) s.heap := hP
  have hl := lv_entry ([.ref (ad 0), .int x0, .int x1]) (n := 4) (Nat.le_of_ble_eq_true rfl)
  rw [lg_entry_eq]
  generalize (lg_sl ([.ref (ad 0), .int x0, .int x1]) ++ List.replicate (4 - (lg_sl ([.ref (ad 0), .int x0, .int x1])).length) Slot.unset).toArray = ls at hl ⊢
  have hl : lv_has ls 4 [(0, .ref (ad 0)), (1, .int x0), (2, .int x1)] := hl
  have hfr : Fr v v := Fr.rf
  refine lv_iload_n hx hb dX7_party_0 rfl (lv_at hl 1 rfl) ?_
  refine lv_iconst (v := 0) hx hb dX7_party_1 (by decide) ?_
  refine lv_bipush (v := 9) hx hb dX7_party_2 (by decide) ?_
  refine yc_p hP hS (va_runS (As := [.int x0, .int 0, .int 9]) (rest := []) ⟨hx, hb, hml, hown, hts⟩ (c_X7_isWithin l x0 0 9) (cwS 3 hts gX7_party_X7_isWithin rfl rfl rfl hd_S_X7_isWithin_3 ⟨Nat.le_of_ble_eq_true rfl, Nat.le_of_ble_eq_true rfl⟩) ex_preP rfl rfl hl.1 rfl (lv_room (Nat.le_of_ble_eq_true rfl)) dX7_party_4 ⟨Nat.le_of_ble_eq_true rfl, Nat.le_of_ble_eq_true rfl⟩) (fun r_1 H locs hw_1 hP hS => ?_)
  rcases wi_ca hw_1 with ⟨rfl, hc_2⟩ | ⟨rfl, hc_2⟩
  · have k_0 : (0 : Int32).toInt = 0 := by decide
    have k_9 : (9 : Int32).toInt = 9 := by decide
    have tc_2 := wi_tl hc_2
    refine lv_if_eq (tgt := 19) hx hb dX7_party_7 (by decide) (fun c9 => absurd c9 (by decide)) (fun _ => ?_)
    refine lv_iload_n hx hb dX7_party_10 rfl (lv_at hl 2 rfl) ?_
    refine lv_iconst (v := 0) hx hb dX7_party_11 (by decide) ?_
    refine lv_iconst (v := 2) hx hb dX7_party_12 (by decide) ?_
    refine yc_p hP hS (va_runS (As := [.int x1, .int 0, .int 2]) (rest := []) ⟨hx, hb, hml, hown, hts⟩ (c_X7_isWithin l x1 0 2) (cwS 3 hts gX7_party_X7_isWithin rfl rfl rfl hd_S_X7_isWithin_3 ⟨Nat.le_of_ble_eq_true rfl, Nat.le_of_ble_eq_true rfl⟩) ex_preP rfl rfl hl.1 rfl (lv_room (Nat.le_of_ble_eq_true rfl)) dX7_party_13 ⟨Nat.le_of_ble_eq_true rfl, Nat.le_of_ble_eq_true rfl⟩) (fun r_3 H locs hw_3 hP hS => ?_)
    rcases wi_ca hw_3 with ⟨rfl, hc_4⟩ | ⟨rfl, hc_4⟩
    · have k_2 : (2 : Int32).toInt = 2 := by decide
      have tc_4 := wi_tl hc_4
      refine lv_if_ne (tgt := 21) hx hb dX7_party_16 (by decide) (fun _ => ?_) (fun c9 => absurd c9 (by decide))
      refine lv_aload_n hx hb dX7_party_21 rfl (lv_at hl 0 rfl) ?_
      refine va_get (D := (dC, dI)) (ci := 7) (v := .ref (ad 13)) (C := RX7) (T := TX7) (N := 5) hx hb hts iwX7_party_X7 hown hK hP (0) (wl_at (by omega) (ce_0 (by decide))) rfl 0 (by decide) (hts (.fieldLink RX7 12 "QuietStairs" "now" "LQuietStairs$House;") fwX7_party_1) (fun _ h9 => h9) rfl dX7_party_22 ?_
      refine va_get (D := (dC, dI)) (ci := 1) (v := .int (v (13) 0)) (C := RX1) (T := TX1) (N := 7) hx hb hts iwX7_party_X1 hown hK hP (13) (wl_at (by omega) (ce_3 (by decide))) rfl 0 (by decide) (hts (.fieldLink RX7 41 "QuietStairs$House" "partyCount" "I") fwX7_party_2) (fun _ h9 => h9) rfl dX7_party_25 ?_
      refine lv_topi (fun x_5 ex_5 => ?_)
      have bx_5 : 0 ≤ x_5.toInt ∧ x_5.toInt ≤ 8 := by rw [ex_5]; exact hv.at (K := 3) (by decide) rfl
      refine lv_bipush (v := 8) hx hb dX7_party_28 (by decide) ?_
      have k_8 : (8 : Int32).toInt = 8 := by decide
      refine lv_icmp_lt (tgt := 36) hx hb dX7_party_30 (by decide) (fun c_6 => ?_) (fun c_6 => ?_)
      · have tc_6 : x_5.toInt < (8 : Int32).toInt := Int32.lt_iff_toInt_lt.mp c_6
        refine lv_aload_n hx hb dX7_party_36 rfl (lv_at hl 0 rfl) ?_
        refine va_get (D := (dC, dI)) (ci := 7) (v := .ref (ad 13)) (C := RX7) (T := TX7) (N := 5) hx hb hts iwX7_party_X7 hown hK hP (0) (wl_at (by omega) (ce_0 (by decide))) rfl 0 (by decide) (hts (.fieldLink RX7 12 "QuietStairs" "now" "LQuietStairs$House;") fwX7_party_1) (fun _ h9 => h9) rfl dX7_party_37 ?_
        refine va_get (D := (dC, dI)) (ci := 1) (v := .ref (ad 14)) (C := RX1) (T := TX1) (N := 7) hx hb hts iwX7_party_X1 hown hK hP (13) (wl_at (by omega) (ce_3 (by decide))) rfl 4 (by decide) (hts (.fieldLink RX7 44 "QuietStairs$House" "parties" "[LQuietStairs$Party;") fwX7_party_3) (fun _ h9 => h9) rfl dX7_party_40 ?_
        refine lv_aload_n hx hb dX7_party_43 rfl (lv_at hl 0 rfl) ?_
        refine va_get (D := (dC, dI)) (ci := 7) (v := .ref (ad 13)) (C := RX7) (T := TX7) (N := 5) hx hb hts iwX7_party_X7 hown hK hP (0) (wl_at (by omega) (ce_0 (by decide))) rfl 0 (by decide) (hts (.fieldLink RX7 12 "QuietStairs" "now" "LQuietStairs$House;") fwX7_party_1) (fun _ h9 => h9) rfl dX7_party_44 ?_
        refine va_get (D := (dC, dI)) (ci := 1) (v := .int (v (13) 0)) (C := RX1) (T := TX1) (N := 7) hx hb hts iwX7_party_X1 hown hK hP (13) (wl_at (by omega) (ce_3 (by decide))) rfl 0 (by decide) (hts (.fieldLink RX7 41 "QuietStairs$House" "partyCount" "I") fwX7_party_2) (fun _ h9 => h9) rfl dX7_party_47 ?_
        refine lv_topi (fun x_7 ex_7 => ?_)
        rw [← ex_5] at ex_7; replace ex_7 := ex_7.symm; subst ex_7
        obtain ⟨pi8, i8, hi8, ni8, mi8⟩ := t_in (x := x_5) (n := 8) ⟨by omega, by omega⟩
        refine va_aldq hx hb hK hP (14) 1 (wl_at (by omega) (ce_4 (by decide))) rfl pi8 dX7_party_50 ?_
        refine W.eq (g2 := F0 m 51 ls [.ref (ad (17 + i8))]) (by rw [ni8, if_pos hi8, show 14 + 3 + i8 = 17 + i8 from by omega]; rfl) ?_
        refine lv_astore_n (lv' := [(3, .ref (ad (17 + i8))), (0, .ref (ad 0)), (1, .int x0), (2, .int x1)]) hx hb dX7_party_51 rfl hl (by decide) rfl (fun ls hl => ?_)
        refine lv_aload_n hx hb dX7_party_52 rfl (lv_at hl 0 rfl) ?_
        refine lv_iload_n hx hb dX7_party_53 rfl (lv_at hl 2 rfl) ?_
        refine va_put (D := (dC, dI)) (ci := 3) (v := .int x0) (ty := .int) (C := RX3) (T := TX3) (N := 2) hx hb hts iwX7_party_X3 tyX3 tyX3_ok nmX3 hown hK hP hD hS (17 + i8) (wl_at (by omega) (ce_7 (kd_p i8 hi8).1)) rfl 0 (by decide) (hts (.fieldLink RX7 48 "QuietStairs$Party" "floor" "I") fwX7_party_4) (fun _ h9 => h9) rfl (by decide +kernel) rfl rfl (Nat.le_of_ble_eq_true rfl) dX7_party_54 (fun H locs hP hD hS => ?_)
        obtain ⟨v_9, ev_9⟩ : ∃ u : Nat → Nat → Int32, u = upr v (17 + i8) (upd (v (17 + i8)) 0 x0) := ⟨_, rfl⟩
        have hP : va_P (dC, dI) vwCl (wl ad kv cy N v_9) H := by rw [ev_9, ← wl_put (e := _) (ce_7 (kd_p i8 hi8).1)]; exact hP
        have hD : va_D A (wl ad kv cy N v_9) := by rw [ev_9, ← wl_put (e := _) (ce_7 (kd_p i8 hi8).1)]; exact hD
        have hv : Iv v_9 := by rw [ev_9]; exact hv.put (K := 7) (kd_p i8 hi8).1 (fun h q => by simp [bd] at q)
        have hfr : Fr v v_9 := by rw [ev_9]; exact hfr.put (by omega) (by omega) (by omega)
        refine lv_aload_n hx hb dX7_party_57 rfl (lv_at hl 0 rfl) ?_
        refine lv_iload_n hx hb dX7_party_58 rfl (lv_at hl 3 rfl) ?_
        refine va_put (D := (dC, dI)) (ci := 3) (v := .int x1) (ty := .int) (C := RX3) (T := TX3) (N := 2) hx hb hts iwX7_party_X3 tyX3 tyX3_ok nmX3 hown hK hP hD hS (17 + i8) (wl_at (by omega) (ce_7 (kd_p i8 hi8).1)) rfl 1 (by decide) (hts (.fieldLink RX7 53 "QuietStairs$Party" "tongue" "I") fwX7_party_5) (fun _ h9 => h9) rfl (by decide +kernel) rfl rfl (Nat.le_of_ble_eq_true rfl) dX7_party_59 (fun H locs hP hD hS => ?_)
        obtain ⟨v_10, ev_10⟩ : ∃ u : Nat → Nat → Int32, u = upr v_9 (17 + i8) (upd (v_9 (17 + i8)) 1 x1) := ⟨_, rfl⟩
        have hP : va_P (dC, dI) vwCl (wl ad kv cy N v_10) H := by rw [ev_10, ← wl_put (e := _) (ce_7 (kd_p i8 hi8).1)]; exact hP
        have hD : va_D A (wl ad kv cy N v_10) := by rw [ev_10, ← wl_put (e := _) (ce_7 (kd_p i8 hi8).1)]; exact hD
        have hv : Iv v_10 := by rw [ev_10]; exact hv.put (K := 7) (kd_p i8 hi8).1 (fun h q => by simp [bd] at q)
        have hfr : Fr v v_10 := by rw [ev_10]; exact hfr.put (by omega) (by omega) (by omega)
        refine lv_aload_n hx hb dX7_party_62 rfl (lv_at hl 1 rfl) ?_
        refine va_get (D := (dC, dI)) (ci := 7) (v := .ref (ad 13)) (C := RX7) (T := TX7) (N := 5) hx hb hts iwX7_party_X7 hown hK hP (0) (wl_at (by omega) (ce_0 (by decide))) rfl 0 (by decide) (hts (.fieldLink RX7 12 "QuietStairs" "now" "LQuietStairs$House;") fwX7_party_1) (fun _ h9 => h9) rfl dX7_party_63 ?_
        refine lv_dup hx hb dX7_party_66 rfl ?_
        refine va_get (D := (dC, dI)) (ci := 1) (v := .int (v_10 (13) 0)) (C := RX1) (T := TX1) (N := 7) hx hb hts iwX7_party_X1 hown hK hP (13) (wl_at (by omega) (ce_3 (by decide))) rfl 0 (by decide) (hts (.fieldLink RX7 41 "QuietStairs$House" "partyCount" "I") fwX7_party_2) (fun _ h9 => h9) rfl dX7_party_67 ?_
        refine lv_topi (fun x_11 ex_11 => ?_)
        rw [ev_10, upr_n (by omega)] at ex_11
        rw [ev_9, upr_n (by omega)] at ex_11
        rw [← ex_5] at ex_11; replace ex_11 := ex_11.symm; subst ex_11
        refine lv_dup_x1 hx hb dX7_party_70 rfl rfl ?_
        refine lv_iconst (v := 1) hx hb dX7_party_71 (by decide) ?_
        have k_1 : (1 : Int32).toInt = 1 := by decide
        refine lv_iadd hx hb dX7_party_72 ?_
        refine lv_topi (fun x_12 ex_12 => ?_)
        have tx_12 : x_12.toInt = x_5.toInt + (1 : Int32).toInt := by rw [ex_12]; exact t_add ⟨by omega, by omega⟩
        refine va_put (D := (dC, dI)) (ci := 1) (v := .int x_12) (ty := .int) (C := RX1) (T := TX1) (N := 7) hx hb hts iwX7_party_X1 tyX1 tyX1_ok nmX1 hown hK hP hD hS (13) (wl_at (by omega) (ce_3 (by decide))) rfl 0 (by decide) (hts (.fieldLink RX7 41 "QuietStairs$House" "partyCount" "I") fwX7_party_2) (fun _ h9 => h9) rfl (by decide +kernel) rfl rfl (Nat.le_of_ble_eq_true rfl) dX7_party_73 (fun H locs hP hD hS => ?_)
        obtain ⟨v_13, ev_13⟩ : ∃ u : Nat → Nat → Int32, u = upr v_10 (13) (upd (v_10 (13)) 0 x_12) := ⟨_, rfl⟩
        have hP : va_P (dC, dI) vwCl (wl ad kv cy N v_13) H := by rw [ev_13, ← wl_put (e := _) (ce_3 (by decide))]; exact hP
        have hD : va_D A (wl ad kv cy N v_13) := by rw [ev_13, ← wl_put (e := _) (ce_3 (by decide))]; exact hD
        have hv : Iv v_13 := by rw [ev_13]; exact hv.put (K := 3) (by decide) (fun h q => by cases q; exact ⟨by omega, by omega⟩)
        exact W.iret (v := x_5) hx hb hr (fun t ht hW => ⟨⟨x_5, v_13, rfl, ⟨hv, trivial⟩, by rw [ht]; exact hP, hD⟩, hS.F ht⟩) hS.2.2 dX7_party_76
      · have tc_6 : x_5.toInt ≥ (8 : Int32).toInt := Int32.le_iff_toInt_le.mp (Int32.not_lt.mp c_6)
        refine lv_bipush (v := (-2)) hx hb dX7_party_33 (by decide) ?_
        exact W.iret (v := (-2)) hx hb hr (fun t ht hW => ⟨⟨(-2), v, rfl, ⟨hv, trivial⟩, by rw [ht]; exact hP, hD⟩, hS.F ht⟩) hS.2.2 dX7_party_35
    · refine lv_if_ne (tgt := 21) hx hb dX7_party_16 (by decide) (fun c9 => absurd c9 (by decide)) (fun _ => ?_)
      refine lv_iconst (v := (-1)) hx hb dX7_party_19 (by decide) ?_
      exact W.iret (v := (-1)) hx hb hr (fun t ht hW => ⟨⟨(-1), v, rfl, ⟨hv, trivial⟩, by rw [ht]; exact hP, hD⟩, hS.F ht⟩) hS.2.2 dX7_party_20
  · refine lv_if_eq (tgt := 19) hx hb dX7_party_7 (by decide) (fun _ => ?_) (fun c9 => absurd c9 (by decide))
    refine lv_iconst (v := (-1)) hx hb dX7_party_19 (by decide) ?_
    exact W.iret (v := (-1)) hx hb hr (fun t ht hW => ⟨⟨(-1), v, rfl, ⟨hv, trivial⟩, by rw [ht]; exact hP, hD⟩, hS.F ht⟩) hS.2.2 dX7_party_20

set_option maxHeartbeats 4000000 in
set_option maxRecDepth 100000 in
theorem g_X7_mediator (l : Launch) (dC : Nat → ClassId) (dI : Nat → Nat → Nat) (cy : Nat → ClassId) (sz : Nat) (ad : Nat → Nat) (kv : Value) (N : Nat) (hN : 119 ≤ N) (v : Nat → Nat → Int32) (hv : Iv v)  (x0 x1 : Int32) : Met l yX7_mediator wsX7_mediator ({ frames := 1, cells := 0, slots := 0, locals := 64 }) (va_Pc [.ref (ad 0), .int x0, .int x1] (ex_Pre dC dI cy sz (wl ad kv cy N v))) (va_Qi (fun (r : Int32) (u : Nat → Nat → Int32) => Iv u ∧ True) (fun u t => ex_Pst dC dI (va_A (wl ad kv cy N v) sz) (wl ad kv cy N u) t) (va_A (wl ad kv cy N v) sz)) 0 0 (va_A (wl ad kv cy N v) sz) := by
  refine Met.ofW (cc := cX7_mediator) (maxL := 4) (ret := (some .int)) (by decide) rfl ?_
  intro p e s m args below meth c s₁ B hml hv
  obtain ⟨rfl, hsz, hE, hP, hK, hD0⟩ := hv
  have hx := B.exec
  have hb := B.bytes
  have hr := B.returns
  have hts := atoms_spec (ws := wsX7_mediator) B.pre
  have hown : s.vm.findClass RX7 = some m.cls := findClass_of_methodNamed B.named
  have hlocks := B.notSynchronized
  subst hsz
  have hD := hD0.self (sz := s.heap.size)
  generalize hAe : va_A (wl ad kv cy N v) s.heap.size = A at hD ⊢
  have hA : ∀ q : Nat, s.heap.size ≤ q → A q := fun q h => by rw [← hAe]; exact Or.inr h
  have hS : va_S A s.heap s.heap [] := va_S.rf
  have hP : va_P (dC, dI) vwCl (wl ad kv cy N v) s.heap := hP
  have hl := lv_entry ([.ref (ad 0), .int x0, .int x1]) (n := 4) (Nat.le_of_ble_eq_true rfl)
  rw [lg_entry_eq]
  generalize (lg_sl ([.ref (ad 0), .int x0, .int x1]) ++ List.replicate (4 - (lg_sl ([.ref (ad 0), .int x0, .int x1])).length) Slot.unset).toArray = ls at hl ⊢
  have hl : lv_has ls 4 [(0, .ref (ad 0)), (1, .int x0), (2, .int x1)] := hl
  have hfr : Fr v v := Fr.rf
  refine lv_iload_n hx hb dX7_mediator_0 rfl (lv_at hl 1 rfl) ?_
  refine lv_iconst (v := 0) hx hb dX7_mediator_1 (by decide) ?_
  refine lv_bipush (v := 9) hx hb dX7_mediator_2 (by decide) ?_
  refine yc_p hP hS (va_runS (As := [.int x0, .int 0, .int 9]) (rest := []) ⟨hx, hb, hml, hown, hts⟩ (c_X7_isWithin l x0 0 9) (cwS 3 hts gX7_mediator_X7_isWithin rfl rfl rfl hd_S_X7_isWithin_3 ⟨Nat.le_of_ble_eq_true rfl, Nat.le_of_ble_eq_true rfl⟩) ex_preP rfl rfl hl.1 rfl (lv_room (Nat.le_of_ble_eq_true rfl)) dX7_mediator_4 ⟨Nat.le_of_ble_eq_true rfl, Nat.le_of_ble_eq_true rfl⟩) (fun r_1 H locs hw_1 hP hS => ?_)
  rcases wi_ca hw_1 with ⟨rfl, hc_2⟩ | ⟨rfl, hc_2⟩
  · have k_0 : (0 : Int32).toInt = 0 := by decide
    have k_9 : (9 : Int32).toInt = 9 := by decide
    have tc_2 := wi_tl hc_2
    refine lv_if_eq (tgt := 20) hx hb dX7_mediator_7 (by decide) (fun c9 => absurd c9 (by decide)) (fun _ => ?_)
    refine lv_iload_n hx hb dX7_mediator_10 rfl (lv_at hl 2 rfl) ?_
    refine lv_iconst (v := 1) hx hb dX7_mediator_11 (by decide) ?_
    refine lv_bipush (v := 7) hx hb dX7_mediator_12 (by decide) ?_
    refine yc_p hP hS (va_runS (As := [.int x1, .int 1, .int 7]) (rest := []) ⟨hx, hb, hml, hown, hts⟩ (c_X7_isWithin l x1 1 7) (cwS 3 hts gX7_mediator_X7_isWithin rfl rfl rfl hd_S_X7_isWithin_3 ⟨Nat.le_of_ble_eq_true rfl, Nat.le_of_ble_eq_true rfl⟩) ex_preP rfl rfl hl.1 rfl (lv_room (Nat.le_of_ble_eq_true rfl)) dX7_mediator_14 ⟨Nat.le_of_ble_eq_true rfl, Nat.le_of_ble_eq_true rfl⟩) (fun r_3 H locs hw_3 hP hS => ?_)
    rcases wi_ca hw_3 with ⟨rfl, hc_4⟩ | ⟨rfl, hc_4⟩
    · have k_1 : (1 : Int32).toInt = 1 := by decide
      have k_7 : (7 : Int32).toInt = 7 := by decide
      have tc_4 := wi_tl hc_4
      refine lv_if_ne (tgt := 22) hx hb dX7_mediator_17 (by decide) (fun _ => ?_) (fun c9 => absurd c9 (by decide))
      refine lv_aload_n hx hb dX7_mediator_22 rfl (lv_at hl 0 rfl) ?_
      refine va_get (D := (dC, dI)) (ci := 7) (v := .ref (ad 13)) (C := RX7) (T := TX7) (N := 5) hx hb hts iwX7_mediator_X7 hown hK hP (0) (wl_at (by omega) (ce_0 (by decide))) rfl 0 (by decide) (hts (.fieldLink RX7 12 "QuietStairs" "now" "LQuietStairs$House;") fwX7_mediator_1) (fun _ h9 => h9) rfl dX7_mediator_23 ?_
      refine va_get (D := (dC, dI)) (ci := 1) (v := .int (v (13) 1)) (C := RX1) (T := TX1) (N := 7) hx hb hts iwX7_mediator_X1 hown hK hP (13) (wl_at (by omega) (ce_3 (by decide))) rfl 1 (by decide) (hts (.fieldLink RX7 56 "QuietStairs$House" "mediatorCount" "I") fwX7_mediator_2) (fun _ h9 => h9) rfl dX7_mediator_26 ?_
      refine lv_topi (fun x_5 ex_5 => ?_)
      have bx_5 : 0 ≤ x_5.toInt ∧ x_5.toInt ≤ 4 := by rw [ex_5]; exact hv.at (K := 3) (by decide) rfl
      refine lv_iconst (v := 4) hx hb dX7_mediator_29 (by decide) ?_
      have k_4 : (4 : Int32).toInt = 4 := by decide
      refine lv_icmp_lt (tgt := 36) hx hb dX7_mediator_30 (by decide) (fun c_6 => ?_) (fun c_6 => ?_)
      · have tc_6 : x_5.toInt < (4 : Int32).toInt := Int32.lt_iff_toInt_lt.mp c_6
        refine lv_aload_n hx hb dX7_mediator_36 rfl (lv_at hl 0 rfl) ?_
        refine va_get (D := (dC, dI)) (ci := 7) (v := .ref (ad 13)) (C := RX7) (T := TX7) (N := 5) hx hb hts iwX7_mediator_X7 hown hK hP (0) (wl_at (by omega) (ce_0 (by decide))) rfl 0 (by decide) (hts (.fieldLink RX7 12 "QuietStairs" "now" "LQuietStairs$House;") fwX7_mediator_1) (fun _ h9 => h9) rfl dX7_mediator_37 ?_
        refine va_get (D := (dC, dI)) (ci := 1) (v := .ref (ad 15)) (C := RX1) (T := TX1) (N := 7) hx hb hts iwX7_mediator_X1 hown hK hP (13) (wl_at (by omega) (ce_3 (by decide))) rfl 5 (by decide) (hts (.fieldLink RX7 59 "QuietStairs$House" "mediators" "[LQuietStairs$Mediator;") fwX7_mediator_3) (fun _ h9 => h9) rfl dX7_mediator_40 ?_
        refine lv_aload_n hx hb dX7_mediator_43 rfl (lv_at hl 0 rfl) ?_
        refine va_get (D := (dC, dI)) (ci := 7) (v := .ref (ad 13)) (C := RX7) (T := TX7) (N := 5) hx hb hts iwX7_mediator_X7 hown hK hP (0) (wl_at (by omega) (ce_0 (by decide))) rfl 0 (by decide) (hts (.fieldLink RX7 12 "QuietStairs" "now" "LQuietStairs$House;") fwX7_mediator_1) (fun _ h9 => h9) rfl dX7_mediator_44 ?_
        refine va_get (D := (dC, dI)) (ci := 1) (v := .int (v (13) 1)) (C := RX1) (T := TX1) (N := 7) hx hb hts iwX7_mediator_X1 hown hK hP (13) (wl_at (by omega) (ce_3 (by decide))) rfl 1 (by decide) (hts (.fieldLink RX7 56 "QuietStairs$House" "mediatorCount" "I") fwX7_mediator_2) (fun _ h9 => h9) rfl dX7_mediator_47 ?_
        refine lv_topi (fun x_7 ex_7 => ?_)
        rw [← ex_5] at ex_7; replace ex_7 := ex_7.symm; subst ex_7
        obtain ⟨pi8, i8, hi8, ni8, mi8⟩ := t_in (x := x_5) (n := 4) ⟨by omega, by omega⟩
        refine va_aldq hx hb hK hP (15) 2 (wl_at (by omega) (ce_5 (by decide))) rfl pi8 dX7_mediator_50 ?_
        refine W.eq (g2 := F0 m 51 ls [.ref (ad (25 + i8))]) (by rw [ni8, if_pos hi8, show 15 + 10 + i8 = 25 + i8 from by omega]; rfl) ?_
        refine lv_astore_n (lv' := [(3, .ref (ad (25 + i8))), (0, .ref (ad 0)), (1, .int x0), (2, .int x1)]) hx hb dX7_mediator_51 rfl hl (by decide) rfl (fun ls hl => ?_)
        refine lv_aload_n hx hb dX7_mediator_52 rfl (lv_at hl 0 rfl) ?_
        refine lv_iload_n hx hb dX7_mediator_53 rfl (lv_at hl 2 rfl) ?_
        refine va_put (D := (dC, dI)) (ci := 2) (v := .int x0) (ty := .int) (C := RX2) (T := TX2) (N := 3) hx hb hts iwX7_mediator_X2 tyX2 tyX2_ok nmX2 hown hK hP hD hS (25 + i8) (wl_at (by omega) (ce_8 (kd_m i8 hi8).1)) rfl 0 (by decide) (hts (.fieldLink RX7 63 "QuietStairs$Mediator" "floor" "I") fwX7_mediator_4) (fun _ h9 => h9) rfl (by decide +kernel) rfl rfl (Nat.le_of_ble_eq_true rfl) dX7_mediator_54 (fun H locs hP hD hS => ?_)
        obtain ⟨v_9, ev_9⟩ : ∃ u : Nat → Nat → Int32, u = upr v (25 + i8) (upd (v (25 + i8)) 0 x0) := ⟨_, rfl⟩
        have hP : va_P (dC, dI) vwCl (wl ad kv cy N v_9) H := by rw [ev_9, ← wl_put (e := _) (ce_8 (kd_m i8 hi8).1)]; exact hP
        have hD : va_D A (wl ad kv cy N v_9) := by rw [ev_9, ← wl_put (e := _) (ce_8 (kd_m i8 hi8).1)]; exact hD
        have hv : Iv v_9 := by rw [ev_9]; exact hv.put (K := 8) (kd_m i8 hi8).1 (fun h q => by simp [bd] at q)
        have hfr : Fr v v_9 := by rw [ev_9]; exact hfr.put (by omega) (by omega) (by omega)
        refine lv_aload_n hx hb dX7_mediator_57 rfl (lv_at hl 0 rfl) ?_
        refine lv_iload_n hx hb dX7_mediator_58 rfl (lv_at hl 3 rfl) ?_
        refine va_put (D := (dC, dI)) (ci := 2) (v := .int x1) (ty := .int) (C := RX2) (T := TX2) (N := 3) hx hb hts iwX7_mediator_X2 tyX2 tyX2_ok nmX2 hown hK hP hD hS (25 + i8) (wl_at (by omega) (ce_8 (kd_m i8 hi8).1)) rfl 1 (by decide) (hts (.fieldLink RX7 66 "QuietStairs$Mediator" "tongues" "I") fwX7_mediator_5) (fun _ h9 => h9) rfl (by decide +kernel) rfl rfl (Nat.le_of_ble_eq_true rfl) dX7_mediator_59 (fun H locs hP hD hS => ?_)
        obtain ⟨v_10, ev_10⟩ : ∃ u : Nat → Nat → Int32, u = upr v_9 (25 + i8) (upd (v_9 (25 + i8)) 1 x1) := ⟨_, rfl⟩
        have hP : va_P (dC, dI) vwCl (wl ad kv cy N v_10) H := by rw [ev_10, ← wl_put (e := _) (ce_8 (kd_m i8 hi8).1)]; exact hP
        have hD : va_D A (wl ad kv cy N v_10) := by rw [ev_10, ← wl_put (e := _) (ce_8 (kd_m i8 hi8).1)]; exact hD
        have hv : Iv v_10 := by rw [ev_10]; exact hv.put (K := 8) (kd_m i8 hi8).1 (fun h q => by simp [bd] at q)
        have hfr : Fr v v_10 := by rw [ev_10]; exact hfr.put (by omega) (by omega) (by omega)
        refine lv_aload_n hx hb dX7_mediator_62 rfl (lv_at hl 0 rfl) ?_
        refine lv_iconst (v := 0) hx hb dX7_mediator_63 (by decide) ?_
        refine va_put (D := (dC, dI)) (ci := 2) (v := .int 0) (ty := .int) (C := RX2) (T := TX2) (N := 3) hx hb hts iwX7_mediator_X2 tyX2 tyX2_ok nmX2 hown hK hP hD hS (25 + i8) (wl_at (by omega) (ce_8 (kd_m i8 hi8).1)) rfl 2 (by decide) (hts (.fieldLink RX7 69 "QuietStairs$Mediator" "kinBits" "I") fwX7_mediator_6) (fun _ h9 => h9) rfl (by decide +kernel) rfl rfl (Nat.le_of_ble_eq_true rfl) dX7_mediator_64 (fun H locs hP hD hS => ?_)
        obtain ⟨v_11, ev_11⟩ : ∃ u : Nat → Nat → Int32, u = upr v_10 (25 + i8) (upd (v_10 (25 + i8)) 2 0) := ⟨_, rfl⟩
        have hP : va_P (dC, dI) vwCl (wl ad kv cy N v_11) H := by rw [ev_11, ← wl_put (e := _) (ce_8 (kd_m i8 hi8).1)]; exact hP
        have hD : va_D A (wl ad kv cy N v_11) := by rw [ev_11, ← wl_put (e := _) (ce_8 (kd_m i8 hi8).1)]; exact hD
        have hv : Iv v_11 := by rw [ev_11]; exact hv.put (K := 8) (kd_m i8 hi8).1 (fun h q => by simp [bd] at q)
        have hfr : Fr v v_11 := by rw [ev_11]; exact hfr.put (by omega) (by omega) (by omega)
        refine lv_aload_n hx hb dX7_mediator_67 rfl (lv_at hl 1 rfl) ?_
        refine va_get (D := (dC, dI)) (ci := 7) (v := .ref (ad 13)) (C := RX7) (T := TX7) (N := 5) hx hb hts iwX7_mediator_X7 hown hK hP (0) (wl_at (by omega) (ce_0 (by decide))) rfl 0 (by decide) (hts (.fieldLink RX7 12 "QuietStairs" "now" "LQuietStairs$House;") fwX7_mediator_1) (fun _ h9 => h9) rfl dX7_mediator_68 ?_
        refine lv_dup hx hb dX7_mediator_71 rfl ?_
        refine va_get (D := (dC, dI)) (ci := 1) (v := .int (v_11 (13) 1)) (C := RX1) (T := TX1) (N := 7) hx hb hts iwX7_mediator_X1 hown hK hP (13) (wl_at (by omega) (ce_3 (by decide))) rfl 1 (by decide) (hts (.fieldLink RX7 56 "QuietStairs$House" "mediatorCount" "I") fwX7_mediator_2) (fun _ h9 => h9) rfl dX7_mediator_72 ?_
        refine lv_topi (fun x_12 ex_12 => ?_)
        rw [ev_11, upr_n (by omega)] at ex_12
        rw [ev_10, upr_n (by omega)] at ex_12
        rw [ev_9, upr_n (by omega)] at ex_12
        rw [← ex_5] at ex_12; replace ex_12 := ex_12.symm; subst ex_12
        refine lv_dup_x1 hx hb dX7_mediator_75 rfl rfl ?_
        refine lv_iconst (v := 1) hx hb dX7_mediator_76 (by decide) ?_
        refine lv_iadd hx hb dX7_mediator_77 ?_
        refine lv_topi (fun x_13 ex_13 => ?_)
        have tx_13 : x_13.toInt = x_5.toInt + (1 : Int32).toInt := by rw [ex_13]; exact t_add ⟨by omega, by omega⟩
        refine va_put (D := (dC, dI)) (ci := 1) (v := .int x_13) (ty := .int) (C := RX1) (T := TX1) (N := 7) hx hb hts iwX7_mediator_X1 tyX1 tyX1_ok nmX1 hown hK hP hD hS (13) (wl_at (by omega) (ce_3 (by decide))) rfl 1 (by decide) (hts (.fieldLink RX7 56 "QuietStairs$House" "mediatorCount" "I") fwX7_mediator_2) (fun _ h9 => h9) rfl (by decide +kernel) rfl rfl (Nat.le_of_ble_eq_true rfl) dX7_mediator_78 (fun H locs hP hD hS => ?_)
        obtain ⟨v_14, ev_14⟩ : ∃ u : Nat → Nat → Int32, u = upr v_11 (13) (upd (v_11 (13)) 1 x_13) := ⟨_, rfl⟩
        have hP : va_P (dC, dI) vwCl (wl ad kv cy N v_14) H := by rw [ev_14, ← wl_put (e := _) (ce_3 (by decide))]; exact hP
        have hD : va_D A (wl ad kv cy N v_14) := by rw [ev_14, ← wl_put (e := _) (ce_3 (by decide))]; exact hD
        have hv : Iv v_14 := by rw [ev_14]; exact hv.put (K := 3) (by decide) (fun h q => by cases q; exact ⟨by omega, by omega⟩)
        exact W.iret (v := x_5) hx hb hr (fun t ht hW => ⟨⟨x_5, v_14, rfl, ⟨hv, trivial⟩, by rw [ht]; exact hP, hD⟩, hS.F ht⟩) hS.2.2 dX7_mediator_81
      · have tc_6 : x_5.toInt ≥ (4 : Int32).toInt := Int32.le_iff_toInt_le.mp (Int32.not_lt.mp c_6)
        refine lv_bipush (v := (-2)) hx hb dX7_mediator_33 (by decide) ?_
        exact W.iret (v := (-2)) hx hb hr (fun t ht hW => ⟨⟨(-2), v, rfl, ⟨hv, trivial⟩, by rw [ht]; exact hP, hD⟩, hS.F ht⟩) hS.2.2 dX7_mediator_35
    · refine lv_if_ne (tgt := 22) hx hb dX7_mediator_17 (by decide) (fun c9 => absurd c9 (by decide)) (fun _ => ?_)
      refine lv_iconst (v := (-1)) hx hb dX7_mediator_20 (by decide) ?_
      exact W.iret (v := (-1)) hx hb hr (fun t ht hW => ⟨⟨(-1), v, rfl, ⟨hv, trivial⟩, by rw [ht]; exact hP, hD⟩, hS.F ht⟩) hS.2.2 dX7_mediator_21
  · refine lv_if_eq (tgt := 20) hx hb dX7_mediator_7 (by decide) (fun _ => ?_) (fun c9 => absurd c9 (by decide))
    refine lv_iconst (v := (-1)) hx hb dX7_mediator_20 (by decide) ?_
    exact W.iret (v := (-1)) hx hb hr (fun t ht hW => ⟨⟨(-1), v, rfl, ⟨hv, trivial⟩, by rw [ht]; exact hP, hD⟩, hS.F ht⟩) hS.2.2 dX7_mediator_21

set_option maxHeartbeats 4000000 in
set_option maxRecDepth 100000 in
theorem g_X7_rooms (l : Launch) (dC : Nat → ClassId) (dI : Nat → Nat → Nat) (cy : Nat → ClassId) (sz : Nat) (ad : Nat → Nat) (kv : Value) (N : Nat) (hN : 119 ≤ N) (v : Nat → Nat → Int32) (hv : Iv v)  (x0 : Int32) : Met l yX7_rooms wsX7_rooms ({ frames := 1, cells := 0, slots := 0, locals := 64 }) (va_Pc [.ref (ad 0), .int x0] (ex_Pre dC dI cy sz (wl ad kv cy N v))) (va_Qi (fun (r : Int32) (u : Nat → Nat → Int32) => Iv u ∧ True) (fun u t => ex_Pst dC dI (va_A (wl ad kv cy N v) sz) (wl ad kv cy N u) t) (va_A (wl ad kv cy N v) sz)) 0 0 (va_A (wl ad kv cy N v) sz) := by
  refine Met.ofW (cc := cX7_rooms) (maxL := 3) (ret := (some .int)) (by decide) rfl ?_
  intro p e s m args below meth c s₁ B hml hv
  obtain ⟨rfl, hsz, hE, hP, hK, hD0⟩ := hv
  have hx := B.exec
  have hb := B.bytes
  have hr := B.returns
  have hts := atoms_spec (ws := wsX7_rooms) B.pre
  have hown : s.vm.findClass RX7 = some m.cls := findClass_of_methodNamed B.named
  have hlocks := B.notSynchronized
  subst hsz
  have hD := hD0.self (sz := s.heap.size)
  generalize hAe : va_A (wl ad kv cy N v) s.heap.size = A at hD ⊢
  have hA : ∀ q : Nat, s.heap.size ≤ q → A q := fun q h => by rw [← hAe]; exact Or.inr h
  have hS : va_S A s.heap s.heap [] := va_S.rf
  have hP : va_P (dC, dI) vwCl (wl ad kv cy N v) s.heap := hP
  have hl := lv_entry ([.ref (ad 0), .int x0]) (n := 3) (Nat.le_of_ble_eq_true rfl)
  rw [lg_entry_eq]
  generalize (lg_sl ([.ref (ad 0), .int x0]) ++ List.replicate (3 - (lg_sl ([.ref (ad 0), .int x0])).length) Slot.unset).toArray = ls at hl ⊢
  have hl : lv_has ls 3 [(0, .ref (ad 0)), (1, .int x0)] := hl
  have hfr : Fr v v := Fr.rf
  refine lv_iload_n hx hb dX7_rooms_0 rfl (lv_at hl 1 rfl) ?_
  refine lv_iconst (v := 1) hx hb dX7_rooms_1 (by decide) ?_
  refine lv_iconst (v := 2) hx hb dX7_rooms_2 (by decide) ?_
  refine yc_p hP hS (va_runS (As := [.int x0, .int 1, .int 2]) (rest := []) ⟨hx, hb, hml, hown, hts⟩ (c_X7_isWithin l x0 1 2) (cwS 3 hts gX7_rooms_X7_isWithin rfl rfl rfl hd_S_X7_isWithin_3 ⟨Nat.le_of_ble_eq_true rfl, Nat.le_of_ble_eq_true rfl⟩) ex_preP rfl rfl hl.1 rfl (lv_room (Nat.le_of_ble_eq_true rfl)) dX7_rooms_3 ⟨Nat.le_of_ble_eq_true rfl, Nat.le_of_ble_eq_true rfl⟩) (fun r_1 H locs hw_1 hP hS => ?_)
  rcases wi_ca hw_1 with ⟨rfl, hc_2⟩ | ⟨rfl, hc_2⟩
  · have k_1 : (1 : Int32).toInt = 1 := by decide
    have k_2 : (2 : Int32).toInt = 2 := by decide
    have tc_2 := wi_tl hc_2
    refine lv_if_ne (tgt := 11) hx hb dX7_rooms_6 (by decide) (fun _ => ?_) (fun c9 => absurd c9 (by decide))
    refine lv_aload_n hx hb dX7_rooms_11 rfl (lv_at hl 0 rfl) ?_
    refine va_get (D := (dC, dI)) (ci := 7) (v := .int (v (0) 4)) (C := RX7) (T := TX7) (N := 5) hx hb hts iwX7_rooms_X7 hown hK hP (0) (wl_at (by omega) (ce_0 (by decide))) rfl 4 (by decide) (hts (.fieldLink RX7 33 "QuietStairs" "roomCount" "I") fwX7_rooms_1) (fun _ h9 => h9) rfl dX7_rooms_12 ?_
    refine lv_topi (fun x_3 ex_3 => ?_)
    refine lv_istore_n (lv' := [(2, .int x_3), (0, .ref (ad 0)), (1, .int x0)]) hx hb dX7_rooms_15 rfl hl (by decide) rfl (fun ls hl => ?_)
    refine lv_aload_n hx hb dX7_rooms_16 rfl (lv_at hl 1 rfl) ?_
    refine lv_iload_n hx hb dX7_rooms_17 rfl (lv_at hl 2 rfl) ?_
    refine va_put (D := (dC, dI)) (ci := 7) (v := .int x0) (ty := .int) (C := RX7) (T := TX7) (N := 5) hx hb hts iwX7_rooms_X7 tyX7 tyX7_ok nmX7 hown hK hP hD hS (0) (wl_at (by omega) (ce_0 (by decide))) rfl 4 (by decide) (hts (.fieldLink RX7 33 "QuietStairs" "roomCount" "I") fwX7_rooms_1) (fun _ h9 => h9) rfl (by decide +kernel) rfl rfl (Nat.le_of_ble_eq_true rfl) dX7_rooms_18 (fun H locs hP hD hS => ?_)
    obtain ⟨v_4, ev_4⟩ : ∃ u : Nat → Nat → Int32, u = upr v (0) (upd (v (0)) 4 x0) := ⟨_, rfl⟩
    have hP : va_P (dC, dI) vwCl (wl ad kv cy N v_4) H := by rw [ev_4, ← wl_put (e := _) (ce_0 (by decide))]; exact hP
    have hD : va_D A (wl ad kv cy N v_4) := by rw [ev_4, ← wl_put (e := _) (ce_0 (by decide))]; exact hD
    have hv : Iv v_4 := by rw [ev_4]; exact hv.put (K := 0) (by decide) (fun h q => by simp [bd] at q)
    refine lv_iload_n hx hb dX7_rooms_21 rfl (lv_at hl 0 rfl) ?_
    exact W.iret (v := x_3) hx hb hr (fun t ht hW => ⟨⟨x_3, v_4, rfl, ⟨hv, trivial⟩, by rw [ht]; exact hP, hD⟩, hS.F ht⟩) hS.2.2 dX7_rooms_22
  · refine lv_if_ne (tgt := 11) hx hb dX7_rooms_6 (by decide) (fun c9 => absurd c9 (by decide)) (fun _ => ?_)
    refine lv_iconst (v := (-1)) hx hb dX7_rooms_9 (by decide) ?_
    exact W.iret (v := (-1)) hx hb hr (fun t ht hW => ⟨⟨(-1), v, rfl, ⟨hv, trivial⟩, by rw [ht]; exact hP, hD⟩, hS.F ht⟩) hS.2.2 dX7_rooms_10

set_option maxHeartbeats 4000000 in
set_option maxRecDepth 100000 in
theorem g_X7_kin (l : Launch) (dC : Nat → ClassId) (dI : Nat → Nat → Nat) (cy : Nat → ClassId) (sz : Nat) (ad : Nat → Nat) (kv : Value) (N : Nat) (hN : 119 ≤ N) (v : Nat → Nat → Int32) (hv : Iv v)  (x0 x1 x2 : Int32) : Met l yX7_kin wsX7_kin ({ frames := 2, cells := 0, slots := 0, locals := 128 }) (va_Pc [.ref (ad 0), .int x0, .int x1, .int x2] (ex_Pre dC dI cy sz (wl ad kv cy N v))) (va_Qi (fun (r : Int32) (u : Nat → Nat → Int32) => Iv u ∧ Fr v u) (fun u t => ex_Pst dC dI (va_A (wl ad kv cy N v) sz) (wl ad kv cy N u) t) (va_A (wl ad kv cy N v) sz)) 0 0 (va_A (wl ad kv cy N v) sz) := by
  refine Met.ofW (cc := cX7_kin) (maxL := 5) (ret := (some .int)) (by decide) rfl ?_
  intro p e s m args below meth c s₁ B hml hv
  obtain ⟨rfl, hsz, hE, hP, hK, hD0⟩ := hv
  have hx := B.exec
  have hb := B.bytes
  have hr := B.returns
  have hts := atoms_spec (ws := wsX7_kin) B.pre
  have hown : s.vm.findClass RX7 = some m.cls := findClass_of_methodNamed B.named
  have hlocks := B.notSynchronized
  subst hsz
  have hD := hD0.self (sz := s.heap.size)
  generalize hAe : va_A (wl ad kv cy N v) s.heap.size = A at hD ⊢
  have hA : ∀ q : Nat, s.heap.size ≤ q → A q := fun q h => by rw [← hAe]; exact Or.inr h
  have hS : va_S A s.heap s.heap [] := va_S.rf
  have hP : va_P (dC, dI) vwCl (wl ad kv cy N v) s.heap := hP
  have hl := lv_entry ([.ref (ad 0), .int x0, .int x1, .int x2]) (n := 5) (Nat.le_of_ble_eq_true rfl)
  rw [lg_entry_eq]
  generalize (lg_sl ([.ref (ad 0), .int x0, .int x1, .int x2]) ++ List.replicate (5 - (lg_sl ([.ref (ad 0), .int x0, .int x1, .int x2])).length) Slot.unset).toArray = ls at hl ⊢
  have hl : lv_has ls 5 [(0, .ref (ad 0)), (1, .int x0), (2, .int x1), (3, .int x2)] := hl
  have hfr : Fr v v := Fr.rf
  refine lv_aload_n hx hb dX7_kin_0 rfl (lv_at hl 0 rfl) ?_
  refine lv_iload_n hx hb dX7_kin_1 rfl (lv_at hl 1 rfl) ?_
  refine yw_i (w1 := fun (u : Nat → Nat → Int32) => wl ad kv cy N u) hD hS hA (va_runV (As := [.int x0]) (rest := []) ⟨hx, hb, hml, hown, hts⟩ (g_X7_isMediator l dC dI cy _ ad kv N hN v hv x0) (cwV 1 hts gX7_kin_X7_isMediator rfl rfl rfl hd_V_X7_isMediator_1 ⟨Nat.le_of_ble_eq_true rfl, Nat.le_of_ble_eq_true rfl⟩) (yw_preV hE hK hP hD (ci := 7) (q0 := 0) rfl (wl_at (by omega) (ce_0 (by decide)))) rfl rfl hl.1 rfl (lv_room (Nat.le_of_ble_eq_true rfl)) dX7_kin_2 ⟨Nat.le_of_ble_eq_true rfl, Nat.le_of_ble_eq_true rfl⟩) (fun r_1 v_1 H locs hw_1 hP hD hS => ?_)
  obtain ⟨hv, hw_1⟩ := hw_1
  obtain ⟨hu_1, hw_1⟩ := hw_1
  have hfr : Fr v v_1 := by rw [hu_1]; exact hfr
  rcases hw_1 with ⟨rfl, ha_2⟩ | ⟨rfl, -⟩
  · have hb_2 := hv.at (k := 13) (j := 1) (K := 3) (by decide) rfl
    have hb_2 : 0 ≤ x0.toInt ∧ x0.toInt < 4 := by omega
    refine lv_if_eq (tgt := 16) hx hb dX7_kin_5 (by decide) (fun c9 => absurd c9 (by decide)) (fun _ => ?_)
    refine lv_aload_n hx hb dX7_kin_8 rfl (lv_at hl 0 rfl) ?_
    refine lv_iload_n hx hb dX7_kin_9 rfl (lv_at hl 2 rfl) ?_
    refine yw_i (w1 := fun (u : Nat → Nat → Int32) => wl ad kv cy N u) hD hS hA (va_runV (As := [.int x1]) (rest := []) ⟨hx, hb, hml, hown, hts⟩ (g_X7_isParty l dC dI cy _ ad kv N hN v_1 hv x1) (cwV 1 hts gX7_kin_X7_isParty rfl rfl rfl hd_V_X7_isParty_1 ⟨Nat.le_of_ble_eq_true rfl, Nat.le_of_ble_eq_true rfl⟩) (yw_preV hE hK hP hD (ci := 7) (q0 := 0) rfl (wl_at (by omega) (ce_0 (by decide)))) rfl rfl hl.1 rfl (lv_room (Nat.le_of_ble_eq_true rfl)) dX7_kin_10 ⟨Nat.le_of_ble_eq_true rfl, Nat.le_of_ble_eq_true rfl⟩) (fun r_3 v_3 H locs hw_3 hP hD hS => ?_)
    obtain ⟨hv, hw_3⟩ := hw_3
    obtain ⟨hu_3, hw_3⟩ := hw_3
    have hfr : Fr v v_3 := by rw [hu_3]; exact hfr
    rcases hw_3 with ⟨rfl, ha_4⟩ | ⟨rfl, -⟩
    · have hb_4 := hv.at (k := 13) (j := 0) (K := 3) (by decide) rfl
      have hb_4 : 0 ≤ x1.toInt ∧ x1.toInt < 8 := by omega
      refine lv_if_ne (tgt := 18) hx hb dX7_kin_13 (by decide) (fun _ => ?_) (fun c9 => absurd c9 (by decide))
      refine lv_aload_n hx hb dX7_kin_18 rfl (lv_at hl 0 rfl) ?_
      refine va_get (D := (dC, dI)) (ci := 7) (v := .ref (ad 13)) (C := RX7) (T := TX7) (N := 5) hx hb hts iwX7_kin_X7 hown hK hP (0) (wl_at (by omega) (ce_0 (by decide))) rfl 0 (by decide) (hts (.fieldLink RX7 12 "QuietStairs" "now" "LQuietStairs$House;") fwX7_kin_1) (fun _ h9 => h9) rfl dX7_kin_19 ?_
      refine va_get (D := (dC, dI)) (ci := 1) (v := .ref (ad 15)) (C := RX1) (T := TX1) (N := 7) hx hb hts iwX7_kin_X1 hown hK hP (13) (wl_at (by omega) (ce_3 (by decide))) rfl 5 (by decide) (hts (.fieldLink RX7 59 "QuietStairs$House" "mediators" "[LQuietStairs$Mediator;") fwX7_kin_2) (fun _ h9 => h9) rfl dX7_kin_22 ?_
      refine lv_iload_n hx hb dX7_kin_25 rfl (lv_at hl 1 rfl) ?_
      obtain ⟨pi5, i5, hi5, ni5, mi5⟩ := t_in (x := x0) (n := 4) ⟨by omega, by omega⟩
      refine va_aldq hx hb hK hP (15) 2 (wl_at (by omega) (ce_5 (by decide))) rfl pi5 dX7_kin_26 ?_
      refine W.eq (g2 := F0 m 27 ls [.ref (ad (25 + i5))]) (by rw [ni5, if_pos hi5, show 15 + 10 + i5 = 25 + i5 from by omega]; rfl) ?_
      refine lv_astore (lv' := [(4, .ref (ad (25 + i5))), (0, .ref (ad 0)), (1, .int x0), (2, .int x1), (3, .int x2)]) hx hb dX7_kin_27 hl (by decide) rfl (fun ls hl => ?_)
      refine lv_aload hx hb dX7_kin_29 (lv_at hl 0 rfl) ?_
      refine va_get (D := (dC, dI)) (ci := 2) (v := .int (v_3 (25 + i5) 2)) (C := RX2) (T := TX2) (N := 3) hx hb hts iwX7_kin_X2 hown hK hP (25 + i5) (wl_at (by omega) (ce_8 (kd_m i5 hi5).1)) rfl 2 (by decide) (hts (.fieldLink RX7 69 "QuietStairs$Mediator" "kinBits" "I") fwX7_kin_3) (fun _ h9 => h9) rfl dX7_kin_31 ?_
      refine lv_topi (fun x_6 ex_6 => ?_)
      refine lv_iload_n hx hb dX7_kin_34 rfl (lv_at hl 3 rfl) ?_
      refine yc_p hP hS (va_runS (As := [.int x_6, .int x1]) (rest := []) ⟨hx, hb, hml, hown, hts⟩ (c_X7_hasBit l x_6 x1) (cwS 2 hts gX7_kin_X7_hasBit rfl rfl rfl hd_S_X7_hasBit_2 ⟨Nat.le_of_ble_eq_true rfl, Nat.le_of_ble_eq_true rfl⟩) ex_preP rfl rfl hl.1 rfl (lv_room (Nat.le_of_ble_eq_true rfl)) dX7_kin_35 ⟨Nat.le_of_ble_eq_true rfl, Nat.le_of_ble_eq_true rfl⟩) (fun r_7 H locs hw_7 hP hS => ?_)
      rcases hw_7 with rfl | rfl
      · refine lv_iload_n hx hb dX7_kin_38 rfl (lv_at hl 4 rfl) ?_
        have k_0 : (0 : Int32).toInt = 0 := by decide
        refine lv_icmp_ne (tgt := 44) hx hb dX7_kin_39 (by decide) (fun c_8 => ?_) (fun c_8 => ?_)
        · have tc_8 : (0 : Int32).toInt ≠ x2.toInt := fun q => absurd (Int32.toInt_inj.mp q) c_8
          refine lv_aload hx hb dX7_kin_44 (lv_at hl 0 rfl) ?_
          refine lv_dup hx hb dX7_kin_46 rfl ?_
          refine va_get (D := (dC, dI)) (ci := 2) (v := .int (v_3 (25 + i5) 2)) (C := RX2) (T := TX2) (N := 3) hx hb hts iwX7_kin_X2 hown hK hP (25 + i5) (wl_at (by omega) (ce_8 (kd_m i5 hi5).1)) rfl 2 (by decide) (hts (.fieldLink RX7 69 "QuietStairs$Mediator" "kinBits" "I") fwX7_kin_3) (fun _ h9 => h9) rfl dX7_kin_47 ?_
          refine lv_topi (fun x_9 ex_9 => ?_)
          rw [← ex_6] at ex_9; replace ex_9 := ex_9.symm; subst ex_9
          refine lv_iconst (v := 1) hx hb dX7_kin_50 (by decide) ?_
          refine lv_iload_n hx hb dX7_kin_51 rfl (lv_at hl 3 rfl) ?_
          refine lv_ishl hx hb dX7_kin_52 ?_
          refine lv_topi (fun x_10 ex_10 => ?_)
          refine lv_ixor hx hb dX7_kin_53 ?_
          refine lv_topi (fun x_11 ex_11 => ?_)
          refine va_put (D := (dC, dI)) (ci := 2) (v := .int x_11) (ty := .int) (C := RX2) (T := TX2) (N := 3) hx hb hts iwX7_kin_X2 tyX2 tyX2_ok nmX2 hown hK hP hD hS (25 + i5) (wl_at (by omega) (ce_8 (kd_m i5 hi5).1)) rfl 2 (by decide) (hts (.fieldLink RX7 69 "QuietStairs$Mediator" "kinBits" "I") fwX7_kin_3) (fun _ h9 => h9) rfl (by decide +kernel) rfl rfl (Nat.le_of_ble_eq_true rfl) dX7_kin_54 (fun H locs hP hD hS => ?_)
          obtain ⟨v_12, ev_12⟩ : ∃ u : Nat → Nat → Int32, u = upr v_3 (25 + i5) (upd (v_3 (25 + i5)) 2 x_11) := ⟨_, rfl⟩
          have hP : va_P (dC, dI) vwCl (wl ad kv cy N v_12) H := by rw [ev_12, ← wl_put (e := _) (ce_8 (kd_m i5 hi5).1)]; exact hP
          have hD : va_D A (wl ad kv cy N v_12) := by rw [ev_12, ← wl_put (e := _) (ce_8 (kd_m i5 hi5).1)]; exact hD
          have hv : Iv v_12 := by rw [ev_12]; exact hv.put (K := 8) (kd_m i5 hi5).1 (fun h q => by simp [bd] at q)
          have hfr : Fr v v_12 := by rw [ev_12]; exact hfr.put (by omega) (by omega) (by omega)
          refine lv_iconst (v := 1) hx hb dX7_kin_57 (by decide) ?_
          exact W.iret (v := 1) hx hb hr (fun t ht hW => ⟨⟨1, v_12, rfl, ⟨hv, hfr⟩, by rw [ht]; exact hP, hD⟩, hS.F ht⟩) hS.2.2 dX7_kin_58
        · have tc_8 : (0 : Int32).toInt = x2.toInt := by rw [c_8]
          refine lv_iconst (v := 0) hx hb dX7_kin_42 (by decide) ?_
          exact W.iret (v := 0) hx hb hr (fun t ht hW => ⟨⟨0, v_3, rfl, ⟨hv, hfr⟩, by rw [ht]; exact hP, hD⟩, hS.F ht⟩) hS.2.2 dX7_kin_43
      · refine lv_iload_n hx hb dX7_kin_38 rfl (lv_at hl 4 rfl) ?_
        have k_1 : (1 : Int32).toInt = 1 := by decide
        refine lv_icmp_ne (tgt := 44) hx hb dX7_kin_39 (by decide) (fun c_8 => ?_) (fun c_8 => ?_)
        · have tc_8 : (1 : Int32).toInt ≠ x2.toInt := fun q => absurd (Int32.toInt_inj.mp q) c_8
          refine lv_aload hx hb dX7_kin_44 (lv_at hl 0 rfl) ?_
          refine lv_dup hx hb dX7_kin_46 rfl ?_
          refine va_get (D := (dC, dI)) (ci := 2) (v := .int (v_3 (25 + i5) 2)) (C := RX2) (T := TX2) (N := 3) hx hb hts iwX7_kin_X2 hown hK hP (25 + i5) (wl_at (by omega) (ce_8 (kd_m i5 hi5).1)) rfl 2 (by decide) (hts (.fieldLink RX7 69 "QuietStairs$Mediator" "kinBits" "I") fwX7_kin_3) (fun _ h9 => h9) rfl dX7_kin_47 ?_
          refine lv_topi (fun x_9 ex_9 => ?_)
          rw [← ex_6] at ex_9; replace ex_9 := ex_9.symm; subst ex_9
          refine lv_iconst (v := 1) hx hb dX7_kin_50 (by decide) ?_
          refine lv_iload_n hx hb dX7_kin_51 rfl (lv_at hl 3 rfl) ?_
          refine lv_ishl hx hb dX7_kin_52 ?_
          refine lv_topi (fun x_10 ex_10 => ?_)
          refine lv_ixor hx hb dX7_kin_53 ?_
          refine lv_topi (fun x_11 ex_11 => ?_)
          refine va_put (D := (dC, dI)) (ci := 2) (v := .int x_11) (ty := .int) (C := RX2) (T := TX2) (N := 3) hx hb hts iwX7_kin_X2 tyX2 tyX2_ok nmX2 hown hK hP hD hS (25 + i5) (wl_at (by omega) (ce_8 (kd_m i5 hi5).1)) rfl 2 (by decide) (hts (.fieldLink RX7 69 "QuietStairs$Mediator" "kinBits" "I") fwX7_kin_3) (fun _ h9 => h9) rfl (by decide +kernel) rfl rfl (Nat.le_of_ble_eq_true rfl) dX7_kin_54 (fun H locs hP hD hS => ?_)
          obtain ⟨v_12, ev_12⟩ : ∃ u : Nat → Nat → Int32, u = upr v_3 (25 + i5) (upd (v_3 (25 + i5)) 2 x_11) := ⟨_, rfl⟩
          have hP : va_P (dC, dI) vwCl (wl ad kv cy N v_12) H := by rw [ev_12, ← wl_put (e := _) (ce_8 (kd_m i5 hi5).1)]; exact hP
          have hD : va_D A (wl ad kv cy N v_12) := by rw [ev_12, ← wl_put (e := _) (ce_8 (kd_m i5 hi5).1)]; exact hD
          have hv : Iv v_12 := by rw [ev_12]; exact hv.put (K := 8) (kd_m i5 hi5).1 (fun h q => by simp [bd] at q)
          have hfr : Fr v v_12 := by rw [ev_12]; exact hfr.put (by omega) (by omega) (by omega)
          refine lv_iconst (v := 1) hx hb dX7_kin_57 (by decide) ?_
          exact W.iret (v := 1) hx hb hr (fun t ht hW => ⟨⟨1, v_12, rfl, ⟨hv, hfr⟩, by rw [ht]; exact hP, hD⟩, hS.F ht⟩) hS.2.2 dX7_kin_58
        · have tc_8 : (1 : Int32).toInt = x2.toInt := by rw [c_8]
          refine lv_iconst (v := 0) hx hb dX7_kin_42 (by decide) ?_
          exact W.iret (v := 0) hx hb hr (fun t ht hW => ⟨⟨0, v_3, rfl, ⟨hv, hfr⟩, by rw [ht]; exact hP, hD⟩, hS.F ht⟩) hS.2.2 dX7_kin_43
    · refine lv_if_ne (tgt := 18) hx hb dX7_kin_13 (by decide) (fun c9 => absurd c9 (by decide)) (fun _ => ?_)
      refine lv_iconst (v := (-1)) hx hb dX7_kin_16 (by decide) ?_
      exact W.iret (v := (-1)) hx hb hr (fun t ht hW => ⟨⟨(-1), v_3, rfl, ⟨hv, hfr⟩, by rw [ht]; exact hP, hD⟩, hS.F ht⟩) hS.2.2 dX7_kin_17
  · refine lv_if_eq (tgt := 16) hx hb dX7_kin_5 (by decide) (fun _ => ?_) (fun c9 => absurd c9 (by decide))
    refine lv_iconst (v := (-1)) hx hb dX7_kin_16 (by decide) ?_
    exact W.iret (v := (-1)) hx hb hr (fun t ht hW => ⟨⟨(-1), v_1, rfl, ⟨hv, hfr⟩, by rw [ht]; exact hP, hD⟩, hS.F ht⟩) hS.2.2 dX7_kin_17

set_option maxHeartbeats 4000000 in
set_option maxRecDepth 100000 in
theorem g_X7_mark (l : Launch) (dC : Nat → ClassId) (dI : Nat → Nat → Nat) (cy : Nat → ClassId) (sz : Nat) (ad : Nat → Nat) (kv : Value) (N : Nat) (hN : 119 ≤ N) (v : Nat → Nat → Int32) (hv : Iv v)  (x0 x1 : Int32) : Met l yX7_mark wsX7_mark ({ frames := 2, cells := 0, slots := 0, locals := 128 }) (va_Pc [.ref (ad 0), .int x0, .int x1] (ex_Pre dC dI cy sz (wl ad kv cy N v))) (va_Qi (fun (r : Int32) (u : Nat → Nat → Int32) => Iv u ∧ Fr v u) (fun u t => ex_Pst dC dI (va_A (wl ad kv cy N v) sz) (wl ad kv cy N u) t) (va_A (wl ad kv cy N v) sz)) 0 0 (va_A (wl ad kv cy N v) sz) := by
  refine Met.ofW (cc := cX7_mark) (maxL := 3) (ret := (some .int)) (by decide) rfl ?_
  intro p e s m args below meth c s₁ B hml hv
  obtain ⟨rfl, hsz, hE, hP, hK, hD0⟩ := hv
  have hx := B.exec
  have hb := B.bytes
  have hr := B.returns
  have hts := atoms_spec (ws := wsX7_mark) B.pre
  have hown : s.vm.findClass RX7 = some m.cls := findClass_of_methodNamed B.named
  have hlocks := B.notSynchronized
  subst hsz
  have hD := hD0.self (sz := s.heap.size)
  generalize hAe : va_A (wl ad kv cy N v) s.heap.size = A at hD ⊢
  have hA : ∀ q : Nat, s.heap.size ≤ q → A q := fun q h => by rw [← hAe]; exact Or.inr h
  have hS : va_S A s.heap s.heap [] := va_S.rf
  have hP : va_P (dC, dI) vwCl (wl ad kv cy N v) s.heap := hP
  have hl := lv_entry ([.ref (ad 0), .int x0, .int x1]) (n := 3) (Nat.le_of_ble_eq_true rfl)
  rw [lg_entry_eq]
  generalize (lg_sl ([.ref (ad 0), .int x0, .int x1]) ++ List.replicate (3 - (lg_sl ([.ref (ad 0), .int x0, .int x1])).length) Slot.unset).toArray = ls at hl ⊢
  have hl : lv_has ls 3 [(0, .ref (ad 0)), (1, .int x0), (2, .int x1)] := hl
  have hfr : Fr v v := Fr.rf
  refine lv_aload_n hx hb dX7_mark_0 rfl (lv_at hl 0 rfl) ?_
  refine lv_iload_n hx hb dX7_mark_1 rfl (lv_at hl 1 rfl) ?_
  refine yw_i (w1 := fun (u : Nat → Nat → Int32) => wl ad kv cy N u) hD hS hA (va_runV (As := [.int x0]) (rest := []) ⟨hx, hb, hml, hown, hts⟩ (g_X7_isCase l dC dI cy _ ad kv N hN v hv x0) (cwV 1 hts gX7_mark_X7_isCase rfl rfl rfl hd_V_X7_isCase_1 ⟨Nat.le_of_ble_eq_true rfl, Nat.le_of_ble_eq_true rfl⟩) (yw_preV hE hK hP hD (ci := 7) (q0 := 0) rfl (wl_at (by omega) (ce_0 (by decide)))) rfl rfl hl.1 rfl (lv_room (Nat.le_of_ble_eq_true rfl)) dX7_mark_2 ⟨Nat.le_of_ble_eq_true rfl, Nat.le_of_ble_eq_true rfl⟩) (fun r_1 v_1 H locs hw_1 hP hD hS => ?_)
  obtain ⟨hv, hw_1⟩ := hw_1
  obtain ⟨hu_1, hw_1⟩ := hw_1
  have hfr : Fr v v_1 := by rw [hu_1]; exact hfr
  rcases hw_1 with ⟨rfl, ha_2⟩ | ⟨rfl, -⟩
  · have hb_2 := hv.at (k := 13) (j := 2) (K := 3) (by decide) rfl
    have hb_2 : 0 ≤ x0.toInt ∧ x0.toInt < 6 := by omega
    refine lv_if_eq (tgt := 21) hx hb dX7_mark_5 (by decide) (fun c9 => absurd c9 (by decide)) (fun _ => ?_)
    refine lv_aload_n hx hb dX7_mark_8 rfl (lv_at hl 0 rfl) ?_
    refine lv_iload_n hx hb dX7_mark_9 rfl (lv_at hl 2 rfl) ?_
    refine yw_i (w1 := fun (u : Nat → Nat → Int32) => wl ad kv cy N u) hD hS hA (va_runV (As := [.int x1]) (rest := []) ⟨hx, hb, hml, hown, hts⟩ (g_X7_isCase l dC dI cy _ ad kv N hN v_1 hv x1) (cwV 1 hts gX7_mark_X7_isCase rfl rfl rfl hd_V_X7_isCase_1 ⟨Nat.le_of_ble_eq_true rfl, Nat.le_of_ble_eq_true rfl⟩) (yw_preV hE hK hP hD (ci := 7) (q0 := 0) rfl (wl_at (by omega) (ce_0 (by decide)))) rfl rfl hl.1 rfl (lv_room (Nat.le_of_ble_eq_true rfl)) dX7_mark_10 ⟨Nat.le_of_ble_eq_true rfl, Nat.le_of_ble_eq_true rfl⟩) (fun r_3 v_3 H locs hw_3 hP hD hS => ?_)
    obtain ⟨hv, hw_3⟩ := hw_3
    obtain ⟨hu_3, hw_3⟩ := hw_3
    have hfr : Fr v v_3 := by rw [hu_3]; exact hfr
    rcases hw_3 with ⟨rfl, ha_4⟩ | ⟨rfl, -⟩
    · have hb_4 := hv.at (k := 13) (j := 2) (K := 3) (by decide) rfl
      have hb_4 : 0 ≤ x1.toInt ∧ x1.toInt < 6 := by omega
      refine lv_if_eq (tgt := 21) hx hb dX7_mark_13 (by decide) (fun c9 => absurd c9 (by decide)) (fun _ => ?_)
      refine lv_iload_n hx hb dX7_mark_16 rfl (lv_at hl 1 rfl) ?_
      refine lv_iload_n hx hb dX7_mark_17 rfl (lv_at hl 2 rfl) ?_
      refine lv_icmp_ne (tgt := 23) hx hb dX7_mark_18 (by decide) (fun c_5 => ?_) (fun c_5 => ?_)
      · have tc_5 : x0.toInt ≠ x1.toInt := fun q => absurd (Int32.toInt_inj.mp q) c_5
        refine lv_aload_n hx hb dX7_mark_23 rfl (lv_at hl 0 rfl) ?_
        refine va_get (D := (dC, dI)) (ci := 7) (v := .ref (ad 13)) (C := RX7) (T := TX7) (N := 5) hx hb hts iwX7_mark_X7 hown hK hP (0) (wl_at (by omega) (ce_0 (by decide))) rfl 0 (by decide) (hts (.fieldLink RX7 12 "QuietStairs" "now" "LQuietStairs$House;") fwX7_mark_1) (fun _ h9 => h9) rfl dX7_mark_24 ?_
        refine va_get (D := (dC, dI)) (ci := 1) (v := .ref (ad 16)) (C := RX1) (T := TX1) (N := 7) hx hb hts iwX7_mark_X1 hown hK hP (13) (wl_at (by omega) (ce_3 (by decide))) rfl 6 (by decide) (hts (.fieldLink RX7 86 "QuietStairs$House" "cases" "[LQuietStairs$Case;") fwX7_mark_2) (fun _ h9 => h9) rfl dX7_mark_27 ?_
        refine lv_iload_n hx hb dX7_mark_30 rfl (lv_at hl 1 rfl) ?_
        obtain ⟨pi6, i6, hi6, ni6, mi6⟩ := t_in (x := x0) (n := 6) ⟨by omega, by omega⟩
        refine va_aldq hx hb hK hP (16) 3 (wl_at (by omega) (ce_6 (by decide))) rfl pi6 dX7_mark_31 ?_
        refine W.eq (g2 := F0 m 32 ls [.ref (ad (29 + 15 * i6))]) (by rw [ni6, if_pos hi6, show 16 + 13 + 15 * i6 = 29 + 15 * i6 from by omega]; rfl) ?_
        refine va_get (D := (dC, dI)) (ci := 0) (v := .int (v_3 (29 + 15 * i6) 4)) (C := RX0) (T := TX0) (N := 11) hx hb hts iwX7_mark_X0 hown hK hP (29 + 15 * i6) (wl_at (by omega) (ce_9 (kd_c i6 hi6).1.1)) rfl 4 (by decide) (hts (.fieldLink RX7 105 "QuietStairs$Case" "markedBits" "I") fwX7_mark_3) (fun _ h9 => h9) rfl dX7_mark_32 ?_
        refine lv_topi (fun x_7 ex_7 => ?_)
        refine lv_iload_n hx hb dX7_mark_35 rfl (lv_at hl 2 rfl) ?_
        refine yc_p hP hS (va_runS (As := [.int x_7, .int x1]) (rest := []) ⟨hx, hb, hml, hown, hts⟩ (c_X7_hasBit l x_7 x1) (cwS 2 hts gX7_mark_X7_hasBit rfl rfl rfl hd_S_X7_hasBit_2 ⟨Nat.le_of_ble_eq_true rfl, Nat.le_of_ble_eq_true rfl⟩) ex_preP rfl rfl hl.1 rfl (lv_room (Nat.le_of_ble_eq_true rfl)) dX7_mark_36 ⟨Nat.le_of_ble_eq_true rfl, Nat.le_of_ble_eq_true rfl⟩) (fun r_8 H locs hw_8 hP hS => ?_)
        rcases hw_8 with rfl | rfl
        · refine lv_if_eq (tgt := 45) hx hb dX7_mark_39 (by decide) (fun _ => ?_) (fun c9 => absurd c9 (by decide))
          refine lv_aload_n hx hb dX7_mark_45 rfl (lv_at hl 0 rfl) ?_
          refine va_get (D := (dC, dI)) (ci := 7) (v := .ref (ad 13)) (C := RX7) (T := TX7) (N := 5) hx hb hts iwX7_mark_X7 hown hK hP (0) (wl_at (by omega) (ce_0 (by decide))) rfl 0 (by decide) (hts (.fieldLink RX7 12 "QuietStairs" "now" "LQuietStairs$House;") fwX7_mark_1) (fun _ h9 => h9) rfl dX7_mark_46 ?_
          refine va_get (D := (dC, dI)) (ci := 1) (v := .int (v_3 (13) 3)) (C := RX1) (T := TX1) (N := 7) hx hb hts iwX7_mark_X1 hown hK hP (13) (wl_at (by omega) (ce_3 (by decide))) rfl 3 (by decide) (hts (.fieldLink RX7 108 "QuietStairs$House" "markCount" "I") fwX7_mark_4) (fun _ h9 => h9) rfl dX7_mark_49 ?_
          refine lv_topi (fun x_9 ex_9 => ?_)
          have bx_9 : 0 ≤ x_9.toInt ∧ x_9.toInt ≤ 6 := by rw [ex_9]; exact hv.at (K := 3) (by decide) rfl
          refine lv_bipush (v := 6) hx hb dX7_mark_52 (by decide) ?_
          have k_6 : (6 : Int32).toInt = 6 := by decide
          refine lv_icmp_lt (tgt := 60) hx hb dX7_mark_54 (by decide) (fun c_10 => ?_) (fun c_10 => ?_)
          · have tc_10 : x_9.toInt < (6 : Int32).toInt := Int32.lt_iff_toInt_lt.mp c_10
            refine lv_aload_n hx hb dX7_mark_60 rfl (lv_at hl 0 rfl) ?_
            refine va_get (D := (dC, dI)) (ci := 7) (v := .ref (ad 13)) (C := RX7) (T := TX7) (N := 5) hx hb hts iwX7_mark_X7 hown hK hP (0) (wl_at (by omega) (ce_0 (by decide))) rfl 0 (by decide) (hts (.fieldLink RX7 12 "QuietStairs" "now" "LQuietStairs$House;") fwX7_mark_1) (fun _ h9 => h9) rfl dX7_mark_61 ?_
            refine va_get (D := (dC, dI)) (ci := 1) (v := .ref (ad 16)) (C := RX1) (T := TX1) (N := 7) hx hb hts iwX7_mark_X1 hown hK hP (13) (wl_at (by omega) (ce_3 (by decide))) rfl 6 (by decide) (hts (.fieldLink RX7 86 "QuietStairs$House" "cases" "[LQuietStairs$Case;") fwX7_mark_2) (fun _ h9 => h9) rfl dX7_mark_64 ?_
            refine lv_iload_n hx hb dX7_mark_67 rfl (lv_at hl 1 rfl) ?_
            refine va_aldq hx hb hK hP (16) 3 (wl_at (by omega) (ce_6 (by decide))) rfl pi6 dX7_mark_68 ?_
            refine W.eq (g2 := F0 m 69 ls [.ref (ad (29 + 15 * i6))]) (by rw [ni6, if_pos hi6, show 16 + 13 + 15 * i6 = 29 + 15 * i6 from by omega]; rfl) ?_
            refine lv_dup hx hb dX7_mark_69 rfl ?_
            refine va_get (D := (dC, dI)) (ci := 0) (v := .int (v_3 (29 + 15 * i6) 4)) (C := RX0) (T := TX0) (N := 11) hx hb hts iwX7_mark_X0 hown hK hP (29 + 15 * i6) (wl_at (by omega) (ce_9 (kd_c i6 hi6).1.1)) rfl 4 (by decide) (hts (.fieldLink RX7 105 "QuietStairs$Case" "markedBits" "I") fwX7_mark_3) (fun _ h9 => h9) rfl dX7_mark_70 ?_
            refine lv_topi (fun x_11 ex_11 => ?_)
            rw [← ex_7] at ex_11; replace ex_11 := ex_11.symm; subst ex_11
            refine lv_iconst (v := 1) hx hb dX7_mark_73 (by decide) ?_
            refine lv_iload_n hx hb dX7_mark_74 rfl (lv_at hl 2 rfl) ?_
            refine lv_ishl hx hb dX7_mark_75 ?_
            refine lv_topi (fun x_12 ex_12 => ?_)
            have tx_12 : 1 ≤ x_12.toInt ∧ x_12.toInt ≤ 32 := by rw [ex_12]; exact t_shl ⟨by omega, by omega⟩
            refine lv_ior hx hb dX7_mark_76 ?_
            refine lv_topi (fun x_13 ex_13 => ?_)
            refine va_put (D := (dC, dI)) (ci := 0) (v := .int x_13) (ty := .int) (C := RX0) (T := TX0) (N := 11) hx hb hts iwX7_mark_X0 tyX0 tyX0_ok nmX0 hown hK hP hD hS (29 + 15 * i6) (wl_at (by omega) (ce_9 (kd_c i6 hi6).1.1)) rfl 4 (by decide) (hts (.fieldLink RX7 105 "QuietStairs$Case" "markedBits" "I") fwX7_mark_3) (fun _ h9 => h9) rfl (by decide +kernel) rfl rfl (Nat.le_of_ble_eq_true rfl) dX7_mark_77 (fun H locs hP hD hS => ?_)
            obtain ⟨v_14, ev_14⟩ : ∃ u : Nat → Nat → Int32, u = upr v_3 (29 + 15 * i6) (upd (v_3 (29 + 15 * i6)) 4 x_13) := ⟨_, rfl⟩
            have hP : va_P (dC, dI) vwCl (wl ad kv cy N v_14) H := by rw [ev_14, ← wl_put (e := _) (ce_9 (kd_c i6 hi6).1.1)]; exact hP
            have hD : va_D A (wl ad kv cy N v_14) := by rw [ev_14, ← wl_put (e := _) (ce_9 (kd_c i6 hi6).1.1)]; exact hD
            have hv : Iv v_14 := by rw [ev_14]; exact hv.put (K := 9) (kd_c i6 hi6).1.1 (fun h q => by simp [bd] at q)
            have hfr : Fr v v_14 := by rw [ev_14]; exact hfr.put (by omega) (by omega) (by omega)
            refine lv_aload_n hx hb dX7_mark_80 rfl (lv_at hl 0 rfl) ?_
            refine va_get (D := (dC, dI)) (ci := 7) (v := .ref (ad 13)) (C := RX7) (T := TX7) (N := 5) hx hb hts iwX7_mark_X7 hown hK hP (0) (wl_at (by omega) (ce_0 (by decide))) rfl 0 (by decide) (hts (.fieldLink RX7 12 "QuietStairs" "now" "LQuietStairs$House;") fwX7_mark_1) (fun _ h9 => h9) rfl dX7_mark_81 ?_
            refine va_get (D := (dC, dI)) (ci := 1) (v := .ref (ad 16)) (C := RX1) (T := TX1) (N := 7) hx hb hts iwX7_mark_X1 hown hK hP (13) (wl_at (by omega) (ce_3 (by decide))) rfl 6 (by decide) (hts (.fieldLink RX7 86 "QuietStairs$House" "cases" "[LQuietStairs$Case;") fwX7_mark_2) (fun _ h9 => h9) rfl dX7_mark_84 ?_
            refine lv_iload_n hx hb dX7_mark_87 rfl (lv_at hl 2 rfl) ?_
            obtain ⟨pi15, i15, hi15, ni15, mi15⟩ := t_in (x := x1) (n := 6) ⟨by omega, by omega⟩
            refine va_aldq hx hb hK hP (16) 3 (wl_at (by omega) (ce_6 (by decide))) rfl pi15 dX7_mark_88 ?_
            refine W.eq (g2 := F0 m 89 ls [.ref (ad (29 + 15 * i15))]) (by rw [ni15, if_pos hi15, show 16 + 13 + 15 * i15 = 29 + 15 * i15 from by omega]; rfl) ?_
            refine lv_dup hx hb dX7_mark_89 rfl ?_
            refine va_get (D := (dC, dI)) (ci := 0) (v := .int (v_14 (29 + 15 * i15) 4)) (C := RX0) (T := TX0) (N := 11) hx hb hts iwX7_mark_X0 hown hK hP (29 + 15 * i15) (wl_at (by omega) (ce_9 (kd_c i15 hi15).1.1)) rfl 4 (by decide) (hts (.fieldLink RX7 105 "QuietStairs$Case" "markedBits" "I") fwX7_mark_3) (fun _ h9 => h9) rfl dX7_mark_90 ?_
            refine lv_topi (fun x_16 ex_16 => ?_)
            refine lv_iconst (v := 1) hx hb dX7_mark_93 (by decide) ?_
            refine lv_iload_n hx hb dX7_mark_94 rfl (lv_at hl 1 rfl) ?_
            refine lv_ishl hx hb dX7_mark_95 ?_
            refine lv_topi (fun x_17 ex_17 => ?_)
            have tx_17 : 1 ≤ x_17.toInt ∧ x_17.toInt ≤ 32 := by rw [ex_17]; exact t_shl ⟨by omega, by omega⟩
            refine lv_ior hx hb dX7_mark_96 ?_
            refine lv_topi (fun x_18 ex_18 => ?_)
            refine va_put (D := (dC, dI)) (ci := 0) (v := .int x_18) (ty := .int) (C := RX0) (T := TX0) (N := 11) hx hb hts iwX7_mark_X0 tyX0 tyX0_ok nmX0 hown hK hP hD hS (29 + 15 * i15) (wl_at (by omega) (ce_9 (kd_c i15 hi15).1.1)) rfl 4 (by decide) (hts (.fieldLink RX7 105 "QuietStairs$Case" "markedBits" "I") fwX7_mark_3) (fun _ h9 => h9) rfl (by decide +kernel) rfl rfl (Nat.le_of_ble_eq_true rfl) dX7_mark_97 (fun H locs hP hD hS => ?_)
            obtain ⟨v_19, ev_19⟩ : ∃ u : Nat → Nat → Int32, u = upr v_14 (29 + 15 * i15) (upd (v_14 (29 + 15 * i15)) 4 x_18) := ⟨_, rfl⟩
            have hP : va_P (dC, dI) vwCl (wl ad kv cy N v_19) H := by rw [ev_19, ← wl_put (e := _) (ce_9 (kd_c i15 hi15).1.1)]; exact hP
            have hD : va_D A (wl ad kv cy N v_19) := by rw [ev_19, ← wl_put (e := _) (ce_9 (kd_c i15 hi15).1.1)]; exact hD
            have hv : Iv v_19 := by rw [ev_19]; exact hv.put (K := 9) (kd_c i15 hi15).1.1 (fun h q => by simp [bd] at q)
            have hfr : Fr v v_19 := by rw [ev_19]; exact hfr.put (by omega) (by omega) (by omega)
            refine lv_aload_n hx hb dX7_mark_100 rfl (lv_at hl 0 rfl) ?_
            refine va_get (D := (dC, dI)) (ci := 7) (v := .ref (ad 13)) (C := RX7) (T := TX7) (N := 5) hx hb hts iwX7_mark_X7 hown hK hP (0) (wl_at (by omega) (ce_0 (by decide))) rfl 0 (by decide) (hts (.fieldLink RX7 12 "QuietStairs" "now" "LQuietStairs$House;") fwX7_mark_1) (fun _ h9 => h9) rfl dX7_mark_101 ?_
            refine lv_dup hx hb dX7_mark_104 rfl ?_
            refine va_get (D := (dC, dI)) (ci := 1) (v := .int (v_19 (13) 3)) (C := RX1) (T := TX1) (N := 7) hx hb hts iwX7_mark_X1 hown hK hP (13) (wl_at (by omega) (ce_3 (by decide))) rfl 3 (by decide) (hts (.fieldLink RX7 108 "QuietStairs$House" "markCount" "I") fwX7_mark_4) (fun _ h9 => h9) rfl dX7_mark_105 ?_
            refine lv_topi (fun x_20 ex_20 => ?_)
            rw [ev_19, upr_n (by omega)] at ex_20
            rw [ev_14, upr_n (by omega)] at ex_20
            rw [← ex_9] at ex_20; replace ex_20 := ex_20.symm; subst ex_20
            refine lv_iconst (v := 1) hx hb dX7_mark_108 (by decide) ?_
            have k_1 : (1 : Int32).toInt = 1 := by decide
            refine lv_iadd hx hb dX7_mark_109 ?_
            refine lv_topi (fun x_21 ex_21 => ?_)
            have tx_21 : x_21.toInt = x_9.toInt + (1 : Int32).toInt := by rw [ex_21]; exact t_add ⟨by omega, by omega⟩
            refine va_put (D := (dC, dI)) (ci := 1) (v := .int x_21) (ty := .int) (C := RX1) (T := TX1) (N := 7) hx hb hts iwX7_mark_X1 tyX1 tyX1_ok nmX1 hown hK hP hD hS (13) (wl_at (by omega) (ce_3 (by decide))) rfl 3 (by decide) (hts (.fieldLink RX7 108 "QuietStairs$House" "markCount" "I") fwX7_mark_4) (fun _ h9 => h9) rfl (by decide +kernel) rfl rfl (Nat.le_of_ble_eq_true rfl) dX7_mark_110 (fun H locs hP hD hS => ?_)
            obtain ⟨v_22, ev_22⟩ : ∃ u : Nat → Nat → Int32, u = upr v_19 (13) (upd (v_19 (13)) 3 x_21) := ⟨_, rfl⟩
            have hP : va_P (dC, dI) vwCl (wl ad kv cy N v_22) H := by rw [ev_22, ← wl_put (e := _) (ce_3 (by decide))]; exact hP
            have hD : va_D A (wl ad kv cy N v_22) := by rw [ev_22, ← wl_put (e := _) (ce_3 (by decide))]; exact hD
            have hv : Iv v_22 := by rw [ev_22]; exact hv.put (K := 3) (by decide) (fun h q => by cases q; exact ⟨by omega, by omega⟩)
            have hfr : Fr v v_22 := by rw [ev_22]; exact hfr.putj (by decide)
            refine lv_aload_n hx hb dX7_mark_113 rfl (lv_at hl 0 rfl) ?_
            refine va_get (D := (dC, dI)) (ci := 7) (v := .ref (ad 13)) (C := RX7) (T := TX7) (N := 5) hx hb hts iwX7_mark_X7 hown hK hP (0) (wl_at (by omega) (ce_0 (by decide))) rfl 0 (by decide) (hts (.fieldLink RX7 12 "QuietStairs" "now" "LQuietStairs$House;") fwX7_mark_1) (fun _ h9 => h9) rfl dX7_mark_114 ?_
            refine va_get (D := (dC, dI)) (ci := 1) (v := .int (v_22 (13) 3)) (C := RX1) (T := TX1) (N := 7) hx hb hts iwX7_mark_X1 hown hK hP (13) (wl_at (by omega) (ce_3 (by decide))) rfl 3 (by decide) (hts (.fieldLink RX7 108 "QuietStairs$House" "markCount" "I") fwX7_mark_4) (fun _ h9 => h9) rfl dX7_mark_117 ?_
            refine lv_topi (fun x_23 ex_23 => ?_)
            rw [ev_22, upr_s, pk_us] at ex_23; replace ex_23 := ex_23.symm; subst ex_23
            exact W.iret (v := x_21) hx hb hr (fun t ht hW => ⟨⟨x_21, v_22, rfl, ⟨hv, hfr⟩, by rw [ht]; exact hP, hD⟩, hS.F ht⟩) hS.2.2 dX7_mark_120
          · have tc_10 : x_9.toInt ≥ (6 : Int32).toInt := Int32.le_iff_toInt_le.mp (Int32.not_lt.mp c_10)
            refine lv_bipush (v := (-2)) hx hb dX7_mark_57 (by decide) ?_
            exact W.iret (v := (-2)) hx hb hr (fun t ht hW => ⟨⟨(-2), v_3, rfl, ⟨hv, hfr⟩, by rw [ht]; exact hP, hD⟩, hS.F ht⟩) hS.2.2 dX7_mark_59
        · refine lv_if_eq (tgt := 45) hx hb dX7_mark_39 (by decide) (fun c9 => absurd c9 (by decide)) (fun _ => ?_)
          refine lv_bipush (v := (-3)) hx hb dX7_mark_42 (by decide) ?_
          exact W.iret (v := (-3)) hx hb hr (fun t ht hW => ⟨⟨(-3), v_3, rfl, ⟨hv, hfr⟩, by rw [ht]; exact hP, hD⟩, hS.F ht⟩) hS.2.2 dX7_mark_44
      · have tc_5 : x0.toInt = x1.toInt := by rw [c_5]
        refine lv_iconst (v := (-1)) hx hb dX7_mark_21 (by decide) ?_
        exact W.iret (v := (-1)) hx hb hr (fun t ht hW => ⟨⟨(-1), v_3, rfl, ⟨hv, hfr⟩, by rw [ht]; exact hP, hD⟩, hS.F ht⟩) hS.2.2 dX7_mark_22
    · refine lv_if_eq (tgt := 21) hx hb dX7_mark_13 (by decide) (fun _ => ?_) (fun c9 => absurd c9 (by decide))
      refine lv_iconst (v := (-1)) hx hb dX7_mark_21 (by decide) ?_
      exact W.iret (v := (-1)) hx hb hr (fun t ht hW => ⟨⟨(-1), v_3, rfl, ⟨hv, hfr⟩, by rw [ht]; exact hP, hD⟩, hS.F ht⟩) hS.2.2 dX7_mark_22
  · refine lv_if_eq (tgt := 21) hx hb dX7_mark_5 (by decide) (fun _ => ?_) (fun c9 => absurd c9 (by decide))
    refine lv_iconst (v := (-1)) hx hb dX7_mark_21 (by decide) ?_
    exact W.iret (v := (-1)) hx hb hr (fun t ht hW => ⟨⟨(-1), v_1, rfl, ⟨hv, hfr⟩, by rw [ht]; exact hP, hD⟩, hS.F ht⟩) hS.2.2 dX7_mark_22

set_option maxHeartbeats 4000000 in
set_option maxRecDepth 100000 in
theorem g_X7_term (l : Launch) (dC : Nat → ClassId) (dI : Nat → Nat → Nat) (cy : Nat → ClassId) (sz : Nat) (ad : Nat → Nat) (kv : Value) (N : Nat) (hN : 119 ≤ N) (v : Nat → Nat → Int32) (hv : Iv v)  (x0 x1 x2 x3 x4 x5 : Int32) (hb2 : x2 = 0 ∨ x2 = 1) : Met l yX7_term wsX7_term ({ frames := 3, cells := 0, slots := 0, locals := 192 }) (va_Pc [.ref (ad 0), .int x0, .int x1, .int x2, .int x3, .int x4, .int x5] (ex_Pre dC dI cy sz (wl ad kv cy N v))) (va_Qi (fun (r : Int32) (u : Nat → Nat → Int32) => Iv u ∧ Fr v u) (fun u t => ex_Pst dC dI (va_A (wl ad kv cy N v) sz) (wl ad kv cy N u) t) (va_A (wl ad kv cy N v) sz)) 0 0 (va_A (wl ad kv cy N v) sz) := by
  refine Met.ofW (cc := cX7_term) (maxL := 9) (ret := (some .int)) (by decide) rfl ?_
  intro p e s m args below meth c s₁ B hml hv
  obtain ⟨rfl, hsz, hE, hP, hK, hD0⟩ := hv
  have hx := B.exec
  have hb := B.bytes
  have hr := B.returns
  have hts := atoms_spec (ws := wsX7_term) B.pre
  have hown : s.vm.findClass RX7 = some m.cls := findClass_of_methodNamed B.named
  have hlocks := B.notSynchronized
  subst hsz
  have hD := hD0.self (sz := s.heap.size)
  generalize hAe : va_A (wl ad kv cy N v) s.heap.size = A at hD ⊢
  have hA : ∀ q : Nat, s.heap.size ≤ q → A q := fun q h => by rw [← hAe]; exact Or.inr h
  have hS : va_S A s.heap s.heap [] := va_S.rf
  have hP : va_P (dC, dI) vwCl (wl ad kv cy N v) s.heap := hP
  have hl := lv_entry ([.ref (ad 0), .int x0, .int x1, .int x2, .int x3, .int x4, .int x5]) (n := 9) (Nat.le_of_ble_eq_true rfl)
  rw [lg_entry_eq]
  generalize (lg_sl ([.ref (ad 0), .int x0, .int x1, .int x2, .int x3, .int x4, .int x5]) ++ List.replicate (9 - (lg_sl ([.ref (ad 0), .int x0, .int x1, .int x2, .int x3, .int x4, .int x5])).length) Slot.unset).toArray = ls at hl ⊢
  have hl : lv_has ls 9 [(0, .ref (ad 0)), (1, .int x0), (2, .int x1), (3, .int x2), (4, .int x3), (5, .int x4), (6, .int x5)] := hl
  have hfr : Fr v v := Fr.rf
  rcases hb2 with rfl | rfl
  · refine lv_aload_n hx hb dX7_term_0 rfl (lv_at hl 0 rfl) ?_
    refine lv_iload_n hx hb dX7_term_1 rfl (lv_at hl 1 rfl) ?_
    refine yw_i (w1 := fun (u : Nat → Nat → Int32) => wl ad kv cy N u) hD hS hA (va_runV (As := [.int x0]) (rest := []) ⟨hx, hb, hml, hown, hts⟩ (g_X7_isCase l dC dI cy _ ad kv N hN v hv x0) (cwV 1 hts gX7_term_X7_isCase rfl rfl rfl hd_V_X7_isCase_1 ⟨Nat.le_of_ble_eq_true rfl, Nat.le_of_ble_eq_true rfl⟩) (yw_preV hE hK hP hD (ci := 7) (q0 := 0) rfl (wl_at (by omega) (ce_0 (by decide)))) rfl rfl hl.1 rfl (lv_room (Nat.le_of_ble_eq_true rfl)) dX7_term_2 ⟨Nat.le_of_ble_eq_true rfl, Nat.le_of_ble_eq_true rfl⟩) (fun r_1 v_1 H locs hw_1 hP hD hS => ?_)
    obtain ⟨hv, hw_1⟩ := hw_1
    obtain ⟨hu_1, hw_1⟩ := hw_1
    have hfr : Fr v v_1 := by rw [hu_1]; exact hfr
    rcases hw_1 with ⟨rfl, ha_2⟩ | ⟨rfl, -⟩
    · have hb_2 := hv.at (k := 13) (j := 2) (K := 3) (by decide) rfl
      have hb_2 : 0 ≤ x0.toInt ∧ x0.toInt < 6 := by omega
      refine lv_if_eq (tgt := 48) hx hb dX7_term_5 (by decide) (fun c9 => absurd c9 (by decide)) (fun _ => ?_)
      refine lv_iload_n hx hb dX7_term_8 rfl (lv_at hl 2 rfl) ?_
      refine yc_p hP hS (va_runS (As := [.int x1]) (rest := []) ⟨hx, hb, hml, hown, hts⟩ (c_X7_isSide l x1) (cwS 1 hts gX7_term_X7_isSide rfl rfl rfl hd_S_X7_isSide_1 ⟨Nat.le_of_ble_eq_true rfl, Nat.le_of_ble_eq_true rfl⟩) ex_preP rfl rfl hl.1 rfl (lv_room (Nat.le_of_ble_eq_true rfl)) dX7_term_9 ⟨Nat.le_of_ble_eq_true rfl, Nat.le_of_ble_eq_true rfl⟩) (fun r_3 H locs hw_3 hP hS => ?_)
      rcases wi_ca hw_3 with ⟨rfl, hc_4⟩ | ⟨rfl, hc_4⟩
      · have k_0 : (0 : Int32).toInt = 0 := by decide
        have k_1 : (1 : Int32).toInt = 1 := by decide
        have tc_4 := wi_tl hc_4
        refine lv_if_eq (tgt := 48) hx hb dX7_term_12 (by decide) (fun c9 => absurd c9 (by decide)) (fun _ => ?_)
        refine lv_iload hx hb dX7_term_15 (lv_at hl 4 rfl) ?_
        refine lv_iconst (v := 0) hx hb dX7_term_17 (by decide) ?_
        refine lv_iconst (v := 5) hx hb dX7_term_18 (by decide) ?_
        refine yc_p hP hS (va_runS (As := [.int x3, .int 0, .int 5]) (rest := []) ⟨hx, hb, hml, hown, hts⟩ (c_X7_isWithin l x3 0 5) (cwS 3 hts gX7_term_X7_isWithin rfl rfl rfl hd_S_X7_isWithin_3 ⟨Nat.le_of_ble_eq_true rfl, Nat.le_of_ble_eq_true rfl⟩) ex_preP rfl rfl hl.1 rfl (lv_room (Nat.le_of_ble_eq_true rfl)) dX7_term_19 ⟨Nat.le_of_ble_eq_true rfl, Nat.le_of_ble_eq_true rfl⟩) (fun r_5 H locs hw_5 hP hS => ?_)
        rcases wi_ca hw_5 with ⟨rfl, hc_6⟩ | ⟨rfl, hc_6⟩
        · have k_5 : (5 : Int32).toInt = 5 := by decide
          have tc_6 := wi_tl hc_6
          refine lv_if_eq (tgt := 48) hx hb dX7_term_22 (by decide) (fun c9 => absurd c9 (by decide)) (fun _ => ?_)
          refine lv_iload hx hb dX7_term_25 (lv_at hl 5 rfl) ?_
          refine yc_p hP hS (va_runS (As := [.int x4]) (rest := []) ⟨hx, hb, hml, hown, hts⟩ (c_X7_isHour l x4) (cwS 1 hts gX7_term_X7_isHour rfl rfl rfl hd_S_X7_isHour_1 ⟨Nat.le_of_ble_eq_true rfl, Nat.le_of_ble_eq_true rfl⟩) ex_preP rfl rfl hl.1 rfl (lv_room (Nat.le_of_ble_eq_true rfl)) dX7_term_27 ⟨Nat.le_of_ble_eq_true rfl, Nat.le_of_ble_eq_true rfl⟩) (fun r_7 H locs hw_7 hP hS => ?_)
          rcases wi_ca hw_7 with ⟨rfl, hc_8⟩ | ⟨rfl, hc_8⟩
          · have k_23 : (23 : Int32).toInt = 23 := by decide
            have tc_8 := wi_tl hc_8
            refine lv_if_eq (tgt := 48) hx hb dX7_term_30 (by decide) (fun c9 => absurd c9 (by decide)) (fun _ => ?_)
            refine lv_iload hx hb dX7_term_33 (lv_at hl 6 rfl) ?_
            refine yc_p hP hS (va_runS (As := [.int x5]) (rest := []) ⟨hx, hb, hml, hown, hts⟩ (c_X7_isHour l x5) (cwS 1 hts gX7_term_X7_isHour rfl rfl rfl hd_S_X7_isHour_1 ⟨Nat.le_of_ble_eq_true rfl, Nat.le_of_ble_eq_true rfl⟩) ex_preP rfl rfl hl.1 rfl (lv_room (Nat.le_of_ble_eq_true rfl)) dX7_term_35 ⟨Nat.le_of_ble_eq_true rfl, Nat.le_of_ble_eq_true rfl⟩) (fun r_9 H locs hw_9 hP hS => ?_)
            rcases wi_ca hw_9 with ⟨rfl, hc_10⟩ | ⟨rfl, hc_10⟩
            · have tc_10 := wi_tl hc_10
              refine lv_if_eq (tgt := 48) hx hb dX7_term_38 (by decide) (fun c9 => absurd c9 (by decide)) (fun _ => ?_)
              refine lv_iload hx hb dX7_term_41 (lv_at hl 5 rfl) ?_
              refine lv_iload hx hb dX7_term_43 (lv_at hl 6 rfl) ?_
              refine lv_icmp_le (tgt := 50) hx hb dX7_term_45 (by decide) (fun c_11 => ?_) (fun c_11 => ?_)
              · have tc_11 : x4.toInt ≤ x5.toInt := Int32.le_iff_toInt_le.mp c_11
                refine lv_aload_n hx hb dX7_term_50 rfl (lv_at hl 0 rfl) ?_
                refine va_get (D := (dC, dI)) (ci := 7) (v := .ref (ad 13)) (C := RX7) (T := TX7) (N := 5) hx hb hts iwX7_term_X7 hown hK hP (0) (wl_at (by omega) (ce_0 (by decide))) rfl 0 (by decide) (hts (.fieldLink RX7 12 "QuietStairs" "now" "LQuietStairs$House;") fwX7_term_1) (fun _ h9 => h9) rfl dX7_term_51 ?_
                refine va_get (D := (dC, dI)) (ci := 1) (v := .ref (ad 16)) (C := RX1) (T := TX1) (N := 7) hx hb hts iwX7_term_X1 hown hK hP (13) (wl_at (by omega) (ce_3 (by decide))) rfl 6 (by decide) (hts (.fieldLink RX7 86 "QuietStairs$House" "cases" "[LQuietStairs$Case;") fwX7_term_2) (fun _ h9 => h9) rfl dX7_term_54 ?_
                refine lv_iload_n hx hb dX7_term_57 rfl (lv_at hl 1 rfl) ?_
                obtain ⟨pi12, i12, hi12, ni12, mi12⟩ := t_in (x := x0) (n := 6) ⟨by omega, by omega⟩
                refine va_aldq hx hb hK hP (16) 3 (wl_at (by omega) (ce_6 (by decide))) rfl pi12 dX7_term_58 ?_
                refine W.eq (g2 := F0 m 59 ls [.ref (ad (29 + 15 * i12))]) (by rw [ni12, if_pos hi12, show 16 + 13 + 15 * i12 = 29 + 15 * i12 from by omega]; rfl) ?_
                refine lv_astore (lv' := [(7, .ref (ad (29 + 15 * i12))), (0, .ref (ad 0)), (1, .int x0), (2, .int x1), (3, .int 0), (4, .int x3), (5, .int x4), (6, .int x5)]) hx hb dX7_term_59 hl (by decide) rfl (fun ls hl => ?_)
                refine lv_aload hx hb dX7_term_61 (lv_at hl 0 rfl) ?_
                refine va_get (D := (dC, dI)) (ci := 0) (v := .int (v_1 (29 + 15 * i12) 0)) (C := RX0) (T := TX0) (N := 11) hx hb hts iwX7_term_X0 hown hK hP (29 + 15 * i12) (wl_at (by omega) (ce_9 (kd_c i12 hi12).1.1)) rfl 0 (by decide) (hts (.fieldLink RX7 99 "QuietStairs$Case" "state" "I") fwX7_term_3) (fun _ h9 => h9) rfl dX7_term_63 ?_
                refine lv_topi (fun x_13 ex_13 => ?_)
                refine lv_iconst (v := 1) hx hb dX7_term_66 (by decide) ?_
                refine lv_icmp_eq (tgt := 73) hx hb dX7_term_67 (by decide) (fun c_14 => ?_) (fun c_14 => ?_)
                · have tc_14 : x_13.toInt = (1 : Int32).toInt := by rw [c_14]
                  refine lv_aload hx hb dX7_term_73 (lv_at hl 0 rfl) ?_
                  refine va_get (D := (dC, dI)) (ci := 0) (v := .int (v_1 (29 + 15 * i12) 5)) (C := RX0) (T := TX0) (N := 11) hx hb hts iwX7_term_X0 hown hK hP (29 + 15 * i12) (wl_at (by omega) (ce_9 (kd_c i12 hi12).1.1)) rfl 5 (by decide) (hts (.fieldLink RX7 169 "QuietStairs$Case" "termCount" "I") fwX7_term_4) (fun _ h9 => h9) rfl dX7_term_75 ?_
                  refine lv_topi (fun x_15 ex_15 => ?_)
                  have bx_15 : 0 ≤ x_15.toInt ∧ x_15.toInt ≤ 5 := by rw [ex_15]; exact hv.at (K := 9) (kd_c i12 hi12).1.1 rfl
                  refine lv_iconst (v := 5) hx hb dX7_term_78 (by decide) ?_
                  refine lv_icmp_lt (tgt := 85) hx hb dX7_term_79 (by decide) (fun c_16 => ?_) (fun c_16 => ?_)
                  · have tc_16 : x_15.toInt < (5 : Int32).toInt := Int32.lt_iff_toInt_lt.mp c_16
                    refine lv_aload hx hb dX7_term_85 (lv_at hl 0 rfl) ?_
                    refine va_get (D := (dC, dI)) (ci := 0) (v := .ref (ad (29 + 15 * i12 + 9))) (C := RX0) (T := TX0) (N := 11) hx hb hts iwX7_term_X0 hown hK hP (29 + 15 * i12) (wl_at (by omega) (ce_9 (kd_c i12 hi12).1.1)) rfl 10 (by decide) (hts (.fieldLink RX7 172 "QuietStairs$Case" "terms" "[LQuietStairs$Term;") fwX7_term_5) (fun _ h9 => h9) rfl dX7_term_87 ?_
                    refine W.eq (g2 := F0 m 90 ls [.ref (ad (38 + 15 * i12))]) (by rw [show 29 + 15 * i12 + 9 = 38 + 15 * i12 from by omega]) ?_
                    refine lv_aload hx hb dX7_term_90 (lv_at hl 0 rfl) ?_
                    refine va_get (D := (dC, dI)) (ci := 0) (v := .int (v_1 (29 + 15 * i12) 5)) (C := RX0) (T := TX0) (N := 11) hx hb hts iwX7_term_X0 hown hK hP (29 + 15 * i12) (wl_at (by omega) (ce_9 (kd_c i12 hi12).1.1)) rfl 5 (by decide) (hts (.fieldLink RX7 169 "QuietStairs$Case" "termCount" "I") fwX7_term_4) (fun _ h9 => h9) rfl dX7_term_92 ?_
                    refine lv_topi (fun x_17 ex_17 => ?_)
                    rw [← ex_15] at ex_17; replace ex_17 := ex_17.symm; subst ex_17
                    obtain ⟨pi18, i18, hi18, ni18, mi18⟩ := t_in (x := x_15) (n := 5) ⟨by omega, by omega⟩
                    refine va_aldq hx hb hK hP (38 + 15 * i12) 4 (wl_at (by omega) (ce_15 (kd_c i12 hi12).1.2.2.2.2.2)) rfl pi18 dX7_term_95 ?_
                    refine W.eq (g2 := F0 m 96 ls [.ref (ad (39 + 15 * i12 + i18))]) (by rw [ni18, if_pos hi18, show 38 + 15 * i12 + 1 + i18 = 39 + 15 * i12 + i18 from by omega]; rfl) ?_
                    refine lv_astore (lv' := [(8, .ref (ad (39 + 15 * i12 + i18))), (7, .ref (ad (29 + 15 * i12))), (0, .ref (ad 0)), (1, .int x0), (2, .int x1), (3, .int 0), (4, .int x3), (5, .int x4), (6, .int x5)]) hx hb dX7_term_96 hl (by decide) rfl (fun ls hl => ?_)
                    refine lv_aload hx hb dX7_term_98 (lv_at hl 0 rfl) ?_
                    refine lv_iload_n hx hb dX7_term_100 rfl (lv_at hl 4 rfl) ?_
                    refine va_put (D := (dC, dI)) (ci := 6) (v := .int x1) (ty := .int) (C := RX6) (T := TX6) (N := 5) hx hb hts iwX7_term_X6 tyX6 tyX6_ok nmX6 hown hK hP hD hS (39 + 15 * i12 + i18) (wl_at (by omega) (ce_16 (kd_t i12 hi12 i18 hi18).1)) rfl 0 (by decide) (hts (.fieldLink RX7 176 "QuietStairs$Term" "side" "I") fwX7_term_6) (fun _ h9 => h9) rfl (by decide +kernel) rfl rfl (Nat.le_of_ble_eq_true rfl) dX7_term_101 (fun H locs hP hD hS => ?_)
                    obtain ⟨v_19, ev_19⟩ : ∃ u : Nat → Nat → Int32, u = upr v_1 (39 + 15 * i12 + i18) (upd (v_1 (39 + 15 * i12 + i18)) 0 x1) := ⟨_, rfl⟩
                    have hP : va_P (dC, dI) vwCl (wl ad kv cy N v_19) H := by rw [ev_19, ← wl_put (e := _) (ce_16 (kd_t i12 hi12 i18 hi18).1)]; exact hP
                    have hD : va_D A (wl ad kv cy N v_19) := by rw [ev_19, ← wl_put (e := _) (ce_16 (kd_t i12 hi12 i18 hi18).1)]; exact hD
                    have hv : Iv v_19 := by rw [ev_19]; exact hv.put (K := 16) (kd_t i12 hi12 i18 hi18).1 (fun h q => by cases q; exact ⟨by omega, by omega⟩)
                    have hfr : Fr v v_19 := by rw [ev_19]; exact hfr.put (by omega) (by omega) (by omega)
                    refine lv_aload hx hb dX7_term_104 (lv_at hl 0 rfl) ?_
                    refine lv_iload_n hx hb dX7_term_106 rfl (lv_at hl 5 rfl) ?_
                    refine va_put (D := (dC, dI)) (ci := 6) (v := .int 0) (ty := .boolean) (C := RX6) (T := TX6) (N := 5) hx hb hts iwX7_term_X6 tyX6 tyX6_ok nmX6 hown hK hP hD hS (39 + 15 * i12 + i18) (wl_at (by omega) (ce_16 (kd_t i12 hi12 i18 hi18).1)) rfl 1 (by decide) (hts (.fieldLink RX7 181 "QuietStairs$Term" "must" "Z") fwX7_term_7) (fun _ h9 => h9) rfl (by decide +kernel) rfl rfl (Nat.le_of_ble_eq_true rfl) dX7_term_107 (fun H locs hP hD hS => ?_)
                    obtain ⟨v_20, ev_20⟩ : ∃ u : Nat → Nat → Int32, u = upr v_19 (39 + 15 * i12 + i18) (upd (v_19 (39 + 15 * i12 + i18)) 1 0) := ⟨_, rfl⟩
                    have hP : va_P (dC, dI) vwCl (wl ad kv cy N v_20) H := by rw [ev_20, ← wl_put (e := _) (ce_16 (kd_t i12 hi12 i18 hi18).1)]; exact hP
                    have hD : va_D A (wl ad kv cy N v_20) := by rw [ev_20, ← wl_put (e := _) (ce_16 (kd_t i12 hi12 i18 hi18).1)]; exact hD
                    have hv : Iv v_20 := by rw [ev_20]; exact hv.put (K := 16) (kd_t i12 hi12 i18 hi18).1 (fun h q => by cases q; exact ⟨by omega, by omega⟩)
                    have hfr : Fr v v_20 := by rw [ev_20]; exact hfr.put (by omega) (by omega) (by omega)
                    refine lv_aload hx hb dX7_term_110 (lv_at hl 0 rfl) ?_
                    refine lv_iload hx hb dX7_term_112 (lv_at hl 6 rfl) ?_
                    refine va_put (D := (dC, dI)) (ci := 6) (v := .int x3) (ty := .int) (C := RX6) (T := TX6) (N := 5) hx hb hts iwX7_term_X6 tyX6 tyX6_ok nmX6 hown hK hP hD hS (39 + 15 * i12 + i18) (wl_at (by omega) (ce_16 (kd_t i12 hi12 i18 hi18).1)) rfl 2 (by decide) (hts (.fieldLink RX7 185 "QuietStairs$Term" "act" "I") fwX7_term_8) (fun _ h9 => h9) rfl (by decide +kernel) rfl rfl (Nat.le_of_ble_eq_true rfl) dX7_term_114 (fun H locs hP hD hS => ?_)
                    obtain ⟨v_21, ev_21⟩ : ∃ u : Nat → Nat → Int32, u = upr v_20 (39 + 15 * i12 + i18) (upd (v_20 (39 + 15 * i12 + i18)) 2 x3) := ⟨_, rfl⟩
                    have hP : va_P (dC, dI) vwCl (wl ad kv cy N v_21) H := by rw [ev_21, ← wl_put (e := _) (ce_16 (kd_t i12 hi12 i18 hi18).1)]; exact hP
                    have hD : va_D A (wl ad kv cy N v_21) := by rw [ev_21, ← wl_put (e := _) (ce_16 (kd_t i12 hi12 i18 hi18).1)]; exact hD
                    have hv : Iv v_21 := by rw [ev_21]; exact hv.put (K := 16) (kd_t i12 hi12 i18 hi18).1 (fun h q => by simp [bd] at q)
                    have hfr : Fr v v_21 := by rw [ev_21]; exact hfr.put (by omega) (by omega) (by omega)
                    refine lv_aload hx hb dX7_term_117 (lv_at hl 0 rfl) ?_
                    refine lv_iload hx hb dX7_term_119 (lv_at hl 7 rfl) ?_
                    refine va_put (D := (dC, dI)) (ci := 6) (v := .int x4) (ty := .int) (C := RX6) (T := TX6) (N := 5) hx hb hts iwX7_term_X6 tyX6 tyX6_ok nmX6 hown hK hP hD hS (39 + 15 * i12 + i18) (wl_at (by omega) (ce_16 (kd_t i12 hi12 i18 hi18).1)) rfl 3 (by decide) (hts (.fieldLink RX7 188 "QuietStairs$Term" "first" "I") fwX7_term_9) (fun _ h9 => h9) rfl (by decide +kernel) rfl rfl (Nat.le_of_ble_eq_true rfl) dX7_term_121 (fun H locs hP hD hS => ?_)
                    obtain ⟨v_22, ev_22⟩ : ∃ u : Nat → Nat → Int32, u = upr v_21 (39 + 15 * i12 + i18) (upd (v_21 (39 + 15 * i12 + i18)) 3 x4) := ⟨_, rfl⟩
                    have hP : va_P (dC, dI) vwCl (wl ad kv cy N v_22) H := by rw [ev_22, ← wl_put (e := _) (ce_16 (kd_t i12 hi12 i18 hi18).1)]; exact hP
                    have hD : va_D A (wl ad kv cy N v_22) := by rw [ev_22, ← wl_put (e := _) (ce_16 (kd_t i12 hi12 i18 hi18).1)]; exact hD
                    have hv : Iv v_22 := by rw [ev_22]; exact hv.put (K := 16) (kd_t i12 hi12 i18 hi18).1 (fun h q => by cases q; exact ⟨by omega, by omega⟩)
                    have hfr : Fr v v_22 := by rw [ev_22]; exact hfr.put (by omega) (by omega) (by omega)
                    refine lv_aload hx hb dX7_term_124 (lv_at hl 0 rfl) ?_
                    refine lv_iload hx hb dX7_term_126 (lv_at hl 8 rfl) ?_
                    refine va_put (D := (dC, dI)) (ci := 6) (v := .int x5) (ty := .int) (C := RX6) (T := TX6) (N := 5) hx hb hts iwX7_term_X6 tyX6 tyX6_ok nmX6 hown hK hP hD hS (39 + 15 * i12 + i18) (wl_at (by omega) (ce_16 (kd_t i12 hi12 i18 hi18).1)) rfl 4 (by decide) (hts (.fieldLink RX7 191 "QuietStairs$Term" "last" "I") fwX7_term_10) (fun _ h9 => h9) rfl (by decide +kernel) rfl rfl (Nat.le_of_ble_eq_true rfl) dX7_term_128 (fun H locs hP hD hS => ?_)
                    obtain ⟨v_23, ev_23⟩ : ∃ u : Nat → Nat → Int32, u = upr v_22 (39 + 15 * i12 + i18) (upd (v_22 (39 + 15 * i12 + i18)) 4 x5) := ⟨_, rfl⟩
                    have hP : va_P (dC, dI) vwCl (wl ad kv cy N v_23) H := by rw [ev_23, ← wl_put (e := _) (ce_16 (kd_t i12 hi12 i18 hi18).1)]; exact hP
                    have hD : va_D A (wl ad kv cy N v_23) := by rw [ev_23, ← wl_put (e := _) (ce_16 (kd_t i12 hi12 i18 hi18).1)]; exact hD
                    have hv : Iv v_23 := by rw [ev_23]; exact hv.put (K := 16) (kd_t i12 hi12 i18 hi18).1 (fun h q => by cases q; exact ⟨by omega, by omega⟩)
                    have hfr : Fr v v_23 := by rw [ev_23]; exact hfr.put (by omega) (by omega) (by omega)
                    refine lv_aload hx hb dX7_term_131 (lv_at hl 1 rfl) ?_
                    refine lv_dup hx hb dX7_term_133 rfl ?_
                    refine va_get (D := (dC, dI)) (ci := 0) (v := .int (v_23 (29 + 15 * i12) 5)) (C := RX0) (T := TX0) (N := 11) hx hb hts iwX7_term_X0 hown hK hP (29 + 15 * i12) (wl_at (by omega) (ce_9 (kd_c i12 hi12).1.1)) rfl 5 (by decide) (hts (.fieldLink RX7 169 "QuietStairs$Case" "termCount" "I") fwX7_term_4) (fun _ h9 => h9) rfl dX7_term_134 ?_
                    refine lv_topi (fun x_24 ex_24 => ?_)
                    rw [ev_23, upr_n (by omega)] at ex_24
                    rw [ev_22, upr_n (by omega)] at ex_24
                    rw [ev_21, upr_n (by omega)] at ex_24
                    rw [ev_20, upr_n (by omega)] at ex_24
                    rw [ev_19, upr_n (by omega)] at ex_24
                    rw [← ex_15] at ex_24; replace ex_24 := ex_24.symm; subst ex_24
                    refine lv_dup_x1 hx hb dX7_term_137 rfl rfl ?_
                    refine lv_iconst (v := 1) hx hb dX7_term_138 (by decide) ?_
                    refine lv_iadd hx hb dX7_term_139 ?_
                    refine lv_topi (fun x_25 ex_25 => ?_)
                    have tx_25 : x_25.toInt = x_15.toInt + (1 : Int32).toInt := by rw [ex_25]; exact t_add ⟨by omega, by omega⟩
                    refine va_put (D := (dC, dI)) (ci := 0) (v := .int x_25) (ty := .int) (C := RX0) (T := TX0) (N := 11) hx hb hts iwX7_term_X0 tyX0 tyX0_ok nmX0 hown hK hP hD hS (29 + 15 * i12) (wl_at (by omega) (ce_9 (kd_c i12 hi12).1.1)) rfl 5 (by decide) (hts (.fieldLink RX7 169 "QuietStairs$Case" "termCount" "I") fwX7_term_4) (fun _ h9 => h9) rfl (by decide +kernel) rfl rfl (Nat.le_of_ble_eq_true rfl) dX7_term_140 (fun H locs hP hD hS => ?_)
                    obtain ⟨v_26, ev_26⟩ : ∃ u : Nat → Nat → Int32, u = upr v_23 (29 + 15 * i12) (upd (v_23 (29 + 15 * i12)) 5 x_25) := ⟨_, rfl⟩
                    have hP : va_P (dC, dI) vwCl (wl ad kv cy N v_26) H := by rw [ev_26, ← wl_put (e := _) (ce_9 (kd_c i12 hi12).1.1)]; exact hP
                    have hD : va_D A (wl ad kv cy N v_26) := by rw [ev_26, ← wl_put (e := _) (ce_9 (kd_c i12 hi12).1.1)]; exact hD
                    have hv : Iv v_26 := by rw [ev_26]; exact hv.put (K := 9) (kd_c i12 hi12).1.1 (fun h q => by cases q; exact ⟨by omega, by omega⟩)
                    have hfr : Fr v v_26 := by rw [ev_26]; exact hfr.put (by omega) (by omega) (by omega)
                    exact W.iret (v := x_15) hx hb hr (fun t ht hW => ⟨⟨x_15, v_26, rfl, ⟨hv, hfr⟩, by rw [ht]; exact hP, hD⟩, hS.F ht⟩) hS.2.2 dX7_term_143
                  · have tc_16 : x_15.toInt ≥ (5 : Int32).toInt := Int32.le_iff_toInt_le.mp (Int32.not_lt.mp c_16)
                    refine lv_bipush (v := (-2)) hx hb dX7_term_82 (by decide) ?_
                    exact W.iret (v := (-2)) hx hb hr (fun t ht hW => ⟨⟨(-2), v_1, rfl, ⟨hv, hfr⟩, by rw [ht]; exact hP, hD⟩, hS.F ht⟩) hS.2.2 dX7_term_84
                · have tc_14 : x_13.toInt ≠ (1 : Int32).toInt := fun q => absurd (Int32.toInt_inj.mp q) c_14
                  refine lv_bipush (v := (-4)) hx hb dX7_term_70 (by decide) ?_
                  exact W.iret (v := (-4)) hx hb hr (fun t ht hW => ⟨⟨(-4), v_1, rfl, ⟨hv, hfr⟩, by rw [ht]; exact hP, hD⟩, hS.F ht⟩) hS.2.2 dX7_term_72
              · have tc_11 : x4.toInt > x5.toInt := Int32.lt_iff_toInt_lt.mp (Int32.not_le.mp c_11)
                refine lv_iconst (v := (-1)) hx hb dX7_term_48 (by decide) ?_
                exact W.iret (v := (-1)) hx hb hr (fun t ht hW => ⟨⟨(-1), v_1, rfl, ⟨hv, hfr⟩, by rw [ht]; exact hP, hD⟩, hS.F ht⟩) hS.2.2 dX7_term_49
            · refine lv_if_eq (tgt := 48) hx hb dX7_term_38 (by decide) (fun _ => ?_) (fun c9 => absurd c9 (by decide))
              refine lv_iconst (v := (-1)) hx hb dX7_term_48 (by decide) ?_
              exact W.iret (v := (-1)) hx hb hr (fun t ht hW => ⟨⟨(-1), v_1, rfl, ⟨hv, hfr⟩, by rw [ht]; exact hP, hD⟩, hS.F ht⟩) hS.2.2 dX7_term_49
          · refine lv_if_eq (tgt := 48) hx hb dX7_term_30 (by decide) (fun _ => ?_) (fun c9 => absurd c9 (by decide))
            refine lv_iconst (v := (-1)) hx hb dX7_term_48 (by decide) ?_
            exact W.iret (v := (-1)) hx hb hr (fun t ht hW => ⟨⟨(-1), v_1, rfl, ⟨hv, hfr⟩, by rw [ht]; exact hP, hD⟩, hS.F ht⟩) hS.2.2 dX7_term_49
        · refine lv_if_eq (tgt := 48) hx hb dX7_term_22 (by decide) (fun _ => ?_) (fun c9 => absurd c9 (by decide))
          refine lv_iconst (v := (-1)) hx hb dX7_term_48 (by decide) ?_
          exact W.iret (v := (-1)) hx hb hr (fun t ht hW => ⟨⟨(-1), v_1, rfl, ⟨hv, hfr⟩, by rw [ht]; exact hP, hD⟩, hS.F ht⟩) hS.2.2 dX7_term_49
      · refine lv_if_eq (tgt := 48) hx hb dX7_term_12 (by decide) (fun _ => ?_) (fun c9 => absurd c9 (by decide))
        refine lv_iconst (v := (-1)) hx hb dX7_term_48 (by decide) ?_
        exact W.iret (v := (-1)) hx hb hr (fun t ht hW => ⟨⟨(-1), v_1, rfl, ⟨hv, hfr⟩, by rw [ht]; exact hP, hD⟩, hS.F ht⟩) hS.2.2 dX7_term_49
    · refine lv_if_eq (tgt := 48) hx hb dX7_term_5 (by decide) (fun _ => ?_) (fun c9 => absurd c9 (by decide))
      refine lv_iconst (v := (-1)) hx hb dX7_term_48 (by decide) ?_
      exact W.iret (v := (-1)) hx hb hr (fun t ht hW => ⟨⟨(-1), v_1, rfl, ⟨hv, hfr⟩, by rw [ht]; exact hP, hD⟩, hS.F ht⟩) hS.2.2 dX7_term_49
  · refine lv_aload_n hx hb dX7_term_0 rfl (lv_at hl 0 rfl) ?_
    refine lv_iload_n hx hb dX7_term_1 rfl (lv_at hl 1 rfl) ?_
    refine yw_i (w1 := fun (u : Nat → Nat → Int32) => wl ad kv cy N u) hD hS hA (va_runV (As := [.int x0]) (rest := []) ⟨hx, hb, hml, hown, hts⟩ (g_X7_isCase l dC dI cy _ ad kv N hN v hv x0) (cwV 1 hts gX7_term_X7_isCase rfl rfl rfl hd_V_X7_isCase_1 ⟨Nat.le_of_ble_eq_true rfl, Nat.le_of_ble_eq_true rfl⟩) (yw_preV hE hK hP hD (ci := 7) (q0 := 0) rfl (wl_at (by omega) (ce_0 (by decide)))) rfl rfl hl.1 rfl (lv_room (Nat.le_of_ble_eq_true rfl)) dX7_term_2 ⟨Nat.le_of_ble_eq_true rfl, Nat.le_of_ble_eq_true rfl⟩) (fun r_27 v_27 H locs hw_27 hP hD hS => ?_)
    obtain ⟨hv, hw_27⟩ := hw_27
    obtain ⟨hu_27, hw_27⟩ := hw_27
    have hfr : Fr v v_27 := by rw [hu_27]; exact hfr
    rcases hw_27 with ⟨rfl, ha_28⟩ | ⟨rfl, -⟩
    · have hb_28 := hv.at (k := 13) (j := 2) (K := 3) (by decide) rfl
      have hb_28 : 0 ≤ x0.toInt ∧ x0.toInt < 6 := by omega
      refine lv_if_eq (tgt := 48) hx hb dX7_term_5 (by decide) (fun c9 => absurd c9 (by decide)) (fun _ => ?_)
      refine lv_iload_n hx hb dX7_term_8 rfl (lv_at hl 2 rfl) ?_
      refine yc_p hP hS (va_runS (As := [.int x1]) (rest := []) ⟨hx, hb, hml, hown, hts⟩ (c_X7_isSide l x1) (cwS 1 hts gX7_term_X7_isSide rfl rfl rfl hd_S_X7_isSide_1 ⟨Nat.le_of_ble_eq_true rfl, Nat.le_of_ble_eq_true rfl⟩) ex_preP rfl rfl hl.1 rfl (lv_room (Nat.le_of_ble_eq_true rfl)) dX7_term_9 ⟨Nat.le_of_ble_eq_true rfl, Nat.le_of_ble_eq_true rfl⟩) (fun r_29 H locs hw_29 hP hS => ?_)
      rcases wi_ca hw_29 with ⟨rfl, hc_30⟩ | ⟨rfl, hc_30⟩
      · have k_0 : (0 : Int32).toInt = 0 := by decide
        have k_1 : (1 : Int32).toInt = 1 := by decide
        have tc_30 := wi_tl hc_30
        refine lv_if_eq (tgt := 48) hx hb dX7_term_12 (by decide) (fun c9 => absurd c9 (by decide)) (fun _ => ?_)
        refine lv_iload hx hb dX7_term_15 (lv_at hl 4 rfl) ?_
        refine lv_iconst (v := 0) hx hb dX7_term_17 (by decide) ?_
        refine lv_iconst (v := 5) hx hb dX7_term_18 (by decide) ?_
        refine yc_p hP hS (va_runS (As := [.int x3, .int 0, .int 5]) (rest := []) ⟨hx, hb, hml, hown, hts⟩ (c_X7_isWithin l x3 0 5) (cwS 3 hts gX7_term_X7_isWithin rfl rfl rfl hd_S_X7_isWithin_3 ⟨Nat.le_of_ble_eq_true rfl, Nat.le_of_ble_eq_true rfl⟩) ex_preP rfl rfl hl.1 rfl (lv_room (Nat.le_of_ble_eq_true rfl)) dX7_term_19 ⟨Nat.le_of_ble_eq_true rfl, Nat.le_of_ble_eq_true rfl⟩) (fun r_31 H locs hw_31 hP hS => ?_)
        rcases wi_ca hw_31 with ⟨rfl, hc_32⟩ | ⟨rfl, hc_32⟩
        · have k_5 : (5 : Int32).toInt = 5 := by decide
          have tc_32 := wi_tl hc_32
          refine lv_if_eq (tgt := 48) hx hb dX7_term_22 (by decide) (fun c9 => absurd c9 (by decide)) (fun _ => ?_)
          refine lv_iload hx hb dX7_term_25 (lv_at hl 5 rfl) ?_
          refine yc_p hP hS (va_runS (As := [.int x4]) (rest := []) ⟨hx, hb, hml, hown, hts⟩ (c_X7_isHour l x4) (cwS 1 hts gX7_term_X7_isHour rfl rfl rfl hd_S_X7_isHour_1 ⟨Nat.le_of_ble_eq_true rfl, Nat.le_of_ble_eq_true rfl⟩) ex_preP rfl rfl hl.1 rfl (lv_room (Nat.le_of_ble_eq_true rfl)) dX7_term_27 ⟨Nat.le_of_ble_eq_true rfl, Nat.le_of_ble_eq_true rfl⟩) (fun r_33 H locs hw_33 hP hS => ?_)
          rcases wi_ca hw_33 with ⟨rfl, hc_34⟩ | ⟨rfl, hc_34⟩
          · have k_23 : (23 : Int32).toInt = 23 := by decide
            have tc_34 := wi_tl hc_34
            refine lv_if_eq (tgt := 48) hx hb dX7_term_30 (by decide) (fun c9 => absurd c9 (by decide)) (fun _ => ?_)
            refine lv_iload hx hb dX7_term_33 (lv_at hl 6 rfl) ?_
            refine yc_p hP hS (va_runS (As := [.int x5]) (rest := []) ⟨hx, hb, hml, hown, hts⟩ (c_X7_isHour l x5) (cwS 1 hts gX7_term_X7_isHour rfl rfl rfl hd_S_X7_isHour_1 ⟨Nat.le_of_ble_eq_true rfl, Nat.le_of_ble_eq_true rfl⟩) ex_preP rfl rfl hl.1 rfl (lv_room (Nat.le_of_ble_eq_true rfl)) dX7_term_35 ⟨Nat.le_of_ble_eq_true rfl, Nat.le_of_ble_eq_true rfl⟩) (fun r_35 H locs hw_35 hP hS => ?_)
            rcases wi_ca hw_35 with ⟨rfl, hc_36⟩ | ⟨rfl, hc_36⟩
            · have tc_36 := wi_tl hc_36
              refine lv_if_eq (tgt := 48) hx hb dX7_term_38 (by decide) (fun c9 => absurd c9 (by decide)) (fun _ => ?_)
              refine lv_iload hx hb dX7_term_41 (lv_at hl 5 rfl) ?_
              refine lv_iload hx hb dX7_term_43 (lv_at hl 6 rfl) ?_
              refine lv_icmp_le (tgt := 50) hx hb dX7_term_45 (by decide) (fun c_37 => ?_) (fun c_37 => ?_)
              · have tc_37 : x4.toInt ≤ x5.toInt := Int32.le_iff_toInt_le.mp c_37
                refine lv_aload_n hx hb dX7_term_50 rfl (lv_at hl 0 rfl) ?_
                refine va_get (D := (dC, dI)) (ci := 7) (v := .ref (ad 13)) (C := RX7) (T := TX7) (N := 5) hx hb hts iwX7_term_X7 hown hK hP (0) (wl_at (by omega) (ce_0 (by decide))) rfl 0 (by decide) (hts (.fieldLink RX7 12 "QuietStairs" "now" "LQuietStairs$House;") fwX7_term_1) (fun _ h9 => h9) rfl dX7_term_51 ?_
                refine va_get (D := (dC, dI)) (ci := 1) (v := .ref (ad 16)) (C := RX1) (T := TX1) (N := 7) hx hb hts iwX7_term_X1 hown hK hP (13) (wl_at (by omega) (ce_3 (by decide))) rfl 6 (by decide) (hts (.fieldLink RX7 86 "QuietStairs$House" "cases" "[LQuietStairs$Case;") fwX7_term_2) (fun _ h9 => h9) rfl dX7_term_54 ?_
                refine lv_iload_n hx hb dX7_term_57 rfl (lv_at hl 1 rfl) ?_
                obtain ⟨pi38, i38, hi38, ni38, mi38⟩ := t_in (x := x0) (n := 6) ⟨by omega, by omega⟩
                refine va_aldq hx hb hK hP (16) 3 (wl_at (by omega) (ce_6 (by decide))) rfl pi38 dX7_term_58 ?_
                refine W.eq (g2 := F0 m 59 ls [.ref (ad (29 + 15 * i38))]) (by rw [ni38, if_pos hi38, show 16 + 13 + 15 * i38 = 29 + 15 * i38 from by omega]; rfl) ?_
                refine lv_astore (lv' := [(7, .ref (ad (29 + 15 * i38))), (0, .ref (ad 0)), (1, .int x0), (2, .int x1), (3, .int 1), (4, .int x3), (5, .int x4), (6, .int x5)]) hx hb dX7_term_59 hl (by decide) rfl (fun ls hl => ?_)
                refine lv_aload hx hb dX7_term_61 (lv_at hl 0 rfl) ?_
                refine va_get (D := (dC, dI)) (ci := 0) (v := .int (v_27 (29 + 15 * i38) 0)) (C := RX0) (T := TX0) (N := 11) hx hb hts iwX7_term_X0 hown hK hP (29 + 15 * i38) (wl_at (by omega) (ce_9 (kd_c i38 hi38).1.1)) rfl 0 (by decide) (hts (.fieldLink RX7 99 "QuietStairs$Case" "state" "I") fwX7_term_3) (fun _ h9 => h9) rfl dX7_term_63 ?_
                refine lv_topi (fun x_39 ex_39 => ?_)
                refine lv_iconst (v := 1) hx hb dX7_term_66 (by decide) ?_
                refine lv_icmp_eq (tgt := 73) hx hb dX7_term_67 (by decide) (fun c_40 => ?_) (fun c_40 => ?_)
                · have tc_40 : x_39.toInt = (1 : Int32).toInt := by rw [c_40]
                  refine lv_aload hx hb dX7_term_73 (lv_at hl 0 rfl) ?_
                  refine va_get (D := (dC, dI)) (ci := 0) (v := .int (v_27 (29 + 15 * i38) 5)) (C := RX0) (T := TX0) (N := 11) hx hb hts iwX7_term_X0 hown hK hP (29 + 15 * i38) (wl_at (by omega) (ce_9 (kd_c i38 hi38).1.1)) rfl 5 (by decide) (hts (.fieldLink RX7 169 "QuietStairs$Case" "termCount" "I") fwX7_term_4) (fun _ h9 => h9) rfl dX7_term_75 ?_
                  refine lv_topi (fun x_41 ex_41 => ?_)
                  have bx_41 : 0 ≤ x_41.toInt ∧ x_41.toInt ≤ 5 := by rw [ex_41]; exact hv.at (K := 9) (kd_c i38 hi38).1.1 rfl
                  refine lv_iconst (v := 5) hx hb dX7_term_78 (by decide) ?_
                  refine lv_icmp_lt (tgt := 85) hx hb dX7_term_79 (by decide) (fun c_42 => ?_) (fun c_42 => ?_)
                  · have tc_42 : x_41.toInt < (5 : Int32).toInt := Int32.lt_iff_toInt_lt.mp c_42
                    refine lv_aload hx hb dX7_term_85 (lv_at hl 0 rfl) ?_
                    refine va_get (D := (dC, dI)) (ci := 0) (v := .ref (ad (29 + 15 * i38 + 9))) (C := RX0) (T := TX0) (N := 11) hx hb hts iwX7_term_X0 hown hK hP (29 + 15 * i38) (wl_at (by omega) (ce_9 (kd_c i38 hi38).1.1)) rfl 10 (by decide) (hts (.fieldLink RX7 172 "QuietStairs$Case" "terms" "[LQuietStairs$Term;") fwX7_term_5) (fun _ h9 => h9) rfl dX7_term_87 ?_
                    refine W.eq (g2 := F0 m 90 ls [.ref (ad (38 + 15 * i38))]) (by rw [show 29 + 15 * i38 + 9 = 38 + 15 * i38 from by omega]) ?_
                    refine lv_aload hx hb dX7_term_90 (lv_at hl 0 rfl) ?_
                    refine va_get (D := (dC, dI)) (ci := 0) (v := .int (v_27 (29 + 15 * i38) 5)) (C := RX0) (T := TX0) (N := 11) hx hb hts iwX7_term_X0 hown hK hP (29 + 15 * i38) (wl_at (by omega) (ce_9 (kd_c i38 hi38).1.1)) rfl 5 (by decide) (hts (.fieldLink RX7 169 "QuietStairs$Case" "termCount" "I") fwX7_term_4) (fun _ h9 => h9) rfl dX7_term_92 ?_
                    refine lv_topi (fun x_43 ex_43 => ?_)
                    rw [← ex_41] at ex_43; replace ex_43 := ex_43.symm; subst ex_43
                    obtain ⟨pi44, i44, hi44, ni44, mi44⟩ := t_in (x := x_41) (n := 5) ⟨by omega, by omega⟩
                    refine va_aldq hx hb hK hP (38 + 15 * i38) 4 (wl_at (by omega) (ce_15 (kd_c i38 hi38).1.2.2.2.2.2)) rfl pi44 dX7_term_95 ?_
                    refine W.eq (g2 := F0 m 96 ls [.ref (ad (39 + 15 * i38 + i44))]) (by rw [ni44, if_pos hi44, show 38 + 15 * i38 + 1 + i44 = 39 + 15 * i38 + i44 from by omega]; rfl) ?_
                    refine lv_astore (lv' := [(8, .ref (ad (39 + 15 * i38 + i44))), (7, .ref (ad (29 + 15 * i38))), (0, .ref (ad 0)), (1, .int x0), (2, .int x1), (3, .int 1), (4, .int x3), (5, .int x4), (6, .int x5)]) hx hb dX7_term_96 hl (by decide) rfl (fun ls hl => ?_)
                    refine lv_aload hx hb dX7_term_98 (lv_at hl 0 rfl) ?_
                    refine lv_iload_n hx hb dX7_term_100 rfl (lv_at hl 4 rfl) ?_
                    refine va_put (D := (dC, dI)) (ci := 6) (v := .int x1) (ty := .int) (C := RX6) (T := TX6) (N := 5) hx hb hts iwX7_term_X6 tyX6 tyX6_ok nmX6 hown hK hP hD hS (39 + 15 * i38 + i44) (wl_at (by omega) (ce_16 (kd_t i38 hi38 i44 hi44).1)) rfl 0 (by decide) (hts (.fieldLink RX7 176 "QuietStairs$Term" "side" "I") fwX7_term_6) (fun _ h9 => h9) rfl (by decide +kernel) rfl rfl (Nat.le_of_ble_eq_true rfl) dX7_term_101 (fun H locs hP hD hS => ?_)
                    obtain ⟨v_45, ev_45⟩ : ∃ u : Nat → Nat → Int32, u = upr v_27 (39 + 15 * i38 + i44) (upd (v_27 (39 + 15 * i38 + i44)) 0 x1) := ⟨_, rfl⟩
                    have hP : va_P (dC, dI) vwCl (wl ad kv cy N v_45) H := by rw [ev_45, ← wl_put (e := _) (ce_16 (kd_t i38 hi38 i44 hi44).1)]; exact hP
                    have hD : va_D A (wl ad kv cy N v_45) := by rw [ev_45, ← wl_put (e := _) (ce_16 (kd_t i38 hi38 i44 hi44).1)]; exact hD
                    have hv : Iv v_45 := by rw [ev_45]; exact hv.put (K := 16) (kd_t i38 hi38 i44 hi44).1 (fun h q => by cases q; exact ⟨by omega, by omega⟩)
                    have hfr : Fr v v_45 := by rw [ev_45]; exact hfr.put (by omega) (by omega) (by omega)
                    refine lv_aload hx hb dX7_term_104 (lv_at hl 0 rfl) ?_
                    refine lv_iload_n hx hb dX7_term_106 rfl (lv_at hl 5 rfl) ?_
                    refine va_put (D := (dC, dI)) (ci := 6) (v := .int 1) (ty := .boolean) (C := RX6) (T := TX6) (N := 5) hx hb hts iwX7_term_X6 tyX6 tyX6_ok nmX6 hown hK hP hD hS (39 + 15 * i38 + i44) (wl_at (by omega) (ce_16 (kd_t i38 hi38 i44 hi44).1)) rfl 1 (by decide) (hts (.fieldLink RX7 181 "QuietStairs$Term" "must" "Z") fwX7_term_7) (fun _ h9 => h9) rfl (by decide +kernel) rfl rfl (Nat.le_of_ble_eq_true rfl) dX7_term_107 (fun H locs hP hD hS => ?_)
                    obtain ⟨v_46, ev_46⟩ : ∃ u : Nat → Nat → Int32, u = upr v_45 (39 + 15 * i38 + i44) (upd (v_45 (39 + 15 * i38 + i44)) 1 1) := ⟨_, rfl⟩
                    have hP : va_P (dC, dI) vwCl (wl ad kv cy N v_46) H := by rw [ev_46, ← wl_put (e := _) (ce_16 (kd_t i38 hi38 i44 hi44).1)]; exact hP
                    have hD : va_D A (wl ad kv cy N v_46) := by rw [ev_46, ← wl_put (e := _) (ce_16 (kd_t i38 hi38 i44 hi44).1)]; exact hD
                    have hv : Iv v_46 := by rw [ev_46]; exact hv.put (K := 16) (kd_t i38 hi38 i44 hi44).1 (fun h q => by cases q; exact ⟨by omega, by omega⟩)
                    have hfr : Fr v v_46 := by rw [ev_46]; exact hfr.put (by omega) (by omega) (by omega)
                    refine lv_aload hx hb dX7_term_110 (lv_at hl 0 rfl) ?_
                    refine lv_iload hx hb dX7_term_112 (lv_at hl 6 rfl) ?_
                    refine va_put (D := (dC, dI)) (ci := 6) (v := .int x3) (ty := .int) (C := RX6) (T := TX6) (N := 5) hx hb hts iwX7_term_X6 tyX6 tyX6_ok nmX6 hown hK hP hD hS (39 + 15 * i38 + i44) (wl_at (by omega) (ce_16 (kd_t i38 hi38 i44 hi44).1)) rfl 2 (by decide) (hts (.fieldLink RX7 185 "QuietStairs$Term" "act" "I") fwX7_term_8) (fun _ h9 => h9) rfl (by decide +kernel) rfl rfl (Nat.le_of_ble_eq_true rfl) dX7_term_114 (fun H locs hP hD hS => ?_)
                    obtain ⟨v_47, ev_47⟩ : ∃ u : Nat → Nat → Int32, u = upr v_46 (39 + 15 * i38 + i44) (upd (v_46 (39 + 15 * i38 + i44)) 2 x3) := ⟨_, rfl⟩
                    have hP : va_P (dC, dI) vwCl (wl ad kv cy N v_47) H := by rw [ev_47, ← wl_put (e := _) (ce_16 (kd_t i38 hi38 i44 hi44).1)]; exact hP
                    have hD : va_D A (wl ad kv cy N v_47) := by rw [ev_47, ← wl_put (e := _) (ce_16 (kd_t i38 hi38 i44 hi44).1)]; exact hD
                    have hv : Iv v_47 := by rw [ev_47]; exact hv.put (K := 16) (kd_t i38 hi38 i44 hi44).1 (fun h q => by simp [bd] at q)
                    have hfr : Fr v v_47 := by rw [ev_47]; exact hfr.put (by omega) (by omega) (by omega)
                    refine lv_aload hx hb dX7_term_117 (lv_at hl 0 rfl) ?_
                    refine lv_iload hx hb dX7_term_119 (lv_at hl 7 rfl) ?_
                    refine va_put (D := (dC, dI)) (ci := 6) (v := .int x4) (ty := .int) (C := RX6) (T := TX6) (N := 5) hx hb hts iwX7_term_X6 tyX6 tyX6_ok nmX6 hown hK hP hD hS (39 + 15 * i38 + i44) (wl_at (by omega) (ce_16 (kd_t i38 hi38 i44 hi44).1)) rfl 3 (by decide) (hts (.fieldLink RX7 188 "QuietStairs$Term" "first" "I") fwX7_term_9) (fun _ h9 => h9) rfl (by decide +kernel) rfl rfl (Nat.le_of_ble_eq_true rfl) dX7_term_121 (fun H locs hP hD hS => ?_)
                    obtain ⟨v_48, ev_48⟩ : ∃ u : Nat → Nat → Int32, u = upr v_47 (39 + 15 * i38 + i44) (upd (v_47 (39 + 15 * i38 + i44)) 3 x4) := ⟨_, rfl⟩
                    have hP : va_P (dC, dI) vwCl (wl ad kv cy N v_48) H := by rw [ev_48, ← wl_put (e := _) (ce_16 (kd_t i38 hi38 i44 hi44).1)]; exact hP
                    have hD : va_D A (wl ad kv cy N v_48) := by rw [ev_48, ← wl_put (e := _) (ce_16 (kd_t i38 hi38 i44 hi44).1)]; exact hD
                    have hv : Iv v_48 := by rw [ev_48]; exact hv.put (K := 16) (kd_t i38 hi38 i44 hi44).1 (fun h q => by cases q; exact ⟨by omega, by omega⟩)
                    have hfr : Fr v v_48 := by rw [ev_48]; exact hfr.put (by omega) (by omega) (by omega)
                    refine lv_aload hx hb dX7_term_124 (lv_at hl 0 rfl) ?_
                    refine lv_iload hx hb dX7_term_126 (lv_at hl 8 rfl) ?_
                    refine va_put (D := (dC, dI)) (ci := 6) (v := .int x5) (ty := .int) (C := RX6) (T := TX6) (N := 5) hx hb hts iwX7_term_X6 tyX6 tyX6_ok nmX6 hown hK hP hD hS (39 + 15 * i38 + i44) (wl_at (by omega) (ce_16 (kd_t i38 hi38 i44 hi44).1)) rfl 4 (by decide) (hts (.fieldLink RX7 191 "QuietStairs$Term" "last" "I") fwX7_term_10) (fun _ h9 => h9) rfl (by decide +kernel) rfl rfl (Nat.le_of_ble_eq_true rfl) dX7_term_128 (fun H locs hP hD hS => ?_)
                    obtain ⟨v_49, ev_49⟩ : ∃ u : Nat → Nat → Int32, u = upr v_48 (39 + 15 * i38 + i44) (upd (v_48 (39 + 15 * i38 + i44)) 4 x5) := ⟨_, rfl⟩
                    have hP : va_P (dC, dI) vwCl (wl ad kv cy N v_49) H := by rw [ev_49, ← wl_put (e := _) (ce_16 (kd_t i38 hi38 i44 hi44).1)]; exact hP
                    have hD : va_D A (wl ad kv cy N v_49) := by rw [ev_49, ← wl_put (e := _) (ce_16 (kd_t i38 hi38 i44 hi44).1)]; exact hD
                    have hv : Iv v_49 := by rw [ev_49]; exact hv.put (K := 16) (kd_t i38 hi38 i44 hi44).1 (fun h q => by cases q; exact ⟨by omega, by omega⟩)
                    have hfr : Fr v v_49 := by rw [ev_49]; exact hfr.put (by omega) (by omega) (by omega)
                    refine lv_aload hx hb dX7_term_131 (lv_at hl 1 rfl) ?_
                    refine lv_dup hx hb dX7_term_133 rfl ?_
                    refine va_get (D := (dC, dI)) (ci := 0) (v := .int (v_49 (29 + 15 * i38) 5)) (C := RX0) (T := TX0) (N := 11) hx hb hts iwX7_term_X0 hown hK hP (29 + 15 * i38) (wl_at (by omega) (ce_9 (kd_c i38 hi38).1.1)) rfl 5 (by decide) (hts (.fieldLink RX7 169 "QuietStairs$Case" "termCount" "I") fwX7_term_4) (fun _ h9 => h9) rfl dX7_term_134 ?_
                    refine lv_topi (fun x_50 ex_50 => ?_)
                    rw [ev_49, upr_n (by omega)] at ex_50
                    rw [ev_48, upr_n (by omega)] at ex_50
                    rw [ev_47, upr_n (by omega)] at ex_50
                    rw [ev_46, upr_n (by omega)] at ex_50
                    rw [ev_45, upr_n (by omega)] at ex_50
                    rw [← ex_41] at ex_50; replace ex_50 := ex_50.symm; subst ex_50
                    refine lv_dup_x1 hx hb dX7_term_137 rfl rfl ?_
                    refine lv_iconst (v := 1) hx hb dX7_term_138 (by decide) ?_
                    refine lv_iadd hx hb dX7_term_139 ?_
                    refine lv_topi (fun x_51 ex_51 => ?_)
                    have tx_51 : x_51.toInt = x_41.toInt + (1 : Int32).toInt := by rw [ex_51]; exact t_add ⟨by omega, by omega⟩
                    refine va_put (D := (dC, dI)) (ci := 0) (v := .int x_51) (ty := .int) (C := RX0) (T := TX0) (N := 11) hx hb hts iwX7_term_X0 tyX0 tyX0_ok nmX0 hown hK hP hD hS (29 + 15 * i38) (wl_at (by omega) (ce_9 (kd_c i38 hi38).1.1)) rfl 5 (by decide) (hts (.fieldLink RX7 169 "QuietStairs$Case" "termCount" "I") fwX7_term_4) (fun _ h9 => h9) rfl (by decide +kernel) rfl rfl (Nat.le_of_ble_eq_true rfl) dX7_term_140 (fun H locs hP hD hS => ?_)
                    obtain ⟨v_52, ev_52⟩ : ∃ u : Nat → Nat → Int32, u = upr v_49 (29 + 15 * i38) (upd (v_49 (29 + 15 * i38)) 5 x_51) := ⟨_, rfl⟩
                    have hP : va_P (dC, dI) vwCl (wl ad kv cy N v_52) H := by rw [ev_52, ← wl_put (e := _) (ce_9 (kd_c i38 hi38).1.1)]; exact hP
                    have hD : va_D A (wl ad kv cy N v_52) := by rw [ev_52, ← wl_put (e := _) (ce_9 (kd_c i38 hi38).1.1)]; exact hD
                    have hv : Iv v_52 := by rw [ev_52]; exact hv.put (K := 9) (kd_c i38 hi38).1.1 (fun h q => by cases q; exact ⟨by omega, by omega⟩)
                    have hfr : Fr v v_52 := by rw [ev_52]; exact hfr.put (by omega) (by omega) (by omega)
                    exact W.iret (v := x_41) hx hb hr (fun t ht hW => ⟨⟨x_41, v_52, rfl, ⟨hv, hfr⟩, by rw [ht]; exact hP, hD⟩, hS.F ht⟩) hS.2.2 dX7_term_143
                  · have tc_42 : x_41.toInt ≥ (5 : Int32).toInt := Int32.le_iff_toInt_le.mp (Int32.not_lt.mp c_42)
                    refine lv_bipush (v := (-2)) hx hb dX7_term_82 (by decide) ?_
                    exact W.iret (v := (-2)) hx hb hr (fun t ht hW => ⟨⟨(-2), v_27, rfl, ⟨hv, hfr⟩, by rw [ht]; exact hP, hD⟩, hS.F ht⟩) hS.2.2 dX7_term_84
                · have tc_40 : x_39.toInt ≠ (1 : Int32).toInt := fun q => absurd (Int32.toInt_inj.mp q) c_40
                  refine lv_bipush (v := (-4)) hx hb dX7_term_70 (by decide) ?_
                  exact W.iret (v := (-4)) hx hb hr (fun t ht hW => ⟨⟨(-4), v_27, rfl, ⟨hv, hfr⟩, by rw [ht]; exact hP, hD⟩, hS.F ht⟩) hS.2.2 dX7_term_72
              · have tc_37 : x4.toInt > x5.toInt := Int32.lt_iff_toInt_lt.mp (Int32.not_le.mp c_37)
                refine lv_iconst (v := (-1)) hx hb dX7_term_48 (by decide) ?_
                exact W.iret (v := (-1)) hx hb hr (fun t ht hW => ⟨⟨(-1), v_27, rfl, ⟨hv, hfr⟩, by rw [ht]; exact hP, hD⟩, hS.F ht⟩) hS.2.2 dX7_term_49
            · refine lv_if_eq (tgt := 48) hx hb dX7_term_38 (by decide) (fun _ => ?_) (fun c9 => absurd c9 (by decide))
              refine lv_iconst (v := (-1)) hx hb dX7_term_48 (by decide) ?_
              exact W.iret (v := (-1)) hx hb hr (fun t ht hW => ⟨⟨(-1), v_27, rfl, ⟨hv, hfr⟩, by rw [ht]; exact hP, hD⟩, hS.F ht⟩) hS.2.2 dX7_term_49
          · refine lv_if_eq (tgt := 48) hx hb dX7_term_30 (by decide) (fun _ => ?_) (fun c9 => absurd c9 (by decide))
            refine lv_iconst (v := (-1)) hx hb dX7_term_48 (by decide) ?_
            exact W.iret (v := (-1)) hx hb hr (fun t ht hW => ⟨⟨(-1), v_27, rfl, ⟨hv, hfr⟩, by rw [ht]; exact hP, hD⟩, hS.F ht⟩) hS.2.2 dX7_term_49
        · refine lv_if_eq (tgt := 48) hx hb dX7_term_22 (by decide) (fun _ => ?_) (fun c9 => absurd c9 (by decide))
          refine lv_iconst (v := (-1)) hx hb dX7_term_48 (by decide) ?_
          exact W.iret (v := (-1)) hx hb hr (fun t ht hW => ⟨⟨(-1), v_27, rfl, ⟨hv, hfr⟩, by rw [ht]; exact hP, hD⟩, hS.F ht⟩) hS.2.2 dX7_term_49
      · refine lv_if_eq (tgt := 48) hx hb dX7_term_12 (by decide) (fun _ => ?_) (fun c9 => absurd c9 (by decide))
        refine lv_iconst (v := (-1)) hx hb dX7_term_48 (by decide) ?_
        exact W.iret (v := (-1)) hx hb hr (fun t ht hW => ⟨⟨(-1), v_27, rfl, ⟨hv, hfr⟩, by rw [ht]; exact hP, hD⟩, hS.F ht⟩) hS.2.2 dX7_term_49
    · refine lv_if_eq (tgt := 48) hx hb dX7_term_5 (by decide) (fun _ => ?_) (fun c9 => absurd c9 (by decide))
      refine lv_iconst (v := (-1)) hx hb dX7_term_48 (by decide) ?_
      exact W.iret (v := (-1)) hx hb hr (fun t ht hW => ⟨⟨(-1), v_27, rfl, ⟨hv, hfr⟩, by rw [ht]; exact hP, hD⟩, hS.F ht⟩) hS.2.2 dX7_term_49

set_option maxHeartbeats 4000000 in
set_option maxRecDepth 100000 in
theorem g_X7_isTerm (l : Launch) (dC : Nat → ClassId) (dI : Nat → Nat → Nat) (cy : Nat → ClassId) (sz : Nat) (ad : Nat → Nat) (kv : Value) (N : Nat) (hN : 119 ≤ N) (v : Nat → Nat → Int32) (hv : Iv v) (x0 x1 : Int32) : Met l yX7_isTerm wsX7_isTerm ({ frames := 2, cells := 0, slots := 0, locals := 128 }) (va_Pc [.ref (ad 0), .int x0, .int x1] (ex_Pre dC dI cy sz (wl ad kv cy N v))) (va_Qi (fun (r : Int32) (u : Nat → Nat → Int32) => Iv u ∧ Fr v u ∧ ((r = 1 ∧ (0 ≤ x0.toInt ∧ x0.toInt < 6) ∧ (0 ≤ x1.toInt ∧ x1.toInt < 5)) ∨ r = 0)) (fun u t => ex_Pst dC dI (va_A (wl ad kv cy N v) sz) (wl ad kv cy N u) t) (va_A (wl ad kv cy N v) sz)) 0 0 (va_A (wl ad kv cy N v) sz) := by
  refine Met.ofW (cc := cX7_isTerm) (maxL := 3) (ret := (some .boolean)) (by decide) rfl ?_
  intro p e s m args below meth c s₁ B hml hv
  obtain ⟨rfl, hsz, hE, hP, hK, hD0⟩ := hv
  have hx := B.exec
  have hb := B.bytes
  have hr := B.returns
  have hts := atoms_spec (ws := wsX7_isTerm) B.pre
  have hown : s.vm.findClass RX7 = some m.cls := findClass_of_methodNamed B.named
  have hlocks := B.notSynchronized
  subst hsz
  have hD := hD0.self (sz := s.heap.size)
  generalize hAe : va_A (wl ad kv cy N v) s.heap.size = A at hD ⊢
  have hA : ∀ q : Nat, s.heap.size ≤ q → A q := fun q h => by rw [← hAe]; exact Or.inr h
  have hS : va_S A s.heap s.heap [] := va_S.rf
  have hP : va_P (dC, dI) vwCl (wl ad kv cy N v) s.heap := hP
  have hl := lv_entry ([.ref (ad 0), .int x0, .int x1]) (n := 3) (Nat.le_of_ble_eq_true rfl)
  rw [lg_entry_eq]
  generalize (lg_sl ([.ref (ad 0), .int x0, .int x1]) ++ List.replicate (3 - (lg_sl ([.ref (ad 0), .int x0, .int x1])).length) Slot.unset).toArray = ls at hl ⊢
  have hl : lv_has ls 3 [(0, .ref (ad 0)), (1, .int x0), (2, .int x1)] := hl
  have hfr : Fr v v := Fr.rf
  refine lv_aload_n hx hb dX7_isTerm_0 rfl (lv_at hl 0 rfl) ?_
  refine lv_iload_n hx hb dX7_isTerm_1 rfl (lv_at hl 1 rfl) ?_
  refine yw_i (w1 := fun (u : Nat → Nat → Int32) => wl ad kv cy N u) hD hS hA (va_runV (As := [.int x0]) (rest := []) ⟨hx, hb, hml, hown, hts⟩ (g_X7_isCase l dC dI cy _ ad kv N hN v hv x0) (cwV 1 hts gX7_isTerm_X7_isCase rfl rfl rfl hd_V_X7_isCase_1 ⟨Nat.le_of_ble_eq_true rfl, Nat.le_of_ble_eq_true rfl⟩) (yw_preV hE hK hP hD (ci := 7) (q0 := 0) rfl (wl_at (by omega) (ce_0 (by decide)))) rfl rfl hl.1 rfl (lv_room (Nat.le_of_ble_eq_true rfl)) dX7_isTerm_2 ⟨Nat.le_of_ble_eq_true rfl, Nat.le_of_ble_eq_true rfl⟩) (fun r_1 v_1 H locs hw_1 hP hD hS => ?_)
  obtain ⟨hv, hw_1⟩ := hw_1
  obtain ⟨hu_1, hw_1⟩ := hw_1
  have hfr : Fr v v_1 := by rw [hu_1]; exact hfr
  rcases hw_1 with ⟨rfl, ha_2⟩ | ⟨rfl, -⟩
  · have hb_2 := hv.at (k := 13) (j := 2) (K := 3) (by decide) rfl
    have hb_2 : 0 ≤ x0.toInt ∧ x0.toInt < 6 := by omega
    refine lv_if_eq (tgt := 34) hx hb dX7_isTerm_5 (by decide) (fun c9 => absurd c9 (by decide)) (fun _ => ?_)
    refine lv_iload_n hx hb dX7_isTerm_8 rfl (lv_at hl 2 rfl) ?_
    refine lv_iconst (v := 0) hx hb dX7_isTerm_9 (by decide) ?_
    refine lv_aload_n hx hb dX7_isTerm_10 rfl (lv_at hl 0 rfl) ?_
    refine va_get (D := (dC, dI)) (ci := 7) (v := .ref (ad 13)) (C := RX7) (T := TX7) (N := 5) hx hb hts iwX7_isTerm_X7 hown hK hP (0) (wl_at (by omega) (ce_0 (by decide))) rfl 0 (by decide) (hts (.fieldLink RX7 12 "QuietStairs" "now" "LQuietStairs$House;") fwX7_isTerm_1) (fun _ h9 => h9) rfl dX7_isTerm_11 ?_
    refine va_get (D := (dC, dI)) (ci := 1) (v := .ref (ad 16)) (C := RX1) (T := TX1) (N := 7) hx hb hts iwX7_isTerm_X1 hown hK hP (13) (wl_at (by omega) (ce_3 (by decide))) rfl 6 (by decide) (hts (.fieldLink RX7 86 "QuietStairs$House" "cases" "[LQuietStairs$Case;") fwX7_isTerm_2) (fun _ h9 => h9) rfl dX7_isTerm_14 ?_
    refine lv_iload_n hx hb dX7_isTerm_17 rfl (lv_at hl 1 rfl) ?_
    obtain ⟨pi3, i3, hi3, ni3, mi3⟩ := t_in (x := x0) (n := 6) ⟨by omega, by omega⟩
    refine va_aldq hx hb hK hP (16) 3 (wl_at (by omega) (ce_6 (by decide))) rfl pi3 dX7_isTerm_18 ?_
    refine W.eq (g2 := F0 m 19 ls [.ref (ad (29 + 15 * i3)), .int 0, .int x1]) (by rw [ni3, if_pos hi3, show 16 + 13 + 15 * i3 = 29 + 15 * i3 from by omega]; rfl) ?_
    refine va_get (D := (dC, dI)) (ci := 0) (v := .int (v_1 (29 + 15 * i3) 5)) (C := RX0) (T := TX0) (N := 11) hx hb hts iwX7_isTerm_X0 hown hK hP (29 + 15 * i3) (wl_at (by omega) (ce_9 (kd_c i3 hi3).1.1)) rfl 5 (by decide) (hts (.fieldLink RX7 169 "QuietStairs$Case" "termCount" "I") fwX7_isTerm_3) (fun _ h9 => h9) rfl dX7_isTerm_19 ?_
    refine lv_topi (fun x_4 ex_4 => ?_)
    have bx_4 : 0 ≤ x_4.toInt ∧ x_4.toInt ≤ 5 := by rw [ex_4]; exact hv.at (K := 9) (kd_c i3 hi3).1.1 rfl
    refine lv_iconst (v := 1) hx hb dX7_isTerm_22 (by decide) ?_
    have k_1 : (1 : Int32).toInt = 1 := by decide
    refine lv_isub hx hb dX7_isTerm_23 ?_
    refine lv_topi (fun x_5 ex_5 => ?_)
    have tx_5 : x_5.toInt = x_4.toInt - (1 : Int32).toInt := by rw [ex_5]; exact t_sub ⟨by omega, by omega⟩
    refine yc_p hP hS (va_runS (As := [.int x1, .int 0, .int x_5]) (rest := []) ⟨hx, hb, hml, hown, hts⟩ (c_X7_isWithin l x1 0 x_5) (cwS 3 hts gX7_isTerm_X7_isWithin rfl rfl rfl hd_S_X7_isWithin_3 ⟨Nat.le_of_ble_eq_true rfl, Nat.le_of_ble_eq_true rfl⟩) ex_preP rfl rfl hl.1 rfl (lv_room (Nat.le_of_ble_eq_true rfl)) dX7_isTerm_24 ⟨Nat.le_of_ble_eq_true rfl, Nat.le_of_ble_eq_true rfl⟩) (fun r_6 H locs hw_6 hP hS => ?_)
    rcases wi_ca hw_6 with ⟨rfl, hc_7⟩ | ⟨rfl, hc_7⟩
    · have k_0 : (0 : Int32).toInt = 0 := by decide
      have tc_7 := wi_tl hc_7
      refine lv_if_eq (tgt := 34) hx hb dX7_isTerm_27 (by decide) (fun c9 => absurd c9 (by decide)) (fun _ => ?_)
      refine lv_iconst (v := 1) hx hb dX7_isTerm_30 (by decide) ?_
      refine lv_goto (tgt := 35) hx hb dX7_isTerm_31 (by decide) ?_
      exact W.zret (ty := .boolean) (v := 1) hx hb hr rfl (fun t ht hW => ⟨⟨1, v_1, rfl, ⟨hv, hfr, Or.inl ⟨rfl, ⟨by omega, by omega⟩, ⟨by omega, by omega⟩⟩⟩, by rw [ht]; exact hP, hD⟩, hS.F ht⟩) hS.2.2 dX7_isTerm_35
    · refine lv_if_eq (tgt := 34) hx hb dX7_isTerm_27 (by decide) (fun _ => ?_) (fun c9 => absurd c9 (by decide))
      refine lv_iconst (v := 0) hx hb dX7_isTerm_34 (by decide) ?_
      exact W.zret (ty := .boolean) (v := 0) hx hb hr rfl (fun t ht hW => ⟨⟨0, v_1, rfl, ⟨hv, hfr, Or.inr rfl⟩, by rw [ht]; exact hP, hD⟩, hS.F ht⟩) hS.2.2 dX7_isTerm_35
  · refine lv_if_eq (tgt := 34) hx hb dX7_isTerm_5 (by decide) (fun _ => ?_) (fun c9 => absurd c9 (by decide))
    refine lv_iconst (v := 0) hx hb dX7_isTerm_34 (by decide) ?_
    exact W.zret (ty := .boolean) (v := 0) hx hb hr rfl (fun t ht hW => ⟨⟨0, v_1, rfl, ⟨hv, hfr, Or.inr rfl⟩, by rw [ht]; exact hP, hD⟩, hS.F ht⟩) hS.2.2 dX7_isTerm_35
