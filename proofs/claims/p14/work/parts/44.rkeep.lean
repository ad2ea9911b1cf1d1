set_option maxRecDepth 20000 in
theorem db_X8_party_0 : (decode cX8_party 0 = .ok (.iload_n 1, 1)) ∧ (decode cX8_party 1 = .ok (.iconst 0, 1)) ∧ (decode cX8_party 2 = .ok (.bipush 9, 2)) ∧ (decode cX8_party 4 = .ok (.invokestatic 35, 3)) ∧ (decode cX8_party 7 = .ok (.ifCond .eq 12, 3)) ∧ (decode cX8_party 10 = .ok (.iload_n 2, 1)) ∧ (decode cX8_party 11 = .ok (.iconst 0, 1)) ∧ (decode cX8_party 12 = .ok (.iconst 2, 1)) := by decide +kernel
theorem dX8_party_0 : decode cX8_party 0 = .ok (.iload_n 1, 1) := db_X8_party_0.1
theorem dX8_party_1 : decode cX8_party 1 = .ok (.iconst 0, 1) := db_X8_party_0.2.1
theorem dX8_party_2 : decode cX8_party 2 = .ok (.bipush 9, 2) := db_X8_party_0.2.2.1
set_option maxRecDepth 20000 in
theorem ggX8_party_X8_in : GoodIn wsX8_party wsX8_in := goodIn_r _ [5] rfl (by decide +kernel)
set_option maxRecDepth 20000 in
theorem gX8_party_X8_in : GoodIn wsX8_party (va_wsS RX8 35 yX8_in wsX8_in) := goodIn_app (goodIn_r _ [2, 3, 4] rfl (by decide +kernel)) ggX8_party_X8_in
theorem dX8_party_4 : decode cX8_party 4 = .ok (.invokestatic 35, 3) := db_X8_party_0.2.2.2.1
theorem dX8_party_7 : decode cX8_party 7 = .ok (.ifCond .eq 12, 3) := db_X8_party_0.2.2.2.2.1
theorem dX8_party_10 : decode cX8_party 10 = .ok (.iload_n 2, 1) := db_X8_party_0.2.2.2.2.2.1
theorem dX8_party_11 : decode cX8_party 11 = .ok (.iconst 0, 1) := db_X8_party_0.2.2.2.2.2.2.1
theorem dX8_party_12 : decode cX8_party 12 = .ok (.iconst 2, 1) := db_X8_party_0.2.2.2.2.2.2.2
set_option maxRecDepth 20000 in
theorem db_X8_party_13 : (decode cX8_party 13 = .ok (.invokestatic 35, 3)) ∧ (decode cX8_party 16 = .ok (.ifCond .ne 5, 3)) ∧ (decode cX8_party 21 = .ok (.aload_n 0, 1)) ∧ (decode cX8_party 22 = .ok (.getfield 7, 3)) ∧ (decode cX8_party 25 = .ok (.iconst 0, 1)) ∧ (decode cX8_party 26 = .ok (.iaload, 1)) ∧ (decode cX8_party 27 = .ok (.bipush 8, 2)) ∧ (decode cX8_party 29 = .ok (.if_icmp .ne 6, 3)) := by decide +kernel
theorem dX8_party_13 : decode cX8_party 13 = .ok (.invokestatic 35, 3) := db_X8_party_13.1
theorem dX8_party_16 : decode cX8_party 16 = .ok (.ifCond .ne 5, 3) := db_X8_party_13.2.1
theorem dX8_party_21 : decode cX8_party 21 = .ok (.aload_n 0, 1) := db_X8_party_13.2.2.1
theorem dX8_party_22 : decode cX8_party 22 = .ok (.getfield 7, 3) := db_X8_party_13.2.2.2.1
theorem dX8_party_25 : decode cX8_party 25 = .ok (.iconst 0, 1) := db_X8_party_13.2.2.2.2.1
theorem dX8_party_26 : decode cX8_party 26 = .ok (.iaload, 1) := db_X8_party_13.2.2.2.2.2.1
theorem dX8_party_27 : decode cX8_party 27 = .ok (.bipush 8, 2) := db_X8_party_13.2.2.2.2.2.2.1
theorem dX8_party_29 : decode cX8_party 29 = .ok (.if_icmp .ne 6, 3) := db_X8_party_13.2.2.2.2.2.2.2
set_option maxRecDepth 20000 in
theorem db_X8_party_35 : (decode cX8_party 35 = .ok (.aload_n 0, 1)) ∧ (decode cX8_party 36 = .ok (.getfield 7, 3)) ∧ (decode cX8_party 39 = .ok (.iconst 0, 1)) ∧ (decode cX8_party 40 = .ok (.iaload, 1)) ∧ (decode cX8_party 41 = .ok (.istore_n 3, 1)) ∧ (decode cX8_party 42 = .ok (.aload_n 0, 1)) ∧ (decode cX8_party 43 = .ok (.getfield 7, 3)) ∧ (decode cX8_party 46 = .ok (.iconst 4, 1)) := by decide +kernel
theorem dX8_party_35 : decode cX8_party 35 = .ok (.aload_n 0, 1) := db_X8_party_35.1
theorem dX8_party_36 : decode cX8_party 36 = .ok (.getfield 7, 3) := db_X8_party_35.2.1
theorem dX8_party_39 : decode cX8_party 39 = .ok (.iconst 0, 1) := db_X8_party_35.2.2.1
theorem dX8_party_40 : decode cX8_party 40 = .ok (.iaload, 1) := db_X8_party_35.2.2.2.1
theorem dX8_party_41 : decode cX8_party 41 = .ok (.istore_n 3, 1) := db_X8_party_35.2.2.2.2.1
theorem dX8_party_42 : decode cX8_party 42 = .ok (.aload_n 0, 1) := db_X8_party_35.2.2.2.2.2.1
theorem dX8_party_43 : decode cX8_party 43 = .ok (.getfield 7, 3) := db_X8_party_35.2.2.2.2.2.2.1
theorem dX8_party_46 : decode cX8_party 46 = .ok (.iconst 4, 1) := db_X8_party_35.2.2.2.2.2.2.2
set_option maxRecDepth 20000 in
theorem db_X8_party_47 : (decode cX8_party 47 = .ok (.iconst 2, 1)) ∧ (decode cX8_party 48 = .ok (.iload_n 3, 1)) ∧ (decode cX8_party 49 = .ok (.imul, 1)) ∧ (decode cX8_party 50 = .ok (.iadd, 1)) ∧ (decode cX8_party 51 = .ok (.iload_n 1, 1)) ∧ (decode cX8_party 52 = .ok (.iastore, 1)) ∧ (decode cX8_party 53 = .ok (.aload_n 0, 1)) ∧ (decode cX8_party 54 = .ok (.getfield 7, 3)) := by decide +kernel
theorem dX8_party_47 : decode cX8_party 47 = .ok (.iconst 2, 1) := db_X8_party_47.1
theorem dX8_party_48 : decode cX8_party 48 = .ok (.iload_n 3, 1) := db_X8_party_47.2.1
theorem dX8_party_49 : decode cX8_party 49 = .ok (.imul, 1) := db_X8_party_47.2.2.1
theorem dX8_party_50 : decode cX8_party 50 = .ok (.iadd, 1) := db_X8_party_47.2.2.2.1
theorem dX8_party_51 : decode cX8_party 51 = .ok (.iload_n 1, 1) := db_X8_party_47.2.2.2.2.1
theorem dX8_party_52 : decode cX8_party 52 = .ok (.iastore, 1) := db_X8_party_47.2.2.2.2.2.1
theorem dX8_party_53 : decode cX8_party 53 = .ok (.aload_n 0, 1) := db_X8_party_47.2.2.2.2.2.2.1
theorem dX8_party_54 : decode cX8_party 54 = .ok (.getfield 7, 3) := db_X8_party_47.2.2.2.2.2.2.2
set_option maxRecDepth 20000 in
theorem db_X8_party_57 : (decode cX8_party 57 = .ok (.iconst 4, 1)) ∧ (decode cX8_party 58 = .ok (.iconst 2, 1)) ∧ (decode cX8_party 59 = .ok (.iload_n 3, 1)) ∧ (decode cX8_party 60 = .ok (.imul, 1)) ∧ (decode cX8_party 61 = .ok (.iadd, 1)) ∧ (decode cX8_party 62 = .ok (.iconst 1, 1)) ∧ (decode cX8_party 63 = .ok (.iadd, 1)) ∧ (decode cX8_party 64 = .ok (.iload_n 2, 1)) := by decide +kernel
theorem dX8_party_57 : decode cX8_party 57 = .ok (.iconst 4, 1) := db_X8_party_57.1
theorem dX8_party_58 : decode cX8_party 58 = .ok (.iconst 2, 1) := db_X8_party_57.2.1
theorem dX8_party_59 : decode cX8_party 59 = .ok (.iload_n 3, 1) := db_X8_party_57.2.2.1
theorem dX8_party_60 : decode cX8_party 60 = .ok (.imul, 1) := db_X8_party_57.2.2.2.1
theorem dX8_party_61 : decode cX8_party 61 = .ok (.iadd, 1) := db_X8_party_57.2.2.2.2.1
theorem dX8_party_62 : decode cX8_party 62 = .ok (.iconst 1, 1) := db_X8_party_57.2.2.2.2.2.1
theorem dX8_party_63 : decode cX8_party 63 = .ok (.iadd, 1) := db_X8_party_57.2.2.2.2.2.2.1
theorem dX8_party_64 : decode cX8_party 64 = .ok (.iload_n 2, 1) := db_X8_party_57.2.2.2.2.2.2.2
set_option maxRecDepth 20000 in
theorem db_X8_party_65 : (decode cX8_party 65 = .ok (.iastore, 1)) ∧ (decode cX8_party 66 = .ok (.iconst 0, 1)) ∧ (decode cX8_party 67 = .ok (.istore 4, 2)) ∧ (decode cX8_party 69 = .ok (.iload 4, 2)) ∧ (decode cX8_party 71 = .ok (.iconst 4, 1)) ∧ (decode cX8_party 72 = .ok (.if_icmp .ge 35, 3)) ∧ (decode cX8_party 107 = .ok (.aload_n 0, 1)) ∧ (decode cX8_party 108 = .ok (.getfield 7, 3)) := by decide +kernel
theorem dX8_party_65 : decode cX8_party 65 = .ok (.iastore, 1) := db_X8_party_65.1
theorem dX8_party_66 : decode cX8_party 66 = .ok (.iconst 0, 1) := db_X8_party_65.2.1
theorem dX8_party_67 : decode cX8_party 67 = .ok (.istore 4, 2) := db_X8_party_65.2.2.1
theorem dX8_party_69 : decode cX8_party 69 = .ok (.iload 4, 2) := db_X8_party_65.2.2.2.1
theorem dX8_party_71 : decode cX8_party 71 = .ok (.iconst 4, 1) := db_X8_party_65.2.2.2.2.1
theorem dX8_party_72 : decode cX8_party 72 = .ok (.if_icmp .ge 35, 3) := db_X8_party_65.2.2.2.2.2.1
theorem dX8_party_107 : decode cX8_party 107 = .ok (.aload_n 0, 1) := db_X8_party_65.2.2.2.2.2.2.1
theorem dX8_party_108 : decode cX8_party 108 = .ok (.getfield 7, 3) := db_X8_party_65.2.2.2.2.2.2.2
set_option maxRecDepth 20000 in
theorem db_X8_party_111 : (decode cX8_party 111 = .ok (.iconst 0, 1)) ∧ (decode cX8_party 112 = .ok (.dup2, 1)) ∧ (decode cX8_party 113 = .ok (.iaload, 1)) ∧ (decode cX8_party 114 = .ok (.iconst 1, 1)) ∧ (decode cX8_party 115 = .ok (.iadd, 1)) ∧ (decode cX8_party 116 = .ok (.iastore, 1)) ∧ (decode cX8_party 117 = .ok (.iload_n 3, 1)) ∧ (decode cX8_party 118 = .ok (.ireturn, 1)) := by decide +kernel
theorem dX8_party_111 : decode cX8_party 111 = .ok (.iconst 0, 1) := db_X8_party_111.1
theorem dX8_party_112 : decode cX8_party 112 = .ok (.dup2, 1) := db_X8_party_111.2.1
theorem dX8_party_113 : decode cX8_party 113 = .ok (.iaload, 1) := db_X8_party_111.2.2.1
theorem dX8_party_114 : decode cX8_party 114 = .ok (.iconst 1, 1) := db_X8_party_111.2.2.2.1
theorem dX8_party_115 : decode cX8_party 115 = .ok (.iadd, 1) := db_X8_party_111.2.2.2.2.1
theorem dX8_party_116 : decode cX8_party 116 = .ok (.iastore, 1) := db_X8_party_111.2.2.2.2.2.1
theorem dX8_party_117 : decode cX8_party 117 = .ok (.iload_n 3, 1) := db_X8_party_111.2.2.2.2.2.2.1
theorem dX8_party_118 : decode cX8_party 118 = .ok (.ireturn, 1) := db_X8_party_111.2.2.2.2.2.2.2
set_option maxRecDepth 20000 in
theorem db_X8_party_75 : (decode cX8_party 75 = .ok (.aload_n 0, 1)) ∧ (decode cX8_party 76 = .ok (.getfield 7, 3)) ∧ (decode cX8_party 79 = .ok (.bipush 28, 2)) ∧ (decode cX8_party 81 = .ok (.iload 4, 2)) ∧ (decode cX8_party 83 = .ok (.iadd, 1)) ∧ (decode cX8_party 84 = .ok (.aload_n 0, 1)) ∧ (decode cX8_party 85 = .ok (.getfield 7, 3)) ∧ (decode cX8_party 88 = .ok (.bipush 28, 2)) := by decide +kernel
theorem dX8_party_75 : decode cX8_party 75 = .ok (.aload_n 0, 1) := db_X8_party_75.1
theorem dX8_party_76 : decode cX8_party 76 = .ok (.getfield 7, 3) := db_X8_party_75.2.1
theorem dX8_party_79 : decode cX8_party 79 = .ok (.bipush 28, 2) := db_X8_party_75.2.2.1
theorem dX8_party_81 : decode cX8_party 81 = .ok (.iload 4, 2) := db_X8_party_75.2.2.2.1
theorem dX8_party_83 : decode cX8_party 83 = .ok (.iadd, 1) := db_X8_party_75.2.2.2.2.1
theorem dX8_party_84 : decode cX8_party 84 = .ok (.aload_n 0, 1) := db_X8_party_75.2.2.2.2.2.1
theorem dX8_party_85 : decode cX8_party 85 = .ok (.getfield 7, 3) := db_X8_party_75.2.2.2.2.2.2.1
theorem dX8_party_88 : decode cX8_party 88 = .ok (.bipush 28, 2) := db_X8_party_75.2.2.2.2.2.2.2
set_option maxRecDepth 20000 in
theorem db_X8_party_90 : (decode cX8_party 90 = .ok (.iload 4, 2)) ∧ (decode cX8_party 92 = .ok (.iadd, 1)) ∧ (decode cX8_party 93 = .ok (.iaload, 1)) ∧ (decode cX8_party 94 = .ok (.iconst 1, 1)) ∧ (decode cX8_party 95 = .ok (.iload_n 3, 1)) ∧ (decode cX8_party 96 = .ok (.ishl, 1)) ∧ (decode cX8_party 97 = .ok (.iconst (-1), 1)) ∧ (decode cX8_party 98 = .ok (.ixor, 1)) := by decide +kernel
theorem dX8_party_90 : decode cX8_party 90 = .ok (.iload 4, 2) := db_X8_party_90.1
theorem dX8_party_92 : decode cX8_party 92 = .ok (.iadd, 1) := db_X8_party_90.2.1
theorem dX8_party_93 : decode cX8_party 93 = .ok (.iaload, 1) := db_X8_party_90.2.2.1
theorem dX8_party_94 : decode cX8_party 94 = .ok (.iconst 1, 1) := db_X8_party_90.2.2.2.1
theorem dX8_party_95 : decode cX8_party 95 = .ok (.iload_n 3, 1) := db_X8_party_90.2.2.2.2.1
theorem dX8_party_96 : decode cX8_party 96 = .ok (.ishl, 1) := db_X8_party_90.2.2.2.2.2.1
theorem dX8_party_97 : decode cX8_party 97 = .ok (.iconst (-1), 1) := db_X8_party_90.2.2.2.2.2.2.1
theorem dX8_party_98 : decode cX8_party 98 = .ok (.ixor, 1) := db_X8_party_90.2.2.2.2.2.2.2
set_option maxRecDepth 20000 in
theorem db_X8_party_99 : (decode cX8_party 99 = .ok (.iand, 1)) ∧ (decode cX8_party 100 = .ok (.iastore, 1)) ∧ (decode cX8_party 101 = .ok (.iinc 4 1, 3)) ∧ (decode cX8_party 104 = .ok (.goto (-35), 3)) ∧ (decode cX8_party 32 = .ok (.bipush (-2), 2)) ∧ (decode cX8_party 34 = .ok (.ireturn, 1)) ∧ (decode cX8_party 19 = .ok (.iconst (-1), 1)) ∧ (decode cX8_party 20 = .ok (.ireturn, 1)) := by decide +kernel
theorem dX8_party_99 : decode cX8_party 99 = .ok (.iand, 1) := db_X8_party_99.1
theorem dX8_party_100 : decode cX8_party 100 = .ok (.iastore, 1) := db_X8_party_99.2.1
theorem dX8_party_101 : decode cX8_party 101 = .ok (.iinc 4 1, 3) := db_X8_party_99.2.2.1
theorem dX8_party_104 : decode cX8_party 104 = .ok (.goto (-35), 3) := db_X8_party_99.2.2.2.1
theorem dX8_party_32 : decode cX8_party 32 = .ok (.bipush (-2), 2) := db_X8_party_99.2.2.2.2.1
theorem dX8_party_34 : decode cX8_party 34 = .ok (.ireturn, 1) := db_X8_party_99.2.2.2.2.2.1
theorem dX8_party_19 : decode cX8_party 19 = .ok (.iconst (-1), 1) := db_X8_party_99.2.2.2.2.2.2.1
theorem dX8_party_20 : decode cX8_party 20 = .ok (.ireturn, 1) := db_X8_party_99.2.2.2.2.2.2.2
set_option maxRecDepth 20000 in
theorem db_X8_mediator_0 : (decode cX8_mediator 0 = .ok (.iload_n 1, 1)) ∧ (decode cX8_mediator 1 = .ok (.iconst 0, 1)) ∧ (decode cX8_mediator 2 = .ok (.bipush 9, 2)) ∧ (decode cX8_mediator 4 = .ok (.invokestatic 35, 3)) ∧ (decode cX8_mediator 7 = .ok (.ifCond .eq 13, 3)) ∧ (decode cX8_mediator 10 = .ok (.iload_n 2, 1)) ∧ (decode cX8_mediator 11 = .ok (.iconst 1, 1)) ∧ (decode cX8_mediator 12 = .ok (.bipush 7, 2)) := by decide +kernel
theorem dX8_mediator_0 : decode cX8_mediator 0 = .ok (.iload_n 1, 1) := db_X8_mediator_0.1
theorem dX8_mediator_1 : decode cX8_mediator 1 = .ok (.iconst 0, 1) := db_X8_mediator_0.2.1
theorem dX8_mediator_2 : decode cX8_mediator 2 = .ok (.bipush 9, 2) := db_X8_mediator_0.2.2.1
set_option maxRecDepth 20000 in
theorem ggX8_mediator_X8_in : GoodIn wsX8_mediator wsX8_in := goodIn_r _ [5] rfl (by decide +kernel)
set_option maxRecDepth 20000 in
theorem gX8_mediator_X8_in : GoodIn wsX8_mediator (va_wsS RX8 35 yX8_in wsX8_in) := goodIn_app (goodIn_r _ [2, 3, 4] rfl (by decide +kernel)) ggX8_mediator_X8_in
theorem dX8_mediator_4 : decode cX8_mediator 4 = .ok (.invokestatic 35, 3) := db_X8_mediator_0.2.2.2.1
theorem dX8_mediator_7 : decode cX8_mediator 7 = .ok (.ifCond .eq 13, 3) := db_X8_mediator_0.2.2.2.2.1
theorem dX8_mediator_10 : decode cX8_mediator 10 = .ok (.iload_n 2, 1) := db_X8_mediator_0.2.2.2.2.2.1
theorem dX8_mediator_11 : decode cX8_mediator 11 = .ok (.iconst 1, 1) := db_X8_mediator_0.2.2.2.2.2.2.1
theorem dX8_mediator_12 : decode cX8_mediator 12 = .ok (.bipush 7, 2) := db_X8_mediator_0.2.2.2.2.2.2.2
set_option maxRecDepth 20000 in
theorem db_X8_mediator_14 : (decode cX8_mediator 14 = .ok (.invokestatic 35, 3)) ∧ (decode cX8_mediator 17 = .ok (.ifCond .ne 5, 3)) ∧ (decode cX8_mediator 22 = .ok (.aload_n 0, 1)) ∧ (decode cX8_mediator 23 = .ok (.getfield 7, 3)) ∧ (decode cX8_mediator 26 = .ok (.iconst 1, 1)) ∧ (decode cX8_mediator 27 = .ok (.iaload, 1)) ∧ (decode cX8_mediator 28 = .ok (.iconst 4, 1)) ∧ (decode cX8_mediator 29 = .ok (.if_icmp .ne 6, 3)) := by decide +kernel
theorem dX8_mediator_14 : decode cX8_mediator 14 = .ok (.invokestatic 35, 3) := db_X8_mediator_14.1
theorem dX8_mediator_17 : decode cX8_mediator 17 = .ok (.ifCond .ne 5, 3) := db_X8_mediator_14.2.1
theorem dX8_mediator_22 : decode cX8_mediator 22 = .ok (.aload_n 0, 1) := db_X8_mediator_14.2.2.1
theorem dX8_mediator_23 : decode cX8_mediator 23 = .ok (.getfield 7, 3) := db_X8_mediator_14.2.2.2.1
theorem dX8_mediator_26 : decode cX8_mediator 26 = .ok (.iconst 1, 1) := db_X8_mediator_14.2.2.2.2.1
theorem dX8_mediator_27 : decode cX8_mediator 27 = .ok (.iaload, 1) := db_X8_mediator_14.2.2.2.2.2.1
theorem dX8_mediator_28 : decode cX8_mediator 28 = .ok (.iconst 4, 1) := db_X8_mediator_14.2.2.2.2.2.2.1
theorem dX8_mediator_29 : decode cX8_mediator 29 = .ok (.if_icmp .ne 6, 3) := db_X8_mediator_14.2.2.2.2.2.2.2
set_option maxRecDepth 20000 in
theorem db_X8_mediator_35 : (decode cX8_mediator 35 = .ok (.aload_n 0, 1)) ∧ (decode cX8_mediator 36 = .ok (.getfield 7, 3)) ∧ (decode cX8_mediator 39 = .ok (.iconst 1, 1)) ∧ (decode cX8_mediator 40 = .ok (.iaload, 1)) ∧ (decode cX8_mediator 41 = .ok (.istore_n 3, 1)) ∧ (decode cX8_mediator 42 = .ok (.aload_n 0, 1)) ∧ (decode cX8_mediator 43 = .ok (.getfield 7, 3)) ∧ (decode cX8_mediator 46 = .ok (.bipush 20, 2)) := by decide +kernel
theorem dX8_mediator_35 : decode cX8_mediator 35 = .ok (.aload_n 0, 1) := db_X8_mediator_35.1
theorem dX8_mediator_36 : decode cX8_mediator 36 = .ok (.getfield 7, 3) := db_X8_mediator_35.2.1
theorem dX8_mediator_39 : decode cX8_mediator 39 = .ok (.iconst 1, 1) := db_X8_mediator_35.2.2.1
theorem dX8_mediator_40 : decode cX8_mediator 40 = .ok (.iaload, 1) := db_X8_mediator_35.2.2.2.1
theorem dX8_mediator_41 : decode cX8_mediator 41 = .ok (.istore_n 3, 1) := db_X8_mediator_35.2.2.2.2.1
theorem dX8_mediator_42 : decode cX8_mediator 42 = .ok (.aload_n 0, 1) := db_X8_mediator_35.2.2.2.2.2.1
theorem dX8_mediator_43 : decode cX8_mediator 43 = .ok (.getfield 7, 3) := db_X8_mediator_35.2.2.2.2.2.2.1
theorem dX8_mediator_46 : decode cX8_mediator 46 = .ok (.bipush 20, 2) := db_X8_mediator_35.2.2.2.2.2.2.2
set_option maxRecDepth 20000 in
theorem db_X8_mediator_48 : (decode cX8_mediator 48 = .ok (.iconst 2, 1)) ∧ (decode cX8_mediator 49 = .ok (.iload_n 3, 1)) ∧ (decode cX8_mediator 50 = .ok (.imul, 1)) ∧ (decode cX8_mediator 51 = .ok (.iadd, 1)) ∧ (decode cX8_mediator 52 = .ok (.iload_n 1, 1)) ∧ (decode cX8_mediator 53 = .ok (.iastore, 1)) ∧ (decode cX8_mediator 54 = .ok (.aload_n 0, 1)) ∧ (decode cX8_mediator 55 = .ok (.getfield 7, 3)) := by decide +kernel
theorem dX8_mediator_48 : decode cX8_mediator 48 = .ok (.iconst 2, 1) := db_X8_mediator_48.1
theorem dX8_mediator_49 : decode cX8_mediator 49 = .ok (.iload_n 3, 1) := db_X8_mediator_48.2.1
theorem dX8_mediator_50 : decode cX8_mediator 50 = .ok (.imul, 1) := db_X8_mediator_48.2.2.1
theorem dX8_mediator_51 : decode cX8_mediator 51 = .ok (.iadd, 1) := db_X8_mediator_48.2.2.2.1
theorem dX8_mediator_52 : decode cX8_mediator 52 = .ok (.iload_n 1, 1) := db_X8_mediator_48.2.2.2.2.1
theorem dX8_mediator_53 : decode cX8_mediator 53 = .ok (.iastore, 1) := db_X8_mediator_48.2.2.2.2.2.1
theorem dX8_mediator_54 : decode cX8_mediator 54 = .ok (.aload_n 0, 1) := db_X8_mediator_48.2.2.2.2.2.2.1
theorem dX8_mediator_55 : decode cX8_mediator 55 = .ok (.getfield 7, 3) := db_X8_mediator_48.2.2.2.2.2.2.2
set_option maxRecDepth 20000 in
theorem db_X8_mediator_58 : (decode cX8_mediator 58 = .ok (.bipush 20, 2)) ∧ (decode cX8_mediator 60 = .ok (.iconst 2, 1)) ∧ (decode cX8_mediator 61 = .ok (.iload_n 3, 1)) ∧ (decode cX8_mediator 62 = .ok (.imul, 1)) ∧ (decode cX8_mediator 63 = .ok (.iadd, 1)) ∧ (decode cX8_mediator 64 = .ok (.iconst 1, 1)) ∧ (decode cX8_mediator 65 = .ok (.iadd, 1)) ∧ (decode cX8_mediator 66 = .ok (.iload_n 2, 1)) := by decide +kernel
theorem dX8_mediator_58 : decode cX8_mediator 58 = .ok (.bipush 20, 2) := db_X8_mediator_58.1
theorem dX8_mediator_60 : decode cX8_mediator 60 = .ok (.iconst 2, 1) := db_X8_mediator_58.2.1
theorem dX8_mediator_61 : decode cX8_mediator 61 = .ok (.iload_n 3, 1) := db_X8_mediator_58.2.2.1
theorem dX8_mediator_62 : decode cX8_mediator 62 = .ok (.imul, 1) := db_X8_mediator_58.2.2.2.1
theorem dX8_mediator_63 : decode cX8_mediator 63 = .ok (.iadd, 1) := db_X8_mediator_58.2.2.2.2.1
theorem dX8_mediator_64 : decode cX8_mediator 64 = .ok (.iconst 1, 1) := db_X8_mediator_58.2.2.2.2.2.1
theorem dX8_mediator_65 : decode cX8_mediator 65 = .ok (.iadd, 1) := db_X8_mediator_58.2.2.2.2.2.2.1
theorem dX8_mediator_66 : decode cX8_mediator 66 = .ok (.iload_n 2, 1) := db_X8_mediator_58.2.2.2.2.2.2.2
set_option maxRecDepth 20000 in
theorem db_X8_mediator_67 : (decode cX8_mediator 67 = .ok (.iastore, 1)) ∧ (decode cX8_mediator 68 = .ok (.aload_n 0, 1)) ∧ (decode cX8_mediator 69 = .ok (.getfield 7, 3)) ∧ (decode cX8_mediator 72 = .ok (.bipush 28, 2)) ∧ (decode cX8_mediator 74 = .ok (.iload_n 3, 1)) ∧ (decode cX8_mediator 75 = .ok (.iadd, 1)) ∧ (decode cX8_mediator 76 = .ok (.iconst 0, 1)) ∧ (decode cX8_mediator 77 = .ok (.iastore, 1)) := by decide +kernel
theorem dX8_mediator_67 : decode cX8_mediator 67 = .ok (.iastore, 1) := db_X8_mediator_67.1
theorem dX8_mediator_68 : decode cX8_mediator 68 = .ok (.aload_n 0, 1) := db_X8_mediator_67.2.1
theorem dX8_mediator_69 : decode cX8_mediator 69 = .ok (.getfield 7, 3) := db_X8_mediator_67.2.2.1
theorem dX8_mediator_72 : decode cX8_mediator 72 = .ok (.bipush 28, 2) := db_X8_mediator_67.2.2.2.1
theorem dX8_mediator_74 : decode cX8_mediator 74 = .ok (.iload_n 3, 1) := db_X8_mediator_67.2.2.2.2.1
theorem dX8_mediator_75 : decode cX8_mediator 75 = .ok (.iadd, 1) := db_X8_mediator_67.2.2.2.2.2.1
theorem dX8_mediator_76 : decode cX8_mediator 76 = .ok (.iconst 0, 1) := db_X8_mediator_67.2.2.2.2.2.2.1
theorem dX8_mediator_77 : decode cX8_mediator 77 = .ok (.iastore, 1) := db_X8_mediator_67.2.2.2.2.2.2.2
set_option maxRecDepth 20000 in
theorem db_X8_mediator_78 : (decode cX8_mediator 78 = .ok (.aload_n 0, 1)) ∧ (decode cX8_mediator 79 = .ok (.getfield 7, 3)) ∧ (decode cX8_mediator 82 = .ok (.iconst 1, 1)) ∧ (decode cX8_mediator 83 = .ok (.dup2, 1)) ∧ (decode cX8_mediator 84 = .ok (.iaload, 1)) ∧ (decode cX8_mediator 85 = .ok (.iconst 1, 1)) ∧ (decode cX8_mediator 86 = .ok (.iadd, 1)) ∧ (decode cX8_mediator 87 = .ok (.iastore, 1)) := by decide +kernel
theorem dX8_mediator_78 : decode cX8_mediator 78 = .ok (.aload_n 0, 1) := db_X8_mediator_78.1
theorem dX8_mediator_79 : decode cX8_mediator 79 = .ok (.getfield 7, 3) := db_X8_mediator_78.2.1
theorem dX8_mediator_82 : decode cX8_mediator 82 = .ok (.iconst 1, 1) := db_X8_mediator_78.2.2.1
theorem dX8_mediator_83 : decode cX8_mediator 83 = .ok (.dup2, 1) := db_X8_mediator_78.2.2.2.1
theorem dX8_mediator_84 : decode cX8_mediator 84 = .ok (.iaload, 1) := db_X8_mediator_78.2.2.2.2.1
theorem dX8_mediator_85 : decode cX8_mediator 85 = .ok (.iconst 1, 1) := db_X8_mediator_78.2.2.2.2.2.1
theorem dX8_mediator_86 : decode cX8_mediator 86 = .ok (.iadd, 1) := db_X8_mediator_78.2.2.2.2.2.2.1
theorem dX8_mediator_87 : decode cX8_mediator 87 = .ok (.iastore, 1) := db_X8_mediator_78.2.2.2.2.2.2.2
set_option maxRecDepth 20000 in
theorem db_X8_mediator_88 : (decode cX8_mediator 88 = .ok (.iload_n 3, 1)) ∧ (decode cX8_mediator 89 = .ok (.ireturn, 1)) ∧ (decode cX8_mediator 32 = .ok (.bipush (-2), 2)) ∧ (decode cX8_mediator 34 = .ok (.ireturn, 1)) ∧ (decode cX8_mediator 20 = .ok (.iconst (-1), 1)) ∧ (decode cX8_mediator 21 = .ok (.ireturn, 1)) := by decide +kernel
theorem dX8_mediator_88 : decode cX8_mediator 88 = .ok (.iload_n 3, 1) := db_X8_mediator_88.1
theorem dX8_mediator_89 : decode cX8_mediator 89 = .ok (.ireturn, 1) := db_X8_mediator_88.2.1
theorem dX8_mediator_32 : decode cX8_mediator 32 = .ok (.bipush (-2), 2) := db_X8_mediator_88.2.2.1
theorem dX8_mediator_34 : decode cX8_mediator 34 = .ok (.ireturn, 1) := db_X8_mediator_88.2.2.2.1
theorem dX8_mediator_20 : decode cX8_mediator 20 = .ok (.iconst (-1), 1) := db_X8_mediator_88.2.2.2.2.1
theorem dX8_mediator_21 : decode cX8_mediator 21 = .ok (.ireturn, 1) := db_X8_mediator_88.2.2.2.2.2
set_option maxRecDepth 20000 in
theorem db_X8_rooms_0 : (decode cX8_rooms 0 = .ok (.iload_n 1, 1)) ∧ (decode cX8_rooms 1 = .ok (.iconst 1, 1)) ∧ (decode cX8_rooms 2 = .ok (.iconst 2, 1)) ∧ (decode cX8_rooms 3 = .ok (.invokestatic 35, 3)) ∧ (decode cX8_rooms 6 = .ok (.ifCond .ne 5, 3)) ∧ (decode cX8_rooms 11 = .ok (.aload_n 0, 1)) ∧ (decode cX8_rooms 12 = .ok (.getfield 16, 3)) ∧ (decode cX8_rooms 15 = .ok (.istore_n 2, 1)) := by decide +kernel
theorem dX8_rooms_0 : decode cX8_rooms 0 = .ok (.iload_n 1, 1) := db_X8_rooms_0.1
theorem dX8_rooms_1 : decode cX8_rooms 1 = .ok (.iconst 1, 1) := db_X8_rooms_0.2.1
theorem dX8_rooms_2 : decode cX8_rooms 2 = .ok (.iconst 2, 1) := db_X8_rooms_0.2.2.1
set_option maxRecDepth 20000 in
theorem ggX8_rooms_X8_in : GoodIn wsX8_rooms wsX8_in := goodIn_r _ [5] rfl (by decide +kernel)
set_option maxRecDepth 20000 in
theorem gX8_rooms_X8_in : GoodIn wsX8_rooms (va_wsS RX8 35 yX8_in wsX8_in) := goodIn_app (goodIn_r _ [2, 3, 4] rfl (by decide +kernel)) ggX8_rooms_X8_in
theorem dX8_rooms_3 : decode cX8_rooms 3 = .ok (.invokestatic 35, 3) := db_X8_rooms_0.2.2.2.1
theorem dX8_rooms_6 : decode cX8_rooms 6 = .ok (.ifCond .ne 5, 3) := db_X8_rooms_0.2.2.2.2.1
theorem dX8_rooms_11 : decode cX8_rooms 11 = .ok (.aload_n 0, 1) := db_X8_rooms_0.2.2.2.2.2.1
theorem dX8_rooms_12 : decode cX8_rooms 12 = .ok (.getfield 16, 3) := db_X8_rooms_0.2.2.2.2.2.2.1
theorem dX8_rooms_15 : decode cX8_rooms 15 = .ok (.istore_n 2, 1) := db_X8_rooms_0.2.2.2.2.2.2.2
set_option maxRecDepth 20000 in
theorem db_X8_rooms_16 : (decode cX8_rooms 16 = .ok (.aload_n 0, 1)) ∧ (decode cX8_rooms 17 = .ok (.iload_n 1, 1)) ∧ (decode cX8_rooms 18 = .ok (.putfield 16, 3)) ∧ (decode cX8_rooms 21 = .ok (.iload_n 2, 1)) ∧ (decode cX8_rooms 22 = .ok (.ireturn, 1)) ∧ (decode cX8_rooms 9 = .ok (.iconst (-1), 1)) ∧ (decode cX8_rooms 10 = .ok (.ireturn, 1)) := by decide +kernel
theorem dX8_rooms_16 : decode cX8_rooms 16 = .ok (.aload_n 0, 1) := db_X8_rooms_16.1
theorem dX8_rooms_17 : decode cX8_rooms 17 = .ok (.iload_n 1, 1) := db_X8_rooms_16.2.1
theorem dX8_rooms_18 : decode cX8_rooms 18 = .ok (.putfield 16, 3) := db_X8_rooms_16.2.2.1
theorem dX8_rooms_21 : decode cX8_rooms 21 = .ok (.iload_n 2, 1) := db_X8_rooms_16.2.2.2.1
theorem dX8_rooms_22 : decode cX8_rooms 22 = .ok (.ireturn, 1) := db_X8_rooms_16.2.2.2.2.1
theorem dX8_rooms_9 : decode cX8_rooms 9 = .ok (.iconst (-1), 1) := db_X8_rooms_16.2.2.2.2.2.1
theorem dX8_rooms_10 : decode cX8_rooms 10 = .ok (.ireturn, 1) := db_X8_rooms_16.2.2.2.2.2.2
set_option maxRecDepth 20000 in
theorem db_X8_keep_0 : (decode cX8_keep 0 = .ok (.iconst 0, 1)) ∧ (decode cX8_keep 1 = .ok (.istore_n 1, 1)) ∧ (decode cX8_keep 2 = .ok (.iload_n 1, 1)) ∧ (decode cX8_keep 3 = .ok (.sipush 596, 3)) ∧ (decode cX8_keep 6 = .ok (.if_icmp .ge 21, 3)) ∧ (decode cX8_keep 27 = .ok (.aload_n 0, 1)) ∧ (decode cX8_keep 28 = .ok (.iconst 1, 1)) ∧ (decode cX8_keep 29 = .ok (.putfield 134, 3)) := by decide +kernel
theorem dX8_keep_0 : decode cX8_keep 0 = .ok (.iconst 0, 1) := db_X8_keep_0.1
theorem dX8_keep_1 : decode cX8_keep 1 = .ok (.istore_n 1, 1) := db_X8_keep_0.2.1
theorem dX8_keep_2 : decode cX8_keep 2 = .ok (.iload_n 1, 1) := db_X8_keep_0.2.2.1
theorem dX8_keep_3 : decode cX8_keep 3 = .ok (.sipush 596, 3) := db_X8_keep_0.2.2.2.1
theorem dX8_keep_6 : decode cX8_keep 6 = .ok (.if_icmp .ge 21, 3) := db_X8_keep_0.2.2.2.2.1
theorem dX8_keep_27 : decode cX8_keep 27 = .ok (.aload_n 0, 1) := db_X8_keep_0.2.2.2.2.2.1
theorem dX8_keep_28 : decode cX8_keep 28 = .ok (.iconst 1, 1) := db_X8_keep_0.2.2.2.2.2.2.1
theorem dX8_keep_29 : decode cX8_keep 29 = .ok (.putfield 134, 3) := db_X8_keep_0.2.2.2.2.2.2.2
set_option maxRecDepth 20000 in
theorem db_X8_keep_32 : (decode cX8_keep 32 = .ok (.iconst 1, 1)) ∧ (decode cX8_keep 33 = .ok (.ireturn, 1)) ∧ (decode cX8_keep 9 = .ok (.aload_n 0, 1)) ∧ (decode cX8_keep 10 = .ok (.getfield 13, 3)) ∧ (decode cX8_keep 13 = .ok (.iload_n 1, 1)) ∧ (decode cX8_keep 14 = .ok (.aload_n 0, 1)) ∧ (decode cX8_keep 15 = .ok (.getfield 7, 3)) ∧ (decode cX8_keep 18 = .ok (.iload_n 1, 1)) := by decide +kernel
theorem dX8_keep_32 : decode cX8_keep 32 = .ok (.iconst 1, 1) := db_X8_keep_32.1
theorem dX8_keep_33 : decode cX8_keep 33 = .ok (.ireturn, 1) := db_X8_keep_32.2.1
theorem dX8_keep_9 : decode cX8_keep 9 = .ok (.aload_n 0, 1) := db_X8_keep_32.2.2.1
theorem dX8_keep_10 : decode cX8_keep 10 = .ok (.getfield 13, 3) := db_X8_keep_32.2.2.2.1
theorem dX8_keep_13 : decode cX8_keep 13 = .ok (.iload_n 1, 1) := db_X8_keep_32.2.2.2.2.1
theorem dX8_keep_14 : decode cX8_keep 14 = .ok (.aload_n 0, 1) := db_X8_keep_32.2.2.2.2.2.1
theorem dX8_keep_15 : decode cX8_keep 15 = .ok (.getfield 7, 3) := db_X8_keep_32.2.2.2.2.2.2.1
theorem dX8_keep_18 : decode cX8_keep 18 = .ok (.iload_n 1, 1) := db_X8_keep_32.2.2.2.2.2.2.2
set_option maxRecDepth 20000 in
theorem db_X8_keep_19 : (decode cX8_keep 19 = .ok (.iaload, 1)) ∧ (decode cX8_keep 20 = .ok (.iastore, 1)) ∧ (decode cX8_keep 21 = .ok (.iinc 1 1, 3)) ∧ (decode cX8_keep 24 = .ok (.goto (-22), 3)) := by decide +kernel
theorem dX8_keep_19 : decode cX8_keep 19 = .ok (.iaload, 1) := db_X8_keep_19.1
theorem dX8_keep_20 : decode cX8_keep 20 = .ok (.iastore, 1) := db_X8_keep_19.2.1
theorem dX8_keep_21 : decode cX8_keep 21 = .ok (.iinc 1 1, 3) := db_X8_keep_19.2.2.1
theorem dX8_keep_24 : decode cX8_keep 24 = .ok (.goto (-22), 3) := db_X8_keep_19.2.2.2
set_option maxRecDepth 20000 in
theorem db_X8_back_0 : (decode cX8_back 0 = .ok (.aload_n 0, 1)) ∧ (decode cX8_back 1 = .ok (.getfield 134, 3)) ∧ (decode cX8_back 4 = .ok (.ifCond .ne 6, 3)) ∧ (decode cX8_back 10 = .ok (.iconst 0, 1)) ∧ (decode cX8_back 11 = .ok (.istore_n 1, 1)) ∧ (decode cX8_back 12 = .ok (.iload_n 1, 1)) ∧ (decode cX8_back 13 = .ok (.sipush 596, 3)) ∧ (decode cX8_back 16 = .ok (.if_icmp .ge 21, 3)) := by decide +kernel
theorem dX8_back_0 : decode cX8_back 0 = .ok (.aload_n 0, 1) := db_X8_back_0.1
theorem dX8_back_1 : decode cX8_back 1 = .ok (.getfield 134, 3) := db_X8_back_0.2.1
theorem dX8_back_4 : decode cX8_back 4 = .ok (.ifCond .ne 6, 3) := db_X8_back_0.2.2.1
theorem dX8_back_10 : decode cX8_back 10 = .ok (.iconst 0, 1) := db_X8_back_0.2.2.2.1
theorem dX8_back_11 : decode cX8_back 11 = .ok (.istore_n 1, 1) := db_X8_back_0.2.2.2.2.1
theorem dX8_back_12 : decode cX8_back 12 = .ok (.iload_n 1, 1) := db_X8_back_0.2.2.2.2.2.1
theorem dX8_back_13 : decode cX8_back 13 = .ok (.sipush 596, 3) := db_X8_back_0.2.2.2.2.2.2.1
theorem dX8_back_16 : decode cX8_back 16 = .ok (.if_icmp .ge 21, 3) := db_X8_back_0.2.2.2.2.2.2.2
set_option maxRecDepth 20000 in
theorem db_X8_back_37 : (decode cX8_back 37 = .ok (.iconst 1, 1)) ∧ (decode cX8_back 38 = .ok (.ireturn, 1)) ∧ (decode cX8_back 19 = .ok (.aload_n 0, 1)) ∧ (decode cX8_back 20 = .ok (.getfield 7, 3)) ∧ (decode cX8_back 23 = .ok (.iload_n 1, 1)) ∧ (decode cX8_back 24 = .ok (.aload_n 0, 1)) ∧ (decode cX8_back 25 = .ok (.getfield 13, 3)) ∧ (decode cX8_back 28 = .ok (.iload_n 1, 1)) := by decide +kernel
theorem dX8_back_37 : decode cX8_back 37 = .ok (.iconst 1, 1) := db_X8_back_37.1
theorem dX8_back_38 : decode cX8_back 38 = .ok (.ireturn, 1) := db_X8_back_37.2.1
theorem dX8_back_19 : decode cX8_back 19 = .ok (.aload_n 0, 1) := db_X8_back_37.2.2.1
theorem dX8_back_20 : decode cX8_back 20 = .ok (.getfield 7, 3) := db_X8_back_37.2.2.2.1
theorem dX8_back_23 : decode cX8_back 23 = .ok (.iload_n 1, 1) := db_X8_back_37.2.2.2.2.1
theorem dX8_back_24 : decode cX8_back 24 = .ok (.aload_n 0, 1) := db_X8_back_37.2.2.2.2.2.1
theorem dX8_back_25 : decode cX8_back 25 = .ok (.getfield 13, 3) := db_X8_back_37.2.2.2.2.2.2.1
theorem dX8_back_28 : decode cX8_back 28 = .ok (.iload_n 1, 1) := db_X8_back_37.2.2.2.2.2.2.2
set_option maxRecDepth 20000 in
theorem db_X8_back_29 : (decode cX8_back 29 = .ok (.iaload, 1)) ∧ (decode cX8_back 30 = .ok (.iastore, 1)) ∧ (decode cX8_back 31 = .ok (.iinc 1 1, 3)) ∧ (decode cX8_back 34 = .ok (.goto (-22), 3)) ∧ (decode cX8_back 7 = .ok (.bipush (-5), 2)) ∧ (decode cX8_back 9 = .ok (.ireturn, 1)) := by decide +kernel
theorem dX8_back_29 : decode cX8_back 29 = .ok (.iaload, 1) := db_X8_back_29.1
theorem dX8_back_30 : decode cX8_back 30 = .ok (.iastore, 1) := db_X8_back_29.2.1
theorem dX8_back_31 : decode cX8_back 31 = .ok (.iinc 1 1, 3) := db_X8_back_29.2.2.1
theorem dX8_back_34 : decode cX8_back 34 = .ok (.goto (-22), 3) := db_X8_back_29.2.2.2.1
theorem dX8_back_7 : decode cX8_back 7 = .ok (.bipush (-5), 2) := db_X8_back_29.2.2.2.2.1
theorem dX8_back_9 : decode cX8_back 9 = .ok (.ireturn, 1) := db_X8_back_29.2.2.2.2.2
set_option maxHeartbeats 4000000 in
set_option maxRecDepth 100000 in
theorem q_X8_party (l : Launch) (dC : Nat → ClassId) (dI : Nat → Nat → Nat) (cy : Nat → ClassId) (sz : Nat) (ad : Nat → Nat) (v : Nat → Nat → Int32) (hv : Ir v) (x0 x1 : Int32) : Met l yX8_party wsX8_party ({ frames := 1, cells := 0, slots := 0, locals := 64 }) (va_Pc [.ref (ad 0), .int x0, .int x1] (ex_Pre dC dI cy sz (wm ad cy v))) (va_Qi (fun (r : Int32) (u : Nat → Nat → Int32) => Ir u ∧ ((¬ ((0 ≤ x0.toInt ∧ x0.toInt ≤ 9) ∧ 0 ≤ x1.toInt ∧ x1.toInt ≤ 2) ∧ r = -1 ∧ u = v) ∨ (((0 ≤ x0.toInt ∧ x0.toInt ≤ 9) ∧ 0 ≤ x1.toInt ∧ x1.toInt ≤ 2) ∧ (v 1 0).toInt = 8 ∧ r = -2 ∧ u = v) ∨ (((0 ≤ x0.toInt ∧ x0.toInt ≤ 9) ∧ 0 ≤ x1.toInt ∧ x1.toInt ≤ 2) ∧ (v 1 0).toInt ≠ 8 ∧ r = v 1 0 ∧ u 1 0 = v 1 0 + 1 ∧ u 1 1 = v 1 1 ∧ u 2 = v 2 ∧ u 0 = v 0))) (fun u t => ex_Pst dC dI (va_A (wm ad cy v) sz) (wm ad cy u) t) (va_A (wm ad cy v) sz)) 0 0 (va_A (wm ad cy v) sz) := by
  refine Met.ofW (cc := cX8_party) (maxL := 5) (ret := (some .int)) (by decide) rfl ?_
  intro p e s m args below meth c s₁ B hml hv
  obtain ⟨rfl, hsz, hE, hP, hK, hD0⟩ := hv
  have hx := B.exec
  have hb := B.bytes
  have hr := B.returns
  have hts := atoms_spec (ws := wsX8_party) B.pre
  have hown : s.vm.findClass RX8 = some m.cls := findClass_of_methodNamed B.named
  have hlocks := B.notSynchronized
  subst hsz
  have hD := hD0.self (sz := s.heap.size)
  generalize hAe : va_A (wm ad cy v) s.heap.size = A at hD ⊢
  have hA : ∀ q : Nat, s.heap.size ≤ q → A q := fun q h => by rw [← hAe]; exact Or.inr h
  have hS : va_S A s.heap s.heap [] := va_S.rf
  have hP : va_P (dC, dI) vwCl (wm ad cy v) s.heap := hP
  have hl := lv_entry ([.ref (ad 0), .int x0, .int x1]) (n := 5) (Nat.le_of_ble_eq_true rfl)
  rw [lg_entry_eq]
  generalize (lg_sl ([.ref (ad 0), .int x0, .int x1]) ++ List.replicate (5 - (lg_sl ([.ref (ad 0), .int x0, .int x1])).length) Slot.unset).toArray = ls at hl ⊢
  have hl : lv_has ls 5 [(0, .ref (ad 0)), (1, .int x0), (2, .int x1)] := hl
  refine lv_iload_n hx hb dX8_party_0 rfl (lv_at hl 1 rfl) ?_
  refine lv_iconst (v := 0) hx hb dX8_party_1 (by decide) ?_
  refine lv_bipush (v := 9) hx hb dX8_party_2 (by decide) ?_
  refine yc_p hP hS (va_runS (As := [.int x0, .int 0, .int 9]) (rest := []) ⟨hx, hb, hml, hown, hts⟩ (c_X8_in l x0 0 9) (cwS 3 hts gX8_party_X8_in rfl rfl rfl hd_S_X8_in_3 ⟨Nat.le_of_ble_eq_true rfl, Nat.le_of_ble_eq_true rfl⟩) ex_preP rfl rfl hl.1 rfl (lv_room (Nat.le_of_ble_eq_true rfl)) dX8_party_4 ⟨Nat.le_of_ble_eq_true rfl, Nat.le_of_ble_eq_true rfl⟩) (fun r_1 H locs hw_1 hP hS => ?_)
  rcases wi_ca hw_1 with ⟨rfl, hc_2⟩ | ⟨rfl, hc_2⟩
  · have k_0 : (0 : Int32).toInt = 0 := by decide
    have k_9 : (9 : Int32).toInt = 9 := by decide
    have tc_2 := wi_tl hc_2
    refine lv_if_eq (tgt := 19) hx hb dX8_party_7 (by decide) (fun c9 => absurd c9 (by decide)) (fun _ => ?_)
    refine lv_iload_n hx hb dX8_party_10 rfl (lv_at hl 2 rfl) ?_
    refine lv_iconst (v := 0) hx hb dX8_party_11 (by decide) ?_
    refine lv_iconst (v := 2) hx hb dX8_party_12 (by decide) ?_
    refine yc_p hP hS (va_runS (As := [.int x1, .int 0, .int 2]) (rest := []) ⟨hx, hb, hml, hown, hts⟩ (c_X8_in l x1 0 2) (cwS 3 hts gX8_party_X8_in rfl rfl rfl hd_S_X8_in_3 ⟨Nat.le_of_ble_eq_true rfl, Nat.le_of_ble_eq_true rfl⟩) ex_preP rfl rfl hl.1 rfl (lv_room (Nat.le_of_ble_eq_true rfl)) dX8_party_13 ⟨Nat.le_of_ble_eq_true rfl, Nat.le_of_ble_eq_true rfl⟩) (fun r_3 H locs hw_3 hP hS => ?_)
    rcases wi_ca hw_3 with ⟨rfl, hc_4⟩ | ⟨rfl, hc_4⟩
    · have k_2 : (2 : Int32).toInt = 2 := by decide
      have tc_4 := wi_tl hc_4
      refine lv_if_ne (tgt := 21) hx hb dX8_party_16 (by decide) (fun _ => ?_) (fun c9 => absurd c9 (by decide))
      refine lv_aload_n hx hb dX8_party_21 rfl (lv_at hl 0 rfl) ?_
      refine va_get (D := (dC, dI)) (ci := 8) (v := .ref (ad 1)) (C := RX8) (T := TX8) (N := 11) hx hb hts iwX8_party_X8 hown hK hP (0) (wm_at (by decide) rc_0) rfl 0 (by decide) (hts (.fieldLink RX8 7 "QuietStairsModel" "s" "[I") fwX8_party_1) (fun _ h9 => h9) rfl dX8_party_22 ?_
      refine lv_iconst (v := 0) hx hb dX8_party_25 (by decide) ?_
      refine va_iald hx hb hK hP (1) 0 (wm_at (by decide) rc_1) rfl (by unfold vp_in; decide) dX8_party_26 ?_
      refine lv_topi (fun x_5 ex_5 => ?_)
      have ex_5 : x_5 = v 1 0 := ex_5
      have bzx_5 : 0 ≤ x_5.toInt ∧ x_5.toInt ≤ 8 := by rw [ex_5]; exact hv 1 _ 8 (show bS 0 = some 8 from by decide)
      have ecnt : x_5 = v 1 0 := ex_5
      refine lv_bipush (v := 8) hx hb dX8_party_27 (by decide) ?_
      have k_8 : (8 : Int32).toInt = 8 := by decide
      refine lv_icmp_ne (tgt := 35) hx hb dX8_party_29 (by decide) (fun c_6 => ?_) (fun c_6 => ?_)
      · have tc_6 : x_5.toInt ≠ (8 : Int32).toInt := fun q => absurd (Int32.toInt_inj.mp q) c_6
        refine lv_aload_n hx hb dX8_party_35 rfl (lv_at hl 0 rfl) ?_
        refine va_get (D := (dC, dI)) (ci := 8) (v := .ref (ad 1)) (C := RX8) (T := TX8) (N := 11) hx hb hts iwX8_party_X8 hown hK hP (0) (wm_at (by decide) rc_0) rfl 0 (by decide) (hts (.fieldLink RX8 7 "QuietStairsModel" "s" "[I") fwX8_party_1) (fun _ h9 => h9) rfl dX8_party_36 ?_
        refine lv_iconst (v := 0) hx hb dX8_party_39 (by decide) ?_
        refine va_iald hx hb hK hP (1) 0 (wm_at (by decide) rc_1) rfl (by unfold vp_in; decide) dX8_party_40 ?_
        refine lv_topi (fun x_7 ex_7 => ?_)
        have ex_7 : x_7 = v 1 0 := ex_7
        obtain rfl : x_5 = x_7 := (ex_7.trans ex_5.symm).symm
        refine lv_istore_n (lv' := [(3, .int x_5), (0, .ref (ad 0)), (1, .int x0), (2, .int x1)]) hx hb dX8_party_41 rfl hl (by decide) rfl (fun ls hl => ?_)
        refine lv_aload_n hx hb dX8_party_42 rfl (lv_at hl 1 rfl) ?_
        refine va_get (D := (dC, dI)) (ci := 8) (v := .ref (ad 1)) (C := RX8) (T := TX8) (N := 11) hx hb hts iwX8_party_X8 hown hK hP (0) (wm_at (by decide) rc_0) rfl 0 (by decide) (hts (.fieldLink RX8 7 "QuietStairsModel" "s" "[I") fwX8_party_1) (fun _ h9 => h9) rfl dX8_party_43 ?_
        refine lv_iconst (v := 4) hx hb dX8_party_46 (by decide) ?_
        refine lv_iconst (v := 2) hx hb dX8_party_47 (by decide) ?_
        refine lv_iload_n hx hb dX8_party_48 rfl (lv_at hl 0 rfl) ?_
        refine lv_imul hx hb dX8_party_49 ?_
        refine lv_topi (fun x_8 ex_8 => ?_)
        have tx_8 : x_8.toInt = 2 * x_5.toInt := by rw [ex_8, t_mul (by rw [k_2]; omega), k_2]
        refine lv_iadd hx hb dX8_party_50 ?_
        refine lv_topi (fun x_9 ex_9 => ?_)
        have k_4 : (4 : Int32).toInt = 4 := by decide
        have tx_9 : x_9.toInt = (4 : Int32).toInt + x_8.toInt := by rw [ex_9]; exact t_add ⟨by omega, by omega⟩
        refine lv_iload_n hx hb dX8_party_51 rfl (lv_at hl 2 rfl) ?_
        refine va_iast hx hb hK hP hD hS (1) 0 (wm_at (by decide) rc_1) rfl (vp_in_iff.mpr ⟨by omega, by omega⟩) dX8_party_52 (fun H locs hP hD hS => ?_)
        obtain ⟨v_10, ev_10⟩ : ∃ u : Nat → Nat → Int32, u = upr v 1 (upd (v 1) (x_9.toNatClampNeg) x0) := ⟨_, rfl⟩
        have hP : va_P (dC, dI) vwCl (wm ad cy v_10) H := by rw [ev_10, ← wm_put (e := _) rc_1]; exact hP
        have hD : va_D A (wm ad cy v_10) := by rw [ev_10, ← wm_put (e := _) rc_1]; exact hD
        have hv : Ir v_10 := by rw [ev_10]; exact hv.put (k := 1) (fun h q => by rw [show br 1 _ = _ from (bx_n (by omega))] at q; cases q)
        refine lv_aload_n hx hb dX8_party_53 rfl (lv_at hl 1 rfl) ?_
        refine va_get (D := (dC, dI)) (ci := 8) (v := .ref (ad 1)) (C := RX8) (T := TX8) (N := 11) hx hb hts iwX8_party_X8 hown hK hP (0) (wm_at (by decide) rc_0) rfl 0 (by decide) (hts (.fieldLink RX8 7 "QuietStairsModel" "s" "[I") fwX8_party_1) (fun _ h9 => h9) rfl dX8_party_54 ?_
        refine lv_iconst (v := 4) hx hb dX8_party_57 (by decide) ?_
        refine lv_iconst (v := 2) hx hb dX8_party_58 (by decide) ?_
        refine lv_iload_n hx hb dX8_party_59 rfl (lv_at hl 0 rfl) ?_
        refine lv_imul hx hb dX8_party_60 ?_
        refine lv_topi (fun x_11 ex_11 => ?_)
        obtain rfl : x_8 = x_11 := ex_8.trans ex_11.symm
        refine lv_iadd hx hb dX8_party_61 ?_
        refine lv_topi (fun x_12 ex_12 => ?_)
        obtain rfl : x_9 = x_12 := ex_9.trans ex_12.symm
        refine lv_iconst (v := 1) hx hb dX8_party_62 (by decide) ?_
        refine lv_iadd hx hb dX8_party_63 ?_
        refine lv_topi (fun x_13 ex_13 => ?_)
        have k_1 : (1 : Int32).toInt = 1 := by decide
        have tx_13 : x_13.toInt = x_9.toInt + (1 : Int32).toInt := by rw [ex_13]; exact t_add ⟨by omega, by omega⟩
        refine lv_iload_n hx hb dX8_party_64 rfl (lv_at hl 3 rfl) ?_
        refine va_iast hx hb hK hP hD hS (1) 0 (wm_at (by decide) rc_1) rfl (vp_in_iff.mpr ⟨by omega, by omega⟩) dX8_party_65 (fun H locs hP hD hS => ?_)
        obtain ⟨v_14, ev_14⟩ : ∃ u : Nat → Nat → Int32, u = upr v_10 1 (upd (v_10 1) (x_13.toNatClampNeg) x1) := ⟨_, rfl⟩
        have hP : va_P (dC, dI) vwCl (wm ad cy v_14) H := by rw [ev_14, ← wm_put (e := _) rc_1]; exact hP
        have hD : va_D A (wm ad cy v_14) := by rw [ev_14, ← wm_put (e := _) rc_1]; exact hD
        have hv : Ir v_14 := by rw [ev_14]; exact hv.put (k := 1) (fun h q => by rw [show br 1 _ = _ from (bx_n (by omega))] at q; cases q)
        refine lv_iconst (v := 0) hx hb dX8_party_66 (by decide) ?_
        refine lv_istore (lv' := [(4, .int 0), (3, .int x_5), (0, .ref (ad 0)), (1, .int x0), (2, .int x1)]) hx hb dX8_party_67 hl (by decide) rfl (fun ls hl => ?_)
        have hc_15 : ∀ (n : Nat) (y15_4 : Int32) (u15 : Nat → Nat → Int32) (H : Heap) (locs : List Loc), 0 ≤ y15_4.toInt → y15_4.toInt ≤ 4 → (u15 1 0 = v_14 1 0) → (u15 1 1 = v_14 1 1) → (u15 2 = v_14 2) → (u15 0 = v_14 0) → (4 - y15_4.toInt).toNat < n → Ir u15 → va_P (dC, dI) vwCl (wm ad cy u15) H → va_D A (wm ad cy u15) → va_S A s.heap H locs → ∀ ls : Array Slot, lv_has ls 5 [(4, .int y15_4), (3, .int x_5), (0, .ref (ad 0)), (1, .int x0), (2, .int x1)] → W p l e (headSpec wsX8_party ({ frames := 1, cells := 0, slots := 0, locals := 64 })).room s m [Value.ref (ad 0), Value.int x0, Value.int x1].toArray below meth c H locs 0 0 (MQ below (va_Qi (fun (r : Int32) (u : Nat → Nat → Int32) => Ir u ∧ ((¬ ((0 ≤ x0.toInt ∧ x0.toInt ≤ 9) ∧ 0 ≤ x1.toInt ∧ x1.toInt ≤ 2) ∧ r = -1 ∧ u = v) ∨ (((0 ≤ x0.toInt ∧ x0.toInt ≤ 9) ∧ 0 ≤ x1.toInt ∧ x1.toInt ≤ 2) ∧ (v 1 0).toInt = 8 ∧ r = -2 ∧ u = v) ∨ (((0 ≤ x0.toInt ∧ x0.toInt ≤ 9) ∧ 0 ≤ x1.toInt ∧ x1.toInt ≤ 2) ∧ (v 1 0).toInt ≠ 8 ∧ r = v 1 0 ∧ u 1 0 = v 1 0 + 1 ∧ u 1 1 = v 1 1 ∧ u 2 = v 2 ∧ u 0 = v 0))) (fun u t => ex_Pst dC dI A (wm ad cy u) t) A) [Value.ref (ad 0), Value.int x0, Value.int x1].toArray s 0 0 A) (F0 m 69 ls []) := by
          intro n
          induction n with
          | zero =>
            intro y15_4 u15 H locs ay15_4 by15_4 hi15_0 hi15_1 hi15_2 hi15_3 hm_15 hv hP hD hS ls hl
            exact absurd hm_15 (by omega)
          | succ n ih_15 =>
            intro y15_4 u15 H locs ay15_4 by15_4 hi15_0 hi15_1 hi15_2 hi15_3 hm_15 hv hP hD hS ls hl
            refine lv_iload hx hb dX8_party_69 (lv_at hl 0 rfl) ?_
            refine lv_iconst (v := 4) hx hb dX8_party_71 (by decide) ?_
            refine lv_icmp_ge (tgt := 107) hx hb dX8_party_72 (by decide) (fun c_16 => ?_) (fun c_16 => ?_)
            · have tc_16 : y15_4.toInt ≥ (4 : Int32).toInt := Int32.le_iff_toInt_le.mp c_16
              refine lv_aload_n hx hb dX8_party_107 rfl (lv_at hl 2 rfl) ?_
              refine va_get (D := (dC, dI)) (ci := 8) (v := .ref (ad 1)) (C := RX8) (T := TX8) (N := 11) hx hb hts iwX8_party_X8 hown hK hP (0) (wm_at (by decide) rc_0) rfl 0 (by decide) (hts (.fieldLink RX8 7 "QuietStairsModel" "s" "[I") fwX8_party_1) (fun _ h9 => h9) rfl dX8_party_108 ?_
              refine lv_iconst (v := 0) hx hb dX8_party_111 (by decide) ?_
              refine lv_dup2_11 hx hb dX8_party_112 rfl rfl ?_
              refine va_iald hx hb hK hP (1) 0 (wm_at (by decide) rc_1) rfl (by unfold vp_in; decide) dX8_party_113 ?_
              refine lv_topi (fun x_17 ex_17 => ?_)
              have ex_17 : x_17 = u15 1 0 := ex_17
              rw [hi15_0, ev_14, upr_s, pk_un (by have := t_nn (x := x_13) (by omega); omega), ev_10, upr_s, pk_un (by have := t_nn (x := x_9) (by omega); omega)] at ex_17
              obtain rfl : x_5 = x_17 := (ex_17.trans ex_5.symm).symm
              refine lv_iconst (v := 1) hx hb dX8_party_114 (by decide) ?_
              refine lv_iadd hx hb dX8_party_115 ?_
              refine lv_topi (fun x_18 ex_18 => ?_)
              have tx_18 : x_18.toInt = x_5.toInt + (1 : Int32).toInt := by rw [ex_18]; exact t_add ⟨by omega, by omega⟩
              refine va_iast hx hb hK hP hD hS (1) 0 (wm_at (by decide) rc_1) rfl (by unfold vp_in; decide) dX8_party_116 (fun H locs hP hD hS => ?_)
              obtain ⟨v_19, ev_19⟩ : ∃ u : Nat → Nat → Int32, u = upr u15 1 (upd (u15 1) 0 x_18) := ⟨_, rfl⟩
              have hP : va_P (dC, dI) vwCl (wm ad cy v_19) H := by rw [ev_19, ← wm_put (e := _) rc_1]; exact hP
              have hD : va_D A (wm ad cy v_19) := by rw [ev_19, ← wm_put (e := _) rc_1]; exact hD
              have hv : Ir v_19 := by rw [ev_19]; exact hv.put (k := 1) (fun h q => by rw [show br 1 _ = _ from (show bS 0 = some 8 from by decide)] at q; cases q; exact ⟨by omega, by omega⟩)
              refine lv_iload_n hx hb dX8_party_117 rfl (lv_at hl 1 rfl) ?_
              exact W.iret (v := x_5) hx hb hr (fun t ht hW => ⟨⟨x_5, v_19, rfl, ⟨hv, Or.inr (Or.inr ⟨⟨⟨by omega, by omega⟩, by omega, by omega⟩, by rw [← ecnt]; omega, ecnt, by rw [ev_19, upr_s, pk_us, ex_18, ecnt], by rw [ev_19, upr_s, pk_un (by decide), hi15_1, ev_14, upr_s, pk_un (by have := t_nn (x := x_13) (by omega); omega), ev_10, upr_s, pk_un (by have := t_nn (x := x_9) (by omega); omega)], by rw [ev_19, upr_n (by decide), hi15_2, ev_14, upr_n (by decide), ev_10, upr_n (by decide)], by rw [ev_19, upr_n (by decide), hi15_3, ev_14, upr_n (by decide), ev_10, upr_n (by decide)]⟩)⟩, by rw [ht]; exact hP, hD⟩, hS.F ht⟩) hS.2.2 dX8_party_118
            · have tc_16 : y15_4.toInt < (4 : Int32).toInt := Int32.lt_iff_toInt_lt.mp (Int32.not_le.mp c_16)
              refine lv_aload_n hx hb dX8_party_75 rfl (lv_at hl 2 rfl) ?_
              refine va_get (D := (dC, dI)) (ci := 8) (v := .ref (ad 1)) (C := RX8) (T := TX8) (N := 11) hx hb hts iwX8_party_X8 hown hK hP (0) (wm_at (by decide) rc_0) rfl 0 (by decide) (hts (.fieldLink RX8 7 "QuietStairsModel" "s" "[I") fwX8_party_1) (fun _ h9 => h9) rfl dX8_party_76 ?_
              refine lv_bipush (v := 28) hx hb dX8_party_79 (by decide) ?_
              refine lv_iload hx hb dX8_party_81 (lv_at hl 0 rfl) ?_
              refine lv_iadd hx hb dX8_party_83 ?_
              refine lv_topi (fun x_17 ex_17 => ?_)
              have k_28 : (28 : Int32).toInt = 28 := by decide
              have tx_17 : x_17.toInt = (28 : Int32).toInt + y15_4.toInt := by rw [ex_17]; exact t_add ⟨by omega, by omega⟩
              refine lv_aload_n hx hb dX8_party_84 rfl (lv_at hl 2 rfl) ?_
              refine va_get (D := (dC, dI)) (ci := 8) (v := .ref (ad 1)) (C := RX8) (T := TX8) (N := 11) hx hb hts iwX8_party_X8 hown hK hP (0) (wm_at (by decide) rc_0) rfl 0 (by decide) (hts (.fieldLink RX8 7 "QuietStairsModel" "s" "[I") fwX8_party_1) (fun _ h9 => h9) rfl dX8_party_85 ?_
              refine lv_bipush (v := 28) hx hb dX8_party_88 (by decide) ?_
              refine lv_iload hx hb dX8_party_90 (lv_at hl 0 rfl) ?_
              refine lv_iadd hx hb dX8_party_92 ?_
              refine lv_topi (fun x_18 ex_18 => ?_)
              obtain rfl : x_17 = x_18 := ex_17.trans ex_18.symm
              refine va_iald hx hb hK hP (1) 0 (wm_at (by decide) rc_1) rfl (vp_in_iff.mpr ⟨by omega, by omega⟩) dX8_party_93 ?_
              refine lv_topi (fun x_19 ex_19 => ?_)
              refine lv_iconst (v := 1) hx hb dX8_party_94 (by decide) ?_
              refine lv_iload_n hx hb dX8_party_95 rfl (lv_at hl 1 rfl) ?_
              refine lv_ishl hx hb dX8_party_96 ?_
              refine lv_topi (fun x_20 ex_20 => ?_)
              refine lv_iconst (v := (-1)) hx hb dX8_party_97 (by decide) ?_
              refine lv_ixor hx hb dX8_party_98 ?_
              refine lv_topi (fun x_21 ex_21 => ?_)
              refine lv_iand hx hb dX8_party_99 ?_
              refine lv_topi (fun x_22 ex_22 => ?_)
              refine va_iast hx hb hK hP hD hS (1) 0 (wm_at (by decide) rc_1) rfl (vp_in_iff.mpr ⟨by omega, by omega⟩) dX8_party_100 (fun H locs hP hD hS => ?_)
              obtain ⟨v_23, ev_23⟩ : ∃ u : Nat → Nat → Int32, u = upr u15 1 (upd (u15 1) (x_17.toNatClampNeg) x_22) := ⟨_, rfl⟩
              have hP : va_P (dC, dI) vwCl (wm ad cy v_23) H := by rw [ev_23, ← wm_put (e := _) rc_1]; exact hP
              have hD : va_D A (wm ad cy v_23) := by rw [ev_23, ← wm_put (e := _) rc_1]; exact hD
              have hv : Ir v_23 := by rw [ev_23]; exact hv.put (k := 1) (fun h q => by rw [show br 1 _ = _ from (bx_n (by omega))] at q; cases q)
              obtain ⟨x_24, ex_24⟩ : ∃ y : Int32, y = y15_4 + 1 := ⟨_, rfl⟩
              refine lv_iinc (v := x_24) (lv' := [(4, .int x_24), (3, .int x_5), (0, .ref (ad 0)), (1, .int x0), (2, .int x1)]) hx hb dX8_party_101 hl (k := 0) rfl (by rw [ex_24]; rfl) (by decide) rfl (fun ls hl => ?_)
              have tx_24 : x_24.toInt = y15_4.toInt + (1 : Int32).toInt := by rw [ex_24]; exact t_add ⟨by omega, by omega⟩
              refine lv_goto (tgt := 69) hx hb dX8_party_104 (by decide) ?_
              exact ih_15 x_24 v_23 _ _ (by omega) (by omega) (by rw [ev_23, upr_s, pk_un (by have := t_nn (x := x_17) (by omega); omega)]; exact hi15_0) (by rw [ev_23, upr_s, pk_un (by have := t_nn (x := x_17) (by omega); omega)]; exact hi15_1) (by rw [ev_23, upr_n (by decide)]; exact hi15_2) (by rw [ev_23, upr_n (by decide)]; exact hi15_3) (by omega) hv hP hD hS ls (lv_sub hl [0, 1, 2, 3, 4] rfl)
        exact hc_15 ((4 - (0 : Int32).toInt).toNat + 1) 0 v_14 _ _ (by omega) (by omega) (rfl) (rfl) (rfl) (rfl) (by omega) hv hP hD hS ls (lv_sub hl [0, 1, 2, 3, 4] rfl)
      · have tc_6 : x_5.toInt = (8 : Int32).toInt := by rw [c_6]
        refine lv_bipush (v := (-2)) hx hb dX8_party_32 (by decide) ?_
        exact W.iret (v := (-2)) hx hb hr (fun t ht hW => ⟨⟨(-2), v, rfl, ⟨hv, Or.inr (Or.inl ⟨⟨⟨by omega, by omega⟩, by omega, by omega⟩, by rw [← ecnt]; omega, rfl, rfl⟩)⟩, by rw [ht]; exact hP, hD⟩, hS.F ht⟩) hS.2.2 dX8_party_34
    · have k_2 : (2 : Int32).toInt = 2 := by decide
      have tc_4 : ¬ ((0 : Int32).toInt ≤ x1.toInt ∧ x1.toInt ≤ (2 : Int32).toInt) := fun q => hc_4 ⟨Int32.le_iff_toInt_le.mpr q.1, Int32.le_iff_toInt_le.mpr q.2⟩
      refine lv_if_ne (tgt := 21) hx hb dX8_party_16 (by decide) (fun c9 => absurd c9 (by decide)) (fun _ => ?_)
      refine lv_iconst (v := (-1)) hx hb dX8_party_19 (by decide) ?_
      exact W.iret (v := (-1)) hx hb hr (fun t ht hW => ⟨⟨(-1), v, rfl, ⟨hv, Or.inl ⟨by omega, rfl, rfl⟩⟩, by rw [ht]; exact hP, hD⟩, hS.F ht⟩) hS.2.2 dX8_party_20
  · have k_0 : (0 : Int32).toInt = 0 := by decide
    have k_9 : (9 : Int32).toInt = 9 := by decide
    have tc_2 : ¬ ((0 : Int32).toInt ≤ x0.toInt ∧ x0.toInt ≤ (9 : Int32).toInt) := fun q => hc_2 ⟨Int32.le_iff_toInt_le.mpr q.1, Int32.le_iff_toInt_le.mpr q.2⟩
    refine lv_if_eq (tgt := 19) hx hb dX8_party_7 (by decide) (fun _ => ?_) (fun c9 => absurd c9 (by decide))
    refine lv_iconst (v := (-1)) hx hb dX8_party_19 (by decide) ?_
    exact W.iret (v := (-1)) hx hb hr (fun t ht hW => ⟨⟨(-1), v, rfl, ⟨hv, Or.inl ⟨by omega, rfl, rfl⟩⟩, by rw [ht]; exact hP, hD⟩, hS.F ht⟩) hS.2.2 dX8_party_20

set_option maxHeartbeats 4000000 in
set_option maxRecDepth 100000 in
theorem q_X8_mediator (l : Launch) (dC : Nat → ClassId) (dI : Nat → Nat → Nat) (cy : Nat → ClassId) (sz : Nat) (ad : Nat → Nat) (v : Nat → Nat → Int32) (hv : Ir v) (x0 x1 : Int32) : Met l yX8_mediator wsX8_mediator ({ frames := 1, cells := 0, slots := 0, locals := 64 }) (va_Pc [.ref (ad 0), .int x0, .int x1] (ex_Pre dC dI cy sz (wm ad cy v))) (va_Qi (fun (r : Int32) (u : Nat → Nat → Int32) => Ir u ∧ ((¬ ((0 ≤ x0.toInt ∧ x0.toInt ≤ 9) ∧ 1 ≤ x1.toInt ∧ x1.toInt ≤ 7) ∧ r = -1 ∧ u = v) ∨ (((0 ≤ x0.toInt ∧ x0.toInt ≤ 9) ∧ 1 ≤ x1.toInt ∧ x1.toInt ≤ 7) ∧ (v 1 1).toInt = 4 ∧ r = -2 ∧ u = v) ∨ (((0 ≤ x0.toInt ∧ x0.toInt ≤ 9) ∧ 1 ≤ x1.toInt ∧ x1.toInt ≤ 7) ∧ (v 1 1).toInt ≠ 4 ∧ r = v 1 1 ∧ u 1 1 = v 1 1 + 1 ∧ u 1 0 = v 1 0 ∧ u 2 = v 2 ∧ u 0 = v 0))) (fun u t => ex_Pst dC dI (va_A (wm ad cy v) sz) (wm ad cy u) t) (va_A (wm ad cy v) sz)) 0 0 (va_A (wm ad cy v) sz) := by
  refine Met.ofW (cc := cX8_mediator) (maxL := 4) (ret := (some .int)) (by decide) rfl ?_
  intro p e s m args below meth c s₁ B hml hv
  obtain ⟨rfl, hsz, hE, hP, hK, hD0⟩ := hv
  have hx := B.exec
  have hb := B.bytes
  have hr := B.returns
  have hts := atoms_spec (ws := wsX8_mediator) B.pre
  have hown : s.vm.findClass RX8 = some m.cls := findClass_of_methodNamed B.named
  have hlocks := B.notSynchronized
  subst hsz
  have hD := hD0.self (sz := s.heap.size)
  generalize hAe : va_A (wm ad cy v) s.heap.size = A at hD ⊢
  have hA : ∀ q : Nat, s.heap.size ≤ q → A q := fun q h => by rw [← hAe]; exact Or.inr h
  have hS : va_S A s.heap s.heap [] := va_S.rf
  have hP : va_P (dC, dI) vwCl (wm ad cy v) s.heap := hP
  have hl := lv_entry ([.ref (ad 0), .int x0, .int x1]) (n := 4) (Nat.le_of_ble_eq_true rfl)
  rw [lg_entry_eq]
  generalize (lg_sl ([.ref (ad 0), .int x0, .int x1]) ++ List.replicate (4 - (lg_sl ([.ref (ad 0), .int x0, .int x1])).length) Slot.unset).toArray = ls at hl ⊢
  have hl : lv_has ls 4 [(0, .ref (ad 0)), (1, .int x0), (2, .int x1)] := hl
  refine lv_iload_n hx hb dX8_mediator_0 rfl (lv_at hl 1 rfl) ?_
  refine lv_iconst (v := 0) hx hb dX8_mediator_1 (by decide) ?_
  refine lv_bipush (v := 9) hx hb dX8_mediator_2 (by decide) ?_
  refine yc_p hP hS (va_runS (As := [.int x0, .int 0, .int 9]) (rest := []) ⟨hx, hb, hml, hown, hts⟩ (c_X8_in l x0 0 9) (cwS 3 hts gX8_mediator_X8_in rfl rfl rfl hd_S_X8_in_3 ⟨Nat.le_of_ble_eq_true rfl, Nat.le_of_ble_eq_true rfl⟩) ex_preP rfl rfl hl.1 rfl (lv_room (Nat.le_of_ble_eq_true rfl)) dX8_mediator_4 ⟨Nat.le_of_ble_eq_true rfl, Nat.le_of_ble_eq_true rfl⟩) (fun r_1 H locs hw_1 hP hS => ?_)
  rcases wi_ca hw_1 with ⟨rfl, hc_2⟩ | ⟨rfl, hc_2⟩
  · have k_0 : (0 : Int32).toInt = 0 := by decide
    have k_9 : (9 : Int32).toInt = 9 := by decide
    have tc_2 := wi_tl hc_2
    refine lv_if_eq (tgt := 20) hx hb dX8_mediator_7 (by decide) (fun c9 => absurd c9 (by decide)) (fun _ => ?_)
    refine lv_iload_n hx hb dX8_mediator_10 rfl (lv_at hl 2 rfl) ?_
    refine lv_iconst (v := 1) hx hb dX8_mediator_11 (by decide) ?_
    refine lv_bipush (v := 7) hx hb dX8_mediator_12 (by decide) ?_
    refine yc_p hP hS (va_runS (As := [.int x1, .int 1, .int 7]) (rest := []) ⟨hx, hb, hml, hown, hts⟩ (c_X8_in l x1 1 7) (cwS 3 hts gX8_mediator_X8_in rfl rfl rfl hd_S_X8_in_3 ⟨Nat.le_of_ble_eq_true rfl, Nat.le_of_ble_eq_true rfl⟩) ex_preP rfl rfl hl.1 rfl (lv_room (Nat.le_of_ble_eq_true rfl)) dX8_mediator_14 ⟨Nat.le_of_ble_eq_true rfl, Nat.le_of_ble_eq_true rfl⟩) (fun r_3 H locs hw_3 hP hS => ?_)
    rcases wi_ca hw_3 with ⟨rfl, hc_4⟩ | ⟨rfl, hc_4⟩
    · have k_1 : (1 : Int32).toInt = 1 := by decide
      have k_7 : (7 : Int32).toInt = 7 := by decide
      have tc_4 := wi_tl hc_4
      refine lv_if_ne (tgt := 22) hx hb dX8_mediator_17 (by decide) (fun _ => ?_) (fun c9 => absurd c9 (by decide))
      refine lv_aload_n hx hb dX8_mediator_22 rfl (lv_at hl 0 rfl) ?_
      refine va_get (D := (dC, dI)) (ci := 8) (v := .ref (ad 1)) (C := RX8) (T := TX8) (N := 11) hx hb hts iwX8_mediator_X8 hown hK hP (0) (wm_at (by decide) rc_0) rfl 0 (by decide) (hts (.fieldLink RX8 7 "QuietStairsModel" "s" "[I") fwX8_mediator_1) (fun _ h9 => h9) rfl dX8_mediator_23 ?_
      refine lv_iconst (v := 1) hx hb dX8_mediator_26 (by decide) ?_
      refine va_iald hx hb hK hP (1) 0 (wm_at (by decide) rc_1) rfl (by unfold vp_in; decide) dX8_mediator_27 ?_
      refine lv_topi (fun x_5 ex_5 => ?_)
      have ex_5 : x_5 = v 1 1 := ex_5
      have bzx_5 : 0 ≤ x_5.toInt ∧ x_5.toInt ≤ 4 := by rw [ex_5]; exact hv 1 _ 4 (show bS 1 = some 4 from by decide)
      have ecnt : x_5 = v 1 1 := ex_5
      refine lv_iconst (v := 4) hx hb dX8_mediator_28 (by decide) ?_
      have k_4 : (4 : Int32).toInt = 4 := by decide
      refine lv_icmp_ne (tgt := 35) hx hb dX8_mediator_29 (by decide) (fun c_6 => ?_) (fun c_6 => ?_)
      · have tc_6 : x_5.toInt ≠ (4 : Int32).toInt := fun q => absurd (Int32.toInt_inj.mp q) c_6
        refine lv_aload_n hx hb dX8_mediator_35 rfl (lv_at hl 0 rfl) ?_
        refine va_get (D := (dC, dI)) (ci := 8) (v := .ref (ad 1)) (C := RX8) (T := TX8) (N := 11) hx hb hts iwX8_mediator_X8 hown hK hP (0) (wm_at (by decide) rc_0) rfl 0 (by decide) (hts (.fieldLink RX8 7 "QuietStairsModel" "s" "[I") fwX8_mediator_1) (fun _ h9 => h9) rfl dX8_mediator_36 ?_
        refine lv_iconst (v := 1) hx hb dX8_mediator_39 (by decide) ?_
        refine va_iald hx hb hK hP (1) 0 (wm_at (by decide) rc_1) rfl (by unfold vp_in; decide) dX8_mediator_40 ?_
        refine lv_topi (fun x_7 ex_7 => ?_)
        have ex_7 : x_7 = v 1 1 := ex_7
        obtain rfl : x_5 = x_7 := (ex_7.trans ex_5.symm).symm
        refine lv_istore_n (lv' := [(3, .int x_5), (0, .ref (ad 0)), (1, .int x0), (2, .int x1)]) hx hb dX8_mediator_41 rfl hl (by decide) rfl (fun ls hl => ?_)
        refine lv_aload_n hx hb dX8_mediator_42 rfl (lv_at hl 1 rfl) ?_
        refine va_get (D := (dC, dI)) (ci := 8) (v := .ref (ad 1)) (C := RX8) (T := TX8) (N := 11) hx hb hts iwX8_mediator_X8 hown hK hP (0) (wm_at (by decide) rc_0) rfl 0 (by decide) (hts (.fieldLink RX8 7 "QuietStairsModel" "s" "[I") fwX8_mediator_1) (fun _ h9 => h9) rfl dX8_mediator_43 ?_
        refine lv_bipush (v := 20) hx hb dX8_mediator_46 (by decide) ?_
        refine lv_iconst (v := 2) hx hb dX8_mediator_48 (by decide) ?_
        refine lv_iload_n hx hb dX8_mediator_49 rfl (lv_at hl 0 rfl) ?_
        refine lv_imul hx hb dX8_mediator_50 ?_
        refine lv_topi (fun x_8 ex_8 => ?_)
        have k_2 : (2 : Int32).toInt = 2 := by decide
        have tx_8 : x_8.toInt = 2 * x_5.toInt := by rw [ex_8, t_mul (by rw [k_2]; omega), k_2]
        refine lv_iadd hx hb dX8_mediator_51 ?_
        refine lv_topi (fun x_9 ex_9 => ?_)
        have k_20 : (20 : Int32).toInt = 20 := by decide
        have tx_9 : x_9.toInt = (20 : Int32).toInt + x_8.toInt := by rw [ex_9]; exact t_add ⟨by omega, by omega⟩
        refine lv_iload_n hx hb dX8_mediator_52 rfl (lv_at hl 2 rfl) ?_
        refine va_iast hx hb hK hP hD hS (1) 0 (wm_at (by decide) rc_1) rfl (vp_in_iff.mpr ⟨by omega, by omega⟩) dX8_mediator_53 (fun H locs hP hD hS => ?_)
        obtain ⟨v_10, ev_10⟩ : ∃ u : Nat → Nat → Int32, u = upr v 1 (upd (v 1) (x_9.toNatClampNeg) x0) := ⟨_, rfl⟩
        have hP : va_P (dC, dI) vwCl (wm ad cy v_10) H := by rw [ev_10, ← wm_put (e := _) rc_1]; exact hP
        have hD : va_D A (wm ad cy v_10) := by rw [ev_10, ← wm_put (e := _) rc_1]; exact hD
        have hv : Ir v_10 := by rw [ev_10]; exact hv.put (k := 1) (fun h q => by rw [show br 1 _ = _ from (bx_n (by omega))] at q; cases q)
        refine lv_aload_n hx hb dX8_mediator_54 rfl (lv_at hl 1 rfl) ?_
        refine va_get (D := (dC, dI)) (ci := 8) (v := .ref (ad 1)) (C := RX8) (T := TX8) (N := 11) hx hb hts iwX8_mediator_X8 hown hK hP (0) (wm_at (by decide) rc_0) rfl 0 (by decide) (hts (.fieldLink RX8 7 "QuietStairsModel" "s" "[I") fwX8_mediator_1) (fun _ h9 => h9) rfl dX8_mediator_55 ?_
        refine lv_bipush (v := 20) hx hb dX8_mediator_58 (by decide) ?_
        refine lv_iconst (v := 2) hx hb dX8_mediator_60 (by decide) ?_
        refine lv_iload_n hx hb dX8_mediator_61 rfl (lv_at hl 0 rfl) ?_
        refine lv_imul hx hb dX8_mediator_62 ?_
        refine lv_topi (fun x_11 ex_11 => ?_)
        obtain rfl : x_8 = x_11 := ex_8.trans ex_11.symm
        refine lv_iadd hx hb dX8_mediator_63 ?_
        refine lv_topi (fun x_12 ex_12 => ?_)
        obtain rfl : x_9 = x_12 := ex_9.trans ex_12.symm
        refine lv_iconst (v := 1) hx hb dX8_mediator_64 (by decide) ?_
        refine lv_iadd hx hb dX8_mediator_65 ?_
        refine lv_topi (fun x_13 ex_13 => ?_)
        have tx_13 : x_13.toInt = x_9.toInt + (1 : Int32).toInt := by rw [ex_13]; exact t_add ⟨by omega, by omega⟩
        refine lv_iload_n hx hb dX8_mediator_66 rfl (lv_at hl 3 rfl) ?_
        refine va_iast hx hb hK hP hD hS (1) 0 (wm_at (by decide) rc_1) rfl (vp_in_iff.mpr ⟨by omega, by omega⟩) dX8_mediator_67 (fun H locs hP hD hS => ?_)
        obtain ⟨v_14, ev_14⟩ : ∃ u : Nat → Nat → Int32, u = upr v_10 1 (upd (v_10 1) (x_13.toNatClampNeg) x1) := ⟨_, rfl⟩
        have hP : va_P (dC, dI) vwCl (wm ad cy v_14) H := by rw [ev_14, ← wm_put (e := _) rc_1]; exact hP
        have hD : va_D A (wm ad cy v_14) := by rw [ev_14, ← wm_put (e := _) rc_1]; exact hD
        have hv : Ir v_14 := by rw [ev_14]; exact hv.put (k := 1) (fun h q => by rw [show br 1 _ = _ from (bx_n (by omega))] at q; cases q)
        refine lv_aload_n hx hb dX8_mediator_68 rfl (lv_at hl 1 rfl) ?_
        refine va_get (D := (dC, dI)) (ci := 8) (v := .ref (ad 1)) (C := RX8) (T := TX8) (N := 11) hx hb hts iwX8_mediator_X8 hown hK hP (0) (wm_at (by decide) rc_0) rfl 0 (by decide) (hts (.fieldLink RX8 7 "QuietStairsModel" "s" "[I") fwX8_mediator_1) (fun _ h9 => h9) rfl dX8_mediator_69 ?_
        refine lv_bipush (v := 28) hx hb dX8_mediator_72 (by decide) ?_
        refine lv_iload_n hx hb dX8_mediator_74 rfl (lv_at hl 0 rfl) ?_
        refine lv_iadd hx hb dX8_mediator_75 ?_
        refine lv_topi (fun x_15 ex_15 => ?_)
        have k_28 : (28 : Int32).toInt = 28 := by decide
        have tx_15 : x_15.toInt = (28 : Int32).toInt + x_5.toInt := by rw [ex_15]; exact t_add ⟨by omega, by omega⟩
        refine lv_iconst (v := 0) hx hb dX8_mediator_76 (by decide) ?_
        refine va_iast hx hb hK hP hD hS (1) 0 (wm_at (by decide) rc_1) rfl (vp_in_iff.mpr ⟨by omega, by omega⟩) dX8_mediator_77 (fun H locs hP hD hS => ?_)
        obtain ⟨v_16, ev_16⟩ : ∃ u : Nat → Nat → Int32, u = upr v_14 1 (upd (v_14 1) (x_15.toNatClampNeg) 0) := ⟨_, rfl⟩
        have hP : va_P (dC, dI) vwCl (wm ad cy v_16) H := by rw [ev_16, ← wm_put (e := _) rc_1]; exact hP
        have hD : va_D A (wm ad cy v_16) := by rw [ev_16, ← wm_put (e := _) rc_1]; exact hD
        have hv : Ir v_16 := by rw [ev_16]; exact hv.put (k := 1) (fun h q => by rw [show br 1 _ = _ from (bx_n (by omega))] at q; cases q)
        refine lv_aload_n hx hb dX8_mediator_78 rfl (lv_at hl 1 rfl) ?_
        refine va_get (D := (dC, dI)) (ci := 8) (v := .ref (ad 1)) (C := RX8) (T := TX8) (N := 11) hx hb hts iwX8_mediator_X8 hown hK hP (0) (wm_at (by decide) rc_0) rfl 0 (by decide) (hts (.fieldLink RX8 7 "QuietStairsModel" "s" "[I") fwX8_mediator_1) (fun _ h9 => h9) rfl dX8_mediator_79 ?_
        refine lv_iconst (v := 1) hx hb dX8_mediator_82 (by decide) ?_
        refine lv_dup2_11 hx hb dX8_mediator_83 rfl rfl ?_
        refine va_iald hx hb hK hP (1) 0 (wm_at (by decide) rc_1) rfl (by unfold vp_in; decide) dX8_mediator_84 ?_
        refine lv_topi (fun x_17 ex_17 => ?_)
        have ex_17 : x_17 = v_16 1 1 := ex_17
        rw [ev_16, upr_s, pk_un (by have := t_nn (x := x_15) (by omega); omega), ev_14, upr_s, pk_un (by have := t_nn (x := x_13) (by omega); omega), ev_10, upr_s, pk_un (by have := t_nn (x := x_9) (by omega); omega)] at ex_17
        obtain rfl : x_5 = x_17 := (ex_17.trans ex_5.symm).symm
        refine lv_iconst (v := 1) hx hb dX8_mediator_85 (by decide) ?_
        refine lv_iadd hx hb dX8_mediator_86 ?_
        refine lv_topi (fun x_18 ex_18 => ?_)
        have tx_18 : x_18.toInt = x_5.toInt + (1 : Int32).toInt := by rw [ex_18]; exact t_add ⟨by omega, by omega⟩
        refine va_iast hx hb hK hP hD hS (1) 0 (wm_at (by decide) rc_1) rfl (by unfold vp_in; decide) dX8_mediator_87 (fun H locs hP hD hS => ?_)
        obtain ⟨v_19, ev_19⟩ : ∃ u : Nat → Nat → Int32, u = upr v_16 1 (upd (v_16 1) 1 x_18) := ⟨_, rfl⟩
        have hP : va_P (dC, dI) vwCl (wm ad cy v_19) H := by rw [ev_19, ← wm_put (e := _) rc_1]; exact hP
        have hD : va_D A (wm ad cy v_19) := by rw [ev_19, ← wm_put (e := _) rc_1]; exact hD
        have hv : Ir v_19 := by rw [ev_19]; exact hv.put (k := 1) (fun h q => by rw [show br 1 _ = _ from (show bS 1 = some 4 from by decide)] at q; cases q; exact ⟨by omega, by omega⟩)
        refine lv_iload_n hx hb dX8_mediator_88 rfl (lv_at hl 0 rfl) ?_
        exact W.iret (v := x_5) hx hb hr (fun t ht hW => ⟨⟨x_5, v_19, rfl, ⟨hv, Or.inr (Or.inr ⟨⟨⟨by omega, by omega⟩, by omega, by omega⟩, by rw [← ecnt]; omega, ecnt, by rw [ev_19, upr_s, pk_us, ex_18, ecnt], by rw [ev_19, upr_s, pk_un (by decide), ev_16, upr_s, pk_un (by have := t_nn (x := x_15) (by omega); omega), ev_14, upr_s, pk_un (by have := t_nn (x := x_13) (by omega); omega), ev_10, upr_s, pk_un (by have := t_nn (x := x_9) (by omega); omega)], by rw [ev_19, upr_n (by decide), ev_16, upr_n (by decide), ev_14, upr_n (by decide), ev_10, upr_n (by decide)], by rw [ev_19, upr_n (by decide), ev_16, upr_n (by decide), ev_14, upr_n (by decide), ev_10, upr_n (by decide)]⟩)⟩, by rw [ht]; exact hP, hD⟩, hS.F ht⟩) hS.2.2 dX8_mediator_89
      · have tc_6 : x_5.toInt = (4 : Int32).toInt := by rw [c_6]
        refine lv_bipush (v := (-2)) hx hb dX8_mediator_32 (by decide) ?_
        exact W.iret (v := (-2)) hx hb hr (fun t ht hW => ⟨⟨(-2), v, rfl, ⟨hv, Or.inr (Or.inl ⟨⟨⟨by omega, by omega⟩, by omega, by omega⟩, by rw [← ecnt]; omega, rfl, rfl⟩)⟩, by rw [ht]; exact hP, hD⟩, hS.F ht⟩) hS.2.2 dX8_mediator_34
    · have k_1 : (1 : Int32).toInt = 1 := by decide
      have k_7 : (7 : Int32).toInt = 7 := by decide
      have tc_4 : ¬ ((1 : Int32).toInt ≤ x1.toInt ∧ x1.toInt ≤ (7 : Int32).toInt) := fun q => hc_4 ⟨Int32.le_iff_toInt_le.mpr q.1, Int32.le_iff_toInt_le.mpr q.2⟩
      refine lv_if_ne (tgt := 22) hx hb dX8_mediator_17 (by decide) (fun c9 => absurd c9 (by decide)) (fun _ => ?_)
      refine lv_iconst (v := (-1)) hx hb dX8_mediator_20 (by decide) ?_
      exact W.iret (v := (-1)) hx hb hr (fun t ht hW => ⟨⟨(-1), v, rfl, ⟨hv, Or.inl ⟨by omega, rfl, rfl⟩⟩, by rw [ht]; exact hP, hD⟩, hS.F ht⟩) hS.2.2 dX8_mediator_21
  · have k_0 : (0 : Int32).toInt = 0 := by decide
    have k_9 : (9 : Int32).toInt = 9 := by decide
    have tc_2 : ¬ ((0 : Int32).toInt ≤ x0.toInt ∧ x0.toInt ≤ (9 : Int32).toInt) := fun q => hc_2 ⟨Int32.le_iff_toInt_le.mpr q.1, Int32.le_iff_toInt_le.mpr q.2⟩
    refine lv_if_eq (tgt := 20) hx hb dX8_mediator_7 (by decide) (fun _ => ?_) (fun c9 => absurd c9 (by decide))
    refine lv_iconst (v := (-1)) hx hb dX8_mediator_20 (by decide) ?_
    exact W.iret (v := (-1)) hx hb hr (fun t ht hW => ⟨⟨(-1), v, rfl, ⟨hv, Or.inl ⟨by omega, rfl, rfl⟩⟩, by rw [ht]; exact hP, hD⟩, hS.F ht⟩) hS.2.2 dX8_mediator_21

set_option maxHeartbeats 4000000 in
set_option maxRecDepth 100000 in
theorem q_X8_rooms (l : Launch) (dC : Nat → ClassId) (dI : Nat → Nat → Nat) (cy : Nat → ClassId) (sz : Nat) (ad : Nat → Nat) (v : Nat → Nat → Int32) (hv : Ir v) (x0 : Int32) : Met l yX8_rooms wsX8_rooms ({ frames := 1, cells := 0, slots := 0, locals := 64 }) (va_Pc [.ref (ad 0), .int x0] (ex_Pre dC dI cy sz (wm ad cy v))) (va_Qi (fun (r : Int32) (u : Nat → Nat → Int32) => Ir u ∧ ((¬ (1 ≤ x0.toInt ∧ x0.toInt ≤ 2) ∧ r = -1 ∧ u = v) ∨ ((1 ≤ x0.toInt ∧ x0.toInt ≤ 2) ∧ r = v 0 3 ∧ u 0 3 = x0 ∧ u 1 = v 1 ∧ u 2 = v 2 ∧ u 0 2 = v 0 2))) (fun u t => ex_Pst dC dI (va_A (wm ad cy v) sz) (wm ad cy u) t) (va_A (wm ad cy v) sz)) 0 0 (va_A (wm ad cy v) sz) := by
  refine Met.ofW (cc := cX8_rooms) (maxL := 3) (ret := (some .int)) (by decide) rfl ?_
  intro p e s m args below meth c s₁ B hml hv
  obtain ⟨rfl, hsz, hE, hP, hK, hD0⟩ := hv
  have hx := B.exec
  have hb := B.bytes
  have hr := B.returns
  have hts := atoms_spec (ws := wsX8_rooms) B.pre
  have hown : s.vm.findClass RX8 = some m.cls := findClass_of_methodNamed B.named
  have hlocks := B.notSynchronized
  subst hsz
  have hD := hD0.self (sz := s.heap.size)
  generalize hAe : va_A (wm ad cy v) s.heap.size = A at hD ⊢
  have hA : ∀ q : Nat, s.heap.size ≤ q → A q := fun q h => by rw [← hAe]; exact Or.inr h
  have hS : va_S A s.heap s.heap [] := va_S.rf
  have hP : va_P (dC, dI) vwCl (wm ad cy v) s.heap := hP
  have hl := lv_entry ([.ref (ad 0), .int x0]) (n := 3) (Nat.le_of_ble_eq_true rfl)
  rw [lg_entry_eq]
  generalize (lg_sl ([.ref (ad 0), .int x0]) ++ List.replicate (3 - (lg_sl ([.ref (ad 0), .int x0])).length) Slot.unset).toArray = ls at hl ⊢
  have hl : lv_has ls 3 [(0, .ref (ad 0)), (1, .int x0)] := hl
  refine lv_iload_n hx hb dX8_rooms_0 rfl (lv_at hl 1 rfl) ?_
  refine lv_iconst (v := 1) hx hb dX8_rooms_1 (by decide) ?_
  refine lv_iconst (v := 2) hx hb dX8_rooms_2 (by decide) ?_
  refine yc_p hP hS (va_runS (As := [.int x0, .int 1, .int 2]) (rest := []) ⟨hx, hb, hml, hown, hts⟩ (c_X8_in l x0 1 2) (cwS 3 hts gX8_rooms_X8_in rfl rfl rfl hd_S_X8_in_3 ⟨Nat.le_of_ble_eq_true rfl, Nat.le_of_ble_eq_true rfl⟩) ex_preP rfl rfl hl.1 rfl (lv_room (Nat.le_of_ble_eq_true rfl)) dX8_rooms_3 ⟨Nat.le_of_ble_eq_true rfl, Nat.le_of_ble_eq_true rfl⟩) (fun r_1 H locs hw_1 hP hS => ?_)
  rcases wi_ca hw_1 with ⟨rfl, hc_2⟩ | ⟨rfl, hc_2⟩
  · have k_1 : (1 : Int32).toInt = 1 := by decide
    have k_2 : (2 : Int32).toInt = 2 := by decide
    have tc_2 := wi_tl hc_2
    refine lv_if_ne (tgt := 11) hx hb dX8_rooms_6 (by decide) (fun _ => ?_) (fun c9 => absurd c9 (by decide))
    refine lv_aload_n hx hb dX8_rooms_11 rfl (lv_at hl 0 rfl) ?_
    refine va_get (D := (dC, dI)) (ci := 8) (v := .int (v 0 3)) (C := RX8) (T := TX8) (N := 11) hx hb hts iwX8_rooms_X8 hown hK hP (0) (wm_at (by decide) rc_0) rfl 3 (by decide) (hts (.fieldLink RX8 16 "QuietStairsModel" "rooms" "I") fwX8_rooms_1) (fun _ h9 => h9) rfl dX8_rooms_12 ?_
    refine lv_topi (fun x_3 ex_3 => ?_)
    refine lv_istore_n (lv' := [(2, .int x_3), (0, .ref (ad 0)), (1, .int x0)]) hx hb dX8_rooms_15 rfl hl (by decide) rfl (fun ls hl => ?_)
    refine lv_aload_n hx hb dX8_rooms_16 rfl (lv_at hl 1 rfl) ?_
    refine lv_iload_n hx hb dX8_rooms_17 rfl (lv_at hl 2 rfl) ?_
    refine va_put (D := (dC, dI)) (ci := 8) (v := .int x0) (ty := .int) (C := RX8) (T := TX8) (N := 11) hx hb hts iwX8_rooms_X8 tyX8 tyX8_ok nmX8 hown hK hP hD hS (0) (wm_at (by decide) rc_0) rfl 3 (by decide) (hts (.fieldLink RX8 16 "QuietStairsModel" "rooms" "I") fwX8_rooms_1) (fun _ h9 => h9) rfl (by decide +kernel) rfl rfl (Nat.le_of_ble_eq_true rfl) dX8_rooms_18 (fun H locs hP hD hS => ?_)
    obtain ⟨v_4, ev_4⟩ : ∃ u : Nat → Nat → Int32, u = upr v 0 (upd (v 0) 3 x0) := ⟨_, rfl⟩
    have hP : va_P (dC, dI) vwCl (wm ad cy v_4) H := by rw [ev_4, ← wm_put (e := _) rc_0]; exact hP
    have hD : va_D A (wm ad cy v_4) := by rw [ev_4, ← wm_put (e := _) rc_0]; exact hD
    have hv : Ir v_4 := by rw [ev_4]; exact hv.put (k := 0) (fun h q => by rw [show br 0 3 = none from by decide] at q; cases q)
    refine lv_iload_n hx hb dX8_rooms_21 rfl (lv_at hl 0 rfl) ?_
    exact W.iret (v := x_3) hx hb hr (fun t ht hW => ⟨⟨x_3, v_4, rfl, ⟨hv, Or.inr ⟨⟨by omega, by omega⟩, ex_3, by rw [ev_4, upr_s, pk_us], by rw [ev_4, upr_n (by decide)], by rw [ev_4, upr_n (by decide)], by rw [ev_4, upr_s, pk_un (by decide)]⟩⟩, by rw [ht]; exact hP, hD⟩, hS.F ht⟩) hS.2.2 dX8_rooms_22
  · have k_1 : (1 : Int32).toInt = 1 := by decide
    have k_2 : (2 : Int32).toInt = 2 := by decide
    have tc_2 : ¬ ((1 : Int32).toInt ≤ x0.toInt ∧ x0.toInt ≤ (2 : Int32).toInt) := fun q => hc_2 ⟨Int32.le_iff_toInt_le.mpr q.1, Int32.le_iff_toInt_le.mpr q.2⟩
    refine lv_if_ne (tgt := 11) hx hb dX8_rooms_6 (by decide) (fun c9 => absurd c9 (by decide)) (fun _ => ?_)
    refine lv_iconst (v := (-1)) hx hb dX8_rooms_9 (by decide) ?_
    exact W.iret (v := (-1)) hx hb hr (fun t ht hW => ⟨⟨(-1), v, rfl, ⟨hv, Or.inl ⟨by omega, rfl, rfl⟩⟩, by rw [ht]; exact hP, hD⟩, hS.F ht⟩) hS.2.2 dX8_rooms_10

/-- one more place is copied -/
theorem cp_s {v u w : Nat → Nat → Int32} {a b : Nat} {i i' x : Int32} (e : w = upr u b (upd (u b) i.toNatClampNeg x)) (ex : x = u a i.toNatClampNeg) (h : ∀ j : Nat, (j : Int) < i.toInt → u b j = v a j) (hi : i'.toInt = i.toInt + 1) (hb : 0 ≤ i.toInt) (hs : u a = v a) : ∀ j : Nat, (j : Int) < i'.toInt → w b j = v a j := by
  intro j hj
  have q := t_nn hb
  rw [e, upr_s]
  by_cases hji : j = i.toNatClampNeg
  · subst hji
    rw [pk_us, ex, hs]
  · rw [pk_un hji]
    exact h j (by omega)

set_option maxHeartbeats 4000000 in
set_option maxRecDepth 100000 in
theorem q_X8_keep (l : Launch) (dC : Nat → ClassId) (dI : Nat → Nat → Nat) (cy : Nat → ClassId) (sz : Nat) (ad : Nat → Nat) (v : Nat → Nat → Int32) (hv : Ir v)  : Met l yX8_keep wsX8_keep ({ frames := 0, cells := 0, slots := 0, locals := 0 }) (va_Pc [.ref (ad 0)] (ex_Pre dC dI cy sz (wm ad cy v))) (va_Qi (fun (r : Int32) (u : Nat → Nat → Int32) => Ir u ∧ (∀ j : Nat, j < 596 → u 2 j = v 1 j) ∧ u 1 = v 1 ∧ u 0 2 = 1 ∧ u 0 3 = v 0 3 ∧ r = 1) (fun u t => ex_Pst dC dI (va_A (wm ad cy v) sz) (wm ad cy u) t) (va_A (wm ad cy v) sz)) 0 0 (va_A (wm ad cy v) sz) := by
  refine Met.ofW (cc := cX8_keep) (maxL := 2) (ret := (some .int)) (by decide) rfl ?_
  intro p e s m args below meth c s₁ B hml hv
  obtain ⟨rfl, hsz, hE, hP, hK, hD0⟩ := hv
  have hx := B.exec
  have hb := B.bytes
  have hr := B.returns
  have hts := atoms_spec (ws := wsX8_keep) B.pre
  have hown : s.vm.findClass RX8 = some m.cls := findClass_of_methodNamed B.named
  have hlocks := B.notSynchronized
  subst hsz
  have hD := hD0.self (sz := s.heap.size)
  generalize hAe : va_A (wm ad cy v) s.heap.size = A at hD ⊢
  have hA : ∀ q : Nat, s.heap.size ≤ q → A q := fun q h => by rw [← hAe]; exact Or.inr h
  have hS : va_S A s.heap s.heap [] := va_S.rf
  have hP : va_P (dC, dI) vwCl (wm ad cy v) s.heap := hP
  have hl := lv_entry ([.ref (ad 0)]) (n := 2) (Nat.le_of_ble_eq_true rfl)
  rw [lg_entry_eq]
  generalize (lg_sl ([.ref (ad 0)]) ++ List.replicate (2 - (lg_sl ([.ref (ad 0)])).length) Slot.unset).toArray = ls at hl ⊢
  have hl : lv_has ls 2 [(0, .ref (ad 0))] := hl
  refine lv_iconst (v := 0) hx hb dX8_keep_0 (by decide) ?_
  refine lv_istore_n (lv' := [(1, .int 0), (0, .ref (ad 0))]) hx hb dX8_keep_1 rfl hl (by decide) rfl (fun ls hl => ?_)
  have hc_1 : ∀ (n : Nat) (y1_1 : Int32) (u1 : Nat → Nat → Int32) (H : Heap) (locs : List Loc), 0 ≤ y1_1.toInt → y1_1.toInt ≤ 596 → (∀ j : Nat, (j : Int) < y1_1.toInt → u1 2 j = v 1 j) → (u1 1 = v 1) → (u1 0 = v 0) → (596 - y1_1.toInt).toNat < n → Ir u1 → va_P (dC, dI) vwCl (wm ad cy u1) H → va_D A (wm ad cy u1) → va_S A s.heap H locs → ∀ ls : Array Slot, lv_has ls 2 [(1, .int y1_1), (0, .ref (ad 0))] → W p l e (headSpec wsX8_keep ({ frames := 0, cells := 0, slots := 0, locals := 0 })).room s m [Value.ref (ad 0)].toArray below meth c H locs 0 0 (MQ below (va_Qi (fun (r : Int32) (u : Nat → Nat → Int32) => Ir u ∧ (∀ j : Nat, j < 596 → u 2 j = v 1 j) ∧ u 1 = v 1 ∧ u 0 2 = 1 ∧ u 0 3 = v 0 3 ∧ r = 1) (fun u t => ex_Pst dC dI A (wm ad cy u) t) A) [Value.ref (ad 0)].toArray s 0 0 A) (F0 m 2 ls []) := by
    intro n
    induction n with
    | zero =>
      intro y1_1 u1 H locs ay1_1 by1_1 hi1_0 hi1_1 hi1_2 hm_1 hv hP hD hS ls hl
      exact absurd hm_1 (by omega)
    | succ n ih_1 =>
      intro y1_1 u1 H locs ay1_1 by1_1 hi1_0 hi1_1 hi1_2 hm_1 hv hP hD hS ls hl
      refine lv_iload_n hx hb dX8_keep_2 rfl (lv_at hl 0 rfl) ?_
      refine lv_sipush (v := 596) hx hb dX8_keep_3 (by decide) ?_
      have k_596 : (596 : Int32).toInt = 596 := by decide
      refine lv_icmp_ge (tgt := 27) hx hb dX8_keep_6 (by decide) (fun c_2 => ?_) (fun c_2 => ?_)
      · have tc_2 : y1_1.toInt ≥ (596 : Int32).toInt := Int32.le_iff_toInt_le.mp c_2
        refine lv_aload_n hx hb dX8_keep_27 rfl (lv_at hl 1 rfl) ?_
        refine lv_iconst (v := 1) hx hb dX8_keep_28 (by decide) ?_
        refine va_put (D := (dC, dI)) (ci := 8) (v := .int 1) (ty := .boolean) (C := RX8) (T := TX8) (N := 11) hx hb hts iwX8_keep_X8 tyX8 tyX8_ok nmX8 hown hK hP hD hS (0) (wm_at (by decide) rc_0) rfl 2 (by decide) (hts (.fieldLink RX8 134 "QuietStairsModel" "isKept" "Z") fwX8_keep_3) (fun _ h9 => h9) rfl (by decide +kernel) rfl rfl (Nat.le_of_ble_eq_true rfl) dX8_keep_29 (fun H locs hP hD hS => ?_)
        have k_1 : (1 : Int32).toInt = 1 := by decide
        obtain ⟨v_3, ev_3⟩ : ∃ u : Nat → Nat → Int32, u = upr u1 0 (upd (u1 0) 2 1) := ⟨_, rfl⟩
        have hP : va_P (dC, dI) vwCl (wm ad cy v_3) H := by rw [ev_3, ← wm_put (e := _) rc_0]; exact hP
        have hD : va_D A (wm ad cy v_3) := by rw [ev_3, ← wm_put (e := _) rc_0]; exact hD
        have hv : Ir v_3 := by rw [ev_3]; exact hv.put (k := 0) (fun h q => by rw [show br 0 2 = some 1 from by decide] at q; cases q; exact ⟨by omega, by omega⟩)
        refine lv_iconst (v := 1) hx hb dX8_keep_32 (by decide) ?_
        exact W.iret (v := 1) hx hb hr (fun t ht hW => ⟨⟨1, v_3, rfl, ⟨hv, fun j hj => by rw [ev_3, upr_n (by decide)]; exact hi1_0 j (by omega), by rw [ev_3, upr_n (by decide)]; exact hi1_1, by rw [ev_3, upr_s, pk_us], by rw [ev_3, upr_s, pk_un (by decide)]; exact congrFun hi1_2 3, rfl⟩, by rw [ht]; exact hP, hD⟩, hS.F ht⟩) hS.2.2 dX8_keep_33
      · have tc_2 : y1_1.toInt < (596 : Int32).toInt := Int32.lt_iff_toInt_lt.mp (Int32.not_le.mp c_2)
        refine lv_aload_n hx hb dX8_keep_9 rfl (lv_at hl 1 rfl) ?_
        refine va_get (D := (dC, dI)) (ci := 8) (v := .ref (ad 2)) (C := RX8) (T := TX8) (N := 11) hx hb hts iwX8_keep_X8 hown hK hP (0) (wm_at (by decide) rc_0) rfl 1 (by decide) (hts (.fieldLink RX8 13 "QuietStairsModel" "kept" "[I") fwX8_keep_1) (fun _ h9 => h9) rfl dX8_keep_10 ?_
        refine lv_iload_n hx hb dX8_keep_13 rfl (lv_at hl 0 rfl) ?_
        refine lv_aload_n hx hb dX8_keep_14 rfl (lv_at hl 1 rfl) ?_
        refine va_get (D := (dC, dI)) (ci := 8) (v := .ref (ad 1)) (C := RX8) (T := TX8) (N := 11) hx hb hts iwX8_keep_X8 hown hK hP (0) (wm_at (by decide) rc_0) rfl 0 (by decide) (hts (.fieldLink RX8 7 "QuietStairsModel" "s" "[I") fwX8_keep_2) (fun _ h9 => h9) rfl dX8_keep_15 ?_
        refine lv_iload_n hx hb dX8_keep_18 rfl (lv_at hl 0 rfl) ?_
        refine va_iald hx hb hK hP (1) 0 (wm_at (by decide) rc_1) rfl (vp_in_iff.mpr ⟨by omega, by omega⟩) dX8_keep_19 ?_
        refine lv_topi (fun x_3 ex_3 => ?_)
        refine va_iast hx hb hK hP hD hS (2) 0 (wm_at (by decide) rc_2) rfl (vp_in_iff.mpr ⟨by omega, by omega⟩) dX8_keep_20 (fun H locs hP hD hS => ?_)
        obtain ⟨v_4, ev_4⟩ : ∃ u : Nat → Nat → Int32, u = upr u1 2 (upd (u1 2) (y1_1.toNatClampNeg) x_3) := ⟨_, rfl⟩
        have hP : va_P (dC, dI) vwCl (wm ad cy v_4) H := by rw [ev_4, ← wm_put (e := _) rc_2]; exact hP
        have hD : va_D A (wm ad cy v_4) := by rw [ev_4, ← wm_put (e := _) rc_2]; exact hD
        have hv : Ir v_4 := by rw [ev_4]; exact hv.put (k := 2) (fun h q => by rw [ex_3]; exact hv 1 _ h q)
        obtain ⟨x_5, ex_5⟩ : ∃ y : Int32, y = y1_1 + 1 := ⟨_, rfl⟩
        refine lv_iinc (v := x_5) (lv' := [(1, .int x_5), (0, .ref (ad 0))]) hx hb dX8_keep_21 hl (k := 0) rfl (by rw [ex_5]; rfl) (by decide) rfl (fun ls hl => ?_)
        have k_1 : (1 : Int32).toInt = 1 := by decide
        have tx_5 : x_5.toInt = y1_1.toInt + (1 : Int32).toInt := by rw [ex_5]; exact t_add ⟨by omega, by omega⟩
        refine lv_goto (tgt := 2) hx hb dX8_keep_24 (by decide) ?_
        exact ih_1 x_5 v_4 _ _ (by omega) (by omega) (cp_s ev_4 ex_3 hi1_0 (by rw [tx_5, k_1]) (by omega) hi1_1) (by rw [ev_4, upr_n (by decide)]; exact hi1_1) (by rw [ev_4, upr_n (by decide)]; exact hi1_2) (by omega) hv hP hD hS ls (lv_sub hl [0, 1] rfl)
  have k_0 : (0 : Int32).toInt = 0 := by decide
  exact hc_1 ((596 - (0 : Int32).toInt).toNat + 1) 0 v _ _ (by omega) (by omega) (fun j hj => absurd hj (by omega)) (rfl) (rfl) (by omega) hv hP hD hS ls (lv_sub hl [0, 1] rfl)

set_option maxHeartbeats 4000000 in
set_option maxRecDepth 100000 in
theorem q_X8_back (l : Launch) (dC : Nat → ClassId) (dI : Nat → Nat → Nat) (cy : Nat → ClassId) (sz : Nat) (ad : Nat → Nat) (v : Nat → Nat → Int32) (hv : Ir v)  : Met l yX8_back wsX8_back ({ frames := 0, cells := 0, slots := 0, locals := 0 }) (va_Pc [.ref (ad 0)] (ex_Pre dC dI cy sz (wm ad cy v))) (va_Qi (fun (r : Int32) (u : Nat → Nat → Int32) => Ir u ∧ (((v 0 2).toInt = 0 ∧ u = v ∧ r = -5) ∨ ((v 0 2).toInt = 1 ∧ (∀ j : Nat, j < 596 → u 1 j = v 2 j) ∧ u 2 = v 2 ∧ u 0 = v 0 ∧ r = 1))) (fun u t => ex_Pst dC dI (va_A (wm ad cy v) sz) (wm ad cy u) t) (va_A (wm ad cy v) sz)) 0 0 (va_A (wm ad cy v) sz) := by
  refine Met.ofW (cc := cX8_back) (maxL := 2) (ret := (some .int)) (by decide) rfl ?_
  intro p e s m args below meth c s₁ B hml hv
  obtain ⟨rfl, hsz, hE, hP, hK, hD0⟩ := hv
  have hx := B.exec
  have hb := B.bytes
  have hr := B.returns
  have hts := atoms_spec (ws := wsX8_back) B.pre
  have hown : s.vm.findClass RX8 = some m.cls := findClass_of_methodNamed B.named
  have hlocks := B.notSynchronized
  subst hsz
  have hD := hD0.self (sz := s.heap.size)
  generalize hAe : va_A (wm ad cy v) s.heap.size = A at hD ⊢
  have hA : ∀ q : Nat, s.heap.size ≤ q → A q := fun q h => by rw [← hAe]; exact Or.inr h
  have hS : va_S A s.heap s.heap [] := va_S.rf
  have hP : va_P (dC, dI) vwCl (wm ad cy v) s.heap := hP
  have hl := lv_entry ([.ref (ad 0)]) (n := 2) (Nat.le_of_ble_eq_true rfl)
  rw [lg_entry_eq]
  generalize (lg_sl ([.ref (ad 0)]) ++ List.replicate (2 - (lg_sl ([.ref (ad 0)])).length) Slot.unset).toArray = ls at hl ⊢
  have hl : lv_has ls 2 [(0, .ref (ad 0))] := hl
  refine lv_aload_n hx hb dX8_back_0 rfl (lv_at hl 0 rfl) ?_
  refine va_get (D := (dC, dI)) (ci := 8) (v := .int (v 0 2)) (C := RX8) (T := TX8) (N := 11) hx hb hts iwX8_back_X8 hown hK hP (0) (wm_at (by decide) rc_0) rfl 2 (by decide) (hts (.fieldLink RX8 134 "QuietStairsModel" "isKept" "Z") fwX8_back_1) (fun _ h9 => h9) rfl dX8_back_1 ?_
  refine lv_topi (fun x_1 ex_1 => ?_)
  have bzx_1 : 0 ≤ x_1.toInt ∧ x_1.toInt ≤ 1 := by rw [ex_1]; exact hv 0 2 1 (by decide)
  have k_0 : (0 : Int32).toInt = 0 := by decide
  refine lv_if_ne (tgt := 10) hx hb dX8_back_4 (by decide) (fun c_2 => ?_) (fun c_2 => ?_)
  · have tc_2 : x_1.toInt ≠ (0 : Int32).toInt := fun q => absurd (Int32.toInt_inj.mp q) c_2
    refine lv_iconst (v := 0) hx hb dX8_back_10 (by decide) ?_
    refine lv_istore_n (lv' := [(1, .int 0), (0, .ref (ad 0))]) hx hb dX8_back_11 rfl hl (by decide) rfl (fun ls hl => ?_)
    have hc_3 : ∀ (n : Nat) (y3_1 : Int32) (u3 : Nat → Nat → Int32) (H : Heap) (locs : List Loc), 0 ≤ y3_1.toInt → y3_1.toInt ≤ 596 → (∀ j : Nat, (j : Int) < y3_1.toInt → u3 1 j = v 2 j) → (u3 2 = v 2) → (u3 0 = v 0) → (596 - y3_1.toInt).toNat < n → Ir u3 → va_P (dC, dI) vwCl (wm ad cy u3) H → va_D A (wm ad cy u3) → va_S A s.heap H locs → ∀ ls : Array Slot, lv_has ls 2 [(1, .int y3_1), (0, .ref (ad 0))] → W p l e (headSpec wsX8_back ({ frames := 0, cells := 0, slots := 0, locals := 0 })).room s m [Value.ref (ad 0)].toArray below meth c H locs 0 0 (MQ below (va_Qi (fun (r : Int32) (u : Nat → Nat → Int32) => Ir u ∧ (((v 0 2).toInt = 0 ∧ u = v ∧ r = -5) ∨ ((v 0 2).toInt = 1 ∧ (∀ j : Nat, j < 596 → u 1 j = v 2 j) ∧ u 2 = v 2 ∧ u 0 = v 0 ∧ r = 1))) (fun u t => ex_Pst dC dI A (wm ad cy u) t) A) [Value.ref (ad 0)].toArray s 0 0 A) (F0 m 12 ls []) := by
      intro n
      induction n with
      | zero =>
        intro y3_1 u3 H locs ay3_1 by3_1 hi3_0 hi3_1 hi3_2 hm_3 hv hP hD hS ls hl
        exact absurd hm_3 (by omega)
      | succ n ih_3 =>
        intro y3_1 u3 H locs ay3_1 by3_1 hi3_0 hi3_1 hi3_2 hm_3 hv hP hD hS ls hl
        refine lv_iload_n hx hb dX8_back_12 rfl (lv_at hl 0 rfl) ?_
        refine lv_sipush (v := 596) hx hb dX8_back_13 (by decide) ?_
        have k_596 : (596 : Int32).toInt = 596 := by decide
        refine lv_icmp_ge (tgt := 37) hx hb dX8_back_16 (by decide) (fun c_4 => ?_) (fun c_4 => ?_)
        · have tc_4 : y3_1.toInt ≥ (596 : Int32).toInt := Int32.le_iff_toInt_le.mp c_4
          refine lv_iconst (v := 1) hx hb dX8_back_37 (by decide) ?_
          exact W.iret (v := 1) hx hb hr (fun t ht hW => ⟨⟨1, u3, rfl, ⟨hv, Or.inr ⟨by rw [← ex_1]; omega, fun j hj => hi3_0 j (by omega), hi3_1, hi3_2, rfl⟩⟩, by rw [ht]; exact hP, hD⟩, hS.F ht⟩) hS.2.2 dX8_back_38
        · have tc_4 : y3_1.toInt < (596 : Int32).toInt := Int32.lt_iff_toInt_lt.mp (Int32.not_le.mp c_4)
          refine lv_aload_n hx hb dX8_back_19 rfl (lv_at hl 1 rfl) ?_
          refine va_get (D := (dC, dI)) (ci := 8) (v := .ref (ad 1)) (C := RX8) (T := TX8) (N := 11) hx hb hts iwX8_back_X8 hown hK hP (0) (wm_at (by decide) rc_0) rfl 0 (by decide) (hts (.fieldLink RX8 7 "QuietStairsModel" "s" "[I") fwX8_back_2) (fun _ h9 => h9) rfl dX8_back_20 ?_
          refine lv_iload_n hx hb dX8_back_23 rfl (lv_at hl 0 rfl) ?_
          refine lv_aload_n hx hb dX8_back_24 rfl (lv_at hl 1 rfl) ?_
          refine va_get (D := (dC, dI)) (ci := 8) (v := .ref (ad 2)) (C := RX8) (T := TX8) (N := 11) hx hb hts iwX8_back_X8 hown hK hP (0) (wm_at (by decide) rc_0) rfl 1 (by decide) (hts (.fieldLink RX8 13 "QuietStairsModel" "kept" "[I") fwX8_back_3) (fun _ h9 => h9) rfl dX8_back_25 ?_
          refine lv_iload_n hx hb dX8_back_28 rfl (lv_at hl 0 rfl) ?_
          refine va_iald hx hb hK hP (2) 0 (wm_at (by decide) rc_2) rfl (vp_in_iff.mpr ⟨by omega, by omega⟩) dX8_back_29 ?_
          refine lv_topi (fun x_5 ex_5 => ?_)
          refine va_iast hx hb hK hP hD hS (1) 0 (wm_at (by decide) rc_1) rfl (vp_in_iff.mpr ⟨by omega, by omega⟩) dX8_back_30 (fun H locs hP hD hS => ?_)
          obtain ⟨v_6, ev_6⟩ : ∃ u : Nat → Nat → Int32, u = upr u3 1 (upd (u3 1) (y3_1.toNatClampNeg) x_5) := ⟨_, rfl⟩
          have hP : va_P (dC, dI) vwCl (wm ad cy v_6) H := by rw [ev_6, ← wm_put (e := _) rc_1]; exact hP
          have hD : va_D A (wm ad cy v_6) := by rw [ev_6, ← wm_put (e := _) rc_1]; exact hD
          have hv : Ir v_6 := by rw [ev_6]; exact hv.put (k := 1) (fun h q => by rw [ex_5]; exact hv 2 _ h q)
          obtain ⟨x_7, ex_7⟩ : ∃ y : Int32, y = y3_1 + 1 := ⟨_, rfl⟩
          refine lv_iinc (v := x_7) (lv' := [(1, .int x_7), (0, .ref (ad 0))]) hx hb dX8_back_31 hl (k := 0) rfl (by rw [ex_7]; rfl) (by decide) rfl (fun ls hl => ?_)
          have k_1 : (1 : Int32).toInt = 1 := by decide
          have tx_7 : x_7.toInt = y3_1.toInt + (1 : Int32).toInt := by rw [ex_7]; exact t_add ⟨by omega, by omega⟩
          refine lv_goto (tgt := 12) hx hb dX8_back_34 (by decide) ?_
          exact ih_3 x_7 v_6 _ _ (by omega) (by omega) (cp_s ev_6 ex_5 hi3_0 (by rw [tx_7, k_1]) (by omega) hi3_1) (by rw [ev_6, upr_n (by decide)]; exact hi3_1) (by rw [ev_6, upr_n (by decide)]; exact hi3_2) (by omega) hv hP hD hS ls (lv_sub hl [0, 1] rfl)
    exact hc_3 ((596 - (0 : Int32).toInt).toNat + 1) 0 v _ _ (by omega) (by omega) (fun j hj => absurd hj (by omega)) (rfl) (rfl) (by omega) hv hP hD hS ls (lv_sub hl [0, 1] rfl)
  · have tc_2 : x_1.toInt = (0 : Int32).toInt := by rw [c_2]
    refine lv_bipush (v := (-5)) hx hb dX8_back_7 (by decide) ?_
    exact W.iret (v := (-5)) hx hb hr (fun t ht hW => ⟨⟨(-5), v, rfl, ⟨hv, Or.inl ⟨by rw [← ex_1]; omega, rfl, rfl⟩⟩, by rw [ht]; exact hP, hD⟩, hS.F ht⟩) hS.2.2 dX8_back_9
