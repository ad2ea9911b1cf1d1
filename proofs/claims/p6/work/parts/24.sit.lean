set_option maxRecDepth 20000 in
theorem db_X1_hasPair_0 : (decode cX1_hasPair 0 = .ok (.getstatic 32, 3)) ∧ (decode cX1_hasPair 3 = .ok (.iload_n 1, 1)) ∧ (decode cX1_hasPair 4 = .ok (.iaload, 1)) ∧ (decode cX1_hasPair 5 = .ok (.aload_n 0, 1)) ∧ (decode cX1_hasPair 6 = .ok (.getfield 36, 3)) ∧ (decode cX1_hasPair 9 = .ok (.if_icmp .ge 7, 3)) ∧ (decode cX1_hasPair 16 = .ok (.iconst 0, 1)) ∧ (decode cX1_hasPair 17 = .ok (.ireturn, 1)) := by decide +kernel
theorem dX1_hasPair_0 : decode cX1_hasPair 0 = .ok (.getstatic 32, 3) := db_X1_hasPair_0.1
theorem dX1_hasPair_3 : decode cX1_hasPair 3 = .ok (.iload_n 1, 1) := db_X1_hasPair_0.2.1
theorem dX1_hasPair_4 : decode cX1_hasPair 4 = .ok (.iaload, 1) := db_X1_hasPair_0.2.2.1
theorem dX1_hasPair_5 : decode cX1_hasPair 5 = .ok (.aload_n 0, 1) := db_X1_hasPair_0.2.2.2.1
theorem dX1_hasPair_6 : decode cX1_hasPair 6 = .ok (.getfield 36, 3) := db_X1_hasPair_0.2.2.2.2.1
theorem dX1_hasPair_9 : decode cX1_hasPair 9 = .ok (.if_icmp .ge 7, 3) := db_X1_hasPair_0.2.2.2.2.2.1
theorem dX1_hasPair_16 : decode cX1_hasPair 16 = .ok (.iconst 0, 1) := db_X1_hasPair_0.2.2.2.2.2.2.1
theorem dX1_hasPair_17 : decode cX1_hasPair 17 = .ok (.ireturn, 1) := db_X1_hasPair_0.2.2.2.2.2.2.2
set_option maxRecDepth 20000 in
theorem db_X1_hasPair_12 : (decode cX1_hasPair 12 = .ok (.iconst 1, 1)) ∧ (decode cX1_hasPair 13 = .ok (.goto 4, 3)) := by decide +kernel
theorem dX1_hasPair_12 : decode cX1_hasPair 12 = .ok (.iconst 1, 1) := db_X1_hasPair_12.1
theorem dX1_hasPair_13 : decode cX1_hasPair 13 = .ok (.goto 4, 3) := db_X1_hasPair_12.2
set_option maxRecDepth 20000 in
theorem db_X1_isNear_0 : (decode cX1_isNear 0 = .ok (.aload_n 1, 1)) ∧ (decode cX1_isNear 1 = .ok (.getfield 59, 3)) ∧ (decode cX1_isNear 4 = .ok (.iload_n 2, 1)) ∧ (decode cX1_isNear 5 = .ok (.invokestatic 51, 3)) ∧ (decode cX1_isNear 8 = .ok (.ifCond .ne 19, 3)) ∧ (decode cX1_isNear 11 = .ok (.aload_n 1, 1)) ∧ (decode cX1_isNear 12 = .ok (.getfield 62, 3)) ∧ (decode cX1_isNear 15 = .ok (.aload_n 0, 1)) := by decide +kernel
theorem dX1_isNear_0 : decode cX1_isNear 0 = .ok (.aload_n 1, 1) := db_X1_isNear_0.1
theorem dX1_isNear_1 : decode cX1_isNear 1 = .ok (.getfield 59, 3) := db_X1_isNear_0.2.1
theorem dX1_isNear_4 : decode cX1_isNear 4 = .ok (.iload_n 2, 1) := db_X1_isNear_0.2.2.1
set_option maxRecDepth 20000 in
theorem ggX1_isNear_X7_hasBit : GoodIn wsX1_isNear wsX7_hasBit := goodIn_r _ [7] rfl (by decide +kernel)
set_option maxRecDepth 20000 in
theorem gX1_isNear_X7_hasBit_n51 : GoodIn wsX1_isNear (wsX7_hasBit) := ggX1_isNear_X7_hasBit
theorem dX1_isNear_5 : decode cX1_isNear 5 = .ok (.invokestatic 51, 3) := db_X1_isNear_0.2.2.2.1
theorem dX1_isNear_8 : decode cX1_isNear 8 = .ok (.ifCond .ne 19, 3) := db_X1_isNear_0.2.2.2.2.1
theorem dX1_isNear_11 : decode cX1_isNear 11 = .ok (.aload_n 1, 1) := db_X1_isNear_0.2.2.2.2.2.1
theorem dX1_isNear_12 : decode cX1_isNear 12 = .ok (.getfield 62, 3) := db_X1_isNear_0.2.2.2.2.2.2.1
theorem dX1_isNear_15 : decode cX1_isNear 15 = .ok (.aload_n 0, 1) := db_X1_isNear_0.2.2.2.2.2.2.2
set_option maxRecDepth 20000 in
theorem db_X1_isNear_16 : (decode cX1_isNear 16 = .ok (.getfield 11, 3)) ∧ (decode cX1_isNear 19 = .ok (.iload_n 2, 1)) ∧ (decode cX1_isNear 20 = .ok (.aaload, 1)) ∧ (decode cX1_isNear 21 = .ok (.getfield 65, 3)) ∧ (decode cX1_isNear 24 = .ok (.if_icmp .ne 7, 3)) ∧ (decode cX1_isNear 31 = .ok (.iconst 0, 1)) ∧ (decode cX1_isNear 32 = .ok (.ireturn, 1)) ∧ (decode cX1_isNear 27 = .ok (.iconst 1, 1)) := by decide +kernel
theorem dX1_isNear_16 : decode cX1_isNear 16 = .ok (.getfield 11, 3) := db_X1_isNear_16.1
theorem dX1_isNear_19 : decode cX1_isNear 19 = .ok (.iload_n 2, 1) := db_X1_isNear_16.2.1
theorem dX1_isNear_20 : decode cX1_isNear 20 = .ok (.aaload, 1) := db_X1_isNear_16.2.2.1
theorem dX1_isNear_21 : decode cX1_isNear 21 = .ok (.getfield 65, 3) := db_X1_isNear_16.2.2.2.1
theorem dX1_isNear_24 : decode cX1_isNear 24 = .ok (.if_icmp .ne 7, 3) := db_X1_isNear_16.2.2.2.2.1
theorem dX1_isNear_31 : decode cX1_isNear 31 = .ok (.iconst 0, 1) := db_X1_isNear_16.2.2.2.2.2.1
theorem dX1_isNear_32 : decode cX1_isNear 32 = .ok (.ireturn, 1) := db_X1_isNear_16.2.2.2.2.2.2.1
theorem dX1_isNear_27 : decode cX1_isNear 27 = .ok (.iconst 1, 1) := db_X1_isNear_16.2.2.2.2.2.2.2
theorem dX1_isNear_28 : decode cX1_isNear 28 = .ok (.goto 4, 3) := by decide +kernel
set_option maxRecDepth 20000 in
theorem db_X1_pairFits_0 : (decode cX1_pairFits 0 = .ok (.aload_n 0, 1)) ∧ (decode cX1_pairFits 1 = .ok (.getfield 19, 3)) ∧ (decode cX1_pairFits 4 = .ok (.getstatic 40, 3)) ∧ (decode cX1_pairFits 7 = .ok (.iload_n 1, 1)) ∧ (decode cX1_pairFits 8 = .ok (.iaload, 1)) ∧ (decode cX1_pairFits 9 = .ok (.aaload, 1)) ∧ (decode cX1_pairFits 10 = .ok (.astore_n 3, 1)) ∧ (decode cX1_pairFits 11 = .ok (.aload_n 0, 1)) := by decide +kernel
theorem dX1_pairFits_0 : decode cX1_pairFits 0 = .ok (.aload_n 0, 1) := db_X1_pairFits_0.1
theorem dX1_pairFits_1 : decode cX1_pairFits 1 = .ok (.getfield 19, 3) := db_X1_pairFits_0.2.1
theorem dX1_pairFits_4 : decode cX1_pairFits 4 = .ok (.getstatic 40, 3) := db_X1_pairFits_0.2.2.1
theorem dX1_pairFits_7 : decode cX1_pairFits 7 = .ok (.iload_n 1, 1) := db_X1_pairFits_0.2.2.2.1
theorem dX1_pairFits_8 : decode cX1_pairFits 8 = .ok (.iaload, 1) := db_X1_pairFits_0.2.2.2.2.1
theorem dX1_pairFits_9 : decode cX1_pairFits 9 = .ok (.aaload, 1) := db_X1_pairFits_0.2.2.2.2.2.1
theorem dX1_pairFits_10 : decode cX1_pairFits 10 = .ok (.astore_n 3, 1) := db_X1_pairFits_0.2.2.2.2.2.2.1
theorem dX1_pairFits_11 : decode cX1_pairFits 11 = .ok (.aload_n 0, 1) := db_X1_pairFits_0.2.2.2.2.2.2.2
set_option maxRecDepth 20000 in
theorem db_X1_pairFits_12 : (decode cX1_pairFits 12 = .ok (.getfield 19, 3)) ∧ (decode cX1_pairFits 15 = .ok (.getstatic 32, 3)) ∧ (decode cX1_pairFits 18 = .ok (.iload_n 1, 1)) ∧ (decode cX1_pairFits 19 = .ok (.iaload, 1)) ∧ (decode cX1_pairFits 20 = .ok (.aaload, 1)) ∧ (decode cX1_pairFits 21 = .ok (.astore 4, 2)) ∧ (decode cX1_pairFits 23 = .ok (.aload_n 3, 1)) ∧ (decode cX1_pairFits 24 = .ok (.getfield 43, 3)) := by decide +kernel
theorem dX1_pairFits_12 : decode cX1_pairFits 12 = .ok (.getfield 19, 3) := db_X1_pairFits_12.1
theorem dX1_pairFits_15 : decode cX1_pairFits 15 = .ok (.getstatic 32, 3) := db_X1_pairFits_12.2.1
theorem dX1_pairFits_18 : decode cX1_pairFits 18 = .ok (.iload_n 1, 1) := db_X1_pairFits_12.2.2.1
theorem dX1_pairFits_19 : decode cX1_pairFits 19 = .ok (.iaload, 1) := db_X1_pairFits_12.2.2.2.1
theorem dX1_pairFits_20 : decode cX1_pairFits 20 = .ok (.aaload, 1) := db_X1_pairFits_12.2.2.2.2.1
theorem dX1_pairFits_21 : decode cX1_pairFits 21 = .ok (.astore 4, 2) := db_X1_pairFits_12.2.2.2.2.2.1
theorem dX1_pairFits_23 : decode cX1_pairFits 23 = .ok (.aload_n 3, 1) := db_X1_pairFits_12.2.2.2.2.2.2.1
theorem dX1_pairFits_24 : decode cX1_pairFits 24 = .ok (.getfield 43, 3) := db_X1_pairFits_12.2.2.2.2.2.2.2
set_option maxRecDepth 20000 in
theorem db_X1_pairFits_27 : (decode cX1_pairFits 27 = .ok (.aload 4, 2)) ∧ (decode cX1_pairFits 29 = .ok (.getfield 43, 3)) ∧ (decode cX1_pairFits 32 = .ok (.ior, 1)) ∧ (decode cX1_pairFits 33 = .ok (.istore 5, 2)) ∧ (decode cX1_pairFits 35 = .ok (.iconst 0, 1)) ∧ (decode cX1_pairFits 36 = .ok (.istore 6, 2)) ∧ (decode cX1_pairFits 38 = .ok (.iload 6, 2)) ∧ (decode cX1_pairFits 40 = .ok (.iconst 2, 1)) := by decide +kernel
theorem dX1_pairFits_27 : decode cX1_pairFits 27 = .ok (.aload 4, 2) := db_X1_pairFits_27.1
theorem dX1_pairFits_29 : decode cX1_pairFits 29 = .ok (.getfield 43, 3) := db_X1_pairFits_27.2.1
theorem dX1_pairFits_32 : decode cX1_pairFits 32 = .ok (.ior, 1) := db_X1_pairFits_27.2.2.1
theorem dX1_pairFits_33 : decode cX1_pairFits 33 = .ok (.istore 5, 2) := db_X1_pairFits_27.2.2.2.1
theorem dX1_pairFits_35 : decode cX1_pairFits 35 = .ok (.iconst 0, 1) := db_X1_pairFits_27.2.2.2.2.1
theorem dX1_pairFits_36 : decode cX1_pairFits 36 = .ok (.istore 6, 2) := db_X1_pairFits_27.2.2.2.2.2.1
theorem dX1_pairFits_38 : decode cX1_pairFits 38 = .ok (.iload 6, 2) := db_X1_pairFits_27.2.2.2.2.2.2.1
theorem dX1_pairFits_40 : decode cX1_pairFits 40 = .ok (.iconst 2, 1) := db_X1_pairFits_27.2.2.2.2.2.2.2
set_option maxRecDepth 20000 in
theorem db_X1_pairFits_41 : (decode cX1_pairFits 41 = .ok (.if_icmp .ge 59, 3)) ∧ (decode cX1_pairFits 100 = .ok (.iconst 1, 1)) ∧ (decode cX1_pairFits 101 = .ok (.ireturn, 1)) ∧ (decode cX1_pairFits 44 = .ok (.aload_n 2, 1)) ∧ (decode cX1_pairFits 45 = .ok (.getfield 46, 3)) ∧ (decode cX1_pairFits 48 = .ok (.iload 6, 2)) ∧ (decode cX1_pairFits 50 = .ok (.iaload, 1)) ∧ (decode cX1_pairFits 51 = .ok (.istore 7, 2)) := by decide +kernel
theorem dX1_pairFits_41 : decode cX1_pairFits 41 = .ok (.if_icmp .ge 59, 3) := db_X1_pairFits_41.1
theorem dX1_pairFits_100 : decode cX1_pairFits 100 = .ok (.iconst 1, 1) := db_X1_pairFits_41.2.1
theorem dX1_pairFits_101 : decode cX1_pairFits 101 = .ok (.ireturn, 1) := db_X1_pairFits_41.2.2.1
theorem dX1_pairFits_44 : decode cX1_pairFits 44 = .ok (.aload_n 2, 1) := db_X1_pairFits_41.2.2.2.1
theorem dX1_pairFits_45 : decode cX1_pairFits 45 = .ok (.getfield 46, 3) := db_X1_pairFits_41.2.2.2.2.1
theorem dX1_pairFits_48 : decode cX1_pairFits 48 = .ok (.iload 6, 2) := db_X1_pairFits_41.2.2.2.2.2.1
theorem dX1_pairFits_50 : decode cX1_pairFits 50 = .ok (.iaload, 1) := db_X1_pairFits_41.2.2.2.2.2.2.1
theorem dX1_pairFits_51 : decode cX1_pairFits 51 = .ok (.istore 7, 2) := db_X1_pairFits_41.2.2.2.2.2.2.2
set_option maxRecDepth 20000 in
theorem db_X1_pairFits_53 : (decode cX1_pairFits 53 = .ok (.iload 5, 2)) ∧ (decode cX1_pairFits 55 = .ok (.aload_n 0, 1)) ∧ (decode cX1_pairFits 56 = .ok (.getfield 11, 3)) ∧ (decode cX1_pairFits 59 = .ok (.iload 7, 2)) ∧ (decode cX1_pairFits 61 = .ok (.aaload, 1)) ∧ (decode cX1_pairFits 62 = .ok (.getfield 48, 3)) ∧ (decode cX1_pairFits 65 = .ok (.invokestatic 51, 3)) ∧ (decode cX1_pairFits 68 = .ok (.ifCond .eq 24, 3)) := by decide +kernel
theorem dX1_pairFits_53 : decode cX1_pairFits 53 = .ok (.iload 5, 2) := db_X1_pairFits_53.1
theorem dX1_pairFits_55 : decode cX1_pairFits 55 = .ok (.aload_n 0, 1) := db_X1_pairFits_53.2.1
theorem dX1_pairFits_56 : decode cX1_pairFits 56 = .ok (.getfield 11, 3) := db_X1_pairFits_53.2.2.1
theorem dX1_pairFits_59 : decode cX1_pairFits 59 = .ok (.iload 7, 2) := db_X1_pairFits_53.2.2.2.1
theorem dX1_pairFits_61 : decode cX1_pairFits 61 = .ok (.aaload, 1) := db_X1_pairFits_53.2.2.2.2.1
theorem dX1_pairFits_62 : decode cX1_pairFits 62 = .ok (.getfield 48, 3) := db_X1_pairFits_53.2.2.2.2.2.1
set_option maxRecDepth 20000 in
theorem ggX1_pairFits_X7_hasBit : GoodIn wsX1_pairFits wsX7_hasBit := goodIn_r _ [8] rfl (by decide +kernel)
set_option maxRecDepth 20000 in
theorem gX1_pairFits_X7_hasBit_n51 : GoodIn wsX1_pairFits (wsX7_hasBit) := ggX1_pairFits_X7_hasBit
theorem dX1_pairFits_65 : decode cX1_pairFits 65 = .ok (.invokestatic 51, 3) := db_X1_pairFits_53.2.2.2.2.2.2.1
theorem dX1_pairFits_68 : decode cX1_pairFits 68 = .ok (.ifCond .eq 24, 3) := db_X1_pairFits_53.2.2.2.2.2.2.2
set_option maxRecDepth 20000 in
theorem db_X1_pairFits_92 : (decode cX1_pairFits 92 = .ok (.iconst 0, 1)) ∧ (decode cX1_pairFits 93 = .ok (.ireturn, 1)) ∧ (decode cX1_pairFits 71 = .ok (.aload_n 0, 1)) ∧ (decode cX1_pairFits 72 = .ok (.aload_n 3, 1)) ∧ (decode cX1_pairFits 73 = .ok (.iload 7, 2)) ∧ (decode cX1_pairFits 75 = .ok (.invokevirtual 55, 3)) ∧ (decode cX1_pairFits 78 = .ok (.ifCond .ne 14, 3)) ∧ (decode cX1_pairFits 81 = .ok (.aload_n 0, 1)) := by decide +kernel
theorem dX1_pairFits_92 : decode cX1_pairFits 92 = .ok (.iconst 0, 1) := db_X1_pairFits_92.1
theorem dX1_pairFits_93 : decode cX1_pairFits 93 = .ok (.ireturn, 1) := db_X1_pairFits_92.2.1
theorem dX1_pairFits_71 : decode cX1_pairFits 71 = .ok (.aload_n 0, 1) := db_X1_pairFits_92.2.2.1
theorem dX1_pairFits_72 : decode cX1_pairFits 72 = .ok (.aload_n 3, 1) := db_X1_pairFits_92.2.2.2.1
theorem dX1_pairFits_73 : decode cX1_pairFits 73 = .ok (.iload 7, 2) := db_X1_pairFits_92.2.2.2.2.1
set_option maxRecDepth 20000 in
theorem ggX1_pairFits_X1_isNear : GoodIn wsX1_pairFits wsX1_isNear := goodIn_r _ [13, 14, 15, 4, 16, 6, 7, 8, 24, 25, 26, 17, 18, 19, 20, 21, 22, 23, 38, 39] rfl (by decide +kernel)
set_option maxRecDepth 20000 in
theorem gX1_pairFits_X1_isNear : GoodIn wsX1_pairFits (wsV RX1 55 RX1 yX1_isNear wsX1_isNear) := goodIn_app (goodIn_r _ [9, 10, 11, 12] rfl (by decide +kernel)) ggX1_pairFits_X1_isNear
theorem dX1_pairFits_75 : decode cX1_pairFits 75 = .ok (.invokevirtual 55, 3) := db_X1_pairFits_92.2.2.2.2.2.1
theorem dX1_pairFits_78 : decode cX1_pairFits 78 = .ok (.ifCond .ne 14, 3) := db_X1_pairFits_92.2.2.2.2.2.2.1
theorem dX1_pairFits_81 : decode cX1_pairFits 81 = .ok (.aload_n 0, 1) := db_X1_pairFits_92.2.2.2.2.2.2.2
set_option maxRecDepth 20000 in
theorem db_X1_pairFits_82 : (decode cX1_pairFits 82 = .ok (.aload 4, 2)) ∧ (decode cX1_pairFits 84 = .ok (.iload 7, 2)) ∧ (decode cX1_pairFits 86 = .ok (.invokevirtual 55, 3)) ∧ (decode cX1_pairFits 89 = .ok (.ifCond .eq 5, 3)) ∧ (decode cX1_pairFits 94 = .ok (.iinc 6 1, 3)) ∧ (decode cX1_pairFits 97 = .ok (.goto (-59), 3)) := by decide +kernel
theorem dX1_pairFits_82 : decode cX1_pairFits 82 = .ok (.aload 4, 2) := db_X1_pairFits_82.1
theorem dX1_pairFits_84 : decode cX1_pairFits 84 = .ok (.iload 7, 2) := db_X1_pairFits_82.2.1
theorem dX1_pairFits_86 : decode cX1_pairFits 86 = .ok (.invokevirtual 55, 3) := db_X1_pairFits_82.2.2.1
theorem dX1_pairFits_89 : decode cX1_pairFits 89 = .ok (.ifCond .eq 5, 3) := db_X1_pairFits_82.2.2.2.1
theorem dX1_pairFits_94 : decode cX1_pairFits 94 = .ok (.iinc 6 1, 3) := db_X1_pairFits_82.2.2.2.2.1
theorem dX1_pairFits_97 : decode cX1_pairFits 97 = .ok (.goto (-59), 3) := db_X1_pairFits_82.2.2.2.2.2
set_option maxRecDepth 20000 in
theorem db_X7_maySit_0 : (decode cX7_maySit 0 = .ok (.iload_n 1, 1)) ∧ (decode cX7_maySit 1 = .ok (.iconst 0, 1)) ∧ (decode cX7_maySit 2 = .ok (.iconst 5, 1)) ∧ (decode cX7_maySit 3 = .ok (.invokestatic 37, 3)) ∧ (decode cX7_maySit 6 = .ok (.ifCond .eq 22, 3)) ∧ (decode cX7_maySit 9 = .ok (.aload_n 0, 1)) ∧ (decode cX7_maySit 10 = .ok (.getfield 12, 3)) ∧ (decode cX7_maySit 13 = .ok (.iload_n 1, 1)) := by decide +kernel
theorem dX7_maySit_0 : decode cX7_maySit 0 = .ok (.iload_n 1, 1) := db_X7_maySit_0.1
theorem dX7_maySit_1 : decode cX7_maySit 1 = .ok (.iconst 0, 1) := db_X7_maySit_0.2.1
theorem dX7_maySit_2 : decode cX7_maySit 2 = .ok (.iconst 5, 1) := db_X7_maySit_0.2.2.1
set_option maxRecDepth 20000 in
theorem ggX7_maySit_X7_isWithin : GoodIn wsX7_maySit wsX7_isWithin := goodIn_r _ [6] rfl (by decide +kernel)
set_option maxRecDepth 20000 in
theorem gX7_maySit_X7_isWithin : GoodIn wsX7_maySit (va_wsS RX7 37 yX7_isWithin wsX7_isWithin) := goodIn_app (goodIn_r _ [3, 4, 5] rfl (by decide +kernel)) ggX7_maySit_X7_isWithin
theorem dX7_maySit_3 : decode cX7_maySit 3 = .ok (.invokestatic 37, 3) := db_X7_maySit_0.2.2.2.1
theorem dX7_maySit_6 : decode cX7_maySit 6 = .ok (.ifCond .eq 22, 3) := db_X7_maySit_0.2.2.2.2.1
theorem dX7_maySit_9 : decode cX7_maySit 9 = .ok (.aload_n 0, 1) := db_X7_maySit_0.2.2.2.2.2.1
theorem dX7_maySit_10 : decode cX7_maySit 10 = .ok (.getfield 12, 3) := db_X7_maySit_0.2.2.2.2.2.2.1
theorem dX7_maySit_13 : decode cX7_maySit 13 = .ok (.iload_n 1, 1) := db_X7_maySit_0.2.2.2.2.2.2.2
set_option maxRecDepth 20000 in
theorem ggX7_maySit_X1_hasPair : GoodIn wsX7_maySit wsX1_hasPair := goodIn_r _ [11, 12, 41, 42, 43, 44, 45, 46, 47] rfl (by decide +kernel)
set_option maxRecDepth 20000 in
theorem gX7_maySit_X1_hasPair : GoodIn wsX7_maySit (wsV RX7 149 RX1 yX1_hasPair wsX1_hasPair) := goodIn_app (goodIn_r _ [7, 8, 9, 10] rfl (by decide +kernel)) ggX7_maySit_X1_hasPair
set_option maxRecDepth 20000 in
theorem db_X7_maySit_14 : (decode cX7_maySit 14 = .ok (.invokevirtual 149, 3)) ∧ (decode cX7_maySit 17 = .ok (.ifCond .eq 11, 3)) ∧ (decode cX7_maySit 28 = .ok (.iconst (-1), 1)) ∧ (decode cX7_maySit 29 = .ok (.ireturn, 1)) ∧ (decode cX7_maySit 20 = .ok (.aload_n 0, 1)) ∧ (decode cX7_maySit 21 = .ok (.iload_n 2, 1)) ∧ (decode cX7_maySit 22 = .ok (.invokevirtual 96, 3)) ∧ (decode cX7_maySit 25 = .ok (.ifCond .ne 5, 3)) := by decide +kernel
theorem dX7_maySit_14 : decode cX7_maySit 14 = .ok (.invokevirtual 149, 3) := db_X7_maySit_14.1
theorem dX7_maySit_17 : decode cX7_maySit 17 = .ok (.ifCond .eq 11, 3) := db_X7_maySit_14.2.1
theorem dX7_maySit_28 : decode cX7_maySit 28 = .ok (.iconst (-1), 1) := db_X7_maySit_14.2.2.1
theorem dX7_maySit_29 : decode cX7_maySit 29 = .ok (.ireturn, 1) := db_X7_maySit_14.2.2.2.1
theorem dX7_maySit_20 : decode cX7_maySit 20 = .ok (.aload_n 0, 1) := db_X7_maySit_14.2.2.2.2.1
theorem dX7_maySit_21 : decode cX7_maySit 21 = .ok (.iload_n 2, 1) := db_X7_maySit_14.2.2.2.2.2.1
set_option maxRecDepth 20000 in
theorem ggX7_maySit_X7_isCase : GoodIn wsX7_maySit wsX7_isCase := goodIn_r _ [16, 1, 17, 3, 4, 5, 6, 36, 37, 38, 39, 40, 41, 42, 43, 44, 45, 46, 47] rfl (by decide +kernel)
set_option maxRecDepth 20000 in
theorem gX7_maySit_X7_isCase : GoodIn wsX7_maySit (wsV RX7 96 RX7 yX7_isCase wsX7_isCase) := goodIn_app (goodIn_r _ [13, 14, 15, 5] rfl (by decide +kernel)) ggX7_maySit_X7_isCase
theorem dX7_maySit_22 : decode cX7_maySit 22 = .ok (.invokevirtual 96, 3) := db_X7_maySit_14.2.2.2.2.2.2.1
theorem dX7_maySit_25 : decode cX7_maySit 25 = .ok (.ifCond .ne 5, 3) := db_X7_maySit_14.2.2.2.2.2.2.2
set_option maxRecDepth 20000 in
theorem db_X7_maySit_30 : (decode cX7_maySit 30 = .ok (.aload_n 0, 1)) ∧ (decode cX7_maySit 31 = .ok (.getfield 12, 3)) ∧ (decode cX7_maySit 34 = .ok (.iload_n 1, 1)) ∧ (decode cX7_maySit 35 = .ok (.aload_n 0, 1)) ∧ (decode cX7_maySit 36 = .ok (.getfield 12, 3)) ∧ (decode cX7_maySit 39 = .ok (.getfield 86, 3)) ∧ (decode cX7_maySit 42 = .ok (.iload_n 2, 1)) ∧ (decode cX7_maySit 43 = .ok (.aaload, 1)) := by decide +kernel
theorem dX7_maySit_30 : decode cX7_maySit 30 = .ok (.aload_n 0, 1) := db_X7_maySit_30.1
theorem dX7_maySit_31 : decode cX7_maySit 31 = .ok (.getfield 12, 3) := db_X7_maySit_30.2.1
theorem dX7_maySit_34 : decode cX7_maySit 34 = .ok (.iload_n 1, 1) := db_X7_maySit_30.2.2.1
theorem dX7_maySit_35 : decode cX7_maySit 35 = .ok (.aload_n 0, 1) := db_X7_maySit_30.2.2.2.1
theorem dX7_maySit_36 : decode cX7_maySit 36 = .ok (.getfield 12, 3) := db_X7_maySit_30.2.2.2.2.1
theorem dX7_maySit_39 : decode cX7_maySit 39 = .ok (.getfield 86, 3) := db_X7_maySit_30.2.2.2.2.2.1
theorem dX7_maySit_42 : decode cX7_maySit 42 = .ok (.iload_n 2, 1) := db_X7_maySit_30.2.2.2.2.2.2.1
theorem dX7_maySit_43 : decode cX7_maySit 43 = .ok (.aaload, 1) := db_X7_maySit_30.2.2.2.2.2.2.2
set_option maxRecDepth 20000 in
theorem ggX7_maySit_X1_pairFits : GoodIn wsX7_maySit wsX1_pairFits := goodIn_r _ [21, 22, 23, 24, 25, 26, 27, 5, 28, 29, 30, 31, 10, 32, 33, 34, 35, 41, 42, 43, 44, 45, 46, 47, 48, 49, 50, 51, 52, 53, 54, 55, 56, 57, 58, 59, 60, 61, 62, 63] rfl (by decide +kernel)
set_option maxRecDepth 20000 in
theorem gX7_maySit_X1_pairFits : GoodIn wsX7_maySit (wsV RX7 152 RX1 yX1_pairFits wsX1_pairFits) := goodIn_app (goodIn_r _ [18, 19, 20, 10] rfl (by decide +kernel)) ggX7_maySit_X1_pairFits
set_option maxRecDepth 20000 in
theorem db_X7_maySit_44 : (decode cX7_maySit 44 = .ok (.invokevirtual 152, 3)) ∧ (decode cX7_maySit 47 = .ok (.ifCond .eq 7, 3)) ∧ (decode cX7_maySit 54 = .ok (.iconst 0, 1)) ∧ (decode cX7_maySit 55 = .ok (.ireturn, 1)) ∧ (decode cX7_maySit 50 = .ok (.iconst 1, 1)) ∧ (decode cX7_maySit 51 = .ok (.goto 4, 3)) := by decide +kernel
theorem dX7_maySit_44 : decode cX7_maySit 44 = .ok (.invokevirtual 152, 3) := db_X7_maySit_44.1
theorem dX7_maySit_47 : decode cX7_maySit 47 = .ok (.ifCond .eq 7, 3) := db_X7_maySit_44.2.1
theorem dX7_maySit_54 : decode cX7_maySit 54 = .ok (.iconst 0, 1) := db_X7_maySit_44.2.2.1
theorem dX7_maySit_55 : decode cX7_maySit 55 = .ok (.ireturn, 1) := db_X7_maySit_44.2.2.2.1
theorem dX7_maySit_50 : decode cX7_maySit 50 = .ok (.iconst 1, 1) := db_X7_maySit_44.2.2.2.2.1
theorem dX7_maySit_51 : decode cX7_maySit 51 = .ok (.goto 4, 3) := db_X7_maySit_44.2.2.2.2.2
set_option maxHeartbeats 4000000 in
set_option maxRecDepth 100000 in
theorem g_X1_hasPair (l : Launch) (dC : Nat → ClassId) (dI : Nat → Nat → Nat) (cy : Nat → ClassId) (sz : Nat) (ad : Nat → Nat) (kv : Value) (N : Nat) (hN : 119 ≤ N) (v : Nat → Nat → Int32) (hv : Iv v) (x0 : Int32) (hs : 0 ≤ x0.toInt ∧ x0.toInt ≤ 5) (t1 t2 : Nat) : Met l yX1_hasPair wsX1_hasPair ({ frames := 0, cells := 0, slots := 0, locals := 0 }) (va_Pc [.ref (ad 13), .int x0] (ex_PreT dC dI cy sz (wl ad kv cy N v) t1 t2)) (va_Qi (fun (r : Int32) (u : Nat → Nat → Int32) => Iv u ∧ Fe v u ∧ (r = 0 ∨ r = 1)) (fun u t => ex_Pst dC dI (va_A (wl ad kv cy N v) sz) (wl ad kv cy N u) t) (va_A (wl ad kv cy N v) sz)) 0 0 (va_A (wl ad kv cy N v) sz) := by
  refine Met.ofW (cc := cX1_hasPair) (maxL := 2) (ret := (some .boolean)) (by decide) rfl ?_
  intro p e s m args below meth c s₁ B hml hv
  obtain ⟨rfl, ⟨hsz, hE, hP, hK, hD0⟩, hSt⟩ := hv
  have hx := B.exec
  have hb := B.bytes
  have hr := B.returns
  have hts := atoms_spec (ws := wsX1_hasPair) B.pre
  have hown : s.vm.findClass RX1 = some m.cls := findClass_of_methodNamed B.named
  have hlocks := B.notSynchronized
  subst hsz
  have hD := hD0.self (sz := s.heap.size)
  generalize hAe : va_A (wl ad kv cy N v) s.heap.size = A at hD hSt ⊢
  have hA : ∀ q : Nat, s.heap.size ≤ q → A q := fun q h => by rw [← hAe]; exact Or.inr h
  have hS : va_S A s.heap s.heap [] := va_S.rf
  have hP : va_P (dC, dI) vwCl (wl ad kv cy N v) s.heap := hP
  have hl := lv_entry ([.ref (ad 13), .int x0]) (n := 2) (Nat.le_of_ble_eq_true rfl)
  rw [lg_entry_eq]
  generalize (lg_sl ([.ref (ad 13), .int x0]) ++ List.replicate (2 - (lg_sl ([.ref (ad 13), .int x0])).length) Slot.unset).toArray = ls at hl ⊢
  have hl : lv_has ls 2 [(0, .ref (ad 13)), (1, .int x0)] := hl
  have hfr : Fe v v := Fe.rf
  refine va_getsN hx hb hSt.1.1 hS hown (va_Nw.use rfl hE.2.2.2.2.2.2.2.2.2.2.2.2.2.1) (fun _ h => h) dX1_hasPair_0 ?_
  refine lv_iload_n hx hb dX1_hasPair_3 rfl (lv_at hl 1 rfl) ?_
  obtain ⟨pi1, i1, hi1, ni1, mi1⟩ := t_in (x := x0) (n := 6) ⟨by omega, by omega⟩
  refine va_ti (v := .int (st_o x0.toNatClampNeg)) hx hb hSt.1.2 hS pi1 rfl dX1_hasPair_4 ?_
  refine lv_topi (fun x_2 ex_2 => ?_)
  have bx_2 : 0 ≤ x_2.toInt ∧ x_2.toInt ≤ 3 := by rw [ex_2]; exact (st_b _).1
  refine lv_aload_n hx hb dX1_hasPair_5 rfl (lv_at hl 0 rfl) ?_
  refine va_get (D := (dC, dI)) (ci := 1) (v := .int (v (13) 1)) (C := RX1) (T := TX1) (N := 7) hx hb hts iwX1_hasPair_X1 hown hK hP (13) (wl_at (by omega) (ce_3 (by decide))) rfl 1 (by decide) (hts (.fieldLink RX1 36 "QuietStairs$House" "mediatorCount" "I") fwX1_hasPair_1) (fun _ h9 => h9) rfl dX1_hasPair_6 ?_
  refine lv_topi (fun x_3 ex_3 => ?_)
  have bx_3 : 0 ≤ x_3.toInt ∧ x_3.toInt ≤ 4 := by rw [ex_3]; exact hv.at (K := 3) (by decide) rfl
  refine lv_icmp_ge (tgt := 16) hx hb dX1_hasPair_9 (by decide) (fun c_4 => ?_) (fun c_4 => ?_)
  · have tc_4 : x_2.toInt ≥ x_3.toInt := Int32.le_iff_toInt_le.mp c_4
    refine lv_iconst (v := 0) hx hb dX1_hasPair_16 (by decide) ?_
    exact W.zret (ty := .boolean) (v := 0) hx hb hr rfl (fun t ht hW => ⟨⟨0, v, rfl, ⟨hv, hfr, by decide⟩, by rw [ht]; exact hP, hD⟩, hS.F ht⟩) hS.2.2 dX1_hasPair_17
  · have tc_4 : x_2.toInt < x_3.toInt := Int32.lt_iff_toInt_lt.mp (Int32.not_le.mp c_4)
    refine lv_iconst (v := 1) hx hb dX1_hasPair_12 (by decide) ?_
    refine lv_goto (tgt := 17) hx hb dX1_hasPair_13 (by decide) ?_
    exact W.zret (ty := .boolean) (v := 1) hx hb hr rfl (fun t ht hW => ⟨⟨1, v, rfl, ⟨hv, hfr, by decide⟩, by rw [ht]; exact hP, hD⟩, hS.F ht⟩) hS.2.2 dX1_hasPair_17

set_option maxHeartbeats 4000000 in
set_option maxRecDepth 100000 in
theorem g_X1_isNear (l : Launch) (dC : Nat → ClassId) (dI : Nat → Nat → Nat) (cy : Nat → ClassId) (sz : Nat) (ad : Nat → Nat) (kv : Value) (N : Nat) (hN : 119 ≤ N) (v : Nat → Nat → Int32) (hv : Iv v) (i : Nat) (hi : i < 4) (x0 : Int32) (hs : 0 ≤ x0.toInt ∧ x0.toInt ≤ 7) : Met l yX1_isNear wsX1_isNear ({ frames := 1, cells := 0, slots := 0, locals := 64 }) (va_Pc [.ref (ad 13), .ref (ad (25 + i)), .int x0] (ex_Pre dC dI cy sz (wl ad kv cy N v))) (va_Qi (fun (r : Int32) (u : Nat → Nat → Int32) => Iv u ∧ Fe v u ∧ (r = 0 ∨ r = 1)) (fun u t => ex_Pst dC dI (va_A (wl ad kv cy N v) sz) (wl ad kv cy N u) t) (va_A (wl ad kv cy N v) sz)) 0 0 (va_A (wl ad kv cy N v) sz) := by
  refine Met.ofW (cc := cX1_isNear) (maxL := 3) (ret := (some .boolean)) (by decide) rfl ?_
  intro p e s m args below meth c s₁ B hml hv
  obtain ⟨rfl, hsz, hE, hP, hK, hD0⟩ := hv
  have hx := B.exec
  have hb := B.bytes
  have hr := B.returns
  have hts := atoms_spec (ws := wsX1_isNear) B.pre
  have hown : s.vm.findClass RX1 = some m.cls := findClass_of_methodNamed B.named
  have hlocks := B.notSynchronized
  subst hsz
  have hD := hD0.self (sz := s.heap.size)
  generalize hAe : va_A (wl ad kv cy N v) s.heap.size = A at hD ⊢
  have hA : ∀ q : Nat, s.heap.size ≤ q → A q := fun q h => by rw [← hAe]; exact Or.inr h
  have hS : va_S A s.heap s.heap [] := va_S.rf
  have hP : va_P (dC, dI) vwCl (wl ad kv cy N v) s.heap := hP
  have hl := lv_entry ([.ref (ad 13), .ref (ad (25 + i)), .int x0]) (n := 3) (Nat.le_of_ble_eq_true rfl)
  rw [lg_entry_eq]
  generalize (lg_sl ([.ref (ad 13), .ref (ad (25 + i)), .int x0]) ++ List.replicate (3 - (lg_sl ([.ref (ad 13), .ref (ad (25 + i)), .int x0])).length) Slot.unset).toArray = ls at hl ⊢
  have hl : lv_has ls 3 [(0, .ref (ad 13)), (1, .ref (ad (25 + i))), (2, .int x0)] := hl
  have hfr : Fe v v := Fe.rf
  refine lv_aload_n hx hb dX1_isNear_0 rfl (lv_at hl 1 rfl) ?_
  refine va_get (D := (dC, dI)) (ci := 2) (v := .int (v (25 + i) 2)) (C := RX2) (T := TX2) (N := 3) hx hb hts iwX1_isNear_X2 hown hK hP (25 + i) (wl_at (by omega) (ce_8 (kd_m i hi).1)) rfl 2 (by decide) (hts (.fieldLink RX1 59 "QuietStairs$Mediator" "kinBits" "I") fwX1_isNear_1) (fun _ h9 => h9) rfl dX1_isNear_1 ?_
  refine lv_topi (fun x_1 ex_1 => ?_)
  refine lv_iload_n hx hb dX1_isNear_4 rfl (lv_at hl 2 rfl) ?_
  refine yc_p hP hS (va_runSN (As := [.int x_1, .int x0]) (rest := []) ⟨hx, hb, hml, hown, hts⟩ (c_X7_hasBit l x_1 x0) ⟨va_cnB 2 hts gX1_isNear_X7_hasBit_n51 rfl rfl rfl hE.2.2.2.2.2.2.2.2.2.2.1 (hts (.initialized RX7) fwX1_isNear_6) (by decide +kernel) ⟨Nat.le_of_ble_eq_true rfl, Nat.le_of_ble_eq_true rfl⟩, (hts (.static yX7_hasBit) fwX1_isNear_5), trivial⟩ ex_preP rfl rfl hl.1 rfl (lv_room (Nat.le_of_ble_eq_true rfl)) dX1_isNear_5 ⟨Nat.le_of_ble_eq_true rfl, Nat.le_of_ble_eq_true rfl⟩) (fun r_2 H locs hw_2 hP hS => ?_)
  rcases hw_2 with rfl | rfl
  · refine lv_if_ne (tgt := 27) hx hb dX1_isNear_8 (by decide) (fun c9 => absurd c9 (by decide)) (fun _ => ?_)
    refine lv_aload_n hx hb dX1_isNear_11 rfl (lv_at hl 1 rfl) ?_
    refine va_get (D := (dC, dI)) (ci := 2) (v := .int (v (25 + i) 0)) (C := RX2) (T := TX2) (N := 3) hx hb hts iwX1_isNear_X2 hown hK hP (25 + i) (wl_at (by omega) (ce_8 (kd_m i hi).1)) rfl 0 (by decide) (hts (.fieldLink RX1 62 "QuietStairs$Mediator" "floor" "I") fwX1_isNear_2) (fun _ h9 => h9) rfl dX1_isNear_12 ?_
    refine lv_topi (fun x_3 ex_3 => ?_)
    refine lv_aload_n hx hb dX1_isNear_15 rfl (lv_at hl 0 rfl) ?_
    refine va_get (D := (dC, dI)) (ci := 1) (v := .ref (ad 14)) (C := RX1) (T := TX1) (N := 7) hx hb hts iwX1_isNear_X1 hown hK hP (13) (wl_at (by omega) (ce_3 (by decide))) rfl 4 (by decide) (hts (.fieldLink RX1 11 "QuietStairs$House" "parties" "[LQuietStairs$Party;") fwX1_isNear_3) (fun _ h9 => h9) rfl dX1_isNear_16 ?_
    refine lv_iload_n hx hb dX1_isNear_19 rfl (lv_at hl 2 rfl) ?_
    obtain ⟨pi4, i4, hi4, ni4, mi4⟩ := t_in (x := x0) (n := 8) ⟨by omega, by omega⟩
    refine va_aldq hx hb hK hP (14) 1 (wl_at (by omega) (ce_4 (by decide))) rfl pi4 dX1_isNear_20 ?_
    refine W.eq (g2 := F0 m 21 ls [.ref (ad (17 + i4)), .int x_3]) (by rw [ni4, if_pos hi4, show 14 + 3 + i4 = 17 + i4 from by omega]; rfl) ?_
    refine va_get (D := (dC, dI)) (ci := 3) (v := .int (v (17 + i4) 0)) (C := RX3) (T := TX3) (N := 2) hx hb hts iwX1_isNear_X3 hown hK hP (17 + i4) (wl_at (by omega) (ce_7 (kd_p i4 hi4).1)) rfl 0 (by decide) (hts (.fieldLink RX1 65 "QuietStairs$Party" "floor" "I") fwX1_isNear_4) (fun _ h9 => h9) rfl dX1_isNear_21 ?_
    refine lv_topi (fun x_5 ex_5 => ?_)
    refine lv_icmp_ne (tgt := 31) hx hb dX1_isNear_24 (by decide) (fun c_6 => ?_) (fun c_6 => ?_)
    · have tc_6 : x_3.toInt ≠ x_5.toInt := fun q => absurd (Int32.toInt_inj.mp q) c_6
      refine lv_iconst (v := 0) hx hb dX1_isNear_31 (by decide) ?_
      exact W.zret (ty := .boolean) (v := 0) hx hb hr rfl (fun t ht hW => ⟨⟨0, v, rfl, ⟨hv, hfr, by decide⟩, by rw [ht]; exact hP, hD⟩, hS.F ht⟩) hS.2.2 dX1_isNear_32
    · have tc_6 : x_3.toInt = x_5.toInt := by rw [c_6]
      refine lv_iconst (v := 1) hx hb dX1_isNear_27 (by decide) ?_
      refine lv_goto (tgt := 32) hx hb dX1_isNear_28 (by decide) ?_
      exact W.zret (ty := .boolean) (v := 1) hx hb hr rfl (fun t ht hW => ⟨⟨1, v, rfl, ⟨hv, hfr, by decide⟩, by rw [ht]; exact hP, hD⟩, hS.F ht⟩) hS.2.2 dX1_isNear_32
  · refine lv_if_ne (tgt := 27) hx hb dX1_isNear_8 (by decide) (fun _ => ?_) (fun c9 => absurd c9 (by decide))
    refine lv_iconst (v := 1) hx hb dX1_isNear_27 (by decide) ?_
    refine lv_goto (tgt := 32) hx hb dX1_isNear_28 (by decide) ?_
    exact W.zret (ty := .boolean) (v := 1) hx hb hr rfl (fun t ht hW => ⟨⟨1, v, rfl, ⟨hv, hfr, by decide⟩, by rw [ht]; exact hP, hD⟩, hS.F ht⟩) hS.2.2 dX1_isNear_32

set_option maxHeartbeats 4000000 in
set_option maxRecDepth 100000 in
theorem g_X1_pairFits (l : Launch) (dC : Nat → ClassId) (dI : Nat → Nat → Nat) (cy : Nat → ClassId) (sz : Nat) (ad : Nat → Nat) (kv : Value) (N : Nat) (hN : 119 ≤ N) (v : Nat → Nat → Int32) (hv : Iv v) (x0 : Int32) (hs : 0 ≤ x0.toInt ∧ x0.toInt ≤ 5) (i : Nat) (hi : i < 6) (t1 t2 : Nat) : Met l yX1_pairFits wsX1_pairFits ({ frames := 2, cells := 0, slots := 0, locals := 128 }) (va_Pc [.ref (ad 13), .int x0, .ref (ad (29 + 15 * i))] (ex_PreT dC dI cy sz (wl ad kv cy N v) t1 t2)) (va_Qi (fun (r : Int32) (u : Nat → Nat → Int32) => Iv u ∧ Fe v u ∧ (r = 0 ∨ r = 1)) (fun u t => ex_Pst dC dI (va_A (wl ad kv cy N v) sz) (wl ad kv cy N u) t) (va_A (wl ad kv cy N v) sz)) 0 0 (va_A (wl ad kv cy N v) sz) := by
  refine Met.ofW (cc := cX1_pairFits) (maxL := 8) (ret := (some .boolean)) (by decide) rfl ?_
  intro p e s m args below meth c s₁ B hml hv
  obtain ⟨rfl, ⟨hsz, hE, hP, hK, hD0⟩, hSt⟩ := hv
  have hx := B.exec
  have hb := B.bytes
  have hr := B.returns
  have hts := atoms_spec (ws := wsX1_pairFits) B.pre
  have hown : s.vm.findClass RX1 = some m.cls := findClass_of_methodNamed B.named
  have hlocks := B.notSynchronized
  subst hsz
  have hD := hD0.self (sz := s.heap.size)
  generalize hAe : va_A (wl ad kv cy N v) s.heap.size = A at hD hSt ⊢
  have hA : ∀ q : Nat, s.heap.size ≤ q → A q := fun q h => by rw [← hAe]; exact Or.inr h
  have hS : va_S A s.heap s.heap [] := va_S.rf
  have hP : va_P (dC, dI) vwCl (wl ad kv cy N v) s.heap := hP
  have hl := lv_entry ([.ref (ad 13), .int x0, .ref (ad (29 + 15 * i))]) (n := 8) (Nat.le_of_ble_eq_true rfl)
  rw [lg_entry_eq]
  generalize (lg_sl ([.ref (ad 13), .int x0, .ref (ad (29 + 15 * i))]) ++ List.replicate (8 - (lg_sl ([.ref (ad 13), .int x0, .ref (ad (29 + 15 * i))])).length) Slot.unset).toArray = ls at hl ⊢
  have hl : lv_has ls 8 [(0, .ref (ad 13)), (1, .int x0), (2, .ref (ad (29 + 15 * i)))] := hl
  have hfr : Fe v v := Fe.rf
  refine lv_aload_n hx hb dX1_pairFits_0 rfl (lv_at hl 0 rfl) ?_
  refine va_get (D := (dC, dI)) (ci := 1) (v := .ref (ad 15)) (C := RX1) (T := TX1) (N := 7) hx hb hts iwX1_pairFits_X1 hown hK hP (13) (wl_at (by omega) (ce_3 (by decide))) rfl 5 (by decide) (hts (.fieldLink RX1 19 "QuietStairs$House" "mediators" "[LQuietStairs$Mediator;") fwX1_pairFits_1) (fun _ h9 => h9) rfl dX1_pairFits_1 ?_
  refine va_getsN hx hb hSt.2.1 hS hown (va_Nw.use rfl hE.2.2.2.2.2.2.2.2.2.2.2.2.2.2.1) (fun _ h => h) dX1_pairFits_4 ?_
  refine lv_iload_n hx hb dX1_pairFits_7 rfl (lv_at hl 1 rfl) ?_
  obtain ⟨pi1, i1, hi1, ni1, mi1⟩ := t_in (x := x0) (n := 6) ⟨by omega, by omega⟩
  refine va_ti (v := .int (st_l x0.toNatClampNeg)) hx hb hSt.2.2 hS pi1 rfl dX1_pairFits_8 ?_
  refine lv_topi (fun x_2 ex_2 => ?_)
  have bx_2 : 0 ≤ x_2.toInt ∧ x_2.toInt ≤ 3 := by rw [ex_2]; exact (st_b _).2
  obtain ⟨pi3, i3, hi3, ni3, mi3⟩ := t_in (x := x_2) (n := 4) ⟨by omega, by omega⟩
  refine va_aldq hx hb hK hP (15) 2 (wl_at (by omega) (ce_5 (by decide))) rfl pi3 dX1_pairFits_9 ?_
  refine W.eq (g2 := F0 m 10 ls [.ref (ad (25 + i3))]) (by rw [ni3, if_pos hi3, show 15 + 10 + i3 = 25 + i3 from by omega]; rfl) ?_
  refine lv_astore_n (lv' := [(3, .ref (ad (25 + i3))), (0, .ref (ad 13)), (1, .int x0), (2, .ref (ad (29 + 15 * i)))]) hx hb dX1_pairFits_10 rfl hl (by decide) rfl (fun ls hl => ?_)
  refine lv_aload_n hx hb dX1_pairFits_11 rfl (lv_at hl 1 rfl) ?_
  refine va_get (D := (dC, dI)) (ci := 1) (v := .ref (ad 15)) (C := RX1) (T := TX1) (N := 7) hx hb hts iwX1_pairFits_X1 hown hK hP (13) (wl_at (by omega) (ce_3 (by decide))) rfl 5 (by decide) (hts (.fieldLink RX1 19 "QuietStairs$House" "mediators" "[LQuietStairs$Mediator;") fwX1_pairFits_1) (fun _ h9 => h9) rfl dX1_pairFits_12 ?_
  refine va_getsN hx hb hSt.1.1 hS hown (va_Nw.use rfl hE.2.2.2.2.2.2.2.2.2.2.2.2.2.1) (fun _ h => h) dX1_pairFits_15 ?_
  refine lv_iload_n hx hb dX1_pairFits_18 rfl (lv_at hl 2 rfl) ?_
  refine va_ti (v := .int (st_o x0.toNatClampNeg)) hx hb hSt.1.2 hS pi1 rfl dX1_pairFits_19 ?_
  refine lv_topi (fun x_4 ex_4 => ?_)
  have bx_4 : 0 ≤ x_4.toInt ∧ x_4.toInt ≤ 3 := by rw [ex_4]; exact (st_b _).1
  obtain ⟨pi5, i5, hi5, ni5, mi5⟩ := t_in (x := x_4) (n := 4) ⟨by omega, by omega⟩
  refine va_aldq hx hb hK hP (15) 2 (wl_at (by omega) (ce_5 (by decide))) rfl pi5 dX1_pairFits_20 ?_
  refine W.eq (g2 := F0 m 21 ls [.ref (ad (25 + i5))]) (by rw [ni5, if_pos hi5, show 15 + 10 + i5 = 25 + i5 from by omega]; rfl) ?_
  refine lv_astore (lv' := [(4, .ref (ad (25 + i5))), (3, .ref (ad (25 + i3))), (0, .ref (ad 13)), (1, .int x0), (2, .ref (ad (29 + 15 * i)))]) hx hb dX1_pairFits_21 hl (by decide) rfl (fun ls hl => ?_)
  refine lv_aload_n hx hb dX1_pairFits_23 rfl (lv_at hl 1 rfl) ?_
  refine va_get (D := (dC, dI)) (ci := 2) (v := .int (v (25 + i3) 1)) (C := RX2) (T := TX2) (N := 3) hx hb hts iwX1_pairFits_X2 hown hK hP (25 + i3) (wl_at (by omega) (ce_8 (kd_m i3 hi3).1)) rfl 1 (by decide) (hts (.fieldLink RX1 43 "QuietStairs$Mediator" "tongues" "I") fwX1_pairFits_2) (fun _ h9 => h9) rfl dX1_pairFits_24 ?_
  refine lv_topi (fun x_6 ex_6 => ?_)
  refine lv_aload hx hb dX1_pairFits_27 (lv_at hl 0 rfl) ?_
  refine va_get (D := (dC, dI)) (ci := 2) (v := .int (v (25 + i5) 1)) (C := RX2) (T := TX2) (N := 3) hx hb hts iwX1_pairFits_X2 hown hK hP (25 + i5) (wl_at (by omega) (ce_8 (kd_m i5 hi5).1)) rfl 1 (by decide) (hts (.fieldLink RX1 43 "QuietStairs$Mediator" "tongues" "I") fwX1_pairFits_2) (fun _ h9 => h9) rfl dX1_pairFits_29 ?_
  refine lv_topi (fun x_7 ex_7 => ?_)
  refine lv_ior hx hb dX1_pairFits_32 ?_
  refine lv_topi (fun x_8 ex_8 => ?_)
  refine lv_istore (lv' := [(5, .int x_8), (4, .ref (ad (25 + i5))), (3, .ref (ad (25 + i3))), (0, .ref (ad 13)), (1, .int x0), (2, .ref (ad (29 + 15 * i)))]) hx hb dX1_pairFits_33 hl (by decide) rfl (fun ls hl => ?_)
  refine lv_iconst (v := 0) hx hb dX1_pairFits_35 (by decide) ?_
  refine lv_istore (lv' := [(6, .int 0), (5, .int x_8), (4, .ref (ad (25 + i5))), (3, .ref (ad (25 + i3))), (0, .ref (ad 13)), (1, .int x0), (2, .ref (ad (29 + 15 * i)))]) hx hb dX1_pairFits_36 hl (by decide) rfl (fun ls hl => ?_)
  have k_0 : (0 : Int32).toInt = 0 := by decide
  have hloop_9 : ∀ (n : Nat) (y9_6 : Int32) (u9 : Nat → Nat → Int32) (H : Heap) (locs : List Loc), 0 ≤ y9_6.toInt → y9_6.toInt ≤ 2 → (2 - y9_6.toInt).toNat < n → Iv u9 → Fe v u9 → va_P (dC, dI) vwCl (wl ad kv cy N u9) H → va_D A (wl ad kv cy N u9) → va_S A s.heap H locs → ∀ ls : Array Slot, lv_has ls 8 [(6, .int y9_6), (5, .int x_8), (4, .ref (ad (25 + i5))), (3, .ref (ad (25 + i3))), (0, .ref (ad 13)), (1, .int x0), (2, .ref (ad (29 + 15 * i)))] → W p l e (headSpec wsX1_pairFits ({ frames := 2, cells := 0, slots := 0, locals := 128 })).room s m [Value.ref (ad 13), Value.int x0, Value.ref (ad (29 + 15 * i))].toArray below meth c H locs 0 0 (MQ below (va_Qi (fun (r : Int32) (u : Nat → Nat → Int32) => Iv u ∧ Fe v u ∧ (r = 0 ∨ r = 1)) (fun u t => ex_Pst dC dI A (wl ad kv cy N u) t) A) [Value.ref (ad 13), Value.int x0, Value.ref (ad (29 + 15 * i))].toArray s 0 0 A) (F0 m 38 ls []) := by
    intro n
    induction n with
    | zero =>
      intro y9_6 u9 H locs ay9_6 by9_6 hm_9 hv hfr hP hD hS ls hl
      exact absurd hm_9 (by omega)
    | succ n ih_9 =>
      intro y9_6 u9 H locs ay9_6 by9_6 hm_9 hv hfr hP hD hS ls hl
      refine lv_iload hx hb dX1_pairFits_38 (lv_at hl 0 rfl) ?_
      refine lv_iconst (v := 2) hx hb dX1_pairFits_40 (by decide) ?_
      have k_2 : (2 : Int32).toInt = 2 := by decide
      refine lv_icmp_ge (tgt := 100) hx hb dX1_pairFits_41 (by decide) (fun c_10 => ?_) (fun c_10 => ?_)
      · have tc_10 : y9_6.toInt ≥ (2 : Int32).toInt := Int32.le_iff_toInt_le.mp c_10
        refine lv_iconst (v := 1) hx hb dX1_pairFits_100 (by decide) ?_
        exact W.zret (ty := .boolean) (v := 1) hx hb hr rfl (fun t ht hW => ⟨⟨1, u9, rfl, ⟨hv, hfr, by decide⟩, by rw [ht]; exact hP, hD⟩, hS.F ht⟩) hS.2.2 dX1_pairFits_101
      · have tc_10 : y9_6.toInt < (2 : Int32).toInt := Int32.lt_iff_toInt_lt.mp (Int32.not_le.mp c_10)
        refine lv_aload_n hx hb dX1_pairFits_44 rfl (lv_at hl 6 rfl) ?_
        refine va_get (D := (dC, dI)) (ci := 0) (v := .ref (ad (29 + 15 * i + 1))) (C := RX0) (T := TX0) (N := 11) hx hb hts iwX1_pairFits_X0 hown hK hP (29 + 15 * i) (wl_at (by omega) (ce_9 (kd_c i hi).1.1)) rfl 6 (by decide) (hts (.fieldLink RX1 46 "QuietStairs$Case" "parties" "[I") fwX1_pairFits_3) (fun _ h9 => h9) rfl dX1_pairFits_45 ?_
        refine W.eq (g2 := F0 m 48 ls [.ref (ad (30 + 15 * i))]) (by rw [show 29 + 15 * i + 1 = 30 + 15 * i from by omega]) ?_
        refine lv_iload hx hb dX1_pairFits_48 (lv_at hl 0 rfl) ?_
        obtain ⟨pi11, i11, hi11, ni11, mi11⟩ := t_in (x := y9_6) (n := 2) ⟨by omega, by omega⟩
        refine va_iald hx hb hK hP (30 + 15 * i) 0 (wl_at (by omega) (ce_10 (kd_c i hi).1.2.1)) rfl pi11 dX1_pairFits_50 ?_
        refine lv_topi (fun x_12 ex_12 => ?_)
        have bx_12 : 0 ≤ x_12.toInt ∧ x_12.toInt ≤ 7 := by rw [ex_12]; exact hv.at (K := 10) (kd_c i hi).1.2.1 rfl
        refine lv_istore (lv' := [(7, .int x_12), (6, .int y9_6), (5, .int x_8), (4, .ref (ad (25 + i5))), (3, .ref (ad (25 + i3))), (0, .ref (ad 13)), (1, .int x0), (2, .ref (ad (29 + 15 * i)))]) hx hb dX1_pairFits_51 hl (by decide) rfl (fun ls hl => ?_)
        refine lv_iload hx hb dX1_pairFits_53 (lv_at hl 2 rfl) ?_
        refine lv_aload_n hx hb dX1_pairFits_55 rfl (lv_at hl 5 rfl) ?_
        refine va_get (D := (dC, dI)) (ci := 1) (v := .ref (ad 14)) (C := RX1) (T := TX1) (N := 7) hx hb hts iwX1_pairFits_X1 hown hK hP (13) (wl_at (by omega) (ce_3 (by decide))) rfl 4 (by decide) (hts (.fieldLink RX1 11 "QuietStairs$House" "parties" "[LQuietStairs$Party;") fwX1_pairFits_4) (fun _ h9 => h9) rfl dX1_pairFits_56 ?_
        refine lv_iload hx hb dX1_pairFits_59 (lv_at hl 0 rfl) ?_
        obtain ⟨pi13, i13, hi13, ni13, mi13⟩ := t_in (x := x_12) (n := 8) ⟨by omega, by omega⟩
        refine va_aldq hx hb hK hP (14) 1 (wl_at (by omega) (ce_4 (by decide))) rfl pi13 dX1_pairFits_61 ?_
        refine W.eq (g2 := F0 m 62 ls [.ref (ad (17 + i13)), .int x_8]) (by rw [ni13, if_pos hi13, show 14 + 3 + i13 = 17 + i13 from by omega]; rfl) ?_
        refine va_get (D := (dC, dI)) (ci := 3) (v := .int (u9 (17 + i13) 1)) (C := RX3) (T := TX3) (N := 2) hx hb hts iwX1_pairFits_X3 hown hK hP (17 + i13) (wl_at (by omega) (ce_7 (kd_p i13 hi13).1)) rfl 1 (by decide) (hts (.fieldLink RX1 48 "QuietStairs$Party" "tongue" "I") fwX1_pairFits_5) (fun _ h9 => h9) rfl dX1_pairFits_62 ?_
        refine lv_topi (fun x_14 ex_14 => ?_)
        refine yc_p hP hS (va_runSN (As := [.int x_8, .int x_14]) (rest := []) ⟨hx, hb, hml, hown, hts⟩ (c_X7_hasBit l x_8 x_14) ⟨va_cnB 2 hts gX1_pairFits_X7_hasBit_n51 rfl rfl rfl hE.2.2.2.2.2.2.2.2.2.2.1 (hts (.initialized RX7) fwX1_pairFits_7) (by decide +kernel) ⟨Nat.le_of_ble_eq_true rfl, Nat.le_of_ble_eq_true rfl⟩, (hts (.static yX7_hasBit) fwX1_pairFits_6), trivial⟩ ex_preP rfl rfl hl.1 rfl (lv_room (Nat.le_of_ble_eq_true rfl)) dX1_pairFits_65 ⟨Nat.le_of_ble_eq_true rfl, Nat.le_of_ble_eq_true rfl⟩) (fun r_15 H locs hw_15 hP hS => ?_)
        rcases hw_15 with rfl | rfl
        · refine lv_if_eq (tgt := 92) hx hb dX1_pairFits_68 (by decide) (fun _ => ?_) (fun c9 => absurd c9 (by decide))
          refine lv_iconst (v := 0) hx hb dX1_pairFits_92 (by decide) ?_
          exact W.zret (ty := .boolean) (v := 0) hx hb hr rfl (fun t ht hW => ⟨⟨0, u9, rfl, ⟨hv, hfr, by decide⟩, by rw [ht]; exact hP, hD⟩, hS.F ht⟩) hS.2.2 dX1_pairFits_93
        · refine lv_if_eq (tgt := 92) hx hb dX1_pairFits_68 (by decide) (fun c9 => absurd c9 (by decide)) (fun _ => ?_)
          refine lv_aload_n hx hb dX1_pairFits_71 rfl (lv_at hl 5 rfl) ?_
          refine lv_aload_n hx hb dX1_pairFits_72 rfl (lv_at hl 4 rfl) ?_
          refine lv_iload hx hb dX1_pairFits_73 (lv_at hl 0 rfl) ?_
          refine yw_i (w1 := fun (u : Nat → Nat → Int32) => wl ad kv cy N u) hD hS hA (va_runV (As := [.ref (ad (25 + i3)), .int x_12]) (rest := []) ⟨hx, hb, hml, hown, hts⟩ (g_X1_isNear l dC dI cy _ ad kv N hN u9 hv i3 hi3 x_12 ⟨by omega, by omega⟩) (cwV 2 hts gX1_pairFits_X1_isNear rfl rfl rfl hd_V_X1_isNear_2 ⟨Nat.le_of_ble_eq_true rfl, Nat.le_of_ble_eq_true rfl⟩) (yw_preV hE hK hP hD (ci := 1) (q0 := 13) rfl (wl_at (by omega) (ce_3 (by decide)))) rfl rfl hl.1 rfl (lv_room (Nat.le_of_ble_eq_true rfl)) dX1_pairFits_75 ⟨Nat.le_of_ble_eq_true rfl, Nat.le_of_ble_eq_true rfl⟩) (fun r_16 v_16 H locs hw_16 hP hD hS => ?_)
          obtain ⟨hv, hw_16⟩ := hw_16
          have hs_16 : v_16 = u9 := hw_16.1
          have hfr : Fe v v_16 := by rw [hs_16]; exact hfr
          refine lv_if_ne (tgt := 92) hx hb dX1_pairFits_78 (by decide) (fun c_17 => ?_) (fun c_17 => ?_)
          · have tc_17 : r_16.toInt ≠ (0 : Int32).toInt := fun q => absurd (Int32.toInt_inj.mp q) c_17
            refine lv_iconst (v := 0) hx hb dX1_pairFits_92 (by decide) ?_
            exact W.zret (ty := .boolean) (v := 0) hx hb hr rfl (fun t ht hW => ⟨⟨0, v_16, rfl, ⟨hv, hfr, by decide⟩, by rw [ht]; exact hP, hD⟩, hS.F ht⟩) hS.2.2 dX1_pairFits_93
          · have tc_17 : r_16.toInt = (0 : Int32).toInt := by rw [c_17]
            refine lv_aload_n hx hb dX1_pairFits_81 rfl (lv_at hl 5 rfl) ?_
            refine lv_aload hx hb dX1_pairFits_82 (lv_at hl 3 rfl) ?_
            refine lv_iload hx hb dX1_pairFits_84 (lv_at hl 0 rfl) ?_
            refine yw_i (w1 := fun (u : Nat → Nat → Int32) => wl ad kv cy N u) hD hS hA (va_runV (As := [.ref (ad (25 + i5)), .int x_12]) (rest := []) ⟨hx, hb, hml, hown, hts⟩ (g_X1_isNear l dC dI cy _ ad kv N hN v_16 hv i5 hi5 x_12 ⟨by omega, by omega⟩) (cwV 2 hts gX1_pairFits_X1_isNear rfl rfl rfl hd_V_X1_isNear_2 ⟨Nat.le_of_ble_eq_true rfl, Nat.le_of_ble_eq_true rfl⟩) (yw_preV hE hK hP hD (ci := 1) (q0 := 13) rfl (wl_at (by omega) (ce_3 (by decide)))) rfl rfl hl.1 rfl (lv_room (Nat.le_of_ble_eq_true rfl)) dX1_pairFits_86 ⟨Nat.le_of_ble_eq_true rfl, Nat.le_of_ble_eq_true rfl⟩) (fun r_18 v_18 H locs hw_18 hP hD hS => ?_)
            obtain ⟨hv, hw_18⟩ := hw_18
            have hs_18 : v_18 = v_16 := hw_18.1
            have hfr : Fe v v_18 := by rw [hs_18]; exact hfr
            refine lv_if_eq (tgt := 94) hx hb dX1_pairFits_89 (by decide) (fun c_19 => ?_) (fun c_19 => ?_)
            · have tc_19 : r_18.toInt = (0 : Int32).toInt := by rw [c_19]
              obtain ⟨x_20, ex_20⟩ : ∃ y : Int32, y = y9_6 + 1 := ⟨_, rfl⟩
              refine lv_iinc (v := x_20) (lv' := [(6, .int x_20), (7, .int x_12), (5, .int x_8), (4, .ref (ad (25 + i5))), (3, .ref (ad (25 + i3))), (0, .ref (ad 13)), (1, .int x0), (2, .ref (ad (29 + 15 * i)))]) hx hb dX1_pairFits_94 hl (k := 1) rfl (by rw [ex_20]; rfl) (by decide) rfl (fun ls hl => ?_)
              have k_1 : (1 : Int32).toInt = 1 := by decide
              have tx_20 : x_20.toInt = y9_6.toInt + (1 : Int32).toInt := by rw [ex_20]; exact t_add ⟨by omega, by omega⟩
              refine lv_goto (tgt := 38) hx hb dX1_pairFits_97 (by decide) ?_
              exact ih_9 x_20 v_18 H locs (by omega) (by omega) (by omega) hv hfr hP hD hS ls (lv_sub hl [0, 2, 3, 4, 5, 6, 7] rfl)
            · have tc_19 : r_18.toInt ≠ (0 : Int32).toInt := fun q => absurd (Int32.toInt_inj.mp q) c_19
              refine lv_iconst (v := 0) hx hb dX1_pairFits_92 (by decide) ?_
              exact W.zret (ty := .boolean) (v := 0) hx hb hr rfl (fun t ht hW => ⟨⟨0, v_18, rfl, ⟨hv, hfr, by decide⟩, by rw [ht]; exact hP, hD⟩, hS.F ht⟩) hS.2.2 dX1_pairFits_93
  exact hloop_9 ((2 - (0 : Int32).toInt).toNat + 1) 0 v _ _ (by omega) (by omega) (by omega) hv hfr hP hD hS ls hl

set_option maxHeartbeats 4000000 in
set_option maxRecDepth 100000 in
theorem g_X7_maySit (l : Launch) (dC : Nat → ClassId) (dI : Nat → Nat → Nat) (cy : Nat → ClassId) (sz : Nat) (ad : Nat → Nat) (kv : Value) (N : Nat) (hN : 119 ≤ N) (v : Nat → Nat → Int32) (hv : Iv v) (x0 x1 : Int32) (t1 t2 : Nat) : Met l yX7_maySit wsX7_maySit ({ frames := 3, cells := 0, slots := 0, locals := 192 }) (va_Pc [.ref (ad 0), .int x0, .int x1] (ex_PreT dC dI cy sz (wl ad kv cy N v) t1 t2)) (va_Qi (fun (r : Int32) (u : Nat → Nat → Int32) => Iv u ∧ Fz v u) (fun u t => ex_Pst dC dI (va_A (wl ad kv cy N v) sz) (wl ad kv cy N u) t) (va_A (wl ad kv cy N v) sz)) 0 0 (va_A (wl ad kv cy N v) sz) := by
  refine Met.ofW (cc := cX7_maySit) (maxL := 3) (ret := (some .int)) (by decide) rfl ?_
  intro p e s m args below meth c s₁ B hml hv
  obtain ⟨rfl, ⟨hsz, hE, hP, hK, hD0⟩, hSt⟩ := hv
  have hx := B.exec
  have hb := B.bytes
  have hr := B.returns
  have hts := atoms_spec (ws := wsX7_maySit) B.pre
  have hown : s.vm.findClass RX7 = some m.cls := findClass_of_methodNamed B.named
  have hlocks := B.notSynchronized
  subst hsz
  have hD := hD0.self (sz := s.heap.size)
  generalize hAe : va_A (wl ad kv cy N v) s.heap.size = A at hD hSt ⊢
  have hA : ∀ q : Nat, s.heap.size ≤ q → A q := fun q h => by rw [← hAe]; exact Or.inr h
  have hS : va_S A s.heap s.heap [] := va_S.rf
  have hP : va_P (dC, dI) vwCl (wl ad kv cy N v) s.heap := hP
  have hl := lv_entry ([.ref (ad 0), .int x0, .int x1]) (n := 3) (Nat.le_of_ble_eq_true rfl)
  rw [lg_entry_eq]
  generalize (lg_sl ([.ref (ad 0), .int x0, .int x1]) ++ List.replicate (3 - (lg_sl ([.ref (ad 0), .int x0, .int x1])).length) Slot.unset).toArray = ls at hl ⊢
  have hl : lv_has ls 3 [(0, .ref (ad 0)), (1, .int x0), (2, .int x1)] := hl
  have hfr : Fz v v := Fz.rf
  refine lv_iload_n hx hb dX7_maySit_0 rfl (lv_at hl 1 rfl) ?_
  refine lv_iconst (v := 0) hx hb dX7_maySit_1 (by decide) ?_
  refine lv_iconst (v := 5) hx hb dX7_maySit_2 (by decide) ?_
  refine yc_p hP hS (va_runS (As := [.int x0, .int 0, .int 5]) (rest := []) ⟨hx, hb, hml, hown, hts⟩ (c_X7_isWithin l x0 0 5) (cwS 3 hts gX7_maySit_X7_isWithin rfl rfl rfl hd_S_X7_isWithin_3 ⟨Nat.le_of_ble_eq_true rfl, Nat.le_of_ble_eq_true rfl⟩) ex_preP rfl rfl hl.1 rfl (lv_room (Nat.le_of_ble_eq_true rfl)) dX7_maySit_3 ⟨Nat.le_of_ble_eq_true rfl, Nat.le_of_ble_eq_true rfl⟩) (fun r_1 H locs hw_1 hP hS => ?_)
  rcases wi_ca hw_1 with ⟨rfl, hc_2⟩ | ⟨rfl, hc_2⟩
  · have k_0 : (0 : Int32).toInt = 0 := by decide
    have k_5 : (5 : Int32).toInt = 5 := by decide
    have tc_2 := wi_tl hc_2
    refine lv_if_eq (tgt := 28) hx hb dX7_maySit_6 (by decide) (fun c9 => absurd c9 (by decide)) (fun _ => ?_)
    refine lv_aload_n hx hb dX7_maySit_9 rfl (lv_at hl 0 rfl) ?_
    refine va_get (D := (dC, dI)) (ci := 7) (v := .ref (ad 13)) (C := RX7) (T := TX7) (N := 5) hx hb hts iwX7_maySit_X7 hown hK hP (0) (wl_at (by omega) (ce_0 (by decide))) rfl 0 (by decide) (hts (.fieldLink RX7 12 "QuietStairs" "now" "LQuietStairs$House;") fwX7_maySit_1) (fun _ h9 => h9) rfl dX7_maySit_10 ?_
    refine lv_iload_n hx hb dX7_maySit_13 rfl (lv_at hl 1 rfl) ?_
    refine yw_i (w1 := fun (u : Nat → Nat → Int32) => wl ad kv cy N u) hD hS hA (va_runV (As := [.int x0]) (rest := []) ⟨hx, hb, hml, hown, hts⟩ (g_X1_hasPair l dC dI cy _ ad kv N hN v hv x0 ⟨by omega, by omega⟩ t1 t2) (cwV 1 hts gX7_maySit_X1_hasPair rfl rfl rfl hd_V_X1_hasPair_1 ⟨Nat.le_of_ble_eq_true rfl, Nat.le_of_ble_eq_true rfl⟩) ⟨ex_blindT, va_recv hK hP (ci := 1) (q0 := 13) rfl (wl_at (by omega) (ce_3 (by decide))), fun U hU hW => ⟨rfl, ((yw_preS (As := []) hE hK hP hD).2 U hU hW).2, hSt.go hS (yw_F hD hS hA) hU hW⟩⟩ rfl rfl hl.1 rfl (lv_room (Nat.le_of_ble_eq_true rfl)) dX7_maySit_14 ⟨Nat.le_of_ble_eq_true rfl, Nat.le_of_ble_eq_true rfl⟩) (fun r_3 v_3 H locs hw_3 hP hD hS => ?_)
    obtain ⟨hv, hw_3⟩ := hw_3
    have hs_3 : v_3 = v := hw_3.1
    have hfr : Fz v v_3 := by rw [hs_3]; exact hfr
    refine lv_if_eq (tgt := 28) hx hb dX7_maySit_17 (by decide) (fun c_4 => ?_) (fun c_4 => ?_)
    · have tc_4 : r_3.toInt = (0 : Int32).toInt := by rw [c_4]
      refine lv_iconst (v := (-1)) hx hb dX7_maySit_28 (by decide) ?_
      exact W.iret (v := (-1)) hx hb hr (fun t ht hW => ⟨⟨(-1), v_3, rfl, ⟨hv, hfr⟩, by rw [ht]; exact hP, hD⟩, hS.F ht⟩) hS.2.2 dX7_maySit_29
    · have tc_4 : r_3.toInt ≠ (0 : Int32).toInt := fun q => absurd (Int32.toInt_inj.mp q) c_4
      refine lv_aload_n hx hb dX7_maySit_20 rfl (lv_at hl 0 rfl) ?_
      refine lv_iload_n hx hb dX7_maySit_21 rfl (lv_at hl 2 rfl) ?_
      refine yw_i (w1 := fun (u : Nat → Nat → Int32) => wl ad kv cy N u) hD hS hA (va_runV (As := [.int x1]) (rest := []) ⟨hx, hb, hml, hown, hts⟩ (g_X7_isCase l dC dI cy _ ad kv N hN v_3 hv x1) (cwV 1 hts gX7_maySit_X7_isCase rfl rfl rfl hd_V_X7_isCase_1 ⟨Nat.le_of_ble_eq_true rfl, Nat.le_of_ble_eq_true rfl⟩) (yw_preV hE hK hP hD (ci := 7) (q0 := 0) rfl (wl_at (by omega) (ce_0 (by decide)))) rfl rfl hl.1 rfl (lv_room (Nat.le_of_ble_eq_true rfl)) dX7_maySit_22 ⟨Nat.le_of_ble_eq_true rfl, Nat.le_of_ble_eq_true rfl⟩) (fun r_5 v_5 H locs hw_5 hP hD hS => ?_)
      obtain ⟨hv, hw_5⟩ := hw_5
      obtain ⟨hu_5, hw_5⟩ := hw_5
      have hfr : Fz v v_5 := by rw [hu_5]; exact hfr
      rcases hw_5 with ⟨rfl, ha_6⟩ | ⟨rfl, -⟩
      · have hb_6 := hv.at (k := 13) (j := 2) (K := 3) (by decide) rfl
        have hb_6 : 0 ≤ x1.toInt ∧ x1.toInt < 6 := by omega
        refine lv_if_ne (tgt := 30) hx hb dX7_maySit_25 (by decide) (fun _ => ?_) (fun c9 => absurd c9 (by decide))
        refine lv_aload_n hx hb dX7_maySit_30 rfl (lv_at hl 0 rfl) ?_
        refine va_get (D := (dC, dI)) (ci := 7) (v := .ref (ad 13)) (C := RX7) (T := TX7) (N := 5) hx hb hts iwX7_maySit_X7 hown hK hP (0) (wl_at (by omega) (ce_0 (by decide))) rfl 0 (by decide) (hts (.fieldLink RX7 12 "QuietStairs" "now" "LQuietStairs$House;") fwX7_maySit_1) (fun _ h9 => h9) rfl dX7_maySit_31 ?_
        refine lv_iload_n hx hb dX7_maySit_34 rfl (lv_at hl 1 rfl) ?_
        refine lv_aload_n hx hb dX7_maySit_35 rfl (lv_at hl 0 rfl) ?_
        refine va_get (D := (dC, dI)) (ci := 7) (v := .ref (ad 13)) (C := RX7) (T := TX7) (N := 5) hx hb hts iwX7_maySit_X7 hown hK hP (0) (wl_at (by omega) (ce_0 (by decide))) rfl 0 (by decide) (hts (.fieldLink RX7 12 "QuietStairs" "now" "LQuietStairs$House;") fwX7_maySit_1) (fun _ h9 => h9) rfl dX7_maySit_36 ?_
        refine va_get (D := (dC, dI)) (ci := 1) (v := .ref (ad 16)) (C := RX1) (T := TX1) (N := 7) hx hb hts iwX7_maySit_X1 hown hK hP (13) (wl_at (by omega) (ce_3 (by decide))) rfl 6 (by decide) (hts (.fieldLink RX7 86 "QuietStairs$House" "cases" "[LQuietStairs$Case;") fwX7_maySit_2) (fun _ h9 => h9) rfl dX7_maySit_39 ?_
        refine lv_iload_n hx hb dX7_maySit_42 rfl (lv_at hl 2 rfl) ?_
        obtain ⟨pi7, i7, hi7, ni7, mi7⟩ := t_in (x := x1) (n := 6) ⟨by omega, by omega⟩
        refine va_aldq hx hb hK hP (16) 3 (wl_at (by omega) (ce_6 (by decide))) rfl pi7 dX7_maySit_43 ?_
        refine W.eq (g2 := F0 m 44 ls [.ref (ad (29 + 15 * i7)), .int x0, .ref (ad 13)]) (by rw [ni7, if_pos hi7, show 16 + 13 + 15 * i7 = 29 + 15 * i7 from by omega]; rfl) ?_
        refine yw_i (w1 := fun (u : Nat → Nat → Int32) => wl ad kv cy N u) hD hS hA (va_runV (As := [.int x0, .ref (ad (29 + 15 * i7))]) (rest := []) ⟨hx, hb, hml, hown, hts⟩ (g_X1_pairFits l dC dI cy _ ad kv N hN v_5 hv x0 ⟨by omega, by omega⟩ i7 hi7 t1 t2) (cwV 2 hts gX7_maySit_X1_pairFits rfl rfl rfl hd_V_X1_pairFits_2 ⟨Nat.le_of_ble_eq_true rfl, Nat.le_of_ble_eq_true rfl⟩) ⟨ex_blindT, va_recv hK hP (ci := 1) (q0 := 13) rfl (wl_at (by omega) (ce_3 (by decide))), fun U hU hW => ⟨rfl, ((yw_preS (As := []) hE hK hP hD).2 U hU hW).2, hSt.go hS (yw_F hD hS hA) hU hW⟩⟩ rfl rfl hl.1 rfl (lv_room (Nat.le_of_ble_eq_true rfl)) dX7_maySit_44 ⟨Nat.le_of_ble_eq_true rfl, Nat.le_of_ble_eq_true rfl⟩) (fun r_8 v_8 H locs hw_8 hP hD hS => ?_)
        obtain ⟨hv, hw_8⟩ := hw_8
        have hs_8 : v_8 = v_5 := hw_8.1
        have hfr : Fz v v_8 := by rw [hs_8]; exact hfr
        refine lv_if_eq (tgt := 54) hx hb dX7_maySit_47 (by decide) (fun c_9 => ?_) (fun c_9 => ?_)
        · have tc_9 : r_8.toInt = (0 : Int32).toInt := by rw [c_9]
          refine lv_iconst (v := 0) hx hb dX7_maySit_54 (by decide) ?_
          exact W.iret (v := 0) hx hb hr (fun t ht hW => ⟨⟨0, v_8, rfl, ⟨hv, hfr⟩, by rw [ht]; exact hP, hD⟩, hS.F ht⟩) hS.2.2 dX7_maySit_55
        · have tc_9 : r_8.toInt ≠ (0 : Int32).toInt := fun q => absurd (Int32.toInt_inj.mp q) c_9
          refine lv_iconst (v := 1) hx hb dX7_maySit_50 (by decide) ?_
          refine lv_goto (tgt := 55) hx hb dX7_maySit_51 (by decide) ?_
          exact W.iret (v := 1) hx hb hr (fun t ht hW => ⟨⟨1, v_8, rfl, ⟨hv, hfr⟩, by rw [ht]; exact hP, hD⟩, hS.F ht⟩) hS.2.2 dX7_maySit_55
      · refine lv_if_ne (tgt := 30) hx hb dX7_maySit_25 (by decide) (fun c9 => absurd c9 (by decide)) (fun _ => ?_)
        refine lv_iconst (v := (-1)) hx hb dX7_maySit_28 (by decide) ?_
        exact W.iret (v := (-1)) hx hb hr (fun t ht hW => ⟨⟨(-1), v_5, rfl, ⟨hv, hfr⟩, by rw [ht]; exact hP, hD⟩, hS.F ht⟩) hS.2.2 dX7_maySit_29
  · refine lv_if_eq (tgt := 28) hx hb dX7_maySit_6 (by decide) (fun _ => ?_) (fun c9 => absurd c9 (by decide))
    refine lv_iconst (v := (-1)) hx hb dX7_maySit_28 (by decide) ?_
    exact W.iret (v := (-1)) hx hb hr (fun t ht hW => ⟨⟨(-1), v, rfl, ⟨hv, hfr⟩, by rw [ht]; exact hP, hD⟩, hS.F ht⟩) hS.2.2 dX7_maySit_29
