set_option maxRecDepth 20000 in
theorem db_J6_bitCount_0f7a4_0 : (decode cJ6_bitCount_0f7a4 0 = .ok (.iload_n 0, 1)) ∧ (decode cJ6_bitCount_0f7a4 1 = .ok (.iload_n 0, 1)) ∧ (decode cJ6_bitCount_0f7a4 2 = .ok (.iconst 1, 1)) ∧ (decode cJ6_bitCount_0f7a4 3 = .ok (.iushr, 1)) ∧ (decode cJ6_bitCount_0f7a4 4 = .ok (.ldc_w 265, 3)) ∧ (decode cJ6_bitCount_0f7a4 7 = .ok (.iand, 1)) ∧ (decode cJ6_bitCount_0f7a4 8 = .ok (.isub, 1)) ∧ (decode cJ6_bitCount_0f7a4 9 = .ok (.istore_n 0, 1)) := by decide +kernel
theorem dJ6_bitCount_0f7a4_0 : decode cJ6_bitCount_0f7a4 0 = .ok (.iload_n 0, 1) := db_J6_bitCount_0f7a4_0.1
theorem dJ6_bitCount_0f7a4_1 : decode cJ6_bitCount_0f7a4 1 = .ok (.iload_n 0, 1) := db_J6_bitCount_0f7a4_0.2.1
theorem dJ6_bitCount_0f7a4_2 : decode cJ6_bitCount_0f7a4 2 = .ok (.iconst 1, 1) := db_J6_bitCount_0f7a4_0.2.2.1
theorem dJ6_bitCount_0f7a4_3 : decode cJ6_bitCount_0f7a4 3 = .ok (.iushr, 1) := db_J6_bitCount_0f7a4_0.2.2.2.1
theorem dJ6_bitCount_0f7a4_4 : decode cJ6_bitCount_0f7a4 4 = .ok (.ldc_w 265, 3) := db_J6_bitCount_0f7a4_0.2.2.2.2.1
theorem dJ6_bitCount_0f7a4_7 : decode cJ6_bitCount_0f7a4 7 = .ok (.iand, 1) := db_J6_bitCount_0f7a4_0.2.2.2.2.2.1
theorem dJ6_bitCount_0f7a4_8 : decode cJ6_bitCount_0f7a4 8 = .ok (.isub, 1) := db_J6_bitCount_0f7a4_0.2.2.2.2.2.2.1
theorem dJ6_bitCount_0f7a4_9 : decode cJ6_bitCount_0f7a4 9 = .ok (.istore_n 0, 1) := db_J6_bitCount_0f7a4_0.2.2.2.2.2.2.2
set_option maxRecDepth 20000 in
theorem db_J6_bitCount_0f7a4_10 : (decode cJ6_bitCount_0f7a4 10 = .ok (.iload_n 0, 1)) ∧ (decode cJ6_bitCount_0f7a4 11 = .ok (.ldc_w 266, 3)) ∧ (decode cJ6_bitCount_0f7a4 14 = .ok (.iand, 1)) ∧ (decode cJ6_bitCount_0f7a4 15 = .ok (.iload_n 0, 1)) ∧ (decode cJ6_bitCount_0f7a4 16 = .ok (.iconst 2, 1)) ∧ (decode cJ6_bitCount_0f7a4 17 = .ok (.iushr, 1)) ∧ (decode cJ6_bitCount_0f7a4 18 = .ok (.ldc_w 266, 3)) ∧ (decode cJ6_bitCount_0f7a4 21 = .ok (.iand, 1)) := by decide +kernel
theorem dJ6_bitCount_0f7a4_10 : decode cJ6_bitCount_0f7a4 10 = .ok (.iload_n 0, 1) := db_J6_bitCount_0f7a4_10.1
theorem dJ6_bitCount_0f7a4_11 : decode cJ6_bitCount_0f7a4 11 = .ok (.ldc_w 266, 3) := db_J6_bitCount_0f7a4_10.2.1
theorem dJ6_bitCount_0f7a4_14 : decode cJ6_bitCount_0f7a4 14 = .ok (.iand, 1) := db_J6_bitCount_0f7a4_10.2.2.1
theorem dJ6_bitCount_0f7a4_15 : decode cJ6_bitCount_0f7a4 15 = .ok (.iload_n 0, 1) := db_J6_bitCount_0f7a4_10.2.2.2.1
theorem dJ6_bitCount_0f7a4_16 : decode cJ6_bitCount_0f7a4 16 = .ok (.iconst 2, 1) := db_J6_bitCount_0f7a4_10.2.2.2.2.1
theorem dJ6_bitCount_0f7a4_17 : decode cJ6_bitCount_0f7a4 17 = .ok (.iushr, 1) := db_J6_bitCount_0f7a4_10.2.2.2.2.2.1
theorem dJ6_bitCount_0f7a4_18 : decode cJ6_bitCount_0f7a4 18 = .ok (.ldc_w 266, 3) := db_J6_bitCount_0f7a4_10.2.2.2.2.2.2.1
theorem dJ6_bitCount_0f7a4_21 : decode cJ6_bitCount_0f7a4 21 = .ok (.iand, 1) := db_J6_bitCount_0f7a4_10.2.2.2.2.2.2.2
set_option maxRecDepth 20000 in
theorem db_J6_bitCount_0f7a4_22 : (decode cJ6_bitCount_0f7a4 22 = .ok (.iadd, 1)) ∧ (decode cJ6_bitCount_0f7a4 23 = .ok (.istore_n 0, 1)) ∧ (decode cJ6_bitCount_0f7a4 24 = .ok (.iload_n 0, 1)) ∧ (decode cJ6_bitCount_0f7a4 25 = .ok (.iload_n 0, 1)) ∧ (decode cJ6_bitCount_0f7a4 26 = .ok (.iconst 4, 1)) ∧ (decode cJ6_bitCount_0f7a4 27 = .ok (.iushr, 1)) ∧ (decode cJ6_bitCount_0f7a4 28 = .ok (.iadd, 1)) ∧ (decode cJ6_bitCount_0f7a4 29 = .ok (.ldc_w 267, 3)) := by decide +kernel
theorem dJ6_bitCount_0f7a4_22 : decode cJ6_bitCount_0f7a4 22 = .ok (.iadd, 1) := db_J6_bitCount_0f7a4_22.1
theorem dJ6_bitCount_0f7a4_23 : decode cJ6_bitCount_0f7a4 23 = .ok (.istore_n 0, 1) := db_J6_bitCount_0f7a4_22.2.1
theorem dJ6_bitCount_0f7a4_24 : decode cJ6_bitCount_0f7a4 24 = .ok (.iload_n 0, 1) := db_J6_bitCount_0f7a4_22.2.2.1
theorem dJ6_bitCount_0f7a4_25 : decode cJ6_bitCount_0f7a4 25 = .ok (.iload_n 0, 1) := db_J6_bitCount_0f7a4_22.2.2.2.1
theorem dJ6_bitCount_0f7a4_26 : decode cJ6_bitCount_0f7a4 26 = .ok (.iconst 4, 1) := db_J6_bitCount_0f7a4_22.2.2.2.2.1
theorem dJ6_bitCount_0f7a4_27 : decode cJ6_bitCount_0f7a4 27 = .ok (.iushr, 1) := db_J6_bitCount_0f7a4_22.2.2.2.2.2.1
theorem dJ6_bitCount_0f7a4_28 : decode cJ6_bitCount_0f7a4 28 = .ok (.iadd, 1) := db_J6_bitCount_0f7a4_22.2.2.2.2.2.2.1
theorem dJ6_bitCount_0f7a4_29 : decode cJ6_bitCount_0f7a4 29 = .ok (.ldc_w 267, 3) := db_J6_bitCount_0f7a4_22.2.2.2.2.2.2.2
set_option maxRecDepth 20000 in
theorem db_J6_bitCount_0f7a4_32 : (decode cJ6_bitCount_0f7a4 32 = .ok (.iand, 1)) ∧ (decode cJ6_bitCount_0f7a4 33 = .ok (.istore_n 0, 1)) ∧ (decode cJ6_bitCount_0f7a4 34 = .ok (.iload_n 0, 1)) ∧ (decode cJ6_bitCount_0f7a4 35 = .ok (.iload_n 0, 1)) ∧ (decode cJ6_bitCount_0f7a4 36 = .ok (.bipush 8, 2)) ∧ (decode cJ6_bitCount_0f7a4 38 = .ok (.iushr, 1)) ∧ (decode cJ6_bitCount_0f7a4 39 = .ok (.iadd, 1)) ∧ (decode cJ6_bitCount_0f7a4 40 = .ok (.istore_n 0, 1)) := by decide +kernel
theorem dJ6_bitCount_0f7a4_32 : decode cJ6_bitCount_0f7a4 32 = .ok (.iand, 1) := db_J6_bitCount_0f7a4_32.1
theorem dJ6_bitCount_0f7a4_33 : decode cJ6_bitCount_0f7a4 33 = .ok (.istore_n 0, 1) := db_J6_bitCount_0f7a4_32.2.1
theorem dJ6_bitCount_0f7a4_34 : decode cJ6_bitCount_0f7a4 34 = .ok (.iload_n 0, 1) := db_J6_bitCount_0f7a4_32.2.2.1
theorem dJ6_bitCount_0f7a4_35 : decode cJ6_bitCount_0f7a4 35 = .ok (.iload_n 0, 1) := db_J6_bitCount_0f7a4_32.2.2.2.1
theorem dJ6_bitCount_0f7a4_36 : decode cJ6_bitCount_0f7a4 36 = .ok (.bipush 8, 2) := db_J6_bitCount_0f7a4_32.2.2.2.2.1
theorem dJ6_bitCount_0f7a4_38 : decode cJ6_bitCount_0f7a4 38 = .ok (.iushr, 1) := db_J6_bitCount_0f7a4_32.2.2.2.2.2.1
theorem dJ6_bitCount_0f7a4_39 : decode cJ6_bitCount_0f7a4 39 = .ok (.iadd, 1) := db_J6_bitCount_0f7a4_32.2.2.2.2.2.2.1
theorem dJ6_bitCount_0f7a4_40 : decode cJ6_bitCount_0f7a4 40 = .ok (.istore_n 0, 1) := db_J6_bitCount_0f7a4_32.2.2.2.2.2.2.2
set_option maxRecDepth 20000 in
theorem db_J6_bitCount_0f7a4_41 : (decode cJ6_bitCount_0f7a4 41 = .ok (.iload_n 0, 1)) ∧ (decode cJ6_bitCount_0f7a4 42 = .ok (.iload_n 0, 1)) ∧ (decode cJ6_bitCount_0f7a4 43 = .ok (.bipush 16, 2)) ∧ (decode cJ6_bitCount_0f7a4 45 = .ok (.iushr, 1)) ∧ (decode cJ6_bitCount_0f7a4 46 = .ok (.iadd, 1)) ∧ (decode cJ6_bitCount_0f7a4 47 = .ok (.istore_n 0, 1)) ∧ (decode cJ6_bitCount_0f7a4 48 = .ok (.iload_n 0, 1)) ∧ (decode cJ6_bitCount_0f7a4 49 = .ok (.bipush 63, 2)) := by decide +kernel
theorem dJ6_bitCount_0f7a4_41 : decode cJ6_bitCount_0f7a4 41 = .ok (.iload_n 0, 1) := db_J6_bitCount_0f7a4_41.1
theorem dJ6_bitCount_0f7a4_42 : decode cJ6_bitCount_0f7a4 42 = .ok (.iload_n 0, 1) := db_J6_bitCount_0f7a4_41.2.1
theorem dJ6_bitCount_0f7a4_43 : decode cJ6_bitCount_0f7a4 43 = .ok (.bipush 16, 2) := db_J6_bitCount_0f7a4_41.2.2.1
theorem dJ6_bitCount_0f7a4_45 : decode cJ6_bitCount_0f7a4 45 = .ok (.iushr, 1) := db_J6_bitCount_0f7a4_41.2.2.2.1
theorem dJ6_bitCount_0f7a4_46 : decode cJ6_bitCount_0f7a4 46 = .ok (.iadd, 1) := db_J6_bitCount_0f7a4_41.2.2.2.2.1
theorem dJ6_bitCount_0f7a4_47 : decode cJ6_bitCount_0f7a4 47 = .ok (.istore_n 0, 1) := db_J6_bitCount_0f7a4_41.2.2.2.2.2.1
theorem dJ6_bitCount_0f7a4_48 : decode cJ6_bitCount_0f7a4 48 = .ok (.iload_n 0, 1) := db_J6_bitCount_0f7a4_41.2.2.2.2.2.2.1
theorem dJ6_bitCount_0f7a4_49 : decode cJ6_bitCount_0f7a4 49 = .ok (.bipush 63, 2) := db_J6_bitCount_0f7a4_41.2.2.2.2.2.2.2
set_option maxRecDepth 20000 in
theorem db_J6_bitCount_0f7a4_51 : (decode cJ6_bitCount_0f7a4 51 = .ok (.iand, 1)) ∧ (decode cJ6_bitCount_0f7a4 52 = .ok (.ireturn, 1)) := by decide +kernel
theorem dJ6_bitCount_0f7a4_51 : decode cJ6_bitCount_0f7a4 51 = .ok (.iand, 1) := db_J6_bitCount_0f7a4_51.1
theorem dJ6_bitCount_0f7a4_52 : decode cJ6_bitCount_0f7a4 52 = .ok (.ireturn, 1) := db_J6_bitCount_0f7a4_51.2
set_option maxRecDepth 20000 in
theorem db_X0_judge_0 : (decode cX0_judge 0 = .ok (.aload_n 0, 1)) ∧ (decode cX0_judge 1 = .ok (.getfield 28, 3)) ∧ (decode cX0_judge 4 = .ok (.iload_n 1, 1)) ∧ (decode cX0_judge 5 = .ok (.aaload, 1)) ∧ (decode cX0_judge 6 = .ok (.astore_n 2, 1)) ∧ (decode cX0_judge 7 = .ok (.iconst 1, 1)) ∧ (decode cX0_judge 8 = .ok (.istore_n 3, 1)) ∧ (decode cX0_judge 9 = .ok (.aload_n 2, 1)) := by decide +kernel
theorem dX0_judge_0 : decode cX0_judge 0 = .ok (.aload_n 0, 1) := db_X0_judge_0.1
theorem dX0_judge_1 : decode cX0_judge 1 = .ok (.getfield 28, 3) := db_X0_judge_0.2.1
theorem dX0_judge_4 : decode cX0_judge 4 = .ok (.iload_n 1, 1) := db_X0_judge_0.2.2.1
theorem dX0_judge_5 : decode cX0_judge 5 = .ok (.aaload, 1) := db_X0_judge_0.2.2.2.1
theorem dX0_judge_6 : decode cX0_judge 6 = .ok (.astore_n 2, 1) := db_X0_judge_0.2.2.2.2.1
theorem dX0_judge_7 : decode cX0_judge 7 = .ok (.iconst 1, 1) := db_X0_judge_0.2.2.2.2.2.1
theorem dX0_judge_8 : decode cX0_judge 8 = .ok (.istore_n 3, 1) := db_X0_judge_0.2.2.2.2.2.2.1
theorem dX0_judge_9 : decode cX0_judge 9 = .ok (.aload_n 2, 1) := db_X0_judge_0.2.2.2.2.2.2.2
set_option maxRecDepth 20000 in
theorem db_X0_judge_10 : (decode cX0_judge 10 = .ok (.getfield 65, 3)) ∧ (decode cX0_judge 13 = .ok (.istore 4, 2)) ∧ (decode cX0_judge 15 = .ok (.iload 4, 2)) ∧ (decode cX0_judge 17 = .ok (.aload_n 2, 1)) ∧ (decode cX0_judge 18 = .ok (.getfield 68, 3)) ∧ (decode cX0_judge 21 = .ok (.if_icmp .gt 54, 3)) ∧ (decode cX0_judge 75 = .ok (.iload_n 3, 1)) ∧ (decode cX0_judge 76 = .ok (.ifCond .ne 5, 3)) := by decide +kernel
theorem dX0_judge_10 : decode cX0_judge 10 = .ok (.getfield 65, 3) := db_X0_judge_10.1
theorem dX0_judge_13 : decode cX0_judge 13 = .ok (.istore 4, 2) := db_X0_judge_10.2.1
theorem dX0_judge_15 : decode cX0_judge 15 = .ok (.iload 4, 2) := db_X0_judge_10.2.2.1
theorem dX0_judge_17 : decode cX0_judge 17 = .ok (.aload_n 2, 1) := db_X0_judge_10.2.2.2.1
theorem dX0_judge_18 : decode cX0_judge 18 = .ok (.getfield 68, 3) := db_X0_judge_10.2.2.2.2.1
theorem dX0_judge_21 : decode cX0_judge 21 = .ok (.if_icmp .gt 54, 3) := db_X0_judge_10.2.2.2.2.2.1
theorem dX0_judge_75 : decode cX0_judge 75 = .ok (.iload_n 3, 1) := db_X0_judge_10.2.2.2.2.2.2.1
theorem dX0_judge_76 : decode cX0_judge 76 = .ok (.ifCond .ne 5, 3) := db_X0_judge_10.2.2.2.2.2.2.2
set_option maxRecDepth 20000 in
theorem db_X0_judge_81 : (decode cX0_judge 81 = .ok (.aload_n 2, 1)) ∧ (decode cX0_judge 82 = .ok (.getfield 77, 3)) ∧ (decode cX0_judge 85 = .ok (.ifCond .eq 7, 3)) ∧ (decode cX0_judge 92 = .ok (.iconst 1, 1)) ∧ (decode cX0_judge 93 = .ok (.ireturn, 1)) ∧ (decode cX0_judge 88 = .ok (.iconst 0, 1)) ∧ (decode cX0_judge 89 = .ok (.goto 4, 3)) ∧ (decode cX0_judge 79 = .ok (.iconst 2, 1)) := by decide +kernel
theorem dX0_judge_81 : decode cX0_judge 81 = .ok (.aload_n 2, 1) := db_X0_judge_81.1
theorem dX0_judge_82 : decode cX0_judge 82 = .ok (.getfield 77, 3) := db_X0_judge_81.2.1
theorem dX0_judge_85 : decode cX0_judge 85 = .ok (.ifCond .eq 7, 3) := db_X0_judge_81.2.2.1
theorem dX0_judge_92 : decode cX0_judge 92 = .ok (.iconst 1, 1) := db_X0_judge_81.2.2.2.1
theorem dX0_judge_93 : decode cX0_judge 93 = .ok (.ireturn, 1) := db_X0_judge_81.2.2.2.2.1
theorem dX0_judge_88 : decode cX0_judge 88 = .ok (.iconst 0, 1) := db_X0_judge_81.2.2.2.2.2.1
theorem dX0_judge_89 : decode cX0_judge 89 = .ok (.goto 4, 3) := db_X0_judge_81.2.2.2.2.2.2.1
theorem dX0_judge_79 : decode cX0_judge 79 = .ok (.iconst 2, 1) := db_X0_judge_81.2.2.2.2.2.2.2
set_option maxRecDepth 20000 in
theorem db_X0_judge_80 : (decode cX0_judge 80 = .ok (.ireturn, 1)) ∧ (decode cX0_judge 24 = .ok (.aload_n 0, 1)) ∧ (decode cX0_judge 25 = .ok (.getfield 23, 3)) ∧ (decode cX0_judge 28 = .ok (.aload_n 2, 1)) ∧ (decode cX0_judge 29 = .ok (.getfield 71, 3)) ∧ (decode cX0_judge 32 = .ok (.aaload, 1)) ∧ (decode cX0_judge 33 = .ok (.iload 4, 2)) ∧ (decode cX0_judge 35 = .ok (.iaload, 1)) := by decide +kernel
theorem dX0_judge_80 : decode cX0_judge 80 = .ok (.ireturn, 1) := db_X0_judge_80.1
theorem dX0_judge_24 : decode cX0_judge 24 = .ok (.aload_n 0, 1) := db_X0_judge_80.2.1
theorem dX0_judge_25 : decode cX0_judge 25 = .ok (.getfield 23, 3) := db_X0_judge_80.2.2.1
theorem dX0_judge_28 : decode cX0_judge 28 = .ok (.aload_n 2, 1) := db_X0_judge_80.2.2.2.1
theorem dX0_judge_29 : decode cX0_judge 29 = .ok (.getfield 71, 3) := db_X0_judge_80.2.2.2.2.1
theorem dX0_judge_32 : decode cX0_judge 32 = .ok (.aaload, 1) := db_X0_judge_80.2.2.2.2.2.1
theorem dX0_judge_33 : decode cX0_judge 33 = .ok (.iload 4, 2) := db_X0_judge_80.2.2.2.2.2.2.1
theorem dX0_judge_35 : decode cX0_judge 35 = .ok (.iaload, 1) := db_X0_judge_80.2.2.2.2.2.2.2
set_option maxRecDepth 20000 in
theorem db_X0_judge_36 : (decode cX0_judge 36 = .ok (.istore 5, 2)) ∧ (decode cX0_judge 38 = .ok (.iload 5, 2)) ∧ (decode cX0_judge 40 = .ok (.aload_n 2, 1)) ∧ (decode cX0_judge 41 = .ok (.getfield 74, 3)) ∧ (decode cX0_judge 44 = .ok (.if_icmp .ne 16, 3)) ∧ (decode cX0_judge 60 = .ok (.iload 5, 2)) ∧ (decode cX0_judge 62 = .ok (.bipush 7, 2)) ∧ (decode cX0_judge 64 = .ok (.if_icmp .ne 5, 3)) := by decide +kernel
theorem dX0_judge_36 : decode cX0_judge 36 = .ok (.istore 5, 2) := db_X0_judge_36.1
theorem dX0_judge_38 : decode cX0_judge 38 = .ok (.iload 5, 2) := db_X0_judge_36.2.1
theorem dX0_judge_40 : decode cX0_judge 40 = .ok (.aload_n 2, 1) := db_X0_judge_36.2.2.1
theorem dX0_judge_41 : decode cX0_judge 41 = .ok (.getfield 74, 3) := db_X0_judge_36.2.2.2.1
theorem dX0_judge_44 : decode cX0_judge 44 = .ok (.if_icmp .ne 16, 3) := db_X0_judge_36.2.2.2.2.1
theorem dX0_judge_60 : decode cX0_judge 60 = .ok (.iload 5, 2) := db_X0_judge_36.2.2.2.2.2.1
theorem dX0_judge_62 : decode cX0_judge 62 = .ok (.bipush 7, 2) := db_X0_judge_36.2.2.2.2.2.2.1
theorem dX0_judge_64 : decode cX0_judge 64 = .ok (.if_icmp .ne 5, 3) := db_X0_judge_36.2.2.2.2.2.2.2
set_option maxRecDepth 20000 in
theorem db_X0_judge_69 : (decode cX0_judge 69 = .ok (.iinc 4 1, 3)) ∧ (decode cX0_judge 72 = .ok (.goto (-57), 3)) ∧ (decode cX0_judge 67 = .ok (.iconst 0, 1)) ∧ (decode cX0_judge 68 = .ok (.istore_n 3, 1)) ∧ (decode cX0_judge 47 = .ok (.aload_n 2, 1)) ∧ (decode cX0_judge 48 = .ok (.getfield 77, 3)) ∧ (decode cX0_judge 51 = .ok (.ifCond .eq 7, 3)) ∧ (decode cX0_judge 58 = .ok (.iconst 0, 1)) := by decide +kernel
theorem dX0_judge_69 : decode cX0_judge 69 = .ok (.iinc 4 1, 3) := db_X0_judge_69.1
theorem dX0_judge_72 : decode cX0_judge 72 = .ok (.goto (-57), 3) := db_X0_judge_69.2.1
theorem dX0_judge_67 : decode cX0_judge 67 = .ok (.iconst 0, 1) := db_X0_judge_69.2.2.1
theorem dX0_judge_68 : decode cX0_judge 68 = .ok (.istore_n 3, 1) := db_X0_judge_69.2.2.2.1
theorem dX0_judge_47 : decode cX0_judge 47 = .ok (.aload_n 2, 1) := db_X0_judge_69.2.2.2.2.1
theorem dX0_judge_48 : decode cX0_judge 48 = .ok (.getfield 77, 3) := db_X0_judge_69.2.2.2.2.2.1
theorem dX0_judge_51 : decode cX0_judge 51 = .ok (.ifCond .eq 7, 3) := db_X0_judge_69.2.2.2.2.2.2.1
theorem dX0_judge_58 : decode cX0_judge 58 = .ok (.iconst 0, 1) := db_X0_judge_69.2.2.2.2.2.2.2
set_option maxRecDepth 20000 in
theorem db_X0_judge_59 : (decode cX0_judge 59 = .ok (.ireturn, 1)) ∧ (decode cX0_judge 54 = .ok (.iconst 1, 1)) ∧ (decode cX0_judge 55 = .ok (.goto 4, 3)) := by decide +kernel
theorem dX0_judge_59 : decode cX0_judge 59 = .ok (.ireturn, 1) := db_X0_judge_59.1
theorem dX0_judge_54 : decode cX0_judge 54 = .ok (.iconst 1, 1) := db_X0_judge_59.2.1
theorem dX0_judge_55 : decode cX0_judge 55 = .ok (.goto 4, 3) := db_X0_judge_59.2.2
set_option maxRecDepth 20000 in
theorem db_X1_quarrelBits_0 : (decode cX1_quarrelBits 0 = .ok (.iconst 1, 1)) ∧ (decode cX1_quarrelBits 1 = .ok (.iload_n 1, 1)) ∧ (decode cX1_quarrelBits 2 = .ok (.ishl, 1)) ∧ (decode cX1_quarrelBits 3 = .ok (.istore_n 2, 1)) ∧ (decode cX1_quarrelBits 4 = .ok (.iconst 1, 1)) ∧ (decode cX1_quarrelBits 5 = .ok (.istore_n 3, 1)) ∧ (decode cX1_quarrelBits 6 = .ok (.iload_n 3, 1)) ∧ (decode cX1_quarrelBits 7 = .ok (.aload_n 0, 1)) := by decide +kernel
theorem dX1_quarrelBits_0 : decode cX1_quarrelBits 0 = .ok (.iconst 1, 1) := db_X1_quarrelBits_0.1
theorem dX1_quarrelBits_1 : decode cX1_quarrelBits 1 = .ok (.iload_n 1, 1) := db_X1_quarrelBits_0.2.1
theorem dX1_quarrelBits_2 : decode cX1_quarrelBits 2 = .ok (.ishl, 1) := db_X1_quarrelBits_0.2.2.1
theorem dX1_quarrelBits_3 : decode cX1_quarrelBits 3 = .ok (.istore_n 2, 1) := db_X1_quarrelBits_0.2.2.2.1
theorem dX1_quarrelBits_4 : decode cX1_quarrelBits 4 = .ok (.iconst 1, 1) := db_X1_quarrelBits_0.2.2.2.2.1
theorem dX1_quarrelBits_5 : decode cX1_quarrelBits 5 = .ok (.istore_n 3, 1) := db_X1_quarrelBits_0.2.2.2.2.2.1
theorem dX1_quarrelBits_6 : decode cX1_quarrelBits 6 = .ok (.iload_n 3, 1) := db_X1_quarrelBits_0.2.2.2.2.2.2.1
theorem dX1_quarrelBits_7 : decode cX1_quarrelBits 7 = .ok (.aload_n 0, 1) := db_X1_quarrelBits_0.2.2.2.2.2.2.2
set_option maxRecDepth 20000 in
theorem db_X1_quarrelBits_8 : (decode cX1_quarrelBits 8 = .ok (.getfield 66, 3)) ∧ (decode cX1_quarrelBits 11 = .ok (.if_icmp .ge 49, 3)) ∧ (decode cX1_quarrelBits 60 = .ok (.iload_n 2, 1)) ∧ (decode cX1_quarrelBits 61 = .ok (.ireturn, 1)) ∧ (decode cX1_quarrelBits 14 = .ok (.iconst 0, 1)) ∧ (decode cX1_quarrelBits 15 = .ok (.istore 4, 2)) ∧ (decode cX1_quarrelBits 17 = .ok (.iload 4, 2)) ∧ (decode cX1_quarrelBits 19 = .ok (.aload_n 0, 1)) := by decide +kernel
theorem dX1_quarrelBits_8 : decode cX1_quarrelBits 8 = .ok (.getfield 66, 3) := db_X1_quarrelBits_8.1
theorem dX1_quarrelBits_11 : decode cX1_quarrelBits 11 = .ok (.if_icmp .ge 49, 3) := db_X1_quarrelBits_8.2.1
theorem dX1_quarrelBits_60 : decode cX1_quarrelBits 60 = .ok (.iload_n 2, 1) := db_X1_quarrelBits_8.2.2.1
theorem dX1_quarrelBits_61 : decode cX1_quarrelBits 61 = .ok (.ireturn, 1) := db_X1_quarrelBits_8.2.2.2.1
theorem dX1_quarrelBits_14 : decode cX1_quarrelBits 14 = .ok (.iconst 0, 1) := db_X1_quarrelBits_8.2.2.2.2.1
theorem dX1_quarrelBits_15 : decode cX1_quarrelBits 15 = .ok (.istore 4, 2) := db_X1_quarrelBits_8.2.2.2.2.2.1
theorem dX1_quarrelBits_17 : decode cX1_quarrelBits 17 = .ok (.iload 4, 2) := db_X1_quarrelBits_8.2.2.2.2.2.2.1
theorem dX1_quarrelBits_19 : decode cX1_quarrelBits 19 = .ok (.aload_n 0, 1) := db_X1_quarrelBits_8.2.2.2.2.2.2.2
set_option maxRecDepth 20000 in
theorem db_X1_quarrelBits_20 : (decode cX1_quarrelBits 20 = .ok (.getfield 66, 3)) ∧ (decode cX1_quarrelBits 23 = .ok (.if_icmp .ge 31, 3)) ∧ (decode cX1_quarrelBits 54 = .ok (.iinc 3 1, 3)) ∧ (decode cX1_quarrelBits 57 = .ok (.goto (-51), 3)) ∧ (decode cX1_quarrelBits 26 = .ok (.iload_n 2, 1)) ∧ (decode cX1_quarrelBits 27 = .ok (.iload 4, 2)) ∧ (decode cX1_quarrelBits 29 = .ok (.invokestatic 51, 3)) ∧ (decode cX1_quarrelBits 32 = .ok (.ifCond .eq 16, 3)) := by decide +kernel
theorem dX1_quarrelBits_20 : decode cX1_quarrelBits 20 = .ok (.getfield 66, 3) := db_X1_quarrelBits_20.1
theorem dX1_quarrelBits_23 : decode cX1_quarrelBits 23 = .ok (.if_icmp .ge 31, 3) := db_X1_quarrelBits_20.2.1
theorem dX1_quarrelBits_54 : decode cX1_quarrelBits 54 = .ok (.iinc 3 1, 3) := db_X1_quarrelBits_20.2.2.1
theorem dX1_quarrelBits_57 : decode cX1_quarrelBits 57 = .ok (.goto (-51), 3) := db_X1_quarrelBits_20.2.2.2.1
theorem dX1_quarrelBits_26 : decode cX1_quarrelBits 26 = .ok (.iload_n 2, 1) := db_X1_quarrelBits_20.2.2.2.2.1
theorem dX1_quarrelBits_27 : decode cX1_quarrelBits 27 = .ok (.iload 4, 2) := db_X1_quarrelBits_20.2.2.2.2.2.1
set_option maxRecDepth 20000 in
theorem ggX1_quarrelBits_X7_hasBit : GoodIn wsX1_quarrelBits wsX7_hasBit := goodIn_r _ [6] rfl (by decide +kernel)
set_option maxRecDepth 20000 in
theorem gX1_quarrelBits_X7_hasBit_n51 : GoodIn wsX1_quarrelBits (wsX7_hasBit) := ggX1_quarrelBits_X7_hasBit
theorem dX1_quarrelBits_29 : decode cX1_quarrelBits 29 = .ok (.invokestatic 51, 3) := db_X1_quarrelBits_20.2.2.2.2.2.2.1
theorem dX1_quarrelBits_32 : decode cX1_quarrelBits 32 = .ok (.ifCond .eq 16, 3) := db_X1_quarrelBits_20.2.2.2.2.2.2.2
set_option maxRecDepth 20000 in
theorem db_X1_quarrelBits_48 : (decode cX1_quarrelBits 48 = .ok (.iinc 4 1, 3)) ∧ (decode cX1_quarrelBits 51 = .ok (.goto (-34), 3)) ∧ (decode cX1_quarrelBits 35 = .ok (.iload_n 2, 1)) ∧ (decode cX1_quarrelBits 36 = .ok (.aload_n 0, 1)) ∧ (decode cX1_quarrelBits 37 = .ok (.getfield 25, 3)) ∧ (decode cX1_quarrelBits 40 = .ok (.iload 4, 2)) ∧ (decode cX1_quarrelBits 42 = .ok (.aaload, 1)) ∧ (decode cX1_quarrelBits 43 = .ok (.getfield 69, 3)) := by decide +kernel
theorem dX1_quarrelBits_48 : decode cX1_quarrelBits 48 = .ok (.iinc 4 1, 3) := db_X1_quarrelBits_48.1
theorem dX1_quarrelBits_51 : decode cX1_quarrelBits 51 = .ok (.goto (-34), 3) := db_X1_quarrelBits_48.2.1
theorem dX1_quarrelBits_35 : decode cX1_quarrelBits 35 = .ok (.iload_n 2, 1) := db_X1_quarrelBits_48.2.2.1
theorem dX1_quarrelBits_36 : decode cX1_quarrelBits 36 = .ok (.aload_n 0, 1) := db_X1_quarrelBits_48.2.2.2.1
theorem dX1_quarrelBits_37 : decode cX1_quarrelBits 37 = .ok (.getfield 25, 3) := db_X1_quarrelBits_48.2.2.2.2.1
theorem dX1_quarrelBits_40 : decode cX1_quarrelBits 40 = .ok (.iload 4, 2) := db_X1_quarrelBits_48.2.2.2.2.2.1
theorem dX1_quarrelBits_42 : decode cX1_quarrelBits 42 = .ok (.aaload, 1) := db_X1_quarrelBits_48.2.2.2.2.2.2.1
theorem dX1_quarrelBits_43 : decode cX1_quarrelBits 43 = .ok (.getfield 69, 3) := db_X1_quarrelBits_48.2.2.2.2.2.2.2
set_option maxRecDepth 20000 in
theorem db_X1_quarrelBits_46 : (decode cX1_quarrelBits 46 = .ok (.ior, 1)) ∧ (decode cX1_quarrelBits 47 = .ok (.istore_n 2, 1)) := by decide +kernel
theorem dX1_quarrelBits_46 : decode cX1_quarrelBits 46 = .ok (.ior, 1) := db_X1_quarrelBits_46.1
theorem dX1_quarrelBits_47 : decode cX1_quarrelBits 47 = .ok (.istore_n 2, 1) := db_X1_quarrelBits_46.2
set_option maxRecDepth 20000 in
theorem db_X1_headOfQuarrel_0 : (decode cX1_headOfQuarrel 0 = .ok (.aload_n 0, 1)) ∧ (decode cX1_headOfQuarrel 1 = .ok (.iload_n 1, 1)) ∧ (decode cX1_headOfQuarrel 2 = .ok (.invokevirtual 72, 3)) ∧ (decode cX1_headOfQuarrel 5 = .ok (.istore_n 2, 1)) ∧ (decode cX1_headOfQuarrel 6 = .ok (.iconst 0, 1)) ∧ (decode cX1_headOfQuarrel 7 = .ok (.istore_n 3, 1)) ∧ (decode cX1_headOfQuarrel 8 = .ok (.iload_n 3, 1)) ∧ (decode cX1_headOfQuarrel 9 = .ok (.iload_n 1, 1)) := by decide +kernel
theorem dX1_headOfQuarrel_0 : decode cX1_headOfQuarrel 0 = .ok (.aload_n 0, 1) := db_X1_headOfQuarrel_0.1
theorem dX1_headOfQuarrel_1 : decode cX1_headOfQuarrel 1 = .ok (.iload_n 1, 1) := db_X1_headOfQuarrel_0.2.1
set_option maxRecDepth 20000 in
theorem ggX1_headOfQuarrel_X1_quarrelBits : GoodIn wsX1_headOfQuarrel wsX1_quarrelBits := goodIn_r _ [5, 6, 7, 8, 9, 10, 11, 12, 13, 14, 15, 16, 17, 18, 19, 20, 21, 22, 23, 24, 25, 26, 27, 28, 29] rfl (by decide +kernel)
set_option maxRecDepth 20000 in
theorem gX1_headOfQuarrel_X1_quarrelBits : GoodIn wsX1_headOfQuarrel (wsV RX1 72 RX1 yX1_quarrelBits wsX1_quarrelBits) := goodIn_app (goodIn_r _ [1, 2, 3, 4] rfl (by decide +kernel)) ggX1_headOfQuarrel_X1_quarrelBits
theorem dX1_headOfQuarrel_2 : decode cX1_headOfQuarrel 2 = .ok (.invokevirtual 72, 3) := db_X1_headOfQuarrel_0.2.2.1
theorem dX1_headOfQuarrel_5 : decode cX1_headOfQuarrel 5 = .ok (.istore_n 2, 1) := db_X1_headOfQuarrel_0.2.2.2.1
theorem dX1_headOfQuarrel_6 : decode cX1_headOfQuarrel 6 = .ok (.iconst 0, 1) := db_X1_headOfQuarrel_0.2.2.2.2.1
theorem dX1_headOfQuarrel_7 : decode cX1_headOfQuarrel 7 = .ok (.istore_n 3, 1) := db_X1_headOfQuarrel_0.2.2.2.2.2.1
theorem dX1_headOfQuarrel_8 : decode cX1_headOfQuarrel 8 = .ok (.iload_n 3, 1) := db_X1_headOfQuarrel_0.2.2.2.2.2.2.1
theorem dX1_headOfQuarrel_9 : decode cX1_headOfQuarrel 9 = .ok (.iload_n 1, 1) := db_X1_headOfQuarrel_0.2.2.2.2.2.2.2
set_option maxRecDepth 20000 in
theorem db_X1_headOfQuarrel_10 : (decode cX1_headOfQuarrel 10 = .ok (.if_icmp .ge 19, 3)) ∧ (decode cX1_headOfQuarrel 29 = .ok (.iload_n 1, 1)) ∧ (decode cX1_headOfQuarrel 30 = .ok (.ireturn, 1)) ∧ (decode cX1_headOfQuarrel 13 = .ok (.iload_n 2, 1)) ∧ (decode cX1_headOfQuarrel 14 = .ok (.iload_n 3, 1)) ∧ (decode cX1_headOfQuarrel 15 = .ok (.invokestatic 51, 3)) ∧ (decode cX1_headOfQuarrel 18 = .ok (.ifCond .eq 5, 3)) ∧ (decode cX1_headOfQuarrel 23 = .ok (.iinc 3 1, 3)) := by decide +kernel
theorem dX1_headOfQuarrel_10 : decode cX1_headOfQuarrel 10 = .ok (.if_icmp .ge 19, 3) := db_X1_headOfQuarrel_10.1
theorem dX1_headOfQuarrel_29 : decode cX1_headOfQuarrel 29 = .ok (.iload_n 1, 1) := db_X1_headOfQuarrel_10.2.1
theorem dX1_headOfQuarrel_30 : decode cX1_headOfQuarrel 30 = .ok (.ireturn, 1) := db_X1_headOfQuarrel_10.2.2.1
theorem dX1_headOfQuarrel_13 : decode cX1_headOfQuarrel 13 = .ok (.iload_n 2, 1) := db_X1_headOfQuarrel_10.2.2.2.1
theorem dX1_headOfQuarrel_14 : decode cX1_headOfQuarrel 14 = .ok (.iload_n 3, 1) := db_X1_headOfQuarrel_10.2.2.2.2.1
set_option maxRecDepth 20000 in
theorem ggX1_headOfQuarrel_X7_hasBit : GoodIn wsX1_headOfQuarrel wsX7_hasBit := goodIn_r _ [11] rfl (by decide +kernel)
set_option maxRecDepth 20000 in
theorem gX1_headOfQuarrel_X7_hasBit_n51 : GoodIn wsX1_headOfQuarrel (wsX7_hasBit) := ggX1_headOfQuarrel_X7_hasBit
theorem dX1_headOfQuarrel_15 : decode cX1_headOfQuarrel 15 = .ok (.invokestatic 51, 3) := db_X1_headOfQuarrel_10.2.2.2.2.2.1
theorem dX1_headOfQuarrel_18 : decode cX1_headOfQuarrel 18 = .ok (.ifCond .eq 5, 3) := db_X1_headOfQuarrel_10.2.2.2.2.2.2.1
theorem dX1_headOfQuarrel_23 : decode cX1_headOfQuarrel 23 = .ok (.iinc 3 1, 3) := db_X1_headOfQuarrel_10.2.2.2.2.2.2.2
set_option maxRecDepth 20000 in
theorem db_X1_headOfQuarrel_26 : (decode cX1_headOfQuarrel 26 = .ok (.goto (-18), 3)) ∧ (decode cX1_headOfQuarrel 21 = .ok (.iload_n 3, 1)) ∧ (decode cX1_headOfQuarrel 22 = .ok (.ireturn, 1)) := by decide +kernel
theorem dX1_headOfQuarrel_26 : decode cX1_headOfQuarrel 26 = .ok (.goto (-18), 3) := db_X1_headOfQuarrel_26.1
theorem dX1_headOfQuarrel_21 : decode cX1_headOfQuarrel 21 = .ok (.iload_n 3, 1) := db_X1_headOfQuarrel_26.2.1
theorem dX1_headOfQuarrel_22 : decode cX1_headOfQuarrel 22 = .ok (.ireturn, 1) := db_X1_headOfQuarrel_26.2.2
set_option maxRecDepth 20000 in
theorem db_X1_countQuarrels_0 : (decode cX1_countQuarrels 0 = .ok (.iconst 0, 1)) ∧ (decode cX1_countQuarrels 1 = .ok (.istore_n 1, 1)) ∧ (decode cX1_countQuarrels 2 = .ok (.iconst 0, 1)) ∧ (decode cX1_countQuarrels 3 = .ok (.istore_n 2, 1)) ∧ (decode cX1_countQuarrels 4 = .ok (.iload_n 2, 1)) ∧ (decode cX1_countQuarrels 5 = .ok (.aload_n 0, 1)) ∧ (decode cX1_countQuarrels 6 = .ok (.getfield 66, 3)) ∧ (decode cX1_countQuarrels 9 = .ok (.if_icmp .ge 21, 3)) := by decide +kernel
theorem dX1_countQuarrels_0 : decode cX1_countQuarrels 0 = .ok (.iconst 0, 1) := db_X1_countQuarrels_0.1
theorem dX1_countQuarrels_1 : decode cX1_countQuarrels 1 = .ok (.istore_n 1, 1) := db_X1_countQuarrels_0.2.1
theorem dX1_countQuarrels_2 : decode cX1_countQuarrels 2 = .ok (.iconst 0, 1) := db_X1_countQuarrels_0.2.2.1
theorem dX1_countQuarrels_3 : decode cX1_countQuarrels 3 = .ok (.istore_n 2, 1) := db_X1_countQuarrels_0.2.2.2.1
theorem dX1_countQuarrels_4 : decode cX1_countQuarrels 4 = .ok (.iload_n 2, 1) := db_X1_countQuarrels_0.2.2.2.2.1
theorem dX1_countQuarrels_5 : decode cX1_countQuarrels 5 = .ok (.aload_n 0, 1) := db_X1_countQuarrels_0.2.2.2.2.2.1
theorem dX1_countQuarrels_6 : decode cX1_countQuarrels 6 = .ok (.getfield 66, 3) := db_X1_countQuarrels_0.2.2.2.2.2.2.1
theorem dX1_countQuarrels_9 : decode cX1_countQuarrels 9 = .ok (.if_icmp .ge 21, 3) := db_X1_countQuarrels_0.2.2.2.2.2.2.2
set_option maxRecDepth 20000 in
theorem db_X1_countQuarrels_30 : (decode cX1_countQuarrels 30 = .ok (.iload_n 1, 1)) ∧ (decode cX1_countQuarrels 31 = .ok (.ireturn, 1)) ∧ (decode cX1_countQuarrels 12 = .ok (.aload_n 0, 1)) ∧ (decode cX1_countQuarrels 13 = .ok (.iload_n 2, 1)) ∧ (decode cX1_countQuarrels 14 = .ok (.invokevirtual 76, 3)) ∧ (decode cX1_countQuarrels 17 = .ok (.iload_n 2, 1)) ∧ (decode cX1_countQuarrels 18 = .ok (.if_icmp .ne 6, 3)) ∧ (decode cX1_countQuarrels 24 = .ok (.iinc 2 1, 3)) := by decide +kernel
theorem dX1_countQuarrels_30 : decode cX1_countQuarrels 30 = .ok (.iload_n 1, 1) := db_X1_countQuarrels_30.1
theorem dX1_countQuarrels_31 : decode cX1_countQuarrels 31 = .ok (.ireturn, 1) := db_X1_countQuarrels_30.2.1
theorem dX1_countQuarrels_12 : decode cX1_countQuarrels 12 = .ok (.aload_n 0, 1) := db_X1_countQuarrels_30.2.2.1
theorem dX1_countQuarrels_13 : decode cX1_countQuarrels 13 = .ok (.iload_n 2, 1) := db_X1_countQuarrels_30.2.2.2.1
set_option maxRecDepth 20000 in
theorem ggX1_countQuarrels_X1_headOfQuarrel : GoodIn wsX1_countQuarrels wsX1_headOfQuarrel := goodIn_r _ [6, 7, 8, 9, 5, 10, 1, 11, 12, 13, 14, 15, 16, 17, 18, 19, 20, 21, 22, 23, 24, 25, 26, 27, 28, 29, 30, 31, 32, 33] rfl (by decide +kernel)
set_option maxRecDepth 20000 in
theorem gX1_countQuarrels_X1_headOfQuarrel : GoodIn wsX1_countQuarrels (wsV RX1 76 RX1 yX1_headOfQuarrel wsX1_headOfQuarrel) := goodIn_app (goodIn_r _ [2, 3, 4, 5] rfl (by decide +kernel)) ggX1_countQuarrels_X1_headOfQuarrel
theorem dX1_countQuarrels_14 : decode cX1_countQuarrels 14 = .ok (.invokevirtual 76, 3) := db_X1_countQuarrels_30.2.2.2.2.1
theorem dX1_countQuarrels_17 : decode cX1_countQuarrels 17 = .ok (.iload_n 2, 1) := db_X1_countQuarrels_30.2.2.2.2.2.1
theorem dX1_countQuarrels_18 : decode cX1_countQuarrels 18 = .ok (.if_icmp .ne 6, 3) := db_X1_countQuarrels_30.2.2.2.2.2.2.1
theorem dX1_countQuarrels_24 : decode cX1_countQuarrels 24 = .ok (.iinc 2 1, 3) := db_X1_countQuarrels_30.2.2.2.2.2.2.2
set_option maxRecDepth 20000 in
theorem db_X1_countQuarrels_27 : (decode cX1_countQuarrels 27 = .ok (.goto (-23), 3)) ∧ (decode cX1_countQuarrels 21 = .ok (.iinc 1 1, 3)) := by decide +kernel
theorem dX1_countQuarrels_27 : decode cX1_countQuarrels 27 = .ok (.goto (-23), 3) := db_X1_countQuarrels_27.1
theorem dX1_countQuarrels_21 : decode cX1_countQuarrels 21 = .ok (.iinc 1 1, 3) := db_X1_countQuarrels_27.2
set_option maxRecDepth 20000 in
theorem db_X1_countJudged_0 : (decode cX1_countJudged 0 = .ok (.iconst 0, 1)) ∧ (decode cX1_countJudged 1 = .ok (.istore_n 2, 1)) ∧ (decode cX1_countJudged 2 = .ok (.iconst 0, 1)) ∧ (decode cX1_countJudged 3 = .ok (.istore_n 3, 1)) ∧ (decode cX1_countJudged 4 = .ok (.iload_n 3, 1)) ∧ (decode cX1_countJudged 5 = .ok (.aload_n 0, 1)) ∧ (decode cX1_countJudged 6 = .ok (.getfield 66, 3)) ∧ (decode cX1_countJudged 9 = .ok (.if_icmp .ge 50, 3)) := by decide +kernel
theorem dX1_countJudged_0 : decode cX1_countJudged 0 = .ok (.iconst 0, 1) := db_X1_countJudged_0.1
theorem dX1_countJudged_1 : decode cX1_countJudged 1 = .ok (.istore_n 2, 1) := db_X1_countJudged_0.2.1
theorem dX1_countJudged_2 : decode cX1_countJudged 2 = .ok (.iconst 0, 1) := db_X1_countJudged_0.2.2.1
theorem dX1_countJudged_3 : decode cX1_countJudged 3 = .ok (.istore_n 3, 1) := db_X1_countJudged_0.2.2.2.1
theorem dX1_countJudged_4 : decode cX1_countJudged 4 = .ok (.iload_n 3, 1) := db_X1_countJudged_0.2.2.2.2.1
theorem dX1_countJudged_5 : decode cX1_countJudged 5 = .ok (.aload_n 0, 1) := db_X1_countJudged_0.2.2.2.2.2.1
theorem dX1_countJudged_6 : decode cX1_countJudged 6 = .ok (.getfield 66, 3) := db_X1_countJudged_0.2.2.2.2.2.2.1
theorem dX1_countJudged_9 : decode cX1_countJudged 9 = .ok (.if_icmp .ge 50, 3) := db_X1_countJudged_0.2.2.2.2.2.2.2
set_option maxRecDepth 20000 in
theorem db_X1_countJudged_59 : (decode cX1_countJudged 59 = .ok (.iload_n 2, 1)) ∧ (decode cX1_countJudged 60 = .ok (.ireturn, 1)) ∧ (decode cX1_countJudged 12 = .ok (.iconst 0, 1)) ∧ (decode cX1_countJudged 13 = .ok (.istore 4, 2)) ∧ (decode cX1_countJudged 15 = .ok (.iload 4, 2)) ∧ (decode cX1_countJudged 17 = .ok (.aload_n 0, 1)) ∧ (decode cX1_countJudged 18 = .ok (.getfield 25, 3)) ∧ (decode cX1_countJudged 21 = .ok (.iload_n 3, 1)) := by decide +kernel
theorem dX1_countJudged_59 : decode cX1_countJudged 59 = .ok (.iload_n 2, 1) := db_X1_countJudged_59.1
theorem dX1_countJudged_60 : decode cX1_countJudged 60 = .ok (.ireturn, 1) := db_X1_countJudged_59.2.1
theorem dX1_countJudged_12 : decode cX1_countJudged 12 = .ok (.iconst 0, 1) := db_X1_countJudged_59.2.2.1
theorem dX1_countJudged_13 : decode cX1_countJudged 13 = .ok (.istore 4, 2) := db_X1_countJudged_59.2.2.2.1
theorem dX1_countJudged_15 : decode cX1_countJudged 15 = .ok (.iload 4, 2) := db_X1_countJudged_59.2.2.2.2.1
theorem dX1_countJudged_17 : decode cX1_countJudged 17 = .ok (.aload_n 0, 1) := db_X1_countJudged_59.2.2.2.2.2.1
theorem dX1_countJudged_18 : decode cX1_countJudged 18 = .ok (.getfield 25, 3) := db_X1_countJudged_59.2.2.2.2.2.2.1
theorem dX1_countJudged_21 : decode cX1_countJudged 21 = .ok (.iload_n 3, 1) := db_X1_countJudged_59.2.2.2.2.2.2.2
set_option maxRecDepth 20000 in
theorem db_X1_countJudged_22 : (decode cX1_countJudged 22 = .ok (.aaload, 1)) ∧ (decode cX1_countJudged 23 = .ok (.getfield 82, 3)) ∧ (decode cX1_countJudged 26 = .ok (.if_icmp .ge 27, 3)) ∧ (decode cX1_countJudged 53 = .ok (.iinc 3 1, 3)) ∧ (decode cX1_countJudged 56 = .ok (.goto (-52), 3)) ∧ (decode cX1_countJudged 29 = .ok (.aload_n 0, 1)) ∧ (decode cX1_countJudged 30 = .ok (.getfield 25, 3)) ∧ (decode cX1_countJudged 33 = .ok (.iload_n 3, 1)) := by decide +kernel
theorem dX1_countJudged_22 : decode cX1_countJudged 22 = .ok (.aaload, 1) := db_X1_countJudged_22.1
theorem dX1_countJudged_23 : decode cX1_countJudged 23 = .ok (.getfield 82, 3) := db_X1_countJudged_22.2.1
theorem dX1_countJudged_26 : decode cX1_countJudged 26 = .ok (.if_icmp .ge 27, 3) := db_X1_countJudged_22.2.2.1
theorem dX1_countJudged_53 : decode cX1_countJudged 53 = .ok (.iinc 3 1, 3) := db_X1_countJudged_22.2.2.2.1
theorem dX1_countJudged_56 : decode cX1_countJudged 56 = .ok (.goto (-52), 3) := db_X1_countJudged_22.2.2.2.2.1
theorem dX1_countJudged_29 : decode cX1_countJudged 29 = .ok (.aload_n 0, 1) := db_X1_countJudged_22.2.2.2.2.2.1
theorem dX1_countJudged_30 : decode cX1_countJudged 30 = .ok (.getfield 25, 3) := db_X1_countJudged_22.2.2.2.2.2.2.1
theorem dX1_countJudged_33 : decode cX1_countJudged 33 = .ok (.iload_n 3, 1) := db_X1_countJudged_22.2.2.2.2.2.2.2
set_option maxRecDepth 20000 in
theorem db_X1_countJudged_34 : (decode cX1_countJudged 34 = .ok (.aaload, 1)) ∧ (decode cX1_countJudged 35 = .ok (.iload 4, 2)) ∧ (decode cX1_countJudged 37 = .ok (.invokevirtual 85, 3)) ∧ (decode cX1_countJudged 40 = .ok (.iload_n 1, 1)) ∧ (decode cX1_countJudged 41 = .ok (.if_icmp .ne 6, 3)) ∧ (decode cX1_countJudged 47 = .ok (.iinc 4 1, 3)) ∧ (decode cX1_countJudged 50 = .ok (.goto (-35), 3)) ∧ (decode cX1_countJudged 44 = .ok (.iinc 2 1, 3)) := by decide +kernel
theorem dX1_countJudged_34 : decode cX1_countJudged 34 = .ok (.aaload, 1) := db_X1_countJudged_34.1
theorem dX1_countJudged_35 : decode cX1_countJudged 35 = .ok (.iload 4, 2) := db_X1_countJudged_34.2.1
set_option maxRecDepth 20000 in
theorem ggX1_countJudged_X0_judge : GoodIn wsX1_countJudged wsX0_judge := goodIn_r _ [8, 9, 10, 11, 12, 13, 14, 15, 23, 24, 25, 26, 27, 28, 29, 30, 31, 32, 33, 34, 35, 36, 37, 38] rfl (by decide +kernel)
set_option maxRecDepth 20000 in
theorem gX1_countJudged_X0_judge : GoodIn wsX1_countJudged (wsV RX1 85 RX0 yX0_judge wsX0_judge) := goodIn_app (goodIn_r _ [4, 5, 6, 7] rfl (by decide +kernel)) ggX1_countJudged_X0_judge
theorem dX1_countJudged_37 : decode cX1_countJudged 37 = .ok (.invokevirtual 85, 3) := db_X1_countJudged_34.2.2.1
theorem dX1_countJudged_40 : decode cX1_countJudged 40 = .ok (.iload_n 1, 1) := db_X1_countJudged_34.2.2.2.1
theorem dX1_countJudged_41 : decode cX1_countJudged 41 = .ok (.if_icmp .ne 6, 3) := db_X1_countJudged_34.2.2.2.2.1
theorem dX1_countJudged_47 : decode cX1_countJudged 47 = .ok (.iinc 4 1, 3) := db_X1_countJudged_34.2.2.2.2.2.1
theorem dX1_countJudged_50 : decode cX1_countJudged 50 = .ok (.goto (-35), 3) := db_X1_countJudged_34.2.2.2.2.2.2.1
theorem dX1_countJudged_44 : decode cX1_countJudged 44 = .ok (.iinc 2 1, 3) := db_X1_countJudged_34.2.2.2.2.2.2.2
set_option maxHeartbeats 4000000 in
set_option maxRecDepth 100000 in
theorem c_bitCount (l : Launch) (x0 : Int32) : Met l yJ6_bitCount_0f7a4 wsJ6_bitCount_0f7a4 ({ frames := 0, cells := 0, slots := 0, locals := 0 }) (va_Pc [.int x0] (fun _ => True)) (va_Qi (fun (r : Int32) (_ : Unit) => True) (fun _ _ => True) (fun _ => False)) 0 0 (fun _ => False) := by
  refine Met.ofW (cc := cJ6_bitCount_0f7a4) (maxL := 1) (ret := (some .int)) (by decide) rfl ?_
  intro p e s m args below meth c s₁ B hml hv
  obtain ⟨rfl, -⟩ := hv
  have hx := B.exec
  have hb := B.bytes
  have hr := B.returns
  have hts := atoms_spec (ws := wsJ6_bitCount_0f7a4) B.pre
  have hown : s.vm.findClass RJ6 = some m.cls := findClass_of_methodNamed B.named
  have hlocks := B.notSynchronized
  have hl := lv_entry ([.int x0]) (n := 1) (Nat.le_of_ble_eq_true rfl)
  rw [lg_entry_eq]
  generalize (lg_sl ([.int x0]) ++ List.replicate (1 - (lg_sl ([.int x0])).length) Slot.unset).toArray = ls at hl ⊢
  have hl : lv_has ls 1 [(0, .int x0)] := hl
  have hS : va_S (fun _ => False) s.heap s.heap [] := va_S.rf
  refine lv_iload_n hx hb dJ6_bitCount_0f7a4_0 rfl (lv_at hl 0 rfl) ?_
  refine lv_iload_n hx hb dJ6_bitCount_0f7a4_1 rfl (lv_at hl 0 rfl) ?_
  refine lv_iconst (v := 1) hx hb dJ6_bitCount_0f7a4_2 (by decide) ?_
  refine lv_iushr (v := _) hx hb dJ6_bitCount_0f7a4_3 rfl ?_
  refine lv_topi (fun x_1 ex_1 => ?_)
  refine lv_ldcw hx hb hown (hts (.constant RJ6 265 (1431655765)) fwJ6_bitCount_0f7a4_1) dJ6_bitCount_0f7a4_4 ?_
  refine lv_iand hx hb dJ6_bitCount_0f7a4_7 ?_
  refine lv_topi (fun x_2 ex_2 => ?_)
  refine lv_isub hx hb dJ6_bitCount_0f7a4_8 ?_
  refine lv_topi (fun x_3 ex_3 => ?_)
  refine lv_istore_n (lv' := [(0, .int x_3)]) hx hb dJ6_bitCount_0f7a4_9 rfl hl (by decide) rfl (fun ls hl => ?_)
  refine lv_iload_n hx hb dJ6_bitCount_0f7a4_10 rfl (lv_at hl 0 rfl) ?_
  refine lv_ldcw hx hb hown (hts (.constant RJ6 266 (858993459)) fwJ6_bitCount_0f7a4_2) dJ6_bitCount_0f7a4_11 ?_
  refine lv_iand hx hb dJ6_bitCount_0f7a4_14 ?_
  refine lv_topi (fun x_4 ex_4 => ?_)
  refine lv_iload_n hx hb dJ6_bitCount_0f7a4_15 rfl (lv_at hl 0 rfl) ?_
  refine lv_iconst (v := 2) hx hb dJ6_bitCount_0f7a4_16 (by decide) ?_
  refine lv_iushr (v := _) hx hb dJ6_bitCount_0f7a4_17 rfl ?_
  refine lv_topi (fun x_5 ex_5 => ?_)
  refine lv_ldcw hx hb hown (hts (.constant RJ6 266 (858993459)) fwJ6_bitCount_0f7a4_2) dJ6_bitCount_0f7a4_18 ?_
  refine lv_iand hx hb dJ6_bitCount_0f7a4_21 ?_
  refine lv_topi (fun x_6 ex_6 => ?_)
  refine lv_iadd hx hb dJ6_bitCount_0f7a4_22 ?_
  refine lv_topi (fun x_7 ex_7 => ?_)
  refine lv_istore_n (lv' := [(0, .int x_7)]) hx hb dJ6_bitCount_0f7a4_23 rfl hl (by decide) rfl (fun ls hl => ?_)
  refine lv_iload_n hx hb dJ6_bitCount_0f7a4_24 rfl (lv_at hl 0 rfl) ?_
  refine lv_iload_n hx hb dJ6_bitCount_0f7a4_25 rfl (lv_at hl 0 rfl) ?_
  refine lv_iconst (v := 4) hx hb dJ6_bitCount_0f7a4_26 (by decide) ?_
  refine lv_iushr (v := _) hx hb dJ6_bitCount_0f7a4_27 rfl ?_
  refine lv_topi (fun x_8 ex_8 => ?_)
  refine lv_iadd hx hb dJ6_bitCount_0f7a4_28 ?_
  refine lv_topi (fun x_9 ex_9 => ?_)
  refine lv_ldcw hx hb hown (hts (.constant RJ6 267 (252645135)) fwJ6_bitCount_0f7a4_3) dJ6_bitCount_0f7a4_29 ?_
  refine lv_iand hx hb dJ6_bitCount_0f7a4_32 ?_
  refine lv_topi (fun x_10 ex_10 => ?_)
  refine lv_istore_n (lv' := [(0, .int x_10)]) hx hb dJ6_bitCount_0f7a4_33 rfl hl (by decide) rfl (fun ls hl => ?_)
  refine lv_iload_n hx hb dJ6_bitCount_0f7a4_34 rfl (lv_at hl 0 rfl) ?_
  refine lv_iload_n hx hb dJ6_bitCount_0f7a4_35 rfl (lv_at hl 0 rfl) ?_
  refine lv_bipush (v := 8) hx hb dJ6_bitCount_0f7a4_36 (by decide) ?_
  refine lv_iushr (v := _) hx hb dJ6_bitCount_0f7a4_38 rfl ?_
  refine lv_topi (fun x_11 ex_11 => ?_)
  refine lv_iadd hx hb dJ6_bitCount_0f7a4_39 ?_
  refine lv_topi (fun x_12 ex_12 => ?_)
  refine lv_istore_n (lv' := [(0, .int x_12)]) hx hb dJ6_bitCount_0f7a4_40 rfl hl (by decide) rfl (fun ls hl => ?_)
  refine lv_iload_n hx hb dJ6_bitCount_0f7a4_41 rfl (lv_at hl 0 rfl) ?_
  refine lv_iload_n hx hb dJ6_bitCount_0f7a4_42 rfl (lv_at hl 0 rfl) ?_
  refine lv_bipush (v := 16) hx hb dJ6_bitCount_0f7a4_43 (by decide) ?_
  refine lv_iushr (v := _) hx hb dJ6_bitCount_0f7a4_45 rfl ?_
  refine lv_topi (fun x_13 ex_13 => ?_)
  refine lv_iadd hx hb dJ6_bitCount_0f7a4_46 ?_
  refine lv_topi (fun x_14 ex_14 => ?_)
  refine lv_istore_n (lv' := [(0, .int x_14)]) hx hb dJ6_bitCount_0f7a4_47 rfl hl (by decide) rfl (fun ls hl => ?_)
  refine lv_iload_n hx hb dJ6_bitCount_0f7a4_48 rfl (lv_at hl 0 rfl) ?_
  refine lv_bipush (v := 63) hx hb dJ6_bitCount_0f7a4_49 (by decide) ?_
  refine lv_iand hx hb dJ6_bitCount_0f7a4_51 ?_
  refine lv_topi (fun x_15 ex_15 => ?_)
  exact W.iret (v := x_15) hx hb hr (fun t ht hW => ⟨⟨x_15, (), rfl, trivial, trivial⟩, hS.F ht⟩) hS.2.2 dJ6_bitCount_0f7a4_52

set_option maxHeartbeats 4000000 in
set_option maxRecDepth 100000 in
theorem g_X0_judge (l : Launch) (dC : Nat → ClassId) (dI : Nat → Nat → Nat) (cy : Nat → ClassId) (sz : Nat) (ad : Nat → Nat) (kv : Value) (N : Nat) (hN : 119 ≤ N) (v : Nat → Nat → Int32) (hv : Iv v) (i : Nat) (hi : i < 6) (x0 : Int32) (hs : 0 ≤ x0.toInt ∧ x0.toInt ≤ 4) : Met l yX0_judge wsX0_judge ({ frames := 1, cells := 0, slots := 0, locals := 64 }) (va_Pc [.ref (ad (29 + 15 * i)), .int x0] (ex_Pre dC dI cy sz (wl ad kv cy N v))) (va_Qi (fun (r : Int32) (u : Nat → Nat → Int32) => Iv u ∧ Fz v u) (fun u t => ex_Pst dC dI (va_A (wl ad kv cy N v) sz) (wl ad kv cy N u) t) (va_A (wl ad kv cy N v) sz)) 0 0 (va_A (wl ad kv cy N v) sz) := by
  refine Met.ofW (cc := cX0_judge) (maxL := 6) (ret := (some .int)) (by decide) rfl ?_
  intro p e s m args below meth c s₁ B hml hv
  obtain ⟨rfl, hsz, hE, hP, hK, hD0⟩ := hv
  have hx := B.exec
  have hb := B.bytes
  have hr := B.returns
  have hts := atoms_spec (ws := wsX0_judge) B.pre
  have hown : s.vm.findClass RX0 = some m.cls := findClass_of_methodNamed B.named
  have hlocks := B.notSynchronized
  subst hsz
  have hD := hD0.self (sz := s.heap.size)
  generalize hAe : va_A (wl ad kv cy N v) s.heap.size = A at hD ⊢
  have hA : ∀ q : Nat, s.heap.size ≤ q → A q := fun q h => by rw [← hAe]; exact Or.inr h
  have hS : va_S A s.heap s.heap [] := va_S.rf
  have hP : va_P (dC, dI) vwCl (wl ad kv cy N v) s.heap := hP
  have hl := lv_entry ([.ref (ad (29 + 15 * i)), .int x0]) (n := 6) (Nat.le_of_ble_eq_true rfl)
  rw [lg_entry_eq]
  generalize (lg_sl ([.ref (ad (29 + 15 * i)), .int x0]) ++ List.replicate (6 - (lg_sl ([.ref (ad (29 + 15 * i)), .int x0])).length) Slot.unset).toArray = ls at hl ⊢
  have hl : lv_has ls 6 [(0, .ref (ad (29 + 15 * i))), (1, .int x0)] := hl
  have hfr : Fz v v := Fz.rf
  refine lv_aload_n hx hb dX0_judge_0 rfl (lv_at hl 0 rfl) ?_
  refine va_get (D := (dC, dI)) (ci := 0) (v := .ref (ad (29 + 15 * i + 9))) (C := RX0) (T := TX0) (N := 11) hx hb hts iwX0_judge_X0 hown hK hP (29 + 15 * i) (wl_at (by omega) (ce_9 (kd_c i hi).1.1)) rfl 10 (by decide) (hts (.fieldLink RX0 28 "QuietStairs$Case" "terms" "[LQuietStairs$Term;") fwX0_judge_1) (fun _ h9 => h9) rfl dX0_judge_1 ?_
  refine W.eq (g2 := F0 m 4 ls [.ref (ad (38 + 15 * i))]) (by rw [show 29 + 15 * i + 9 = 38 + 15 * i from by omega]) ?_
  refine lv_iload_n hx hb dX0_judge_4 rfl (lv_at hl 1 rfl) ?_
  obtain ⟨pi1, i1, hi1, ni1, mi1⟩ := t_in (x := x0) (n := 5) ⟨by omega, by omega⟩
  refine va_aldq hx hb hK hP (38 + 15 * i) 4 (wl_at (by omega) (ce_15 (kd_c i hi).1.2.2.2.2.2)) rfl pi1 dX0_judge_5 ?_
  refine W.eq (g2 := F0 m 6 ls [.ref (ad (39 + 15 * i + i1))]) (by rw [ni1, if_pos hi1, show 38 + 15 * i + 1 + i1 = 39 + 15 * i + i1 from by omega]; rfl) ?_
  refine lv_astore_n (lv' := [(2, .ref (ad (39 + 15 * i + i1))), (0, .ref (ad (29 + 15 * i))), (1, .int x0)]) hx hb dX0_judge_6 rfl hl (by decide) rfl (fun ls hl => ?_)
  refine lv_iconst (v := 1) hx hb dX0_judge_7 (by decide) ?_
  refine lv_istore_n (lv' := [(3, .int 1), (2, .ref (ad (39 + 15 * i + i1))), (0, .ref (ad (29 + 15 * i))), (1, .int x0)]) hx hb dX0_judge_8 rfl hl (by decide) rfl (fun ls hl => ?_)
  refine lv_aload_n hx hb dX0_judge_9 rfl (lv_at hl 1 rfl) ?_
  refine va_get (D := (dC, dI)) (ci := 6) (v := .int (v (39 + 15 * i + i1) 3)) (C := RX6) (T := TX6) (N := 5) hx hb hts iwX0_judge_X6 hown hK hP (39 + 15 * i + i1) (wl_at (by omega) (ce_16 (kd_t i hi i1 hi1).1)) rfl 3 (by decide) (hts (.fieldLink RX0 65 "QuietStairs$Term" "first" "I") fwX0_judge_2) (fun _ h9 => h9) rfl dX0_judge_10 ?_
  refine lv_topi (fun x_2 ex_2 => ?_)
  have bx_2 : 0 ≤ x_2.toInt ∧ x_2.toInt ≤ 23 := by rw [ex_2]; exact hv.at (K := 16) (kd_t i hi i1 hi1).1 rfl
  refine lv_istore (lv' := [(4, .int x_2), (3, .int 1), (2, .ref (ad (39 + 15 * i + i1))), (0, .ref (ad (29 + 15 * i))), (1, .int x0)]) hx hb dX0_judge_13 hl (by decide) rfl (fun ls hl => ?_)
  have k_1 : (1 : Int32).toInt = 1 := by decide
  have hloop_3 : ∀ (n : Nat) (y3_4 y3_3 : Int32) (u3 : Nat → Nat → Int32) (H : Heap) (locs : List Loc), 0 ≤ y3_4.toInt → y3_4.toInt ≤ 24 → (24 - y3_4.toInt).toNat < n → Iv u3 → Fz v u3 → va_P (dC, dI) vwCl (wl ad kv cy N u3) H → va_D A (wl ad kv cy N u3) → va_S A s.heap H locs → ∀ ls : Array Slot, lv_has ls 6 [(4, .int y3_4), (3, .int y3_3), (2, .ref (ad (39 + 15 * i + i1))), (0, .ref (ad (29 + 15 * i))), (1, .int x0)] → W p l e (headSpec wsX0_judge ({ frames := 1, cells := 0, slots := 0, locals := 64 })).room s m [Value.ref (ad (29 + 15 * i)), Value.int x0].toArray below meth c H locs 0 0 (MQ below (va_Qi (fun (r : Int32) (u : Nat → Nat → Int32) => Iv u ∧ Fz v u) (fun u t => ex_Pst dC dI A (wl ad kv cy N u) t) A) [Value.ref (ad (29 + 15 * i)), Value.int x0].toArray s 0 0 A) (F0 m 15 ls []) := by
    intro n
    induction n with
    | zero =>
      intro y3_4 y3_3 u3 H locs ay3_4 by3_4 hm_3 hv hfr hP hD hS ls hl
      exact absurd hm_3 (by omega)
    | succ n ih_3 =>
      intro y3_4 y3_3 u3 H locs ay3_4 by3_4 hm_3 hv hfr hP hD hS ls hl
      refine lv_iload hx hb dX0_judge_15 (lv_at hl 0 rfl) ?_
      refine lv_aload_n hx hb dX0_judge_17 rfl (lv_at hl 2 rfl) ?_
      refine va_get (D := (dC, dI)) (ci := 6) (v := .int (u3 (39 + 15 * i + i1) 4)) (C := RX6) (T := TX6) (N := 5) hx hb hts iwX0_judge_X6 hown hK hP (39 + 15 * i + i1) (wl_at (by omega) (ce_16 (kd_t i hi i1 hi1).1)) rfl 4 (by decide) (hts (.fieldLink RX0 68 "QuietStairs$Term" "last" "I") fwX0_judge_3) (fun _ h9 => h9) rfl dX0_judge_18 ?_
      refine lv_topi (fun x_4 ex_4 => ?_)
      have bx_4 : 0 ≤ x_4.toInt ∧ x_4.toInt ≤ 23 := by rw [ex_4]; exact hv.at (K := 16) (kd_t i hi i1 hi1).1 rfl
      refine lv_icmp_gt (tgt := 75) hx hb dX0_judge_21 (by decide) (fun c_5 => ?_) (fun c_5 => ?_)
      · have tc_5 : y3_4.toInt > x_4.toInt := Int32.lt_iff_toInt_lt.mp c_5
        refine lv_iload_n hx hb dX0_judge_75 rfl (lv_at hl 1 rfl) ?_
        have k_0 : (0 : Int32).toInt = 0 := by decide
        refine lv_if_ne (tgt := 81) hx hb dX0_judge_76 (by decide) (fun c_6 => ?_) (fun c_6 => ?_)
        · have tc_6 : y3_3.toInt ≠ (0 : Int32).toInt := fun q => absurd (Int32.toInt_inj.mp q) c_6
          refine lv_aload_n hx hb dX0_judge_81 rfl (lv_at hl 2 rfl) ?_
          refine va_get (D := (dC, dI)) (ci := 6) (v := .int (u3 (39 + 15 * i + i1) 1)) (C := RX6) (T := TX6) (N := 5) hx hb hts iwX0_judge_X6 hown hK hP (39 + 15 * i + i1) (wl_at (by omega) (ce_16 (kd_t i hi i1 hi1).1)) rfl 1 (by decide) (hts (.fieldLink RX0 77 "QuietStairs$Term" "must" "Z") fwX0_judge_7) (fun _ h9 => h9) rfl dX0_judge_82 ?_
          refine lv_topi (fun x_7 ex_7 => ?_)
          have bx_7 : 0 ≤ x_7.toInt ∧ x_7.toInt ≤ 1 := by rw [ex_7]; exact hv.at (K := 16) (kd_t i hi i1 hi1).1 rfl
          refine lv_if_eq (tgt := 92) hx hb dX0_judge_85 (by decide) (fun c_8 => ?_) (fun c_8 => ?_)
          · have tc_8 : x_7.toInt = (0 : Int32).toInt := by rw [c_8]
            refine lv_iconst (v := 1) hx hb dX0_judge_92 (by decide) ?_
            exact W.iret (v := 1) hx hb hr (fun t ht hW => ⟨⟨1, u3, rfl, ⟨hv, hfr⟩, by rw [ht]; exact hP, hD⟩, hS.F ht⟩) hS.2.2 dX0_judge_93
          · have tc_8 : x_7.toInt ≠ (0 : Int32).toInt := fun q => absurd (Int32.toInt_inj.mp q) c_8
            refine lv_iconst (v := 0) hx hb dX0_judge_88 (by decide) ?_
            refine lv_goto (tgt := 93) hx hb dX0_judge_89 (by decide) ?_
            exact W.iret (v := 0) hx hb hr (fun t ht hW => ⟨⟨0, u3, rfl, ⟨hv, hfr⟩, by rw [ht]; exact hP, hD⟩, hS.F ht⟩) hS.2.2 dX0_judge_93
        · have tc_6 : y3_3.toInt = (0 : Int32).toInt := by rw [c_6]
          refine lv_iconst (v := 2) hx hb dX0_judge_79 (by decide) ?_
          exact W.iret (v := 2) hx hb hr (fun t ht hW => ⟨⟨2, u3, rfl, ⟨hv, hfr⟩, by rw [ht]; exact hP, hD⟩, hS.F ht⟩) hS.2.2 dX0_judge_80
      · have tc_5 : y3_4.toInt ≤ x_4.toInt := Int32.le_iff_toInt_le.mp (Int32.not_lt.mp c_5)
        refine lv_aload_n hx hb dX0_judge_24 rfl (lv_at hl 3 rfl) ?_
        refine va_get (D := (dC, dI)) (ci := 0) (v := .ref (ad (29 + 15 * i + 6))) (C := RX0) (T := TX0) (N := 11) hx hb hts iwX0_judge_X0 hown hK hP (29 + 15 * i) (wl_at (by omega) (ce_9 (kd_c i hi).1.1)) rfl 9 (by decide) (hts (.fieldLink RX0 23 "QuietStairs$Case" "logs" "[[I") fwX0_judge_4) (fun _ h9 => h9) rfl dX0_judge_25 ?_
        refine W.eq (g2 := F0 m 28 ls [.ref (ad (35 + 15 * i))]) (by rw [show 29 + 15 * i + 6 = 35 + 15 * i from by omega]) ?_
        refine lv_aload_n hx hb dX0_judge_28 rfl (lv_at hl 2 rfl) ?_
        refine va_get (D := (dC, dI)) (ci := 6) (v := .int (u3 (39 + 15 * i + i1) 0)) (C := RX6) (T := TX6) (N := 5) hx hb hts iwX0_judge_X6 hown hK hP (39 + 15 * i + i1) (wl_at (by omega) (ce_16 (kd_t i hi i1 hi1).1)) rfl 0 (by decide) (hts (.fieldLink RX0 71 "QuietStairs$Term" "side" "I") fwX0_judge_5) (fun _ h9 => h9) rfl dX0_judge_29 ?_
        refine lv_topi (fun x_6 ex_6 => ?_)
        have bx_6 : 0 ≤ x_6.toInt ∧ x_6.toInt ≤ 1 := by rw [ex_6]; exact hv.at (K := 16) (kd_t i hi i1 hi1).1 rfl
        obtain ⟨pi7, i7, hi7, ni7, mi7⟩ := t_in (x := x_6) (n := 2) ⟨by omega, by omega⟩
        refine ya_ald hx hb hK hP (35 + 15 * i) (wl_at (by omega) (ce_13 (kd_c i hi).1.2.2.2.2.1)) pi7 dX0_judge_32 ?_
        refine W.eq (g2 := F0 m 33 ls [.ref (ad (36 + 15 * i + i7))]) (by rw [ni7, if_pos hi7, show 35 + 15 * i + 1 + i7 = 36 + 15 * i + i7 from by omega]; rfl) ?_
        refine lv_iload hx hb dX0_judge_33 (lv_at hl 0 rfl) ?_
        obtain ⟨pi8, i8, hi8, ni8, mi8⟩ := t_in (x := y3_4) (n := 24) ⟨by omega, by omega⟩
        refine va_iald hx hb hK hP (36 + 15 * i + i7) 0 (wl_at (by omega) (ce_14 (kd_o i hi i7 hi7).1.2)) rfl pi8 dX0_judge_35 ?_
        refine lv_topi (fun x_9 ex_9 => ?_)
        refine lv_istore (lv' := [(5, .int x_9), (4, .int y3_4), (3, .int y3_3), (2, .ref (ad (39 + 15 * i + i1))), (0, .ref (ad (29 + 15 * i))), (1, .int x0)]) hx hb dX0_judge_36 hl (by decide) rfl (fun ls hl => ?_)
        refine lv_iload hx hb dX0_judge_38 (lv_at hl 0 rfl) ?_
        refine lv_aload_n hx hb dX0_judge_40 rfl (lv_at hl 3 rfl) ?_
        refine va_get (D := (dC, dI)) (ci := 6) (v := .int (u3 (39 + 15 * i + i1) 2)) (C := RX6) (T := TX6) (N := 5) hx hb hts iwX0_judge_X6 hown hK hP (39 + 15 * i + i1) (wl_at (by omega) (ce_16 (kd_t i hi i1 hi1).1)) rfl 2 (by decide) (hts (.fieldLink RX0 74 "QuietStairs$Term" "act" "I") fwX0_judge_6) (fun _ h9 => h9) rfl dX0_judge_41 ?_
        refine lv_topi (fun x_10 ex_10 => ?_)
        refine lv_icmp_ne (tgt := 60) hx hb dX0_judge_44 (by decide) (fun c_11 => ?_) (fun c_11 => ?_)
        · have tc_11 : x_9.toInt ≠ x_10.toInt := fun q => absurd (Int32.toInt_inj.mp q) c_11
          refine lv_iload hx hb dX0_judge_60 (lv_at hl 0 rfl) ?_
          refine lv_bipush (v := 7) hx hb dX0_judge_62 (by decide) ?_
          have k_7 : (7 : Int32).toInt = 7 := by decide
          refine lv_icmp_ne (tgt := 69) hx hb dX0_judge_64 (by decide) (fun c_12 => ?_) (fun c_12 => ?_)
          · have tc_12 : x_9.toInt ≠ (7 : Int32).toInt := fun q => absurd (Int32.toInt_inj.mp q) c_12
            obtain ⟨x_13, ex_13⟩ : ∃ y : Int32, y = y3_4 + 1 := ⟨_, rfl⟩
            refine lv_iinc (v := x_13) (lv' := [(4, .int x_13), (5, .int x_9), (3, .int y3_3), (2, .ref (ad (39 + 15 * i + i1))), (0, .ref (ad (29 + 15 * i))), (1, .int x0)]) hx hb dX0_judge_69 hl (k := 1) rfl (by rw [ex_13]; rfl) (by decide) rfl (fun ls hl => ?_)
            have tx_13 : x_13.toInt = y3_4.toInt + (1 : Int32).toInt := by rw [ex_13]; exact t_add ⟨by omega, by omega⟩
            refine lv_goto (tgt := 15) hx hb dX0_judge_72 (by decide) ?_
            exact ih_3 x_13 y3_3 u3 H locs (by omega) (by omega) (by omega) hv hfr hP hD hS ls (lv_sub hl [0, 2, 3, 4, 5] rfl)
          · have tc_12 : x_9.toInt = (7 : Int32).toInt := by rw [c_12]
            refine lv_iconst (v := 0) hx hb dX0_judge_67 (by decide) ?_
            refine lv_istore_n (lv' := [(3, .int 0), (5, .int x_9), (4, .int y3_4), (2, .ref (ad (39 + 15 * i + i1))), (0, .ref (ad (29 + 15 * i))), (1, .int x0)]) hx hb dX0_judge_68 rfl hl (by decide) rfl (fun ls hl => ?_)
            obtain ⟨x_13, ex_13⟩ : ∃ y : Int32, y = y3_4 + 1 := ⟨_, rfl⟩
            refine lv_iinc (v := x_13) (lv' := [(4, .int x_13), (3, .int 0), (5, .int x_9), (2, .ref (ad (39 + 15 * i + i1))), (0, .ref (ad (29 + 15 * i))), (1, .int x0)]) hx hb dX0_judge_69 hl (k := 2) rfl (by rw [ex_13]; rfl) (by decide) rfl (fun ls hl => ?_)
            have tx_13 : x_13.toInt = y3_4.toInt + (1 : Int32).toInt := by rw [ex_13]; exact t_add ⟨by omega, by omega⟩
            refine lv_goto (tgt := 15) hx hb dX0_judge_72 (by decide) ?_
            have k_0 : (0 : Int32).toInt = 0 := by decide
            exact ih_3 x_13 0 u3 H locs (by omega) (by omega) (by omega) hv hfr hP hD hS ls (lv_sub hl [0, 1, 3, 4, 5] rfl)
        · have tc_11 : x_9.toInt = x_10.toInt := by rw [c_11]
          refine lv_aload_n hx hb dX0_judge_47 rfl (lv_at hl 3 rfl) ?_
          refine va_get (D := (dC, dI)) (ci := 6) (v := .int (u3 (39 + 15 * i + i1) 1)) (C := RX6) (T := TX6) (N := 5) hx hb hts iwX0_judge_X6 hown hK hP (39 + 15 * i + i1) (wl_at (by omega) (ce_16 (kd_t i hi i1 hi1).1)) rfl 1 (by decide) (hts (.fieldLink RX0 77 "QuietStairs$Term" "must" "Z") fwX0_judge_7) (fun _ h9 => h9) rfl dX0_judge_48 ?_
          refine lv_topi (fun x_12 ex_12 => ?_)
          have bx_12 : 0 ≤ x_12.toInt ∧ x_12.toInt ≤ 1 := by rw [ex_12]; exact hv.at (K := 16) (kd_t i hi i1 hi1).1 rfl
          have k_0 : (0 : Int32).toInt = 0 := by decide
          refine lv_if_eq (tgt := 58) hx hb dX0_judge_51 (by decide) (fun c_13 => ?_) (fun c_13 => ?_)
          · have tc_13 : x_12.toInt = (0 : Int32).toInt := by rw [c_13]
            refine lv_iconst (v := 0) hx hb dX0_judge_58 (by decide) ?_
            exact W.iret (v := 0) hx hb hr (fun t ht hW => ⟨⟨0, u3, rfl, ⟨hv, hfr⟩, by rw [ht]; exact hP, hD⟩, hS.F ht⟩) hS.2.2 dX0_judge_59
          · have tc_13 : x_12.toInt ≠ (0 : Int32).toInt := fun q => absurd (Int32.toInt_inj.mp q) c_13
            refine lv_iconst (v := 1) hx hb dX0_judge_54 (by decide) ?_
            refine lv_goto (tgt := 59) hx hb dX0_judge_55 (by decide) ?_
            exact W.iret (v := 1) hx hb hr (fun t ht hW => ⟨⟨1, u3, rfl, ⟨hv, hfr⟩, by rw [ht]; exact hP, hD⟩, hS.F ht⟩) hS.2.2 dX0_judge_59
  exact hloop_3 ((24 - (x_2 : Int32).toInt).toNat + 1) x_2 1 v _ _ (by omega) (by omega) (by omega) hv hfr hP hD hS ls hl

set_option maxHeartbeats 4000000 in
set_option maxRecDepth 100000 in
theorem g_X1_quarrelBits (l : Launch) (dC : Nat → ClassId) (dI : Nat → Nat → Nat) (cy : Nat → ClassId) (sz : Nat) (ad : Nat → Nat) (kv : Value) (N : Nat) (hN : 119 ≤ N) (v : Nat → Nat → Int32) (hv : Iv v)  (x0 : Int32) : Met l yX1_quarrelBits wsX1_quarrelBits ({ frames := 1, cells := 0, slots := 0, locals := 64 }) (va_Pc [.ref (ad 13), .int x0] (ex_Pre dC dI cy sz (wl ad kv cy N v))) (va_Qi (fun (r : Int32) (u : Nat → Nat → Int32) => Iv u ∧ Fz v u) (fun u t => ex_Pst dC dI (va_A (wl ad kv cy N v) sz) (wl ad kv cy N u) t) (va_A (wl ad kv cy N v) sz)) 0 0 (va_A (wl ad kv cy N v) sz) := by
  refine Met.ofW (cc := cX1_quarrelBits) (maxL := 5) (ret := (some .int)) (by decide) rfl ?_
  intro p e s m args below meth c s₁ B hml hv
  obtain ⟨rfl, hsz, hE, hP, hK, hD0⟩ := hv
  have hx := B.exec
  have hb := B.bytes
  have hr := B.returns
  have hts := atoms_spec (ws := wsX1_quarrelBits) B.pre
  have hown : s.vm.findClass RX1 = some m.cls := findClass_of_methodNamed B.named
  have hlocks := B.notSynchronized
  subst hsz
  have hD := hD0.self (sz := s.heap.size)
  generalize hAe : va_A (wl ad kv cy N v) s.heap.size = A at hD ⊢
  have hA : ∀ q : Nat, s.heap.size ≤ q → A q := fun q h => by rw [← hAe]; exact Or.inr h
  have hS : va_S A s.heap s.heap [] := va_S.rf
  have hP : va_P (dC, dI) vwCl (wl ad kv cy N v) s.heap := hP
  have hl := lv_entry ([.ref (ad 13), .int x0]) (n := 5) (Nat.le_of_ble_eq_true rfl)
  rw [lg_entry_eq]
  generalize (lg_sl ([.ref (ad 13), .int x0]) ++ List.replicate (5 - (lg_sl ([.ref (ad 13), .int x0])).length) Slot.unset).toArray = ls at hl ⊢
  have hl : lv_has ls 5 [(0, .ref (ad 13)), (1, .int x0)] := hl
  have hfr : Fz v v := Fz.rf
  refine lv_iconst (v := 1) hx hb dX1_quarrelBits_0 (by decide) ?_
  refine lv_iload_n hx hb dX1_quarrelBits_1 rfl (lv_at hl 1 rfl) ?_
  refine lv_ishl hx hb dX1_quarrelBits_2 ?_
  refine lv_topi (fun x_1 ex_1 => ?_)
  refine lv_istore_n (lv' := [(2, .int x_1), (0, .ref (ad 13)), (1, .int x0)]) hx hb dX1_quarrelBits_3 rfl hl (by decide) rfl (fun ls hl => ?_)
  refine lv_iconst (v := 1) hx hb dX1_quarrelBits_4 (by decide) ?_
  refine lv_istore_n (lv' := [(3, .int 1), (2, .int x_1), (0, .ref (ad 13)), (1, .int x0)]) hx hb dX1_quarrelBits_5 rfl hl (by decide) rfl (fun ls hl => ?_)
  have k_1 : (1 : Int32).toInt = 1 := by decide
  have hloop_2 : ∀ (n : Nat) (y2_3 y2_2 : Int32) (u2 : Nat → Nat → Int32) (H : Heap) (locs : List Loc), 1 ≤ y2_3.toInt → y2_3.toInt ≤ 6 → (6 - y2_3.toInt).toNat < n → Iv u2 → Fz v u2 → va_P (dC, dI) vwCl (wl ad kv cy N u2) H → va_D A (wl ad kv cy N u2) → va_S A s.heap H locs → ∀ ls : Array Slot, lv_has ls 5 [(3, .int y2_3), (2, .int y2_2), (0, .ref (ad 13)), (1, .int x0)] → W p l e (headSpec wsX1_quarrelBits ({ frames := 1, cells := 0, slots := 0, locals := 64 })).room s m [Value.ref (ad 13), Value.int x0].toArray below meth c H locs 0 0 (MQ below (va_Qi (fun (r : Int32) (u : Nat → Nat → Int32) => Iv u ∧ Fz v u) (fun u t => ex_Pst dC dI A (wl ad kv cy N u) t) A) [Value.ref (ad 13), Value.int x0].toArray s 0 0 A) (F0 m 6 ls []) := by
    intro n
    induction n with
    | zero =>
      intro y2_3 y2_2 u2 H locs ay2_3 by2_3 hm_2 hv hfr hP hD hS ls hl
      exact absurd hm_2 (by omega)
    | succ n ih_2 =>
      intro y2_3 y2_2 u2 H locs ay2_3 by2_3 hm_2 hv hfr hP hD hS ls hl
      refine lv_iload_n hx hb dX1_quarrelBits_6 rfl (lv_at hl 0 rfl) ?_
      refine lv_aload_n hx hb dX1_quarrelBits_7 rfl (lv_at hl 2 rfl) ?_
      refine va_get (D := (dC, dI)) (ci := 1) (v := .int (u2 (13) 2)) (C := RX1) (T := TX1) (N := 7) hx hb hts iwX1_quarrelBits_X1 hown hK hP (13) (wl_at (by omega) (ce_3 (by decide))) rfl 2 (by decide) (hts (.fieldLink RX1 66 "QuietStairs$House" "caseCount" "I") fwX1_quarrelBits_1) (fun _ h9 => h9) rfl dX1_quarrelBits_8 ?_
      refine lv_topi (fun x_3 ex_3 => ?_)
      have bx_3 : 0 ≤ x_3.toInt ∧ x_3.toInt ≤ 6 := by rw [ex_3]; exact hv.at (K := 3) (by decide) rfl
      refine lv_icmp_ge (tgt := 60) hx hb dX1_quarrelBits_11 (by decide) (fun c_4 => ?_) (fun c_4 => ?_)
      · have tc_4 : y2_3.toInt ≥ x_3.toInt := Int32.le_iff_toInt_le.mp c_4
        refine lv_iload_n hx hb dX1_quarrelBits_60 rfl (lv_at hl 1 rfl) ?_
        exact W.iret (v := y2_2) hx hb hr (fun t ht hW => ⟨⟨y2_2, u2, rfl, ⟨hv, hfr⟩, by rw [ht]; exact hP, hD⟩, hS.F ht⟩) hS.2.2 dX1_quarrelBits_61
      · have tc_4 : y2_3.toInt < x_3.toInt := Int32.lt_iff_toInt_lt.mp (Int32.not_le.mp c_4)
        refine lv_iconst (v := 0) hx hb dX1_quarrelBits_14 (by decide) ?_
        refine lv_istore (lv' := [(4, .int 0), (3, .int y2_3), (2, .int y2_2), (0, .ref (ad 13)), (1, .int x0)]) hx hb dX1_quarrelBits_15 hl (by decide) rfl (fun ls hl => ?_)
        have k_0 : (0 : Int32).toInt = 0 := by decide
        have hloop_5 : ∀ (n : Nat) (y5_4 y5_2 : Int32) (u5 : Nat → Nat → Int32) (H : Heap) (locs : List Loc), 0 ≤ y5_4.toInt → y5_4.toInt ≤ 6 → (6 - y5_4.toInt).toNat < n → Iv u5 → Fz v u5 → va_P (dC, dI) vwCl (wl ad kv cy N u5) H → va_D A (wl ad kv cy N u5) → va_S A s.heap H locs → ∀ ls : Array Slot, lv_has ls 5 [(4, .int y5_4), (3, .int y2_3), (2, .int y5_2), (0, .ref (ad 13)), (1, .int x0)] → W p l e (headSpec wsX1_quarrelBits ({ frames := 1, cells := 0, slots := 0, locals := 64 })).room s m [Value.ref (ad 13), Value.int x0].toArray below meth c H locs 0 0 (MQ below (va_Qi (fun (r : Int32) (u : Nat → Nat → Int32) => Iv u ∧ Fz v u) (fun u t => ex_Pst dC dI A (wl ad kv cy N u) t) A) [Value.ref (ad 13), Value.int x0].toArray s 0 0 A) (F0 m 17 ls []) := by
          intro n
          induction n with
          | zero =>
            intro y5_4 y5_2 u5 H locs ay5_4 by5_4 hm_5 hv hfr hP hD hS ls hl
            exact absurd hm_5 (by omega)
          | succ n ih_5 =>
            intro y5_4 y5_2 u5 H locs ay5_4 by5_4 hm_5 hv hfr hP hD hS ls hl
            refine lv_iload hx hb dX1_quarrelBits_17 (lv_at hl 0 rfl) ?_
            refine lv_aload_n hx hb dX1_quarrelBits_19 rfl (lv_at hl 3 rfl) ?_
            refine va_get (D := (dC, dI)) (ci := 1) (v := .int (u5 (13) 2)) (C := RX1) (T := TX1) (N := 7) hx hb hts iwX1_quarrelBits_X1 hown hK hP (13) (wl_at (by omega) (ce_3 (by decide))) rfl 2 (by decide) (hts (.fieldLink RX1 66 "QuietStairs$House" "caseCount" "I") fwX1_quarrelBits_1) (fun _ h9 => h9) rfl dX1_quarrelBits_20 ?_
            refine lv_topi (fun x_6 ex_6 => ?_)
            have bx_6 : 0 ≤ x_6.toInt ∧ x_6.toInt ≤ 6 := by rw [ex_6]; exact hv.at (K := 3) (by decide) rfl
            refine lv_icmp_ge (tgt := 54) hx hb dX1_quarrelBits_23 (by decide) (fun c_7 => ?_) (fun c_7 => ?_)
            · have tc_7 : y5_4.toInt ≥ x_6.toInt := Int32.le_iff_toInt_le.mp c_7
              obtain ⟨x_8, ex_8⟩ : ∃ y : Int32, y = y2_3 + 1 := ⟨_, rfl⟩
              refine lv_iinc (v := x_8) (lv' := [(3, .int x_8), (4, .int y5_4), (2, .int y5_2), (0, .ref (ad 13)), (1, .int x0)]) hx hb dX1_quarrelBits_54 hl (k := 1) rfl (by rw [ex_8]; rfl) (by decide) rfl (fun ls hl => ?_)
              have tx_8 : x_8.toInt = y2_3.toInt + (1 : Int32).toInt := by rw [ex_8]; exact t_add ⟨by omega, by omega⟩
              refine lv_goto (tgt := 6) hx hb dX1_quarrelBits_57 (by decide) ?_
              exact ih_2 x_8 y5_2 u5 H locs (by omega) (by omega) (by omega) hv hfr hP hD hS ls (lv_sub hl [0, 2, 3, 4] rfl)
            · have tc_7 : y5_4.toInt < x_6.toInt := Int32.lt_iff_toInt_lt.mp (Int32.not_le.mp c_7)
              refine lv_iload_n hx hb dX1_quarrelBits_26 rfl (lv_at hl 2 rfl) ?_
              refine lv_iload hx hb dX1_quarrelBits_27 (lv_at hl 0 rfl) ?_
              refine yc_p hP hS (va_runSN (As := [.int y5_2, .int y5_4]) (rest := []) ⟨hx, hb, hml, hown, hts⟩ (c_X7_hasBit l y5_2 y5_4) ⟨va_cnB 2 hts gX1_quarrelBits_X7_hasBit_n51 rfl rfl rfl hE.2.2.2.2.2.2.2.2.2.2.1 (hts (.initialized RX7) fwX1_quarrelBits_5) (by decide +kernel) ⟨Nat.le_of_ble_eq_true rfl, Nat.le_of_ble_eq_true rfl⟩, (hts (.static yX7_hasBit) fwX1_quarrelBits_4), trivial⟩ ex_preP rfl rfl hl.1 rfl (lv_room (Nat.le_of_ble_eq_true rfl)) dX1_quarrelBits_29 ⟨Nat.le_of_ble_eq_true rfl, Nat.le_of_ble_eq_true rfl⟩) (fun r_8 H locs hw_8 hP hS => ?_)
              rcases hw_8 with rfl | rfl
              · refine lv_if_eq (tgt := 48) hx hb dX1_quarrelBits_32 (by decide) (fun _ => ?_) (fun c9 => absurd c9 (by decide))
                obtain ⟨x_9, ex_9⟩ : ∃ y : Int32, y = y5_4 + 1 := ⟨_, rfl⟩
                refine lv_iinc (v := x_9) (lv' := [(4, .int x_9), (3, .int y2_3), (2, .int y5_2), (0, .ref (ad 13)), (1, .int x0)]) hx hb dX1_quarrelBits_48 hl (k := 0) rfl (by rw [ex_9]; rfl) (by decide) rfl (fun ls hl => ?_)
                have tx_9 : x_9.toInt = y5_4.toInt + (1 : Int32).toInt := by rw [ex_9]; exact t_add ⟨by omega, by omega⟩
                refine lv_goto (tgt := 17) hx hb dX1_quarrelBits_51 (by decide) ?_
                exact ih_5 x_9 y5_2 u5 H locs (by omega) (by omega) (by omega) hv hfr hP hD hS ls (lv_sub hl [0, 1, 2, 3, 4] rfl)
              · refine lv_if_eq (tgt := 48) hx hb dX1_quarrelBits_32 (by decide) (fun c9 => absurd c9 (by decide)) (fun _ => ?_)
                refine lv_iload_n hx hb dX1_quarrelBits_35 rfl (lv_at hl 2 rfl) ?_
                refine lv_aload_n hx hb dX1_quarrelBits_36 rfl (lv_at hl 3 rfl) ?_
                refine va_get (D := (dC, dI)) (ci := 1) (v := .ref (ad 16)) (C := RX1) (T := TX1) (N := 7) hx hb hts iwX1_quarrelBits_X1 hown hK hP (13) (wl_at (by omega) (ce_3 (by decide))) rfl 6 (by decide) (hts (.fieldLink RX1 25 "QuietStairs$House" "cases" "[LQuietStairs$Case;") fwX1_quarrelBits_2) (fun _ h9 => h9) rfl dX1_quarrelBits_37 ?_
                refine lv_iload hx hb dX1_quarrelBits_40 (lv_at hl 0 rfl) ?_
                obtain ⟨pi9, i9, hi9, ni9, mi9⟩ := t_in (x := y5_4) (n := 6) ⟨by omega, by omega⟩
                refine va_aldq hx hb hK hP (16) 3 (wl_at (by omega) (ce_6 (by decide))) rfl pi9 dX1_quarrelBits_42 ?_
                refine W.eq (g2 := F0 m 43 ls [.ref (ad (29 + 15 * i9)), .int y5_2]) (by rw [ni9, if_pos hi9, show 16 + 13 + 15 * i9 = 29 + 15 * i9 from by omega]; rfl) ?_
                refine va_get (D := (dC, dI)) (ci := 0) (v := .int (u5 (29 + 15 * i9) 4)) (C := RX0) (T := TX0) (N := 11) hx hb hts iwX1_quarrelBits_X0 hown hK hP (29 + 15 * i9) (wl_at (by omega) (ce_9 (kd_c i9 hi9).1.1)) rfl 4 (by decide) (hts (.fieldLink RX1 69 "QuietStairs$Case" "markedBits" "I") fwX1_quarrelBits_3) (fun _ h9 => h9) rfl dX1_quarrelBits_43 ?_
                refine lv_topi (fun x_10 ex_10 => ?_)
                refine lv_ior hx hb dX1_quarrelBits_46 ?_
                refine lv_topi (fun x_11 ex_11 => ?_)
                refine lv_istore_n (lv' := [(2, .int x_11), (4, .int y5_4), (3, .int y2_3), (0, .ref (ad 13)), (1, .int x0)]) hx hb dX1_quarrelBits_47 rfl hl (by decide) rfl (fun ls hl => ?_)
                obtain ⟨x_12, ex_12⟩ : ∃ y : Int32, y = y5_4 + 1 := ⟨_, rfl⟩
                refine lv_iinc (v := x_12) (lv' := [(4, .int x_12), (2, .int x_11), (3, .int y2_3), (0, .ref (ad 13)), (1, .int x0)]) hx hb dX1_quarrelBits_48 hl (k := 1) rfl (by rw [ex_12]; rfl) (by decide) rfl (fun ls hl => ?_)
                have tx_12 : x_12.toInt = y5_4.toInt + (1 : Int32).toInt := by rw [ex_12]; exact t_add ⟨by omega, by omega⟩
                refine lv_goto (tgt := 17) hx hb dX1_quarrelBits_51 (by decide) ?_
                exact ih_5 x_12 x_11 u5 H locs (by omega) (by omega) (by omega) hv hfr hP hD hS ls (lv_sub hl [0, 2, 1, 3, 4] rfl)
        exact hloop_5 ((6 - (0 : Int32).toInt).toNat + 1) 0 y2_2 u2 _ _ (by omega) (by omega) (by omega) hv hfr hP hD hS ls hl
  exact hloop_2 ((6 - (1 : Int32).toInt).toNat + 1) 1 x_1 v _ _ (by omega) (by omega) (by omega) hv hfr hP hD hS ls hl

set_option maxHeartbeats 4000000 in
set_option maxRecDepth 100000 in
theorem g_X1_headOfQuarrel (l : Launch) (dC : Nat → ClassId) (dI : Nat → Nat → Nat) (cy : Nat → ClassId) (sz : Nat) (ad : Nat → Nat) (kv : Value) (N : Nat) (hN : 119 ≤ N) (v : Nat → Nat → Int32) (hv : Iv v)  (x0 : Int32) (hs : 0 ≤ x0.toInt ∧ x0.toInt ≤ 5) : Met l yX1_headOfQuarrel wsX1_headOfQuarrel ({ frames := 2, cells := 0, slots := 0, locals := 128 }) (va_Pc [.ref (ad 13), .int x0] (ex_Pre dC dI cy sz (wl ad kv cy N v))) (va_Qi (fun (r : Int32) (u : Nat → Nat → Int32) => Iv u ∧ Fz v u) (fun u t => ex_Pst dC dI (va_A (wl ad kv cy N v) sz) (wl ad kv cy N u) t) (va_A (wl ad kv cy N v) sz)) 0 0 (va_A (wl ad kv cy N v) sz) := by
  refine Met.ofW (cc := cX1_headOfQuarrel) (maxL := 4) (ret := (some .int)) (by decide) rfl ?_
  intro p e s m args below meth c s₁ B hml hv
  obtain ⟨rfl, hsz, hE, hP, hK, hD0⟩ := hv
  have hx := B.exec
  have hb := B.bytes
  have hr := B.returns
  have hts := atoms_spec (ws := wsX1_headOfQuarrel) B.pre
  have hown : s.vm.findClass RX1 = some m.cls := findClass_of_methodNamed B.named
  have hlocks := B.notSynchronized
  subst hsz
  have hD := hD0.self (sz := s.heap.size)
  generalize hAe : va_A (wl ad kv cy N v) s.heap.size = A at hD ⊢
  have hA : ∀ q : Nat, s.heap.size ≤ q → A q := fun q h => by rw [← hAe]; exact Or.inr h
  have hS : va_S A s.heap s.heap [] := va_S.rf
  have hP : va_P (dC, dI) vwCl (wl ad kv cy N v) s.heap := hP
  have hl := lv_entry ([.ref (ad 13), .int x0]) (n := 4) (Nat.le_of_ble_eq_true rfl)
  rw [lg_entry_eq]
  generalize (lg_sl ([.ref (ad 13), .int x0]) ++ List.replicate (4 - (lg_sl ([.ref (ad 13), .int x0])).length) Slot.unset).toArray = ls at hl ⊢
  have hl : lv_has ls 4 [(0, .ref (ad 13)), (1, .int x0)] := hl
  have hfr : Fz v v := Fz.rf
  refine lv_aload_n hx hb dX1_headOfQuarrel_0 rfl (lv_at hl 0 rfl) ?_
  refine lv_iload_n hx hb dX1_headOfQuarrel_1 rfl (lv_at hl 1 rfl) ?_
  refine yw_i (w1 := fun (u : Nat → Nat → Int32) => wl ad kv cy N u) hD hS hA (va_runV (As := [.int x0]) (rest := []) ⟨hx, hb, hml, hown, hts⟩ (g_X1_quarrelBits l dC dI cy _ ad kv N hN v hv x0) (cwV 1 hts gX1_headOfQuarrel_X1_quarrelBits rfl rfl rfl hd_V_X1_quarrelBits_1 ⟨Nat.le_of_ble_eq_true rfl, Nat.le_of_ble_eq_true rfl⟩) (yw_preV hE hK hP hD (ci := 1) (q0 := 13) rfl (wl_at (by omega) (ce_3 (by decide)))) rfl rfl hl.1 rfl (lv_room (Nat.le_of_ble_eq_true rfl)) dX1_headOfQuarrel_2 ⟨Nat.le_of_ble_eq_true rfl, Nat.le_of_ble_eq_true rfl⟩) (fun r_1 v_1 H locs hw_1 hP hD hS => ?_)
  obtain ⟨hv, hw_1⟩ := hw_1
  have hfr : Fz v v_1 := hfr.trans hw_1
  refine lv_istore_n (lv' := [(2, .int r_1), (0, .ref (ad 13)), (1, .int x0)]) hx hb dX1_headOfQuarrel_5 rfl hl (by decide) rfl (fun ls hl => ?_)
  refine lv_iconst (v := 0) hx hb dX1_headOfQuarrel_6 (by decide) ?_
  refine lv_istore_n (lv' := [(3, .int 0), (2, .int r_1), (0, .ref (ad 13)), (1, .int x0)]) hx hb dX1_headOfQuarrel_7 rfl hl (by decide) rfl (fun ls hl => ?_)
  have k_0 : (0 : Int32).toInt = 0 := by decide
  have hloop_2 : ∀ (n : Nat) (y2_3 : Int32) (u2 : Nat → Nat → Int32) (H : Heap) (locs : List Loc), 0 ≤ y2_3.toInt → y2_3.toInt ≤ 6 → (6 - y2_3.toInt).toNat < n → Iv u2 → Fz v u2 → va_P (dC, dI) vwCl (wl ad kv cy N u2) H → va_D A (wl ad kv cy N u2) → va_S A s.heap H locs → ∀ ls : Array Slot, lv_has ls 4 [(3, .int y2_3), (2, .int r_1), (0, .ref (ad 13)), (1, .int x0)] → W p l e (headSpec wsX1_headOfQuarrel ({ frames := 2, cells := 0, slots := 0, locals := 128 })).room s m [Value.ref (ad 13), Value.int x0].toArray below meth c H locs 0 0 (MQ below (va_Qi (fun (r : Int32) (u : Nat → Nat → Int32) => Iv u ∧ Fz v u) (fun u t => ex_Pst dC dI A (wl ad kv cy N u) t) A) [Value.ref (ad 13), Value.int x0].toArray s 0 0 A) (F0 m 8 ls []) := by
    intro n
    induction n with
    | zero =>
      intro y2_3 u2 H locs ay2_3 by2_3 hm_2 hv hfr hP hD hS ls hl
      exact absurd hm_2 (by omega)
    | succ n ih_2 =>
      intro y2_3 u2 H locs ay2_3 by2_3 hm_2 hv hfr hP hD hS ls hl
      refine lv_iload_n hx hb dX1_headOfQuarrel_8 rfl (lv_at hl 0 rfl) ?_
      refine lv_iload_n hx hb dX1_headOfQuarrel_9 rfl (lv_at hl 3 rfl) ?_
      refine lv_icmp_ge (tgt := 29) hx hb dX1_headOfQuarrel_10 (by decide) (fun c_3 => ?_) (fun c_3 => ?_)
      · have tc_3 : y2_3.toInt ≥ x0.toInt := Int32.le_iff_toInt_le.mp c_3
        refine lv_iload_n hx hb dX1_headOfQuarrel_29 rfl (lv_at hl 3 rfl) ?_
        exact W.iret (v := x0) hx hb hr (fun t ht hW => ⟨⟨x0, u2, rfl, ⟨hv, hfr⟩, by rw [ht]; exact hP, hD⟩, hS.F ht⟩) hS.2.2 dX1_headOfQuarrel_30
      · have tc_3 : y2_3.toInt < x0.toInt := Int32.lt_iff_toInt_lt.mp (Int32.not_le.mp c_3)
        refine lv_iload_n hx hb dX1_headOfQuarrel_13 rfl (lv_at hl 1 rfl) ?_
        refine lv_iload_n hx hb dX1_headOfQuarrel_14 rfl (lv_at hl 0 rfl) ?_
        refine yc_p hP hS (va_runSN (As := [.int r_1, .int y2_3]) (rest := []) ⟨hx, hb, hml, hown, hts⟩ (c_X7_hasBit l r_1 y2_3) ⟨va_cnB 2 hts gX1_headOfQuarrel_X7_hasBit_n51 rfl rfl rfl hE.2.2.2.2.2.2.2.2.2.2.1 (hts (.initialized RX7) fwX1_headOfQuarrel_10) (by decide +kernel) ⟨Nat.le_of_ble_eq_true rfl, Nat.le_of_ble_eq_true rfl⟩, (hts (.static yX7_hasBit) fwX1_headOfQuarrel_9), trivial⟩ ex_preP rfl rfl hl.1 rfl (lv_room (Nat.le_of_ble_eq_true rfl)) dX1_headOfQuarrel_15 ⟨Nat.le_of_ble_eq_true rfl, Nat.le_of_ble_eq_true rfl⟩) (fun r_4 H locs hw_4 hP hS => ?_)
        rcases hw_4 with rfl | rfl
        · refine lv_if_eq (tgt := 23) hx hb dX1_headOfQuarrel_18 (by decide) (fun _ => ?_) (fun c9 => absurd c9 (by decide))
          obtain ⟨x_5, ex_5⟩ : ∃ y : Int32, y = y2_3 + 1 := ⟨_, rfl⟩
          refine lv_iinc (v := x_5) (lv' := [(3, .int x_5), (2, .int r_1), (0, .ref (ad 13)), (1, .int x0)]) hx hb dX1_headOfQuarrel_23 hl (k := 0) rfl (by rw [ex_5]; rfl) (by decide) rfl (fun ls hl => ?_)
          have k_1 : (1 : Int32).toInt = 1 := by decide
          have tx_5 : x_5.toInt = y2_3.toInt + (1 : Int32).toInt := by rw [ex_5]; exact t_add ⟨by omega, by omega⟩
          refine lv_goto (tgt := 8) hx hb dX1_headOfQuarrel_26 (by decide) ?_
          exact ih_2 x_5 u2 H locs (by omega) (by omega) (by omega) hv hfr hP hD hS ls (lv_sub hl [0, 1, 2, 3] rfl)
        · refine lv_if_eq (tgt := 23) hx hb dX1_headOfQuarrel_18 (by decide) (fun c9 => absurd c9 (by decide)) (fun _ => ?_)
          refine lv_iload_n hx hb dX1_headOfQuarrel_21 rfl (lv_at hl 0 rfl) ?_
          exact W.iret (v := y2_3) hx hb hr (fun t ht hW => ⟨⟨y2_3, u2, rfl, ⟨hv, hfr⟩, by rw [ht]; exact hP, hD⟩, hS.F ht⟩) hS.2.2 dX1_headOfQuarrel_22
  exact hloop_2 ((6 - (0 : Int32).toInt).toNat + 1) 0 v_1 _ _ (by omega) (by omega) (by omega) hv hfr hP hD hS ls hl

set_option maxHeartbeats 4000000 in
set_option maxRecDepth 100000 in
theorem g_X1_countQuarrels (l : Launch) (dC : Nat → ClassId) (dI : Nat → Nat → Nat) (cy : Nat → ClassId) (sz : Nat) (ad : Nat → Nat) (kv : Value) (N : Nat) (hN : 119 ≤ N) (v : Nat → Nat → Int32) (hv : Iv v)  : Met l yX1_countQuarrels wsX1_countQuarrels ({ frames := 3, cells := 0, slots := 0, locals := 192 }) (va_Pc [.ref (ad 13)] (ex_Pre dC dI cy sz (wl ad kv cy N v))) (va_Qi (fun (r : Int32) (u : Nat → Nat → Int32) => Iv u ∧ Fz v u) (fun u t => ex_Pst dC dI (va_A (wl ad kv cy N v) sz) (wl ad kv cy N u) t) (va_A (wl ad kv cy N v) sz)) 0 0 (va_A (wl ad kv cy N v) sz) := by
  refine Met.ofW (cc := cX1_countQuarrels) (maxL := 3) (ret := (some .int)) (by decide) rfl ?_
  intro p e s m args below meth c s₁ B hml hv
  obtain ⟨rfl, hsz, hE, hP, hK, hD0⟩ := hv
  have hx := B.exec
  have hb := B.bytes
  have hr := B.returns
  have hts := atoms_spec (ws := wsX1_countQuarrels) B.pre
  have hown : s.vm.findClass RX1 = some m.cls := findClass_of_methodNamed B.named
  have hlocks := B.notSynchronized
  subst hsz
  have hD := hD0.self (sz := s.heap.size)
  generalize hAe : va_A (wl ad kv cy N v) s.heap.size = A at hD ⊢
  have hA : ∀ q : Nat, s.heap.size ≤ q → A q := fun q h => by rw [← hAe]; exact Or.inr h
  have hS : va_S A s.heap s.heap [] := va_S.rf
  have hP : va_P (dC, dI) vwCl (wl ad kv cy N v) s.heap := hP
  have hl := lv_entry ([.ref (ad 13)]) (n := 3) (Nat.le_of_ble_eq_true rfl)
  rw [lg_entry_eq]
  generalize (lg_sl ([.ref (ad 13)]) ++ List.replicate (3 - (lg_sl ([.ref (ad 13)])).length) Slot.unset).toArray = ls at hl ⊢
  have hl : lv_has ls 3 [(0, .ref (ad 13))] := hl
  have hfr : Fz v v := Fz.rf
  refine lv_iconst (v := 0) hx hb dX1_countQuarrels_0 (by decide) ?_
  refine lv_istore_n (lv' := [(1, .int 0), (0, .ref (ad 13))]) hx hb dX1_countQuarrels_1 rfl hl (by decide) rfl (fun ls hl => ?_)
  refine lv_iconst (v := 0) hx hb dX1_countQuarrels_2 (by decide) ?_
  refine lv_istore_n (lv' := [(2, .int 0), (1, .int 0), (0, .ref (ad 13))]) hx hb dX1_countQuarrels_3 rfl hl (by decide) rfl (fun ls hl => ?_)
  have k_0 : (0 : Int32).toInt = 0 := by decide
  have hloop_1 : ∀ (n : Nat) (y1_2 y1_1 : Int32) (u1 : Nat → Nat → Int32) (H : Heap) (locs : List Loc), 0 ≤ y1_2.toInt → y1_2.toInt ≤ 6 → (6 - y1_2.toInt).toNat < n → Iv u1 → Fz v u1 → va_P (dC, dI) vwCl (wl ad kv cy N u1) H → va_D A (wl ad kv cy N u1) → va_S A s.heap H locs → ∀ ls : Array Slot, lv_has ls 3 [(2, .int y1_2), (1, .int y1_1), (0, .ref (ad 13))] → W p l e (headSpec wsX1_countQuarrels ({ frames := 3, cells := 0, slots := 0, locals := 192 })).room s m [Value.ref (ad 13)].toArray below meth c H locs 0 0 (MQ below (va_Qi (fun (r : Int32) (u : Nat → Nat → Int32) => Iv u ∧ Fz v u) (fun u t => ex_Pst dC dI A (wl ad kv cy N u) t) A) [Value.ref (ad 13)].toArray s 0 0 A) (F0 m 4 ls []) := by
    intro n
    induction n with
    | zero =>
      intro y1_2 y1_1 u1 H locs ay1_2 by1_2 hm_1 hv hfr hP hD hS ls hl
      exact absurd hm_1 (by omega)
    | succ n ih_1 =>
      intro y1_2 y1_1 u1 H locs ay1_2 by1_2 hm_1 hv hfr hP hD hS ls hl
      refine lv_iload_n hx hb dX1_countQuarrels_4 rfl (lv_at hl 0 rfl) ?_
      refine lv_aload_n hx hb dX1_countQuarrels_5 rfl (lv_at hl 2 rfl) ?_
      refine va_get (D := (dC, dI)) (ci := 1) (v := .int (u1 (13) 2)) (C := RX1) (T := TX1) (N := 7) hx hb hts iwX1_countQuarrels_X1 hown hK hP (13) (wl_at (by omega) (ce_3 (by decide))) rfl 2 (by decide) (hts (.fieldLink RX1 66 "QuietStairs$House" "caseCount" "I") fwX1_countQuarrels_1) (fun _ h9 => h9) rfl dX1_countQuarrels_6 ?_
      refine lv_topi (fun x_2 ex_2 => ?_)
      have bx_2 : 0 ≤ x_2.toInt ∧ x_2.toInt ≤ 6 := by rw [ex_2]; exact hv.at (K := 3) (by decide) rfl
      refine lv_icmp_ge (tgt := 30) hx hb dX1_countQuarrels_9 (by decide) (fun c_3 => ?_) (fun c_3 => ?_)
      · have tc_3 : y1_2.toInt ≥ x_2.toInt := Int32.le_iff_toInt_le.mp c_3
        refine lv_iload_n hx hb dX1_countQuarrels_30 rfl (lv_at hl 1 rfl) ?_
        exact W.iret (v := y1_1) hx hb hr (fun t ht hW => ⟨⟨y1_1, u1, rfl, ⟨hv, hfr⟩, by rw [ht]; exact hP, hD⟩, hS.F ht⟩) hS.2.2 dX1_countQuarrels_31
      · have tc_3 : y1_2.toInt < x_2.toInt := Int32.lt_iff_toInt_lt.mp (Int32.not_le.mp c_3)
        refine lv_aload_n hx hb dX1_countQuarrels_12 rfl (lv_at hl 2 rfl) ?_
        refine lv_iload_n hx hb dX1_countQuarrels_13 rfl (lv_at hl 0 rfl) ?_
        refine yw_i (w1 := fun (u : Nat → Nat → Int32) => wl ad kv cy N u) hD hS hA (va_runV (As := [.int y1_2]) (rest := []) ⟨hx, hb, hml, hown, hts⟩ (g_X1_headOfQuarrel l dC dI cy _ ad kv N hN u1 hv y1_2 ⟨by omega, by omega⟩) (cwV 1 hts gX1_countQuarrels_X1_headOfQuarrel rfl rfl rfl hd_V_X1_headOfQuarrel_1 ⟨Nat.le_of_ble_eq_true rfl, Nat.le_of_ble_eq_true rfl⟩) (yw_preV hE hK hP hD (ci := 1) (q0 := 13) rfl (wl_at (by omega) (ce_3 (by decide)))) rfl rfl hl.1 rfl (lv_room (Nat.le_of_ble_eq_true rfl)) dX1_countQuarrels_14 ⟨Nat.le_of_ble_eq_true rfl, Nat.le_of_ble_eq_true rfl⟩) (fun r_4 v_4 H locs hw_4 hP hD hS => ?_)
        obtain ⟨hv, hw_4⟩ := hw_4
        have hfr : Fz v v_4 := hfr.trans hw_4
        refine lv_iload_n hx hb dX1_countQuarrels_17 rfl (lv_at hl 0 rfl) ?_
        refine lv_icmp_ne (tgt := 24) hx hb dX1_countQuarrels_18 (by decide) (fun c_5 => ?_) (fun c_5 => ?_)
        · have tc_5 : r_4.toInt ≠ y1_2.toInt := fun q => absurd (Int32.toInt_inj.mp q) c_5
          obtain ⟨x_6, ex_6⟩ : ∃ y : Int32, y = y1_2 + 1 := ⟨_, rfl⟩
          refine lv_iinc (v := x_6) (lv' := [(2, .int x_6), (1, .int y1_1), (0, .ref (ad 13))]) hx hb dX1_countQuarrels_24 hl (k := 0) rfl (by rw [ex_6]; rfl) (by decide) rfl (fun ls hl => ?_)
          have k_1 : (1 : Int32).toInt = 1 := by decide
          have tx_6 : x_6.toInt = y1_2.toInt + (1 : Int32).toInt := by rw [ex_6]; exact t_add ⟨by omega, by omega⟩
          refine lv_goto (tgt := 4) hx hb dX1_countQuarrels_27 (by decide) ?_
          exact ih_1 x_6 y1_1 v_4 H locs (by omega) (by omega) (by omega) hv hfr hP hD hS ls (lv_sub hl [0, 1, 2] rfl)
        · have tc_5 : r_4.toInt = y1_2.toInt := by rw [c_5]
          obtain ⟨x_6, ex_6⟩ : ∃ y : Int32, y = y1_1 + 1 := ⟨_, rfl⟩
          refine lv_iinc (v := x_6) (lv' := [(1, .int x_6), (2, .int y1_2), (0, .ref (ad 13))]) hx hb dX1_countQuarrels_21 hl (k := 1) rfl (by rw [ex_6]; rfl) (by decide) rfl (fun ls hl => ?_)
          obtain ⟨x_7, ex_7⟩ : ∃ y : Int32, y = y1_2 + 1 := ⟨_, rfl⟩
          refine lv_iinc (v := x_7) (lv' := [(2, .int x_7), (1, .int x_6), (0, .ref (ad 13))]) hx hb dX1_countQuarrels_24 hl (k := 1) rfl (by rw [ex_7]; rfl) (by decide) rfl (fun ls hl => ?_)
          have k_1 : (1 : Int32).toInt = 1 := by decide
          have tx_7 : x_7.toInt = y1_2.toInt + (1 : Int32).toInt := by rw [ex_7]; exact t_add ⟨by omega, by omega⟩
          refine lv_goto (tgt := 4) hx hb dX1_countQuarrels_27 (by decide) ?_
          exact ih_1 x_7 x_6 v_4 H locs (by omega) (by omega) (by omega) hv hfr hP hD hS ls (lv_sub hl [0, 1, 2] rfl)
  exact hloop_1 ((6 - (0 : Int32).toInt).toNat + 1) 0 0 v _ _ (by omega) (by omega) (by omega) hv hfr hP hD hS ls hl

set_option maxHeartbeats 4000000 in
set_option maxRecDepth 100000 in
theorem g_X1_countJudged (l : Launch) (dC : Nat → ClassId) (dI : Nat → Nat → Nat) (cy : Nat → ClassId) (sz : Nat) (ad : Nat → Nat) (kv : Value) (N : Nat) (hN : 119 ≤ N) (v : Nat → Nat → Int32) (hv : Iv v)  (x0 : Int32) : Met l yX1_countJudged wsX1_countJudged ({ frames := 2, cells := 0, slots := 0, locals := 128 }) (va_Pc [.ref (ad 13), .int x0] (ex_Pre dC dI cy sz (wl ad kv cy N v))) (va_Qi (fun (r : Int32) (u : Nat → Nat → Int32) => Iv u ∧ Fz v u) (fun u t => ex_Pst dC dI (va_A (wl ad kv cy N v) sz) (wl ad kv cy N u) t) (va_A (wl ad kv cy N v) sz)) 0 0 (va_A (wl ad kv cy N v) sz) := by
  refine Met.ofW (cc := cX1_countJudged) (maxL := 5) (ret := (some .int)) (by decide) rfl ?_
  intro p e s m args below meth c s₁ B hml hv
  obtain ⟨rfl, hsz, hE, hP, hK, hD0⟩ := hv
  have hx := B.exec
  have hb := B.bytes
  have hr := B.returns
  have hts := atoms_spec (ws := wsX1_countJudged) B.pre
  have hown : s.vm.findClass RX1 = some m.cls := findClass_of_methodNamed B.named
  have hlocks := B.notSynchronized
  subst hsz
  have hD := hD0.self (sz := s.heap.size)
  generalize hAe : va_A (wl ad kv cy N v) s.heap.size = A at hD ⊢
  have hA : ∀ q : Nat, s.heap.size ≤ q → A q := fun q h => by rw [← hAe]; exact Or.inr h
  have hS : va_S A s.heap s.heap [] := va_S.rf
  have hP : va_P (dC, dI) vwCl (wl ad kv cy N v) s.heap := hP
  have hl := lv_entry ([.ref (ad 13), .int x0]) (n := 5) (Nat.le_of_ble_eq_true rfl)
  rw [lg_entry_eq]
  generalize (lg_sl ([.ref (ad 13), .int x0]) ++ List.replicate (5 - (lg_sl ([.ref (ad 13), .int x0])).length) Slot.unset).toArray = ls at hl ⊢
  have hl : lv_has ls 5 [(0, .ref (ad 13)), (1, .int x0)] := hl
  have hfr : Fz v v := Fz.rf
  refine lv_iconst (v := 0) hx hb dX1_countJudged_0 (by decide) ?_
  refine lv_istore_n (lv' := [(2, .int 0), (0, .ref (ad 13)), (1, .int x0)]) hx hb dX1_countJudged_1 rfl hl (by decide) rfl (fun ls hl => ?_)
  refine lv_iconst (v := 0) hx hb dX1_countJudged_2 (by decide) ?_
  refine lv_istore_n (lv' := [(3, .int 0), (2, .int 0), (0, .ref (ad 13)), (1, .int x0)]) hx hb dX1_countJudged_3 rfl hl (by decide) rfl (fun ls hl => ?_)
  have k_0 : (0 : Int32).toInt = 0 := by decide
  have hloop_1 : ∀ (n : Nat) (y1_3 y1_2 : Int32) (u1 : Nat → Nat → Int32) (H : Heap) (locs : List Loc), 0 ≤ y1_3.toInt → y1_3.toInt ≤ 6 → (6 - y1_3.toInt).toNat < n → Iv u1 → Fz v u1 → va_P (dC, dI) vwCl (wl ad kv cy N u1) H → va_D A (wl ad kv cy N u1) → va_S A s.heap H locs → ∀ ls : Array Slot, lv_has ls 5 [(3, .int y1_3), (2, .int y1_2), (0, .ref (ad 13)), (1, .int x0)] → W p l e (headSpec wsX1_countJudged ({ frames := 2, cells := 0, slots := 0, locals := 128 })).room s m [Value.ref (ad 13), Value.int x0].toArray below meth c H locs 0 0 (MQ below (va_Qi (fun (r : Int32) (u : Nat → Nat → Int32) => Iv u ∧ Fz v u) (fun u t => ex_Pst dC dI A (wl ad kv cy N u) t) A) [Value.ref (ad 13), Value.int x0].toArray s 0 0 A) (F0 m 4 ls []) := by
    intro n
    induction n with
    | zero =>
      intro y1_3 y1_2 u1 H locs ay1_3 by1_3 hm_1 hv hfr hP hD hS ls hl
      exact absurd hm_1 (by omega)
    | succ n ih_1 =>
      intro y1_3 y1_2 u1 H locs ay1_3 by1_3 hm_1 hv hfr hP hD hS ls hl
      refine lv_iload_n hx hb dX1_countJudged_4 rfl (lv_at hl 0 rfl) ?_
      refine lv_aload_n hx hb dX1_countJudged_5 rfl (lv_at hl 2 rfl) ?_
      refine va_get (D := (dC, dI)) (ci := 1) (v := .int (u1 (13) 2)) (C := RX1) (T := TX1) (N := 7) hx hb hts iwX1_countJudged_X1 hown hK hP (13) (wl_at (by omega) (ce_3 (by decide))) rfl 2 (by decide) (hts (.fieldLink RX1 66 "QuietStairs$House" "caseCount" "I") fwX1_countJudged_1) (fun _ h9 => h9) rfl dX1_countJudged_6 ?_
      refine lv_topi (fun x_2 ex_2 => ?_)
      have bx_2 : 0 ≤ x_2.toInt ∧ x_2.toInt ≤ 6 := by rw [ex_2]; exact hv.at (K := 3) (by decide) rfl
      refine lv_icmp_ge (tgt := 59) hx hb dX1_countJudged_9 (by decide) (fun c_3 => ?_) (fun c_3 => ?_)
      · have tc_3 : y1_3.toInt ≥ x_2.toInt := Int32.le_iff_toInt_le.mp c_3
        refine lv_iload_n hx hb dX1_countJudged_59 rfl (lv_at hl 1 rfl) ?_
        exact W.iret (v := y1_2) hx hb hr (fun t ht hW => ⟨⟨y1_2, u1, rfl, ⟨hv, hfr⟩, by rw [ht]; exact hP, hD⟩, hS.F ht⟩) hS.2.2 dX1_countJudged_60
      · have tc_3 : y1_3.toInt < x_2.toInt := Int32.lt_iff_toInt_lt.mp (Int32.not_le.mp c_3)
        refine lv_iconst (v := 0) hx hb dX1_countJudged_12 (by decide) ?_
        refine lv_istore (lv' := [(4, .int 0), (3, .int y1_3), (2, .int y1_2), (0, .ref (ad 13)), (1, .int x0)]) hx hb dX1_countJudged_13 hl (by decide) rfl (fun ls hl => ?_)
        have hloop_4 : ∀ (n : Nat) (y4_4 y4_2 : Int32) (u4 : Nat → Nat → Int32) (H : Heap) (locs : List Loc), 0 ≤ y4_4.toInt → y4_4.toInt ≤ 5 → (5 - y4_4.toInt).toNat < n → Iv u4 → Fz v u4 → va_P (dC, dI) vwCl (wl ad kv cy N u4) H → va_D A (wl ad kv cy N u4) → va_S A s.heap H locs → ∀ ls : Array Slot, lv_has ls 5 [(4, .int y4_4), (3, .int y1_3), (2, .int y4_2), (0, .ref (ad 13)), (1, .int x0)] → W p l e (headSpec wsX1_countJudged ({ frames := 2, cells := 0, slots := 0, locals := 128 })).room s m [Value.ref (ad 13), Value.int x0].toArray below meth c H locs 0 0 (MQ below (va_Qi (fun (r : Int32) (u : Nat → Nat → Int32) => Iv u ∧ Fz v u) (fun u t => ex_Pst dC dI A (wl ad kv cy N u) t) A) [Value.ref (ad 13), Value.int x0].toArray s 0 0 A) (F0 m 15 ls []) := by
          intro n
          induction n with
          | zero =>
            intro y4_4 y4_2 u4 H locs ay4_4 by4_4 hm_4 hv hfr hP hD hS ls hl
            exact absurd hm_4 (by omega)
          | succ n ih_4 =>
            intro y4_4 y4_2 u4 H locs ay4_4 by4_4 hm_4 hv hfr hP hD hS ls hl
            refine lv_iload hx hb dX1_countJudged_15 (lv_at hl 0 rfl) ?_
            refine lv_aload_n hx hb dX1_countJudged_17 rfl (lv_at hl 3 rfl) ?_
            refine va_get (D := (dC, dI)) (ci := 1) (v := .ref (ad 16)) (C := RX1) (T := TX1) (N := 7) hx hb hts iwX1_countJudged_X1 hown hK hP (13) (wl_at (by omega) (ce_3 (by decide))) rfl 6 (by decide) (hts (.fieldLink RX1 25 "QuietStairs$House" "cases" "[LQuietStairs$Case;") fwX1_countJudged_2) (fun _ h9 => h9) rfl dX1_countJudged_18 ?_
            refine lv_iload_n hx hb dX1_countJudged_21 rfl (lv_at hl 1 rfl) ?_
            obtain ⟨pi5, i5, hi5, ni5, mi5⟩ := t_in (x := y1_3) (n := 6) ⟨by omega, by omega⟩
            refine va_aldq hx hb hK hP (16) 3 (wl_at (by omega) (ce_6 (by decide))) rfl pi5 dX1_countJudged_22 ?_
            refine W.eq (g2 := F0 m 23 ls [.ref (ad (29 + 15 * i5)), .int y4_4]) (by rw [ni5, if_pos hi5, show 16 + 13 + 15 * i5 = 29 + 15 * i5 from by omega]; rfl) ?_
            refine va_get (D := (dC, dI)) (ci := 0) (v := .int (u4 (29 + 15 * i5) 5)) (C := RX0) (T := TX0) (N := 11) hx hb hts iwX1_countJudged_X0 hown hK hP (29 + 15 * i5) (wl_at (by omega) (ce_9 (kd_c i5 hi5).1.1)) rfl 5 (by decide) (hts (.fieldLink RX1 82 "QuietStairs$Case" "termCount" "I") fwX1_countJudged_3) (fun _ h9 => h9) rfl dX1_countJudged_23 ?_
            refine lv_topi (fun x_6 ex_6 => ?_)
            have bx_6 : 0 ≤ x_6.toInt ∧ x_6.toInt ≤ 5 := by rw [ex_6]; exact hv.at (K := 9) (kd_c i5 hi5).1.1 rfl
            refine lv_icmp_ge (tgt := 53) hx hb dX1_countJudged_26 (by decide) (fun c_7 => ?_) (fun c_7 => ?_)
            · have tc_7 : y4_4.toInt ≥ x_6.toInt := Int32.le_iff_toInt_le.mp c_7
              obtain ⟨x_8, ex_8⟩ : ∃ y : Int32, y = y1_3 + 1 := ⟨_, rfl⟩
              refine lv_iinc (v := x_8) (lv' := [(3, .int x_8), (4, .int y4_4), (2, .int y4_2), (0, .ref (ad 13)), (1, .int x0)]) hx hb dX1_countJudged_53 hl (k := 1) rfl (by rw [ex_8]; rfl) (by decide) rfl (fun ls hl => ?_)
              have k_1 : (1 : Int32).toInt = 1 := by decide
              have tx_8 : x_8.toInt = y1_3.toInt + (1 : Int32).toInt := by rw [ex_8]; exact t_add ⟨by omega, by omega⟩
              refine lv_goto (tgt := 4) hx hb dX1_countJudged_56 (by decide) ?_
              exact ih_1 x_8 y4_2 u4 H locs (by omega) (by omega) (by omega) hv hfr hP hD hS ls (lv_sub hl [0, 2, 3, 4] rfl)
            · have tc_7 : y4_4.toInt < x_6.toInt := Int32.lt_iff_toInt_lt.mp (Int32.not_le.mp c_7)
              refine lv_aload_n hx hb dX1_countJudged_29 rfl (lv_at hl 3 rfl) ?_
              refine va_get (D := (dC, dI)) (ci := 1) (v := .ref (ad 16)) (C := RX1) (T := TX1) (N := 7) hx hb hts iwX1_countJudged_X1 hown hK hP (13) (wl_at (by omega) (ce_3 (by decide))) rfl 6 (by decide) (hts (.fieldLink RX1 25 "QuietStairs$House" "cases" "[LQuietStairs$Case;") fwX1_countJudged_2) (fun _ h9 => h9) rfl dX1_countJudged_30 ?_
              refine lv_iload_n hx hb dX1_countJudged_33 rfl (lv_at hl 1 rfl) ?_
              refine va_aldq hx hb hK hP (16) 3 (wl_at (by omega) (ce_6 (by decide))) rfl pi5 dX1_countJudged_34 ?_
              refine W.eq (g2 := F0 m 35 ls [.ref (ad (29 + 15 * i5))]) (by rw [ni5, if_pos hi5, show 16 + 13 + 15 * i5 = 29 + 15 * i5 from by omega]; rfl) ?_
              refine lv_iload hx hb dX1_countJudged_35 (lv_at hl 0 rfl) ?_
              refine yw_i (w1 := fun (u : Nat → Nat → Int32) => wl ad kv cy N u) hD hS hA (va_runV (As := [.int y4_4]) (rest := []) ⟨hx, hb, hml, hown, hts⟩ (g_X0_judge l dC dI cy _ ad kv N hN u4 hv i5 hi5 y4_4 ⟨by omega, by omega⟩) (cwV 1 hts gX1_countJudged_X0_judge rfl rfl rfl hd_V_X0_judge_1 ⟨Nat.le_of_ble_eq_true rfl, Nat.le_of_ble_eq_true rfl⟩) (yw_preV hE hK hP hD (ci := 0) (q0 := (29 + 15 * i5)) rfl (wl_at (by omega) (ce_9 (kd_c i5 hi5).1.1))) rfl rfl hl.1 rfl (lv_room (Nat.le_of_ble_eq_true rfl)) dX1_countJudged_37 ⟨Nat.le_of_ble_eq_true rfl, Nat.le_of_ble_eq_true rfl⟩) (fun r_8 v_8 H locs hw_8 hP hD hS => ?_)
              obtain ⟨hv, hw_8⟩ := hw_8
              have hfr : Fz v v_8 := hfr.trans hw_8
              refine lv_iload_n hx hb dX1_countJudged_40 rfl (lv_at hl 4 rfl) ?_
              refine lv_icmp_ne (tgt := 47) hx hb dX1_countJudged_41 (by decide) (fun c_9 => ?_) (fun c_9 => ?_)
              · have tc_9 : r_8.toInt ≠ x0.toInt := fun q => absurd (Int32.toInt_inj.mp q) c_9
                obtain ⟨x_10, ex_10⟩ : ∃ y : Int32, y = y4_4 + 1 := ⟨_, rfl⟩
                refine lv_iinc (v := x_10) (lv' := [(4, .int x_10), (3, .int y1_3), (2, .int y4_2), (0, .ref (ad 13)), (1, .int x0)]) hx hb dX1_countJudged_47 hl (k := 0) rfl (by rw [ex_10]; rfl) (by decide) rfl (fun ls hl => ?_)
                have k_1 : (1 : Int32).toInt = 1 := by decide
                have tx_10 : x_10.toInt = y4_4.toInt + (1 : Int32).toInt := by rw [ex_10]; exact t_add ⟨by omega, by omega⟩
                refine lv_goto (tgt := 15) hx hb dX1_countJudged_50 (by decide) ?_
                exact ih_4 x_10 y4_2 v_8 H locs (by omega) (by omega) (by omega) hv hfr hP hD hS ls (lv_sub hl [0, 1, 2, 3, 4] rfl)
              · have tc_9 : r_8.toInt = x0.toInt := by rw [c_9]
                obtain ⟨x_10, ex_10⟩ : ∃ y : Int32, y = y4_2 + 1 := ⟨_, rfl⟩
                refine lv_iinc (v := x_10) (lv' := [(2, .int x_10), (4, .int y4_4), (3, .int y1_3), (0, .ref (ad 13)), (1, .int x0)]) hx hb dX1_countJudged_44 hl (k := 2) rfl (by rw [ex_10]; rfl) (by decide) rfl (fun ls hl => ?_)
                obtain ⟨x_11, ex_11⟩ : ∃ y : Int32, y = y4_4 + 1 := ⟨_, rfl⟩
                refine lv_iinc (v := x_11) (lv' := [(4, .int x_11), (2, .int x_10), (3, .int y1_3), (0, .ref (ad 13)), (1, .int x0)]) hx hb dX1_countJudged_47 hl (k := 1) rfl (by rw [ex_11]; rfl) (by decide) rfl (fun ls hl => ?_)
                have k_1 : (1 : Int32).toInt = 1 := by decide
                have tx_11 : x_11.toInt = y4_4.toInt + (1 : Int32).toInt := by rw [ex_11]; exact t_add ⟨by omega, by omega⟩
                refine lv_goto (tgt := 15) hx hb dX1_countJudged_50 (by decide) ?_
                exact ih_4 x_11 x_10 v_8 H locs (by omega) (by omega) (by omega) hv hfr hP hD hS ls (lv_sub hl [0, 2, 1, 3, 4] rfl)
        exact hloop_4 ((5 - (0 : Int32).toInt).toNat + 1) 0 y1_2 u1 _ _ (by omega) (by omega) (by omega) hv hfr hP hD hS ls hl
  exact hloop_1 ((6 - (0 : Int32).toInt).toNat + 1) 0 0 v _ _ (by omega) (by omega) (by omega) hv hfr hP hD hS ls hl
