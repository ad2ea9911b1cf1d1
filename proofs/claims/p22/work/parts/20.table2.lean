set_option maxRecDepth 20000 in
theorem db_X5_stands_0 : (decode cX5_stands 0 = .ok (.iconst 1, 1)) ∧ (decode cX5_stands 1 = .ok (.istore_n 1, 1)) ∧ (decode cX5_stands 2 = .ok (.iload_n 1, 1)) ∧ (decode cX5_stands 3 = .ok (.iconst 1, 1)) ∧ (decode cX5_stands 4 = .ok (.aload_n 0, 1)) ∧ (decode cX5_stands 5 = .ok (.getfield 18, 3)) ∧ (decode cX5_stands 8 = .ok (.ishl, 1)) ∧ (decode cX5_stands 9 = .ok (.if_icmp .ge 57, 3)) := by decide +kernel
theorem dX5_stands_0 : decode cX5_stands 0 = .ok (.iconst 1, 1) := db_X5_stands_0.1
theorem dX5_stands_1 : decode cX5_stands 1 = .ok (.istore_n 1, 1) := db_X5_stands_0.2.1
theorem dX5_stands_2 : decode cX5_stands 2 = .ok (.iload_n 1, 1) := db_X5_stands_0.2.2.1
theorem dX5_stands_3 : decode cX5_stands 3 = .ok (.iconst 1, 1) := db_X5_stands_0.2.2.2.1
theorem dX5_stands_4 : decode cX5_stands 4 = .ok (.aload_n 0, 1) := db_X5_stands_0.2.2.2.2.1
theorem dX5_stands_5 : decode cX5_stands 5 = .ok (.getfield 18, 3) := db_X5_stands_0.2.2.2.2.2.1
theorem dX5_stands_8 : decode cX5_stands 8 = .ok (.ishl, 1) := db_X5_stands_0.2.2.2.2.2.2.1
theorem dX5_stands_9 : decode cX5_stands 9 = .ok (.if_icmp .ge 57, 3) := db_X5_stands_0.2.2.2.2.2.2.2
set_option maxRecDepth 20000 in
theorem db_X5_stands_66 : (decode cX5_stands 66 = .ok (.iconst 1, 1)) ∧ (decode cX5_stands 67 = .ok (.ireturn, 1)) ∧ (decode cX5_stands 12 = .ok (.iconst 0, 1)) ∧ (decode cX5_stands 13 = .ok (.istore_n 2, 1)) ∧ (decode cX5_stands 14 = .ok (.iconst 0, 1)) ∧ (decode cX5_stands 15 = .ok (.istore_n 3, 1)) ∧ (decode cX5_stands 16 = .ok (.iload_n 3, 1)) ∧ (decode cX5_stands 17 = .ok (.aload_n 0, 1)) := by decide +kernel
theorem dX5_stands_66 : decode cX5_stands 66 = .ok (.iconst 1, 1) := db_X5_stands_66.1
theorem dX5_stands_67 : decode cX5_stands 67 = .ok (.ireturn, 1) := db_X5_stands_66.2.1
theorem dX5_stands_12 : decode cX5_stands 12 = .ok (.iconst 0, 1) := db_X5_stands_66.2.2.1
theorem dX5_stands_13 : decode cX5_stands 13 = .ok (.istore_n 2, 1) := db_X5_stands_66.2.2.2.1
theorem dX5_stands_14 : decode cX5_stands 14 = .ok (.iconst 0, 1) := db_X5_stands_66.2.2.2.2.1
theorem dX5_stands_15 : decode cX5_stands 15 = .ok (.istore_n 3, 1) := db_X5_stands_66.2.2.2.2.2.1
theorem dX5_stands_16 : decode cX5_stands 16 = .ok (.iload_n 3, 1) := db_X5_stands_66.2.2.2.2.2.2.1
theorem dX5_stands_17 : decode cX5_stands 17 = .ok (.aload_n 0, 1) := db_X5_stands_66.2.2.2.2.2.2.2
set_option maxRecDepth 20000 in
theorem db_X5_stands_18 : (decode cX5_stands 18 = .ok (.getfield 18, 3)) ∧ (decode cX5_stands 21 = .ok (.if_icmp .ge 26, 3)) ∧ (decode cX5_stands 47 = .ok (.iload_n 2, 1)) ∧ (decode cX5_stands 48 = .ok (.invokestatic 51, 3)) ∧ (decode cX5_stands 51 = .ok (.iload_n 1, 1)) ∧ (decode cX5_stands 52 = .ok (.invokestatic 51, 3)) ∧ (decode cX5_stands 55 = .ok (.if_icmp .ge 5, 3)) ∧ (decode cX5_stands 60 = .ok (.iinc 1 1, 3)) := by decide +kernel
theorem dX5_stands_18 : decode cX5_stands 18 = .ok (.getfield 18, 3) := db_X5_stands_18.1
theorem dX5_stands_21 : decode cX5_stands 21 = .ok (.if_icmp .ge 26, 3) := db_X5_stands_18.2.1
theorem dX5_stands_47 : decode cX5_stands 47 = .ok (.iload_n 2, 1) := db_X5_stands_18.2.2.1
set_option maxRecDepth 20000 in
theorem ggX5_stands_J6_bitCount_0f7a4 : GoodIn wsX5_stands wsJ6_bitCount_0f7a4 := goodIn_r _ [9, 10, 11, 12] rfl (by decide +kernel)
set_option maxRecDepth 20000 in
theorem gX5_stands_J6_bitCount_0f7a4 : GoodIn wsX5_stands (va_wsS RX5 51 yJ6_bitCount_0f7a4 wsJ6_bitCount_0f7a4) := goodIn_app (goodIn_r _ [6, 7, 8] rfl (by decide +kernel)) ggX5_stands_J6_bitCount_0f7a4
theorem dX5_stands_48 : decode cX5_stands 48 = .ok (.invokestatic 51, 3) := db_X5_stands_18.2.2.2.1
theorem dX5_stands_51 : decode cX5_stands 51 = .ok (.iload_n 1, 1) := db_X5_stands_18.2.2.2.2.1
theorem dX5_stands_52 : decode cX5_stands 52 = .ok (.invokestatic 51, 3) := db_X5_stands_18.2.2.2.2.2.1
theorem dX5_stands_55 : decode cX5_stands 55 = .ok (.if_icmp .ge 5, 3) := db_X5_stands_18.2.2.2.2.2.2.1
theorem dX5_stands_60 : decode cX5_stands 60 = .ok (.iinc 1 1, 3) := db_X5_stands_18.2.2.2.2.2.2.2
set_option maxRecDepth 20000 in
theorem db_X5_stands_63 : (decode cX5_stands 63 = .ok (.goto (-61), 3)) ∧ (decode cX5_stands 58 = .ok (.iconst 0, 1)) ∧ (decode cX5_stands 59 = .ok (.ireturn, 1)) ∧ (decode cX5_stands 24 = .ok (.iload_n 1, 1)) ∧ (decode cX5_stands 25 = .ok (.iload_n 3, 1)) ∧ (decode cX5_stands 26 = .ok (.invokestatic 47, 3)) ∧ (decode cX5_stands 29 = .ok (.ifCond .eq 12, 3)) ∧ (decode cX5_stands 41 = .ok (.iinc 3 1, 3)) := by decide +kernel
theorem dX5_stands_63 : decode cX5_stands 63 = .ok (.goto (-61), 3) := db_X5_stands_63.1
theorem dX5_stands_58 : decode cX5_stands 58 = .ok (.iconst 0, 1) := db_X5_stands_63.2.1
theorem dX5_stands_59 : decode cX5_stands 59 = .ok (.ireturn, 1) := db_X5_stands_63.2.2.1
theorem dX5_stands_24 : decode cX5_stands 24 = .ok (.iload_n 1, 1) := db_X5_stands_63.2.2.2.1
theorem dX5_stands_25 : decode cX5_stands 25 = .ok (.iload_n 3, 1) := db_X5_stands_63.2.2.2.2.1
set_option maxRecDepth 20000 in
theorem ggX5_stands_X7_hasBit : GoodIn wsX5_stands wsX7_hasBit := goodIn_r _ [5] rfl (by decide +kernel)
set_option maxRecDepth 20000 in
theorem gX5_stands_X7_hasBit_n47 : GoodIn wsX5_stands (wsX7_hasBit) := ggX5_stands_X7_hasBit
theorem dX5_stands_26 : decode cX5_stands 26 = .ok (.invokestatic 47, 3) := db_X5_stands_63.2.2.2.2.2.1
theorem dX5_stands_29 : decode cX5_stands 29 = .ok (.ifCond .eq 12, 3) := db_X5_stands_63.2.2.2.2.2.2.1
theorem dX5_stands_41 : decode cX5_stands 41 = .ok (.iinc 3 1, 3) := db_X5_stands_63.2.2.2.2.2.2.2
set_option maxRecDepth 20000 in
theorem db_X5_stands_44 : (decode cX5_stands 44 = .ok (.goto (-28), 3)) ∧ (decode cX5_stands 32 = .ok (.iload_n 2, 1)) ∧ (decode cX5_stands 33 = .ok (.aload_n 0, 1)) ∧ (decode cX5_stands 34 = .ok (.getfield 15, 3)) ∧ (decode cX5_stands 37 = .ok (.iload_n 3, 1)) ∧ (decode cX5_stands 38 = .ok (.iaload, 1)) ∧ (decode cX5_stands 39 = .ok (.ior, 1)) ∧ (decode cX5_stands 40 = .ok (.istore_n 2, 1)) := by decide +kernel
theorem dX5_stands_44 : decode cX5_stands 44 = .ok (.goto (-28), 3) := db_X5_stands_44.1
theorem dX5_stands_32 : decode cX5_stands 32 = .ok (.iload_n 2, 1) := db_X5_stands_44.2.1
theorem dX5_stands_33 : decode cX5_stands 33 = .ok (.aload_n 0, 1) := db_X5_stands_44.2.2.1
theorem dX5_stands_34 : decode cX5_stands 34 = .ok (.getfield 15, 3) := db_X5_stands_44.2.2.2.1
theorem dX5_stands_37 : decode cX5_stands 37 = .ok (.iload_n 3, 1) := db_X5_stands_44.2.2.2.2.1
theorem dX5_stands_38 : decode cX5_stands 38 = .ok (.iaload, 1) := db_X5_stands_44.2.2.2.2.2.1
theorem dX5_stands_39 : decode cX5_stands 39 = .ok (.ior, 1) := db_X5_stands_44.2.2.2.2.2.2.1
theorem dX5_stands_40 : decode cX5_stands 40 = .ok (.istore_n 2, 1) := db_X5_stands_44.2.2.2.2.2.2.2
set_option maxRecDepth 20000 in
theorem db_X5_pinLeastHour_0 : (decode cX5_pinLeastHour 0 = .ok (.aload_n 0, 1)) ∧ (decode cX5_pinLeastHour 1 = .ok (.getfield 15, 3)) ∧ (decode cX5_pinLeastHour 4 = .ok (.iload_n 1, 1)) ∧ (decode cX5_pinLeastHour 5 = .ok (.iaload, 1)) ∧ (decode cX5_pinLeastHour 6 = .ok (.istore_n 2, 1)) ∧ (decode cX5_pinLeastHour 7 = .ok (.iconst 0, 1)) ∧ (decode cX5_pinLeastHour 8 = .ok (.istore_n 3, 1)) ∧ (decode cX5_pinLeastHour 9 = .ok (.iload_n 3, 1)) := by decide +kernel
theorem dX5_pinLeastHour_0 : decode cX5_pinLeastHour 0 = .ok (.aload_n 0, 1) := db_X5_pinLeastHour_0.1
theorem dX5_pinLeastHour_1 : decode cX5_pinLeastHour 1 = .ok (.getfield 15, 3) := db_X5_pinLeastHour_0.2.1
theorem dX5_pinLeastHour_4 : decode cX5_pinLeastHour 4 = .ok (.iload_n 1, 1) := db_X5_pinLeastHour_0.2.2.1
theorem dX5_pinLeastHour_5 : decode cX5_pinLeastHour 5 = .ok (.iaload, 1) := db_X5_pinLeastHour_0.2.2.2.1
theorem dX5_pinLeastHour_6 : decode cX5_pinLeastHour 6 = .ok (.istore_n 2, 1) := db_X5_pinLeastHour_0.2.2.2.2.1
theorem dX5_pinLeastHour_7 : decode cX5_pinLeastHour 7 = .ok (.iconst 0, 1) := db_X5_pinLeastHour_0.2.2.2.2.2.1
theorem dX5_pinLeastHour_8 : decode cX5_pinLeastHour 8 = .ok (.istore_n 3, 1) := db_X5_pinLeastHour_0.2.2.2.2.2.2.1
theorem dX5_pinLeastHour_9 : decode cX5_pinLeastHour 9 = .ok (.iload_n 3, 1) := db_X5_pinLeastHour_0.2.2.2.2.2.2.2
set_option maxRecDepth 20000 in
theorem db_X5_pinLeastHour_10 : (decode cX5_pinLeastHour 10 = .ok (.bipush 24, 2)) ∧ (decode cX5_pinLeastHour 12 = .ok (.if_icmp .ge 35, 3)) ∧ (decode cX5_pinLeastHour 47 = .ok (.aload_n 0, 1)) ∧ (decode cX5_pinLeastHour 48 = .ok (.getfield 15, 3)) ∧ (decode cX5_pinLeastHour 51 = .ok (.iload_n 1, 1)) ∧ (decode cX5_pinLeastHour 52 = .ok (.iload_n 2, 1)) ∧ (decode cX5_pinLeastHour 53 = .ok (.iastore, 1)) ∧ (decode cX5_pinLeastHour 54 = .ok (.bipush (-5), 2)) := by decide +kernel
theorem dX5_pinLeastHour_10 : decode cX5_pinLeastHour 10 = .ok (.bipush 24, 2) := db_X5_pinLeastHour_10.1
theorem dX5_pinLeastHour_12 : decode cX5_pinLeastHour 12 = .ok (.if_icmp .ge 35, 3) := db_X5_pinLeastHour_10.2.1
theorem dX5_pinLeastHour_47 : decode cX5_pinLeastHour 47 = .ok (.aload_n 0, 1) := db_X5_pinLeastHour_10.2.2.1
theorem dX5_pinLeastHour_48 : decode cX5_pinLeastHour 48 = .ok (.getfield 15, 3) := db_X5_pinLeastHour_10.2.2.2.1
theorem dX5_pinLeastHour_51 : decode cX5_pinLeastHour 51 = .ok (.iload_n 1, 1) := db_X5_pinLeastHour_10.2.2.2.2.1
theorem dX5_pinLeastHour_52 : decode cX5_pinLeastHour 52 = .ok (.iload_n 2, 1) := db_X5_pinLeastHour_10.2.2.2.2.2.1
theorem dX5_pinLeastHour_53 : decode cX5_pinLeastHour 53 = .ok (.iastore, 1) := db_X5_pinLeastHour_10.2.2.2.2.2.2.1
theorem dX5_pinLeastHour_54 : decode cX5_pinLeastHour 54 = .ok (.bipush (-5), 2) := db_X5_pinLeastHour_10.2.2.2.2.2.2.2
set_option maxRecDepth 20000 in
theorem db_X5_pinLeastHour_56 : (decode cX5_pinLeastHour 56 = .ok (.ireturn, 1)) ∧ (decode cX5_pinLeastHour 15 = .ok (.iload_n 2, 1)) ∧ (decode cX5_pinLeastHour 16 = .ok (.iload_n 3, 1)) ∧ (decode cX5_pinLeastHour 17 = .ok (.invokestatic 47, 3)) ∧ (decode cX5_pinLeastHour 20 = .ok (.ifCond .eq 21, 3)) ∧ (decode cX5_pinLeastHour 41 = .ok (.iinc 3 1, 3)) ∧ (decode cX5_pinLeastHour 44 = .ok (.goto (-35), 3)) ∧ (decode cX5_pinLeastHour 23 = .ok (.aload_n 0, 1)) := by decide +kernel
theorem dX5_pinLeastHour_56 : decode cX5_pinLeastHour 56 = .ok (.ireturn, 1) := db_X5_pinLeastHour_56.1
theorem dX5_pinLeastHour_15 : decode cX5_pinLeastHour 15 = .ok (.iload_n 2, 1) := db_X5_pinLeastHour_56.2.1
theorem dX5_pinLeastHour_16 : decode cX5_pinLeastHour 16 = .ok (.iload_n 3, 1) := db_X5_pinLeastHour_56.2.2.1
set_option maxRecDepth 20000 in
theorem ggX5_pinLeastHour_X7_hasBit : GoodIn wsX5_pinLeastHour wsX7_hasBit := goodIn_r _ [4] rfl (by decide +kernel)
set_option maxRecDepth 20000 in
theorem gX5_pinLeastHour_X7_hasBit_n47 : GoodIn wsX5_pinLeastHour (wsX7_hasBit) := ggX5_pinLeastHour_X7_hasBit
theorem dX5_pinLeastHour_17 : decode cX5_pinLeastHour 17 = .ok (.invokestatic 47, 3) := db_X5_pinLeastHour_56.2.2.2.1
theorem dX5_pinLeastHour_20 : decode cX5_pinLeastHour 20 = .ok (.ifCond .eq 21, 3) := db_X5_pinLeastHour_56.2.2.2.2.1
theorem dX5_pinLeastHour_41 : decode cX5_pinLeastHour 41 = .ok (.iinc 3 1, 3) := db_X5_pinLeastHour_56.2.2.2.2.2.1
theorem dX5_pinLeastHour_44 : decode cX5_pinLeastHour 44 = .ok (.goto (-35), 3) := db_X5_pinLeastHour_56.2.2.2.2.2.2.1
theorem dX5_pinLeastHour_23 : decode cX5_pinLeastHour 23 = .ok (.aload_n 0, 1) := db_X5_pinLeastHour_56.2.2.2.2.2.2.2
set_option maxRecDepth 20000 in
theorem db_X5_pinLeastHour_24 : (decode cX5_pinLeastHour 24 = .ok (.getfield 15, 3)) ∧ (decode cX5_pinLeastHour 27 = .ok (.iload_n 1, 1)) ∧ (decode cX5_pinLeastHour 28 = .ok (.iconst 1, 1)) ∧ (decode cX5_pinLeastHour 29 = .ok (.iload_n 3, 1)) ∧ (decode cX5_pinLeastHour 30 = .ok (.ishl, 1)) ∧ (decode cX5_pinLeastHour 31 = .ok (.iastore, 1)) ∧ (decode cX5_pinLeastHour 32 = .ok (.aload_n 0, 1)) ∧ (decode cX5_pinLeastHour 33 = .ok (.invokevirtual 60, 3)) := by decide +kernel
theorem dX5_pinLeastHour_24 : decode cX5_pinLeastHour 24 = .ok (.getfield 15, 3) := db_X5_pinLeastHour_24.1
theorem dX5_pinLeastHour_27 : decode cX5_pinLeastHour 27 = .ok (.iload_n 1, 1) := db_X5_pinLeastHour_24.2.1
theorem dX5_pinLeastHour_28 : decode cX5_pinLeastHour 28 = .ok (.iconst 1, 1) := db_X5_pinLeastHour_24.2.2.1
theorem dX5_pinLeastHour_29 : decode cX5_pinLeastHour 29 = .ok (.iload_n 3, 1) := db_X5_pinLeastHour_24.2.2.2.1
theorem dX5_pinLeastHour_30 : decode cX5_pinLeastHour 30 = .ok (.ishl, 1) := db_X5_pinLeastHour_24.2.2.2.2.1
theorem dX5_pinLeastHour_31 : decode cX5_pinLeastHour 31 = .ok (.iastore, 1) := db_X5_pinLeastHour_24.2.2.2.2.2.1
theorem dX5_pinLeastHour_32 : decode cX5_pinLeastHour 32 = .ok (.aload_n 0, 1) := db_X5_pinLeastHour_24.2.2.2.2.2.2.1
set_option maxRecDepth 20000 in
theorem ggX5_pinLeastHour_X5_stands : GoodIn wsX5_pinLeastHour wsX5_stands := goodIn_r _ [9, 10, 1, 2, 3, 4, 11, 12, 13, 14, 15, 16, 17, 18, 19, 20] rfl (by decide +kernel)
set_option maxRecDepth 20000 in
theorem gX5_pinLeastHour_X5_stands : GoodIn wsX5_pinLeastHour (wsV RX5 60 RX5 yX5_stands wsX5_stands) := goodIn_app (goodIn_r _ [5, 6, 7, 8] rfl (by decide +kernel)) ggX5_pinLeastHour_X5_stands
theorem dX5_pinLeastHour_33 : decode cX5_pinLeastHour 33 = .ok (.invokevirtual 60, 3) := db_X5_pinLeastHour_24.2.2.2.2.2.2.2
set_option maxRecDepth 20000 in
theorem db_X5_pinLeastHour_36 : (decode cX5_pinLeastHour 36 = .ok (.ifCond .eq 5, 3)) ∧ (decode cX5_pinLeastHour 39 = .ok (.iload_n 3, 1)) ∧ (decode cX5_pinLeastHour 40 = .ok (.ireturn, 1)) := by decide +kernel
theorem dX5_pinLeastHour_36 : decode cX5_pinLeastHour 36 = .ok (.ifCond .eq 5, 3) := db_X5_pinLeastHour_36.1
theorem dX5_pinLeastHour_39 : decode cX5_pinLeastHour 39 = .ok (.iload_n 3, 1) := db_X5_pinLeastHour_36.2.1
theorem dX5_pinLeastHour_40 : decode cX5_pinLeastHour 40 = .ok (.ireturn, 1) := db_X5_pinLeastHour_36.2.2
set_option maxRecDepth 20000 in
theorem db_X5_hourOf_0 : (decode cX5_hourOf 0 = .ok (.iconst 0, 1)) ∧ (decode cX5_hourOf 1 = .ok (.istore_n 2, 1)) ∧ (decode cX5_hourOf 2 = .ok (.iload_n 2, 1)) ∧ (decode cX5_hourOf 3 = .ok (.aload_n 0, 1)) ∧ (decode cX5_hourOf 4 = .ok (.getfield 18, 3)) ∧ (decode cX5_hourOf 7 = .ok (.if_icmp .ge 27, 3)) ∧ (decode cX5_hourOf 34 = .ok (.bipush (-5), 2)) ∧ (decode cX5_hourOf 36 = .ok (.ireturn, 1)) := by decide +kernel
theorem dX5_hourOf_0 : decode cX5_hourOf 0 = .ok (.iconst 0, 1) := db_X5_hourOf_0.1
theorem dX5_hourOf_1 : decode cX5_hourOf 1 = .ok (.istore_n 2, 1) := db_X5_hourOf_0.2.1
theorem dX5_hourOf_2 : decode cX5_hourOf 2 = .ok (.iload_n 2, 1) := db_X5_hourOf_0.2.2.1
theorem dX5_hourOf_3 : decode cX5_hourOf 3 = .ok (.aload_n 0, 1) := db_X5_hourOf_0.2.2.2.1
theorem dX5_hourOf_4 : decode cX5_hourOf 4 = .ok (.getfield 18, 3) := db_X5_hourOf_0.2.2.2.2.1
theorem dX5_hourOf_7 : decode cX5_hourOf 7 = .ok (.if_icmp .ge 27, 3) := db_X5_hourOf_0.2.2.2.2.2.1
theorem dX5_hourOf_34 : decode cX5_hourOf 34 = .ok (.bipush (-5), 2) := db_X5_hourOf_0.2.2.2.2.2.2.1
theorem dX5_hourOf_36 : decode cX5_hourOf 36 = .ok (.ireturn, 1) := db_X5_hourOf_0.2.2.2.2.2.2.2
set_option maxRecDepth 20000 in
theorem db_X5_hourOf_10 : (decode cX5_hourOf 10 = .ok (.aload_n 0, 1)) ∧ (decode cX5_hourOf 11 = .ok (.iload_n 2, 1)) ∧ (decode cX5_hourOf 12 = .ok (.invokevirtual 57, 3)) ∧ (decode cX5_hourOf 15 = .ok (.istore_n 3, 1)) ∧ (decode cX5_hourOf 16 = .ok (.aload_n 0, 1)) ∧ (decode cX5_hourOf 17 = .ok (.getfield 9, 3)) ∧ (decode cX5_hourOf 20 = .ok (.iload_n 2, 1)) ∧ (decode cX5_hourOf 21 = .ok (.iaload, 1)) := by decide +kernel
theorem dX5_hourOf_10 : decode cX5_hourOf 10 = .ok (.aload_n 0, 1) := db_X5_hourOf_10.1
theorem dX5_hourOf_11 : decode cX5_hourOf 11 = .ok (.iload_n 2, 1) := db_X5_hourOf_10.2.1
set_option maxRecDepth 20000 in
theorem ggX5_hourOf_X5_pinLeastHour : GoodIn wsX5_hourOf wsX5_pinLeastHour := goodIn_r _ [7, 8, 9, 10, 11, 12, 13, 14, 6, 15, 1, 16, 17, 18, 19, 20, 21, 22, 23, 24, 25] rfl (by decide +kernel)
set_option maxRecDepth 20000 in
theorem gX5_hourOf_X5_pinLeastHour : GoodIn wsX5_hourOf (wsV RX5 57 RX5 yX5_pinLeastHour wsX5_pinLeastHour) := goodIn_app (goodIn_r _ [3, 4, 5, 6] rfl (by decide +kernel)) ggX5_hourOf_X5_pinLeastHour
theorem dX5_hourOf_12 : decode cX5_hourOf 12 = .ok (.invokevirtual 57, 3) := db_X5_hourOf_10.2.2.1
theorem dX5_hourOf_15 : decode cX5_hourOf 15 = .ok (.istore_n 3, 1) := db_X5_hourOf_10.2.2.2.1
theorem dX5_hourOf_16 : decode cX5_hourOf 16 = .ok (.aload_n 0, 1) := db_X5_hourOf_10.2.2.2.2.1
theorem dX5_hourOf_17 : decode cX5_hourOf 17 = .ok (.getfield 9, 3) := db_X5_hourOf_10.2.2.2.2.2.1
theorem dX5_hourOf_20 : decode cX5_hourOf 20 = .ok (.iload_n 2, 1) := db_X5_hourOf_10.2.2.2.2.2.2.1
theorem dX5_hourOf_21 : decode cX5_hourOf 21 = .ok (.iaload, 1) := db_X5_hourOf_10.2.2.2.2.2.2.2
set_option maxRecDepth 20000 in
theorem db_X5_hourOf_22 : (decode cX5_hourOf 22 = .ok (.iload_n 1, 1)) ∧ (decode cX5_hourOf 23 = .ok (.if_icmp .ne 5, 3)) ∧ (decode cX5_hourOf 28 = .ok (.iinc 2 1, 3)) ∧ (decode cX5_hourOf 31 = .ok (.goto (-29), 3)) ∧ (decode cX5_hourOf 26 = .ok (.iload_n 3, 1)) ∧ (decode cX5_hourOf 27 = .ok (.ireturn, 1)) := by decide +kernel
theorem dX5_hourOf_22 : decode cX5_hourOf 22 = .ok (.iload_n 1, 1) := db_X5_hourOf_22.1
theorem dX5_hourOf_23 : decode cX5_hourOf 23 = .ok (.if_icmp .ne 5, 3) := db_X5_hourOf_22.2.1
theorem dX5_hourOf_28 : decode cX5_hourOf 28 = .ok (.iinc 2 1, 3) := db_X5_hourOf_22.2.2.1
theorem dX5_hourOf_31 : decode cX5_hourOf 31 = .ok (.goto (-29), 3) := db_X5_hourOf_22.2.2.2.1
theorem dX5_hourOf_26 : decode cX5_hourOf 26 = .ok (.iload_n 3, 1) := db_X5_hourOf_22.2.2.2.2.1
theorem dX5_hourOf_27 : decode cX5_hourOf 27 = .ok (.ireturn, 1) := db_X5_hourOf_22.2.2.2.2.2
set_option maxRecDepth 20000 in
theorem db_X7_canHold_0 : (decode cX7_canHold 0 = .ok (.aload_n 0, 1)) ∧ (decode cX7_canHold 1 = .ok (.iload_n 1, 1)) ∧ (decode cX7_canHold 2 = .ok (.invokevirtual 96, 3)) ∧ (decode cX7_canHold 5 = .ok (.ifCond .eq 10, 3)) ∧ (decode cX7_canHold 8 = .ok (.iload_n 2, 1)) ∧ (decode cX7_canHold 9 = .ok (.invokestatic 132, 3)) ∧ (decode cX7_canHold 12 = .ok (.ifCond .ne 5, 3)) ∧ (decode cX7_canHold 17 = .ok (.aload_n 0, 1)) := by decide +kernel
theorem dX7_canHold_0 : decode cX7_canHold 0 = .ok (.aload_n 0, 1) := db_X7_canHold_0.1
theorem dX7_canHold_1 : decode cX7_canHold 1 = .ok (.iload_n 1, 1) := db_X7_canHold_0.2.1
set_option maxRecDepth 20000 in
theorem ggX7_canHold_X7_isCase : GoodIn wsX7_canHold wsX7_isCase := goodIn_r _ [9, 2, 10, 11, 12, 8, 13, 52, 53, 54, 55, 56, 57, 58, 59, 60, 61, 62, 63] rfl (by decide +kernel)
set_option maxRecDepth 20000 in
theorem gX7_canHold_X7_isCase : GoodIn wsX7_canHold (wsV RX7 96 RX7 yX7_isCase wsX7_isCase) := goodIn_app (goodIn_r _ [5, 6, 7, 8] rfl (by decide +kernel)) ggX7_canHold_X7_isCase
theorem dX7_canHold_2 : decode cX7_canHold 2 = .ok (.invokevirtual 96, 3) := db_X7_canHold_0.2.2.1
theorem dX7_canHold_5 : decode cX7_canHold 5 = .ok (.ifCond .eq 10, 3) := db_X7_canHold_0.2.2.2.1
theorem dX7_canHold_8 : decode cX7_canHold 8 = .ok (.iload_n 2, 1) := db_X7_canHold_0.2.2.2.2.1
set_option maxRecDepth 20000 in
theorem ggX7_canHold_X7_isSide : GoodIn wsX7_canHold wsX7_isSide := goodIn_r _ [16, 11, 12, 8, 13] rfl (by decide +kernel)
set_option maxRecDepth 20000 in
theorem gX7_canHold_X7_isSide : GoodIn wsX7_canHold (va_wsS RX7 132 yX7_isSide wsX7_isSide) := goodIn_app (goodIn_r _ [14, 15, 8] rfl (by decide +kernel)) ggX7_canHold_X7_isSide
theorem dX7_canHold_9 : decode cX7_canHold 9 = .ok (.invokestatic 132, 3) := db_X7_canHold_0.2.2.2.2.2.1
theorem dX7_canHold_12 : decode cX7_canHold 12 = .ok (.ifCond .ne 5, 3) := db_X7_canHold_0.2.2.2.2.2.2.1
theorem dX7_canHold_17 : decode cX7_canHold 17 = .ok (.aload_n 0, 1) := db_X7_canHold_0.2.2.2.2.2.2.2
set_option maxRecDepth 20000 in
theorem db_X7_canHold_18 : (decode cX7_canHold 18 = .ok (.getfield 26, 3)) ∧ (decode cX7_canHold 21 = .ok (.aload_n 0, 1)) ∧ (decode cX7_canHold 22 = .ok (.getfield 12, 3)) ∧ (decode cX7_canHold 25 = .ok (.getfield 86, 3)) ∧ (decode cX7_canHold 28 = .ok (.iload_n 1, 1)) ∧ (decode cX7_canHold 29 = .ok (.aaload, 1)) ∧ (decode cX7_canHold 30 = .ok (.iload_n 2, 1)) ∧ (decode cX7_canHold 31 = .ok (.aload_n 0, 1)) := by decide +kernel
theorem dX7_canHold_18 : decode cX7_canHold 18 = .ok (.getfield 26, 3) := db_X7_canHold_18.1
theorem dX7_canHold_21 : decode cX7_canHold 21 = .ok (.aload_n 0, 1) := db_X7_canHold_18.2.1
theorem dX7_canHold_22 : decode cX7_canHold 22 = .ok (.getfield 12, 3) := db_X7_canHold_18.2.2.1
theorem dX7_canHold_25 : decode cX7_canHold 25 = .ok (.getfield 86, 3) := db_X7_canHold_18.2.2.2.1
theorem dX7_canHold_28 : decode cX7_canHold 28 = .ok (.iload_n 1, 1) := db_X7_canHold_18.2.2.2.2.1
theorem dX7_canHold_29 : decode cX7_canHold 29 = .ok (.aaload, 1) := db_X7_canHold_18.2.2.2.2.2.1
theorem dX7_canHold_30 : decode cX7_canHold 30 = .ok (.iload_n 2, 1) := db_X7_canHold_18.2.2.2.2.2.2.1
theorem dX7_canHold_31 : decode cX7_canHold 31 = .ok (.aload_n 0, 1) := db_X7_canHold_18.2.2.2.2.2.2.2
set_option maxRecDepth 20000 in
theorem db_X7_canHold_32 : (decode cX7_canHold 32 = .ok (.getfield 12, 3)) ∧ (decode cX7_canHold 35 = .ok (.getfield 86, 3)) ∧ (decode cX7_canHold 38 = .ok (.iload_n 1, 1)) ∧ (decode cX7_canHold 39 = .ok (.aaload, 1)) ∧ (decode cX7_canHold 40 = .ok (.getfield 169, 3)) ∧ (decode cX7_canHold 43 = .ok (.invokevirtual 197, 3)) ∧ (decode cX7_canHold 46 = .ok (.aload_n 0, 1)) ∧ (decode cX7_canHold 47 = .ok (.getfield 26, 3)) := by decide +kernel
theorem dX7_canHold_32 : decode cX7_canHold 32 = .ok (.getfield 12, 3) := db_X7_canHold_32.1
theorem dX7_canHold_35 : decode cX7_canHold 35 = .ok (.getfield 86, 3) := db_X7_canHold_32.2.1
theorem dX7_canHold_38 : decode cX7_canHold 38 = .ok (.iload_n 1, 1) := db_X7_canHold_32.2.2.1
theorem dX7_canHold_39 : decode cX7_canHold 39 = .ok (.aaload, 1) := db_X7_canHold_32.2.2.2.1
theorem dX7_canHold_40 : decode cX7_canHold 40 = .ok (.getfield 169, 3) := db_X7_canHold_32.2.2.2.2.1
set_option maxRecDepth 20000 in
theorem ggX7_canHold_X5_read : GoodIn wsX7_canHold wsX5_read := goodIn_r _ [21, 22, 23, 24, 25, 26, 27, 28, 29, 20, 30, 31, 32, 33, 34, 35, 36, 37, 38, 75, 76, 77, 64, 65, 66, 67, 68, 69, 70, 71, 72, 73, 74, 78, 79, 80, 81, 82] rfl (by decide +kernel)
set_option maxRecDepth 20000 in
theorem gX7_canHold_X5_read : GoodIn wsX7_canHold (wsV RX7 197 RX5 yX5_read wsX5_read) := goodIn_app (goodIn_r _ [17, 18, 19, 20] rfl (by decide +kernel)) ggX7_canHold_X5_read
theorem dX7_canHold_43 : decode cX7_canHold 43 = .ok (.invokevirtual 197, 3) := db_X7_canHold_32.2.2.2.2.2.1
theorem dX7_canHold_46 : decode cX7_canHold 46 = .ok (.aload_n 0, 1) := db_X7_canHold_32.2.2.2.2.2.2.1
theorem dX7_canHold_47 : decode cX7_canHold 47 = .ok (.getfield 26, 3) := db_X7_canHold_32.2.2.2.2.2.2.2
set_option maxRecDepth 20000 in
theorem ggX7_canHold_X5_stands : GoodIn wsX7_canHold wsX5_stands := goodIn_r _ [42, 22, 27, 43, 8, 44, 45, 46, 47, 48, 49, 50, 51, 75, 76, 77] rfl (by decide +kernel)
set_option maxRecDepth 20000 in
theorem gX7_canHold_X5_stands : GoodIn wsX7_canHold (wsV RX7 201 RX5 yX5_stands wsX5_stands) := goodIn_app (goodIn_r _ [39, 40, 41, 20] rfl (by decide +kernel)) ggX7_canHold_X5_stands
set_option maxRecDepth 20000 in
theorem db_X7_canHold_50 : (decode cX7_canHold 50 = .ok (.invokevirtual 201, 3)) ∧ (decode cX7_canHold 53 = .ok (.ifCond .eq 7, 3)) ∧ (decode cX7_canHold 60 = .ok (.iconst 0, 1)) ∧ (decode cX7_canHold 61 = .ok (.ireturn, 1)) ∧ (decode cX7_canHold 56 = .ok (.iconst 1, 1)) ∧ (decode cX7_canHold 57 = .ok (.goto 4, 3)) ∧ (decode cX7_canHold 15 = .ok (.iconst (-1), 1)) ∧ (decode cX7_canHold 16 = .ok (.ireturn, 1)) := by decide +kernel
theorem dX7_canHold_50 : decode cX7_canHold 50 = .ok (.invokevirtual 201, 3) := db_X7_canHold_50.1
theorem dX7_canHold_53 : decode cX7_canHold 53 = .ok (.ifCond .eq 7, 3) := db_X7_canHold_50.2.1
theorem dX7_canHold_60 : decode cX7_canHold 60 = .ok (.iconst 0, 1) := db_X7_canHold_50.2.2.1
theorem dX7_canHold_61 : decode cX7_canHold 61 = .ok (.ireturn, 1) := db_X7_canHold_50.2.2.2.1
theorem dX7_canHold_56 : decode cX7_canHold 56 = .ok (.iconst 1, 1) := db_X7_canHold_50.2.2.2.2.1
theorem dX7_canHold_57 : decode cX7_canHold 57 = .ok (.goto 4, 3) := db_X7_canHold_50.2.2.2.2.2.1
theorem dX7_canHold_15 : decode cX7_canHold 15 = .ok (.iconst (-1), 1) := db_X7_canHold_50.2.2.2.2.2.2.1
theorem dX7_canHold_16 : decode cX7_canHold 16 = .ok (.ireturn, 1) := db_X7_canHold_50.2.2.2.2.2.2.2
set_option maxRecDepth 20000 in
theorem db_X7_hour_0 : (decode cX7_hour 0 = .ok (.aload_n 0, 1)) ∧ (decode cX7_hour 1 = .ok (.iload_n 1, 1)) ∧ (decode cX7_hour 2 = .ok (.iload_n 2, 1)) ∧ (decode cX7_hour 3 = .ok (.invokevirtual 194, 3)) ∧ (decode cX7_hour 6 = .ok (.ifCond .ne 5, 3)) ∧ (decode cX7_hour 11 = .ok (.aload_n 0, 1)) ∧ (decode cX7_hour 12 = .ok (.getfield 12, 3)) ∧ (decode cX7_hour 15 = .ok (.getfield 86, 3)) := by decide +kernel
theorem dX7_hour_0 : decode cX7_hour 0 = .ok (.aload_n 0, 1) := db_X7_hour_0.1
theorem dX7_hour_1 : decode cX7_hour 1 = .ok (.iload_n 1, 1) := db_X7_hour_0.2.1
theorem dX7_hour_2 : decode cX7_hour 2 = .ok (.iload_n 2, 1) := db_X7_hour_0.2.2.1
set_option maxRecDepth 20000 in
theorem ggX7_hour_X7_isTerm : GoodIn wsX7_hour wsX7_isTerm := goodIn_r _ [12, 1, 2, 7, 13, 14, 15, 11, 16, 17, 18, 19, 20, 65, 66, 67, 68, 69, 70, 71, 72, 73, 74, 75, 76, 77, 78, 79, 80, 81, 82, 83, 84, 85, 86, 87] rfl (by decide +kernel)
set_option maxRecDepth 20000 in
theorem gX7_hour_X7_isTerm : GoodIn wsX7_hour (wsV RX7 194 RX7 yX7_isTerm wsX7_isTerm) := goodIn_app (goodIn_r _ [8, 9, 10, 11] rfl (by decide +kernel)) ggX7_hour_X7_isTerm
theorem dX7_hour_3 : decode cX7_hour 3 = .ok (.invokevirtual 194, 3) := db_X7_hour_0.2.2.2.1
theorem dX7_hour_6 : decode cX7_hour 6 = .ok (.ifCond .ne 5, 3) := db_X7_hour_0.2.2.2.2.1
theorem dX7_hour_11 : decode cX7_hour 11 = .ok (.aload_n 0, 1) := db_X7_hour_0.2.2.2.2.2.1
theorem dX7_hour_12 : decode cX7_hour 12 = .ok (.getfield 12, 3) := db_X7_hour_0.2.2.2.2.2.2.1
theorem dX7_hour_15 : decode cX7_hour 15 = .ok (.getfield 86, 3) := db_X7_hour_0.2.2.2.2.2.2.2
set_option maxRecDepth 20000 in
theorem db_X7_hour_18 : (decode cX7_hour 18 = .ok (.iload_n 1, 1)) ∧ (decode cX7_hour 19 = .ok (.aaload, 1)) ∧ (decode cX7_hour 20 = .ok (.astore_n 3, 1)) ∧ (decode cX7_hour 21 = .ok (.aload_n 3, 1)) ∧ (decode cX7_hour 22 = .ok (.getfield 172, 3)) ∧ (decode cX7_hour 25 = .ok (.iload_n 2, 1)) ∧ (decode cX7_hour 26 = .ok (.aaload, 1)) ∧ (decode cX7_hour 27 = .ok (.getfield 181, 3)) := by decide +kernel
theorem dX7_hour_18 : decode cX7_hour 18 = .ok (.iload_n 1, 1) := db_X7_hour_18.1
theorem dX7_hour_19 : decode cX7_hour 19 = .ok (.aaload, 1) := db_X7_hour_18.2.1
theorem dX7_hour_20 : decode cX7_hour 20 = .ok (.astore_n 3, 1) := db_X7_hour_18.2.2.1
theorem dX7_hour_21 : decode cX7_hour 21 = .ok (.aload_n 3, 1) := db_X7_hour_18.2.2.2.1
theorem dX7_hour_22 : decode cX7_hour 22 = .ok (.getfield 172, 3) := db_X7_hour_18.2.2.2.2.1
theorem dX7_hour_25 : decode cX7_hour 25 = .ok (.iload_n 2, 1) := db_X7_hour_18.2.2.2.2.2.1
theorem dX7_hour_26 : decode cX7_hour 26 = .ok (.aaload, 1) := db_X7_hour_18.2.2.2.2.2.2.1
theorem dX7_hour_27 : decode cX7_hour 27 = .ok (.getfield 181, 3) := db_X7_hour_18.2.2.2.2.2.2.2
set_option maxRecDepth 20000 in
theorem db_X7_hour_30 : (decode cX7_hour 30 = .ok (.ifCond .ne 6, 3)) ∧ (decode cX7_hour 36 = .ok (.aload_n 0, 1)) ∧ (decode cX7_hour 37 = .ok (.getfield 26, 3)) ∧ (decode cX7_hour 40 = .ok (.aload_n 3, 1)) ∧ (decode cX7_hour 41 = .ok (.aload_n 3, 1)) ∧ (decode cX7_hour 42 = .ok (.getfield 172, 3)) ∧ (decode cX7_hour 45 = .ok (.iload_n 2, 1)) ∧ (decode cX7_hour 46 = .ok (.aaload, 1)) := by decide +kernel
theorem dX7_hour_30 : decode cX7_hour 30 = .ok (.ifCond .ne 6, 3) := db_X7_hour_30.1
theorem dX7_hour_36 : decode cX7_hour 36 = .ok (.aload_n 0, 1) := db_X7_hour_30.2.1
theorem dX7_hour_37 : decode cX7_hour 37 = .ok (.getfield 26, 3) := db_X7_hour_30.2.2.1
theorem dX7_hour_40 : decode cX7_hour 40 = .ok (.aload_n 3, 1) := db_X7_hour_30.2.2.2.1
theorem dX7_hour_41 : decode cX7_hour 41 = .ok (.aload_n 3, 1) := db_X7_hour_30.2.2.2.2.1
theorem dX7_hour_42 : decode cX7_hour 42 = .ok (.getfield 172, 3) := db_X7_hour_30.2.2.2.2.2.1
theorem dX7_hour_45 : decode cX7_hour 45 = .ok (.iload_n 2, 1) := db_X7_hour_30.2.2.2.2.2.2.1
theorem dX7_hour_46 : decode cX7_hour 46 = .ok (.aaload, 1) := db_X7_hour_30.2.2.2.2.2.2.2
set_option maxRecDepth 20000 in
theorem db_X7_hour_47 : (decode cX7_hour 47 = .ok (.getfield 176, 3)) ∧ (decode cX7_hour 50 = .ok (.aload_n 3, 1)) ∧ (decode cX7_hour 51 = .ok (.getfield 169, 3)) ∧ (decode cX7_hour 54 = .ok (.invokevirtual 197, 3)) ∧ (decode cX7_hour 57 = .ok (.aload_n 0, 1)) ∧ (decode cX7_hour 58 = .ok (.getfield 26, 3)) ∧ (decode cX7_hour 61 = .ok (.invokevirtual 201, 3)) ∧ (decode cX7_hour 64 = .ok (.ifCond .eq 14, 3)) := by decide +kernel
theorem dX7_hour_47 : decode cX7_hour 47 = .ok (.getfield 176, 3) := db_X7_hour_47.1
theorem dX7_hour_50 : decode cX7_hour 50 = .ok (.aload_n 3, 1) := db_X7_hour_47.2.1
theorem dX7_hour_51 : decode cX7_hour 51 = .ok (.getfield 169, 3) := db_X7_hour_47.2.2.1
set_option maxRecDepth 20000 in
theorem ggX7_hour_X5_read : GoodIn wsX7_hour wsX5_read := goodIn_r _ [25, 26, 27, 28, 29, 30, 31, 32, 33, 24, 34, 35, 36, 37, 38, 39, 40, 41, 42, 93, 94, 95, 77, 78, 79, 80, 81, 82, 83, 84, 85, 86, 87, 88, 89, 90, 91, 92] rfl (by decide +kernel)
set_option maxRecDepth 20000 in
theorem gX7_hour_X5_read : GoodIn wsX7_hour (wsV RX7 197 RX5 yX5_read wsX5_read) := goodIn_app (goodIn_r _ [21, 22, 23, 24] rfl (by decide +kernel)) ggX7_hour_X5_read
theorem dX7_hour_54 : decode cX7_hour 54 = .ok (.invokevirtual 197, 3) := db_X7_hour_47.2.2.2.1
theorem dX7_hour_57 : decode cX7_hour 57 = .ok (.aload_n 0, 1) := db_X7_hour_47.2.2.2.2.1
theorem dX7_hour_58 : decode cX7_hour 58 = .ok (.getfield 26, 3) := db_X7_hour_47.2.2.2.2.2.1
set_option maxRecDepth 20000 in
theorem ggX7_hour_X5_stands : GoodIn wsX7_hour wsX5_stands := goodIn_r _ [46, 26, 31, 47, 11, 48, 49, 50, 51, 52, 53, 54, 55, 93, 94, 95] rfl (by decide +kernel)
set_option maxRecDepth 20000 in
theorem gX7_hour_X5_stands : GoodIn wsX7_hour (wsV RX7 201 RX5 yX5_stands wsX5_stands) := goodIn_app (goodIn_r _ [43, 44, 45, 24] rfl (by decide +kernel)) ggX7_hour_X5_stands
theorem dX7_hour_61 : decode cX7_hour 61 = .ok (.invokevirtual 201, 3) := db_X7_hour_47.2.2.2.2.2.2.1
theorem dX7_hour_64 : decode cX7_hour 64 = .ok (.ifCond .eq 14, 3) := db_X7_hour_47.2.2.2.2.2.2.2
set_option maxRecDepth 20000 in
theorem db_X7_hour_78 : (decode cX7_hour 78 = .ok (.bipush (-5), 2)) ∧ (decode cX7_hour 80 = .ok (.ireturn, 1)) ∧ (decode cX7_hour 67 = .ok (.aload_n 0, 1)) ∧ (decode cX7_hour 68 = .ok (.getfield 26, 3)) ∧ (decode cX7_hour 71 = .ok (.iload_n 2, 1)) ∧ (decode cX7_hour 72 = .ok (.invokevirtual 204, 3)) ∧ (decode cX7_hour 75 = .ok (.goto 5, 3)) ∧ (decode cX7_hour 33 = .ok (.bipush (-4), 2)) := by decide +kernel
theorem dX7_hour_78 : decode cX7_hour 78 = .ok (.bipush (-5), 2) := db_X7_hour_78.1
theorem dX7_hour_80 : decode cX7_hour 80 = .ok (.ireturn, 1) := db_X7_hour_78.2.1
theorem dX7_hour_67 : decode cX7_hour 67 = .ok (.aload_n 0, 1) := db_X7_hour_78.2.2.1
theorem dX7_hour_68 : decode cX7_hour 68 = .ok (.getfield 26, 3) := db_X7_hour_78.2.2.2.1
theorem dX7_hour_71 : decode cX7_hour 71 = .ok (.iload_n 2, 1) := db_X7_hour_78.2.2.2.2.1
set_option maxRecDepth 20000 in
theorem ggX7_hour_X5_hourOf : GoodIn wsX7_hour wsX5_hourOf := goodIn_r _ [59, 26, 30, 60, 61, 62, 24, 63, 31, 47, 11, 48, 64, 44, 45, 46, 49, 50, 51, 52, 53, 54, 55, 93, 94, 95] rfl (by decide +kernel)
set_option maxRecDepth 20000 in
theorem gX7_hour_X5_hourOf : GoodIn wsX7_hour (wsV RX7 204 RX5 yX5_hourOf wsX5_hourOf) := goodIn_app (goodIn_r _ [56, 57, 58, 24] rfl (by decide +kernel)) ggX7_hour_X5_hourOf
theorem dX7_hour_72 : decode cX7_hour 72 = .ok (.invokevirtual 204, 3) := db_X7_hour_78.2.2.2.2.2.1
theorem dX7_hour_75 : decode cX7_hour 75 = .ok (.goto 5, 3) := db_X7_hour_78.2.2.2.2.2.2.1
theorem dX7_hour_33 : decode cX7_hour 33 = .ok (.bipush (-4), 2) := db_X7_hour_78.2.2.2.2.2.2.2
set_option maxRecDepth 20000 in
theorem db_X7_hour_35 : (decode cX7_hour 35 = .ok (.ireturn, 1)) ∧ (decode cX7_hour 9 = .ok (.iconst (-1), 1)) ∧ (decode cX7_hour 10 = .ok (.ireturn, 1)) := by decide +kernel
theorem dX7_hour_35 : decode cX7_hour 35 = .ok (.ireturn, 1) := db_X7_hour_35.1
theorem dX7_hour_9 : decode cX7_hour 9 = .ok (.iconst (-1), 1) := db_X7_hour_35.2.1
theorem dX7_hour_10 : decode cX7_hour 10 = .ok (.ireturn, 1) := db_X7_hour_35.2.2
set_option maxRecDepth 20000 in
theorem db_X7_breaks_0 : (decode cX7_breaks 0 = .ok (.aload_n 0, 1)) ∧ (decode cX7_breaks 1 = .ok (.iload_n 1, 1)) ∧ (decode cX7_breaks 2 = .ok (.invokevirtual 96, 3)) ∧ (decode cX7_breaks 5 = .ok (.ifCond .eq 10, 3)) ∧ (decode cX7_breaks 8 = .ok (.iload_n 2, 1)) ∧ (decode cX7_breaks 9 = .ok (.invokestatic 132, 3)) ∧ (decode cX7_breaks 12 = .ok (.ifCond .ne 5, 3)) ∧ (decode cX7_breaks 17 = .ok (.aload_n 0, 1)) := by decide +kernel
theorem dX7_breaks_0 : decode cX7_breaks 0 = .ok (.aload_n 0, 1) := db_X7_breaks_0.1
theorem dX7_breaks_1 : decode cX7_breaks 1 = .ok (.iload_n 1, 1) := db_X7_breaks_0.2.1
set_option maxRecDepth 20000 in
theorem ggX7_breaks_X7_isCase : GoodIn wsX7_breaks wsX7_isCase := goodIn_r _ [11, 1, 12, 13, 14, 10, 15, 54, 55, 56, 57, 58, 59, 60, 61, 62, 63, 64, 65] rfl (by decide +kernel)
set_option maxRecDepth 20000 in
theorem gX7_breaks_X7_isCase : GoodIn wsX7_breaks (wsV RX7 96 RX7 yX7_isCase wsX7_isCase) := goodIn_app (goodIn_r _ [7, 8, 9, 10] rfl (by decide +kernel)) ggX7_breaks_X7_isCase
theorem dX7_breaks_2 : decode cX7_breaks 2 = .ok (.invokevirtual 96, 3) := db_X7_breaks_0.2.2.1
theorem dX7_breaks_5 : decode cX7_breaks 5 = .ok (.ifCond .eq 10, 3) := db_X7_breaks_0.2.2.2.1
theorem dX7_breaks_8 : decode cX7_breaks 8 = .ok (.iload_n 2, 1) := db_X7_breaks_0.2.2.2.2.1
set_option maxRecDepth 20000 in
theorem ggX7_breaks_X7_isSide : GoodIn wsX7_breaks wsX7_isSide := goodIn_r _ [18, 13, 14, 10, 15] rfl (by decide +kernel)
set_option maxRecDepth 20000 in
theorem gX7_breaks_X7_isSide : GoodIn wsX7_breaks (va_wsS RX7 132 yX7_isSide wsX7_isSide) := goodIn_app (goodIn_r _ [16, 17, 10] rfl (by decide +kernel)) ggX7_breaks_X7_isSide
theorem dX7_breaks_9 : decode cX7_breaks 9 = .ok (.invokestatic 132, 3) := db_X7_breaks_0.2.2.2.2.2.1
theorem dX7_breaks_12 : decode cX7_breaks 12 = .ok (.ifCond .ne 5, 3) := db_X7_breaks_0.2.2.2.2.2.2.1
theorem dX7_breaks_17 : decode cX7_breaks 17 = .ok (.aload_n 0, 1) := db_X7_breaks_0.2.2.2.2.2.2.2
set_option maxRecDepth 20000 in
theorem db_X7_breaks_18 : (decode cX7_breaks 18 = .ok (.getfield 12, 3)) ∧ (decode cX7_breaks 21 = .ok (.getfield 86, 3)) ∧ (decode cX7_breaks 24 = .ok (.iload_n 1, 1)) ∧ (decode cX7_breaks 25 = .ok (.aaload, 1)) ∧ (decode cX7_breaks 26 = .ok (.astore_n 3, 1)) ∧ (decode cX7_breaks 27 = .ok (.iconst 0, 1)) ∧ (decode cX7_breaks 28 = .ok (.istore 4, 2)) ∧ (decode cX7_breaks 30 = .ok (.iload 4, 2)) := by decide +kernel
theorem dX7_breaks_18 : decode cX7_breaks 18 = .ok (.getfield 12, 3) := db_X7_breaks_18.1
theorem dX7_breaks_21 : decode cX7_breaks 21 = .ok (.getfield 86, 3) := db_X7_breaks_18.2.1
theorem dX7_breaks_24 : decode cX7_breaks 24 = .ok (.iload_n 1, 1) := db_X7_breaks_18.2.2.1
theorem dX7_breaks_25 : decode cX7_breaks 25 = .ok (.aaload, 1) := db_X7_breaks_18.2.2.2.1
theorem dX7_breaks_26 : decode cX7_breaks 26 = .ok (.astore_n 3, 1) := db_X7_breaks_18.2.2.2.2.1
theorem dX7_breaks_27 : decode cX7_breaks 27 = .ok (.iconst 0, 1) := db_X7_breaks_18.2.2.2.2.2.1
theorem dX7_breaks_28 : decode cX7_breaks 28 = .ok (.istore 4, 2) := db_X7_breaks_18.2.2.2.2.2.2.1
theorem dX7_breaks_30 : decode cX7_breaks 30 = .ok (.iload 4, 2) := db_X7_breaks_18.2.2.2.2.2.2.2
set_option maxRecDepth 20000 in
theorem db_X7_breaks_32 : (decode cX7_breaks 32 = .ok (.aload_n 3, 1)) ∧ (decode cX7_breaks 33 = .ok (.getfield 169, 3)) ∧ (decode cX7_breaks 36 = .ok (.if_icmp .ge 49, 3)) ∧ (decode cX7_breaks 85 = .ok (.bipush (-5), 2)) ∧ (decode cX7_breaks 87 = .ok (.ireturn, 1)) ∧ (decode cX7_breaks 39 = .ok (.aload_n 3, 1)) ∧ (decode cX7_breaks 40 = .ok (.getfield 172, 3)) ∧ (decode cX7_breaks 43 = .ok (.iload 4, 2)) := by decide +kernel
theorem dX7_breaks_32 : decode cX7_breaks 32 = .ok (.aload_n 3, 1) := db_X7_breaks_32.1
theorem dX7_breaks_33 : decode cX7_breaks 33 = .ok (.getfield 169, 3) := db_X7_breaks_32.2.1
theorem dX7_breaks_36 : decode cX7_breaks 36 = .ok (.if_icmp .ge 49, 3) := db_X7_breaks_32.2.2.1
theorem dX7_breaks_85 : decode cX7_breaks 85 = .ok (.bipush (-5), 2) := db_X7_breaks_32.2.2.2.1
theorem dX7_breaks_87 : decode cX7_breaks 87 = .ok (.ireturn, 1) := db_X7_breaks_32.2.2.2.2.1
theorem dX7_breaks_39 : decode cX7_breaks 39 = .ok (.aload_n 3, 1) := db_X7_breaks_32.2.2.2.2.2.1
theorem dX7_breaks_40 : decode cX7_breaks 40 = .ok (.getfield 172, 3) := db_X7_breaks_32.2.2.2.2.2.2.1
theorem dX7_breaks_43 : decode cX7_breaks 43 = .ok (.iload 4, 2) := db_X7_breaks_32.2.2.2.2.2.2.2
set_option maxRecDepth 20000 in
theorem db_X7_breaks_45 : (decode cX7_breaks 45 = .ok (.aaload, 1)) ∧ (decode cX7_breaks 46 = .ok (.getfield 176, 3)) ∧ (decode cX7_breaks 49 = .ok (.iload_n 2, 1)) ∧ (decode cX7_breaks 50 = .ok (.if_icmp .ne 29, 3)) ∧ (decode cX7_breaks 79 = .ok (.iinc 4 1, 3)) ∧ (decode cX7_breaks 82 = .ok (.goto (-52), 3)) ∧ (decode cX7_breaks 53 = .ok (.aload_n 0, 1)) ∧ (decode cX7_breaks 54 = .ok (.getfield 26, 3)) := by decide +kernel
theorem dX7_breaks_45 : decode cX7_breaks 45 = .ok (.aaload, 1) := db_X7_breaks_45.1
theorem dX7_breaks_46 : decode cX7_breaks 46 = .ok (.getfield 176, 3) := db_X7_breaks_45.2.1
theorem dX7_breaks_49 : decode cX7_breaks 49 = .ok (.iload_n 2, 1) := db_X7_breaks_45.2.2.1
theorem dX7_breaks_50 : decode cX7_breaks 50 = .ok (.if_icmp .ne 29, 3) := db_X7_breaks_45.2.2.2.1
theorem dX7_breaks_79 : decode cX7_breaks 79 = .ok (.iinc 4 1, 3) := db_X7_breaks_45.2.2.2.2.1
theorem dX7_breaks_82 : decode cX7_breaks 82 = .ok (.goto (-52), 3) := db_X7_breaks_45.2.2.2.2.2.1
theorem dX7_breaks_53 : decode cX7_breaks 53 = .ok (.aload_n 0, 1) := db_X7_breaks_45.2.2.2.2.2.2.1
theorem dX7_breaks_54 : decode cX7_breaks 54 = .ok (.getfield 26, 3) := db_X7_breaks_45.2.2.2.2.2.2.2
set_option maxRecDepth 20000 in
theorem db_X7_breaks_57 : (decode cX7_breaks 57 = .ok (.aload_n 3, 1)) ∧ (decode cX7_breaks 58 = .ok (.iload_n 2, 1)) ∧ (decode cX7_breaks 59 = .ok (.iload 4, 2)) ∧ (decode cX7_breaks 61 = .ok (.iconst 1, 1)) ∧ (decode cX7_breaks 62 = .ok (.iadd, 1)) ∧ (decode cX7_breaks 63 = .ok (.invokevirtual 197, 3)) ∧ (decode cX7_breaks 66 = .ok (.aload_n 0, 1)) ∧ (decode cX7_breaks 67 = .ok (.getfield 26, 3)) := by decide +kernel
theorem dX7_breaks_57 : decode cX7_breaks 57 = .ok (.aload_n 3, 1) := db_X7_breaks_57.1
theorem dX7_breaks_58 : decode cX7_breaks 58 = .ok (.iload_n 2, 1) := db_X7_breaks_57.2.1
theorem dX7_breaks_59 : decode cX7_breaks 59 = .ok (.iload 4, 2) := db_X7_breaks_57.2.2.1
theorem dX7_breaks_61 : decode cX7_breaks 61 = .ok (.iconst 1, 1) := db_X7_breaks_57.2.2.2.1
theorem dX7_breaks_62 : decode cX7_breaks 62 = .ok (.iadd, 1) := db_X7_breaks_57.2.2.2.2.1
set_option maxRecDepth 20000 in
theorem ggX7_breaks_X5_read : GoodIn wsX7_breaks wsX5_read := goodIn_r _ [23, 24, 25, 26, 27, 28, 29, 30, 31, 22, 32, 33, 34, 35, 36, 37, 38, 39, 40, 82, 83, 84, 66, 67, 68, 69, 70, 71, 72, 73, 74, 75, 76, 77, 78, 79, 80, 81] rfl (by decide +kernel)
set_option maxRecDepth 20000 in
theorem gX7_breaks_X5_read : GoodIn wsX7_breaks (wsV RX7 197 RX5 yX5_read wsX5_read) := goodIn_app (goodIn_r _ [19, 20, 21, 22] rfl (by decide +kernel)) ggX7_breaks_X5_read
theorem dX7_breaks_63 : decode cX7_breaks 63 = .ok (.invokevirtual 197, 3) := db_X7_breaks_57.2.2.2.2.2.1
theorem dX7_breaks_66 : decode cX7_breaks 66 = .ok (.aload_n 0, 1) := db_X7_breaks_57.2.2.2.2.2.2.1
theorem dX7_breaks_67 : decode cX7_breaks 67 = .ok (.getfield 26, 3) := db_X7_breaks_57.2.2.2.2.2.2.2
set_option maxRecDepth 20000 in
theorem ggX7_breaks_X5_stands : GoodIn wsX7_breaks wsX5_stands := goodIn_r _ [44, 24, 29, 45, 10, 46, 47, 48, 49, 50, 51, 52, 53, 82, 83, 84] rfl (by decide +kernel)
set_option maxRecDepth 20000 in
theorem gX7_breaks_X5_stands : GoodIn wsX7_breaks (wsV RX7 201 RX5 yX5_stands wsX5_stands) := goodIn_app (goodIn_r _ [41, 42, 43, 22] rfl (by decide +kernel)) ggX7_breaks_X5_stands
set_option maxRecDepth 20000 in
theorem db_X7_breaks_70 : (decode cX7_breaks 70 = .ok (.invokevirtual 201, 3)) ∧ (decode cX7_breaks 73 = .ok (.ifCond .ne 6, 3)) ∧ (decode cX7_breaks 76 = .ok (.iload 4, 2)) ∧ (decode cX7_breaks 78 = .ok (.ireturn, 1)) ∧ (decode cX7_breaks 15 = .ok (.iconst (-1), 1)) ∧ (decode cX7_breaks 16 = .ok (.ireturn, 1)) := by decide +kernel
theorem dX7_breaks_70 : decode cX7_breaks 70 = .ok (.invokevirtual 201, 3) := db_X7_breaks_70.1
theorem dX7_breaks_73 : decode cX7_breaks 73 = .ok (.ifCond .ne 6, 3) := db_X7_breaks_70.2.1
theorem dX7_breaks_76 : decode cX7_breaks 76 = .ok (.iload 4, 2) := db_X7_breaks_70.2.2.1
theorem dX7_breaks_78 : decode cX7_breaks 78 = .ok (.ireturn, 1) := db_X7_breaks_70.2.2.2.1
theorem dX7_breaks_15 : decode cX7_breaks 15 = .ok (.iconst (-1), 1) := db_X7_breaks_70.2.2.2.2.1
theorem dX7_breaks_16 : decode cX7_breaks 16 = .ok (.ireturn, 1) := db_X7_breaks_70.2.2.2.2.2
set_option maxHeartbeats 4000000 in
set_option maxRecDepth 100000 in
theorem g_X5_stands (l : Launch) (dC : Nat → ClassId) (dI : Nat → Nat → Nat) (cy : Nat → ClassId) (sz : Nat) (ad : Nat → Nat) (kv : Value) (N : Nat) (hN : 119 ≤ N) (v : Nat → Nat → Int32) (hv : Iv v)  : Met l yX5_stands wsX5_stands ({ frames := 1, cells := 0, slots := 0, locals := 64 }) (va_Pc [.ref (ad 10)] (ex_Pre dC dI cy sz (wl ad kv cy N v))) (va_Qi (fun (r : Int32) (u : Nat → Nat → Int32) => Iv u ∧ Fz v u ∧ (r = 0 ∨ r = 1)) (fun u t => ex_Pst dC dI (va_A (wl ad kv cy N v) sz) (wl ad kv cy N u) t) (va_A (wl ad kv cy N v) sz)) 0 0 (va_A (wl ad kv cy N v) sz) := by
  refine Met.ofW (cc := cX5_stands) (maxL := 4) (ret := (some .boolean)) (by decide) rfl ?_
  intro p e s m args below meth c s₁ B hml hv
  obtain ⟨rfl, hsz, hE, hP, hK, hD0⟩ := hv
  have hx := B.exec
  have hb := B.bytes
  have hr := B.returns
  have hts := atoms_spec (ws := wsX5_stands) B.pre
  have hown : s.vm.findClass RX5 = some m.cls := findClass_of_methodNamed B.named
  have hlocks := B.notSynchronized
  subst hsz
  have hD := hD0.self (sz := s.heap.size)
  generalize hAe : va_A (wl ad kv cy N v) s.heap.size = A at hD ⊢
  have hA : ∀ q : Nat, s.heap.size ≤ q → A q := fun q h => by rw [← hAe]; exact Or.inr h
  have hS : va_S A s.heap s.heap [] := va_S.rf
  have hP : va_P (dC, dI) vwCl (wl ad kv cy N v) s.heap := hP
  have hl := lv_entry ([.ref (ad 10)]) (n := 4) (Nat.le_of_ble_eq_true rfl)
  rw [lg_entry_eq]
  generalize (lg_sl ([.ref (ad 10)]) ++ List.replicate (4 - (lg_sl ([.ref (ad 10)])).length) Slot.unset).toArray = ls at hl ⊢
  have hl : lv_has ls 4 [(0, .ref (ad 10))] := hl
  have hfr : Fz v v := Fz.rf
  refine lv_iconst (v := 1) hx hb dX5_stands_0 (by decide) ?_
  refine lv_istore_n (lv' := [(1, .int 1), (0, .ref (ad 10))]) hx hb dX5_stands_1 rfl hl (by decide) rfl (fun ls hl => ?_)
  have k_1 : (1 : Int32).toInt = 1 := by decide
  have hloop_1 : ∀ (n : Nat) (y1_1 : Int32) (u1 : Nat → Nat → Int32) (H : Heap) (locs : List Loc), 1 ≤ y1_1.toInt → y1_1.toInt ≤ 33 → (33 - y1_1.toInt).toNat < n → Iv u1 → Fz v u1 → va_P (dC, dI) vwCl (wl ad kv cy N u1) H → va_D A (wl ad kv cy N u1) → va_S A s.heap H locs → ∀ ls : Array Slot, lv_has ls 4 [(1, .int y1_1), (0, .ref (ad 10))] → W p l e (headSpec wsX5_stands ({ frames := 1, cells := 0, slots := 0, locals := 64 })).room s m [Value.ref (ad 10)].toArray below meth c H locs 0 0 (MQ below (va_Qi (fun (r : Int32) (u : Nat → Nat → Int32) => Iv u ∧ Fz v u ∧ (r = 0 ∨ r = 1)) (fun u t => ex_Pst dC dI A (wl ad kv cy N u) t) A) [Value.ref (ad 10)].toArray s 0 0 A) (F0 m 2 ls []) := by
    intro n
    induction n with
    | zero =>
      intro y1_1 u1 H locs ay1_1 by1_1 hm_1 hv hfr hP hD hS ls hl
      exact absurd hm_1 (by omega)
    | succ n ih_1 =>
      intro y1_1 u1 H locs ay1_1 by1_1 hm_1 hv hfr hP hD hS ls hl
      refine lv_iload_n hx hb dX5_stands_2 rfl (lv_at hl 0 rfl) ?_
      refine lv_iconst (v := 1) hx hb dX5_stands_3 (by decide) ?_
      refine lv_aload_n hx hb dX5_stands_4 rfl (lv_at hl 1 rfl) ?_
      refine va_get (D := (dC, dI)) (ci := 5) (v := .int (u1 (10) 0)) (C := RX5) (T := TX5) (N := 3) hx hb hts iwX5_stands_X5 hown hK hP (10) (wl_at (by omega) (ce_2 (by decide))) rfl 0 (by decide) (hts (.fieldLink RX5 18 "QuietStairs$Table" "count" "I") fwX5_stands_1) (fun _ h9 => h9) rfl dX5_stands_5 ?_
      refine lv_topi (fun x_2 ex_2 => ?_)
      have bx_2 : 0 ≤ x_2.toInt ∧ x_2.toInt ≤ 5 := by rw [ex_2]; exact hv.at (K := 2) (by decide) rfl
      refine lv_ishl hx hb dX5_stands_8 ?_
      refine lv_topi (fun x_3 ex_3 => ?_)
      have tx_3 : 1 ≤ x_3.toInt ∧ x_3.toInt ≤ 32 := by rw [ex_3]; exact t_shl ⟨by omega, by omega⟩
      refine lv_icmp_ge (tgt := 66) hx hb dX5_stands_9 (by decide) (fun c_4 => ?_) (fun c_4 => ?_)
      · have tc_4 : y1_1.toInt ≥ x_3.toInt := Int32.le_iff_toInt_le.mp c_4
        refine lv_iconst (v := 1) hx hb dX5_stands_66 (by decide) ?_
        exact W.zret (ty := .boolean) (v := 1) hx hb hr rfl (fun t ht hW => ⟨⟨1, u1, rfl, ⟨hv, hfr, by decide⟩, by rw [ht]; exact hP, hD⟩, hS.F ht⟩) hS.2.2 dX5_stands_67
      · have tc_4 : y1_1.toInt < x_3.toInt := Int32.lt_iff_toInt_lt.mp (Int32.not_le.mp c_4)
        refine lv_iconst (v := 0) hx hb dX5_stands_12 (by decide) ?_
        refine lv_istore_n (lv' := [(2, .int 0), (1, .int y1_1), (0, .ref (ad 10))]) hx hb dX5_stands_13 rfl hl (by decide) rfl (fun ls hl => ?_)
        refine lv_iconst (v := 0) hx hb dX5_stands_14 (by decide) ?_
        refine lv_istore_n (lv' := [(3, .int 0), (2, .int 0), (1, .int y1_1), (0, .ref (ad 10))]) hx hb dX5_stands_15 rfl hl (by decide) rfl (fun ls hl => ?_)
        have k_0 : (0 : Int32).toInt = 0 := by decide
        have hloop_5 : ∀ (n : Nat) (y5_3 y5_2 : Int32) (u5 : Nat → Nat → Int32) (H : Heap) (locs : List Loc), 0 ≤ y5_3.toInt → y5_3.toInt ≤ 5 → (5 - y5_3.toInt).toNat < n → Iv u5 → Fz v u5 → va_P (dC, dI) vwCl (wl ad kv cy N u5) H → va_D A (wl ad kv cy N u5) → va_S A s.heap H locs → ∀ ls : Array Slot, lv_has ls 4 [(3, .int y5_3), (2, .int y5_2), (1, .int y1_1), (0, .ref (ad 10))] → W p l e (headSpec wsX5_stands ({ frames := 1, cells := 0, slots := 0, locals := 64 })).room s m [Value.ref (ad 10)].toArray below meth c H locs 0 0 (MQ below (va_Qi (fun (r : Int32) (u : Nat → Nat → Int32) => Iv u ∧ Fz v u ∧ (r = 0 ∨ r = 1)) (fun u t => ex_Pst dC dI A (wl ad kv cy N u) t) A) [Value.ref (ad 10)].toArray s 0 0 A) (F0 m 16 ls []) := by
          intro n
          induction n with
          | zero =>
            intro y5_3 y5_2 u5 H locs ay5_3 by5_3 hm_5 hv hfr hP hD hS ls hl
            exact absurd hm_5 (by omega)
          | succ n ih_5 =>
            intro y5_3 y5_2 u5 H locs ay5_3 by5_3 hm_5 hv hfr hP hD hS ls hl
            refine lv_iload_n hx hb dX5_stands_16 rfl (lv_at hl 0 rfl) ?_
            refine lv_aload_n hx hb dX5_stands_17 rfl (lv_at hl 3 rfl) ?_
            refine va_get (D := (dC, dI)) (ci := 5) (v := .int (u5 (10) 0)) (C := RX5) (T := TX5) (N := 3) hx hb hts iwX5_stands_X5 hown hK hP (10) (wl_at (by omega) (ce_2 (by decide))) rfl 0 (by decide) (hts (.fieldLink RX5 18 "QuietStairs$Table" "count" "I") fwX5_stands_1) (fun _ h9 => h9) rfl dX5_stands_18 ?_
            refine lv_topi (fun x_6 ex_6 => ?_)
            have bx_6 : 0 ≤ x_6.toInt ∧ x_6.toInt ≤ 5 := by rw [ex_6]; exact hv.at (K := 2) (by decide) rfl
            refine lv_icmp_ge (tgt := 47) hx hb dX5_stands_21 (by decide) (fun c_7 => ?_) (fun c_7 => ?_)
            · have tc_7 : y5_3.toInt ≥ x_6.toInt := Int32.le_iff_toInt_le.mp c_7
              refine lv_iload_n hx hb dX5_stands_47 rfl (lv_at hl 1 rfl) ?_
              refine yc_p hP hS (va_runS (As := [.int y5_2]) (rest := []) ⟨hx, hb, hml, hown, hts⟩ (c_bitCount l y5_2) (va_cwS 1 hts gX5_stands_J6_bitCount_0f7a4 rfl rfl rfl hd_w_J6_bitCount_0f7a4_1 ⟨Nat.le_of_ble_eq_true rfl, Nat.le_of_ble_eq_true rfl⟩) ex_preP rfl rfl hl.1 rfl (lv_room (Nat.le_of_ble_eq_true rfl)) dX5_stands_48 ⟨Nat.le_of_ble_eq_true rfl, Nat.le_of_ble_eq_true rfl⟩) (fun r_8 H locs hw_8 hP hS => ?_)
              refine lv_iload_n hx hb dX5_stands_51 rfl (lv_at hl 2 rfl) ?_
              refine yc_p hP hS (va_runS (As := [.int y1_1]) (rest := [.int r_8]) ⟨hx, hb, hml, hown, hts⟩ (c_bitCount l y1_1) (va_cwS 1 hts gX5_stands_J6_bitCount_0f7a4 rfl rfl rfl hd_w_J6_bitCount_0f7a4_1 ⟨Nat.le_of_ble_eq_true rfl, Nat.le_of_ble_eq_true rfl⟩) ex_preP rfl rfl hl.1 rfl (lv_room (Nat.le_of_ble_eq_true rfl)) dX5_stands_52 ⟨Nat.le_of_ble_eq_true rfl, Nat.le_of_ble_eq_true rfl⟩) (fun r_9 H locs hw_9 hP hS => ?_)
              refine lv_icmp_ge (tgt := 60) hx hb dX5_stands_55 (by decide) (fun c_10 => ?_) (fun c_10 => ?_)
              · have tc_10 : r_8.toInt ≥ r_9.toInt := Int32.le_iff_toInt_le.mp c_10
                obtain ⟨x_11, ex_11⟩ : ∃ y : Int32, y = y1_1 + 1 := ⟨_, rfl⟩
                refine lv_iinc (v := x_11) (lv' := [(1, .int x_11), (3, .int y5_3), (2, .int y5_2), (0, .ref (ad 10))]) hx hb dX5_stands_60 hl (k := 2) rfl (by rw [ex_11]; rfl) (by decide) rfl (fun ls hl => ?_)
                have tx_11 : x_11.toInt = y1_1.toInt + (1 : Int32).toInt := by rw [ex_11]; exact t_add ⟨by omega, by omega⟩
                refine lv_goto (tgt := 2) hx hb dX5_stands_63 (by decide) ?_
                exact ih_1 x_11 u5 H locs (by omega) (by omega) (by omega) hv hfr hP hD hS ls (lv_sub hl [0, 3] rfl)
              · have tc_10 : r_8.toInt < r_9.toInt := Int32.lt_iff_toInt_lt.mp (Int32.not_le.mp c_10)
                refine lv_iconst (v := 0) hx hb dX5_stands_58 (by decide) ?_
                exact W.zret (ty := .boolean) (v := 0) hx hb hr rfl (fun t ht hW => ⟨⟨0, u5, rfl, ⟨hv, hfr, by decide⟩, by rw [ht]; exact hP, hD⟩, hS.F ht⟩) hS.2.2 dX5_stands_59
            · have tc_7 : y5_3.toInt < x_6.toInt := Int32.lt_iff_toInt_lt.mp (Int32.not_le.mp c_7)
              refine lv_iload_n hx hb dX5_stands_24 rfl (lv_at hl 2 rfl) ?_
              refine lv_iload_n hx hb dX5_stands_25 rfl (lv_at hl 0 rfl) ?_
              refine yc_p hP hS (va_runSN (As := [.int y1_1, .int y5_3]) (rest := []) ⟨hx, hb, hml, hown, hts⟩ (c_X7_hasBit l y1_1 y5_3) ⟨va_cnB 2 hts gX5_stands_X7_hasBit_n47 rfl rfl rfl hE.2.2.2.2.2.2.2.2.2.2.2.2.1 (hts (.initialized RX7) fwX5_stands_4) (by decide +kernel) ⟨Nat.le_of_ble_eq_true rfl, Nat.le_of_ble_eq_true rfl⟩, (hts (.static yX7_hasBit) fwX5_stands_3), trivial⟩ ex_preP rfl rfl hl.1 rfl (lv_room (Nat.le_of_ble_eq_true rfl)) dX5_stands_26 ⟨Nat.le_of_ble_eq_true rfl, Nat.le_of_ble_eq_true rfl⟩) (fun r_8 H locs hw_8 hP hS => ?_)
              rcases hw_8 with rfl | rfl
              · refine lv_if_eq (tgt := 41) hx hb dX5_stands_29 (by decide) (fun _ => ?_) (fun c9 => absurd c9 (by decide))
                obtain ⟨x_9, ex_9⟩ : ∃ y : Int32, y = y5_3 + 1 := ⟨_, rfl⟩
                refine lv_iinc (v := x_9) (lv' := [(3, .int x_9), (2, .int y5_2), (1, .int y1_1), (0, .ref (ad 10))]) hx hb dX5_stands_41 hl (k := 0) rfl (by rw [ex_9]; rfl) (by decide) rfl (fun ls hl => ?_)
                have tx_9 : x_9.toInt = y5_3.toInt + (1 : Int32).toInt := by rw [ex_9]; exact t_add ⟨by omega, by omega⟩
                refine lv_goto (tgt := 16) hx hb dX5_stands_44 (by decide) ?_
                exact ih_5 x_9 y5_2 u5 H locs (by omega) (by omega) (by omega) hv hfr hP hD hS ls (lv_sub hl [0, 1, 2, 3] rfl)
              · refine lv_if_eq (tgt := 41) hx hb dX5_stands_29 (by decide) (fun c9 => absurd c9 (by decide)) (fun _ => ?_)
                refine lv_iload_n hx hb dX5_stands_32 rfl (lv_at hl 1 rfl) ?_
                refine lv_aload_n hx hb dX5_stands_33 rfl (lv_at hl 3 rfl) ?_
                refine va_get (D := (dC, dI)) (ci := 5) (v := .ref (ad 12)) (C := RX5) (T := TX5) (N := 3) hx hb hts iwX5_stands_X5 hown hK hP (10) (wl_at (by omega) (ce_2 (by decide))) rfl 2 (by decide) (hts (.fieldLink RX5 15 "QuietStairs$Table" "hourBits" "[I") fwX5_stands_2) (fun _ h9 => h9) rfl dX5_stands_34 ?_
                refine lv_iload_n hx hb dX5_stands_37 rfl (lv_at hl 0 rfl) ?_
                obtain ⟨pi9, i9, hi9, ni9, mi9⟩ := t_in (x := y5_3) (n := 5) ⟨by omega, by omega⟩
                refine va_iald hx hb hK hP (12) 0 (wl_at (by omega) (ce_19 (by decide))) rfl pi9 dX5_stands_38 ?_
                refine lv_topi (fun x_10 ex_10 => ?_)
                refine lv_ior hx hb dX5_stands_39 ?_
                refine lv_topi (fun x_11 ex_11 => ?_)
                refine lv_istore_n (lv' := [(2, .int x_11), (3, .int y5_3), (1, .int y1_1), (0, .ref (ad 10))]) hx hb dX5_stands_40 rfl hl (by decide) rfl (fun ls hl => ?_)
                obtain ⟨x_12, ex_12⟩ : ∃ y : Int32, y = y5_3 + 1 := ⟨_, rfl⟩
                refine lv_iinc (v := x_12) (lv' := [(3, .int x_12), (2, .int x_11), (1, .int y1_1), (0, .ref (ad 10))]) hx hb dX5_stands_41 hl (k := 1) rfl (by rw [ex_12]; rfl) (by decide) rfl (fun ls hl => ?_)
                have tx_12 : x_12.toInt = y5_3.toInt + (1 : Int32).toInt := by rw [ex_12]; exact t_add ⟨by omega, by omega⟩
                refine lv_goto (tgt := 16) hx hb dX5_stands_44 (by decide) ?_
                exact ih_5 x_12 x_11 u5 H locs (by omega) (by omega) (by omega) hv hfr hP hD hS ls (lv_sub hl [0, 1, 2, 3] rfl)
        exact hloop_5 ((5 - (0 : Int32).toInt).toNat + 1) 0 0 u1 _ _ (by omega) (by omega) (by omega) hv hfr hP hD hS ls hl
  exact hloop_1 ((33 - (1 : Int32).toInt).toNat + 1) 1 v _ _ (by omega) (by omega) (by omega) hv hfr hP hD hS ls hl

set_option maxHeartbeats 4000000 in
set_option maxRecDepth 100000 in
theorem g_X5_pinLeastHour (l : Launch) (dC : Nat → ClassId) (dI : Nat → Nat → Nat) (cy : Nat → ClassId) (sz : Nat) (ad : Nat → Nat) (kv : Value) (N : Nat) (hN : 119 ≤ N) (v : Nat → Nat → Int32) (hv : Iv v) (x0 : Int32) (hs : 0 ≤ x0.toInt ∧ x0.toInt ≤ 4) : Met l yX5_pinLeastHour wsX5_pinLeastHour ({ frames := 2, cells := 0, slots := 0, locals := 128 }) (va_Pc [.ref (ad 10), .int x0] (ex_Pre dC dI cy sz (wl ad kv cy N v))) (va_Qi (fun (r : Int32) (u : Nat → Nat → Int32) => Iv u ∧ Fz v u) (fun u t => ex_Pst dC dI (va_A (wl ad kv cy N v) sz) (wl ad kv cy N u) t) (va_A (wl ad kv cy N v) sz)) 0 0 (va_A (wl ad kv cy N v) sz) := by
  refine Met.ofW (cc := cX5_pinLeastHour) (maxL := 4) (ret := (some .int)) (by decide) rfl ?_
  intro p e s m args below meth c s₁ B hml hv
  obtain ⟨rfl, hsz, hE, hP, hK, hD0⟩ := hv
  have hx := B.exec
  have hb := B.bytes
  have hr := B.returns
  have hts := atoms_spec (ws := wsX5_pinLeastHour) B.pre
  have hown : s.vm.findClass RX5 = some m.cls := findClass_of_methodNamed B.named
  have hlocks := B.notSynchronized
  subst hsz
  have hD := hD0.self (sz := s.heap.size)
  generalize hAe : va_A (wl ad kv cy N v) s.heap.size = A at hD ⊢
  have hA : ∀ q : Nat, s.heap.size ≤ q → A q := fun q h => by rw [← hAe]; exact Or.inr h
  have hS : va_S A s.heap s.heap [] := va_S.rf
  have hP : va_P (dC, dI) vwCl (wl ad kv cy N v) s.heap := hP
  have hl := lv_entry ([.ref (ad 10), .int x0]) (n := 4) (Nat.le_of_ble_eq_true rfl)
  rw [lg_entry_eq]
  generalize (lg_sl ([.ref (ad 10), .int x0]) ++ List.replicate (4 - (lg_sl ([.ref (ad 10), .int x0])).length) Slot.unset).toArray = ls at hl ⊢
  have hl : lv_has ls 4 [(0, .ref (ad 10)), (1, .int x0)] := hl
  have hfr : Fz v v := Fz.rf
  refine lv_aload_n hx hb dX5_pinLeastHour_0 rfl (lv_at hl 0 rfl) ?_
  refine va_get (D := (dC, dI)) (ci := 5) (v := .ref (ad 12)) (C := RX5) (T := TX5) (N := 3) hx hb hts iwX5_pinLeastHour_X5 hown hK hP (10) (wl_at (by omega) (ce_2 (by decide))) rfl 2 (by decide) (hts (.fieldLink RX5 15 "QuietStairs$Table" "hourBits" "[I") fwX5_pinLeastHour_1) (fun _ h9 => h9) rfl dX5_pinLeastHour_1 ?_
  refine lv_iload_n hx hb dX5_pinLeastHour_4 rfl (lv_at hl 1 rfl) ?_
  obtain ⟨pi1, i1, hi1, ni1, mi1⟩ := t_in (x := x0) (n := 5) ⟨by omega, by omega⟩
  refine va_iald hx hb hK hP (12) 0 (wl_at (by omega) (ce_19 (by decide))) rfl pi1 dX5_pinLeastHour_5 ?_
  refine lv_topi (fun x_2 ex_2 => ?_)
  refine lv_istore_n (lv' := [(2, .int x_2), (0, .ref (ad 10)), (1, .int x0)]) hx hb dX5_pinLeastHour_6 rfl hl (by decide) rfl (fun ls hl => ?_)
  refine lv_iconst (v := 0) hx hb dX5_pinLeastHour_7 (by decide) ?_
  refine lv_istore_n (lv' := [(3, .int 0), (2, .int x_2), (0, .ref (ad 10)), (1, .int x0)]) hx hb dX5_pinLeastHour_8 rfl hl (by decide) rfl (fun ls hl => ?_)
  have k_0 : (0 : Int32).toInt = 0 := by decide
  have hloop_3 : ∀ (n : Nat) (y3_3 : Int32) (u3 : Nat → Nat → Int32) (H : Heap) (locs : List Loc), 0 ≤ y3_3.toInt → y3_3.toInt ≤ 24 → (24 - y3_3.toInt).toNat < n → Iv u3 → Fz v u3 → va_P (dC, dI) vwCl (wl ad kv cy N u3) H → va_D A (wl ad kv cy N u3) → va_S A s.heap H locs → ∀ ls : Array Slot, lv_has ls 4 [(3, .int y3_3), (2, .int x_2), (0, .ref (ad 10)), (1, .int x0)] → W p l e (headSpec wsX5_pinLeastHour ({ frames := 2, cells := 0, slots := 0, locals := 128 })).room s m [Value.ref (ad 10), Value.int x0].toArray below meth c H locs 0 0 (MQ below (va_Qi (fun (r : Int32) (u : Nat → Nat → Int32) => Iv u ∧ Fz v u) (fun u t => ex_Pst dC dI A (wl ad kv cy N u) t) A) [Value.ref (ad 10), Value.int x0].toArray s 0 0 A) (F0 m 9 ls []) := by
    intro n
    induction n with
    | zero =>
      intro y3_3 u3 H locs ay3_3 by3_3 hm_3 hv hfr hP hD hS ls hl
      exact absurd hm_3 (by omega)
    | succ n ih_3 =>
      intro y3_3 u3 H locs ay3_3 by3_3 hm_3 hv hfr hP hD hS ls hl
      refine lv_iload_n hx hb dX5_pinLeastHour_9 rfl (lv_at hl 0 rfl) ?_
      refine lv_bipush (v := 24) hx hb dX5_pinLeastHour_10 (by decide) ?_
      have k_24 : (24 : Int32).toInt = 24 := by decide
      refine lv_icmp_ge (tgt := 47) hx hb dX5_pinLeastHour_12 (by decide) (fun c_4 => ?_) (fun c_4 => ?_)
      · have tc_4 : y3_3.toInt ≥ (24 : Int32).toInt := Int32.le_iff_toInt_le.mp c_4
        refine lv_aload_n hx hb dX5_pinLeastHour_47 rfl (lv_at hl 2 rfl) ?_
        refine va_get (D := (dC, dI)) (ci := 5) (v := .ref (ad 12)) (C := RX5) (T := TX5) (N := 3) hx hb hts iwX5_pinLeastHour_X5 hown hK hP (10) (wl_at (by omega) (ce_2 (by decide))) rfl 2 (by decide) (hts (.fieldLink RX5 15 "QuietStairs$Table" "hourBits" "[I") fwX5_pinLeastHour_1) (fun _ h9 => h9) rfl dX5_pinLeastHour_48 ?_
        refine lv_iload_n hx hb dX5_pinLeastHour_51 rfl (lv_at hl 3 rfl) ?_
        refine lv_iload_n hx hb dX5_pinLeastHour_52 rfl (lv_at hl 1 rfl) ?_
        refine va_iast hx hb hK hP hD hS (12) 0 (wl_at (by omega) (ce_19 (by decide))) rfl pi1 dX5_pinLeastHour_53 (fun H locs hP hD hS => ?_)
        obtain ⟨v_5, ev_5⟩ : ∃ u : Nat → Nat → Int32, u = upr u3 (12) (upd (u3 (12)) (x0.toNatClampNeg) x_2) := ⟨_, rfl⟩
        have hP : va_P (dC, dI) vwCl (wl ad kv cy N v_5) H := by rw [ev_5, ← wl_put (e := _) (ce_19 (by decide))]; exact hP
        have hD : va_D A (wl ad kv cy N v_5) := by rw [ev_5, ← wl_put (e := _) (ce_19 (by decide))]; exact hD
        have hv : Iv v_5 := by rw [ev_5]; exact hv.put (K := 19) (by decide) (fun h q => by simp [bd] at q)
        have hfr : Fz v v_5 := by rw [ev_5]; exact hfr.put (by omega) (by omega) (by omega)
        refine lv_bipush (v := (-5)) hx hb dX5_pinLeastHour_54 (by decide) ?_
        exact W.iret (v := (-5)) hx hb hr (fun t ht hW => ⟨⟨(-5), v_5, rfl, ⟨hv, hfr⟩, by rw [ht]; exact hP, hD⟩, hS.F ht⟩) hS.2.2 dX5_pinLeastHour_56
      · have tc_4 : y3_3.toInt < (24 : Int32).toInt := Int32.lt_iff_toInt_lt.mp (Int32.not_le.mp c_4)
        refine lv_iload_n hx hb dX5_pinLeastHour_15 rfl (lv_at hl 1 rfl) ?_
        refine lv_iload_n hx hb dX5_pinLeastHour_16 rfl (lv_at hl 0 rfl) ?_
        refine yc_p hP hS (va_runSN (As := [.int x_2, .int y3_3]) (rest := []) ⟨hx, hb, hml, hown, hts⟩ (c_X7_hasBit l x_2 y3_3) ⟨va_cnB 2 hts gX5_pinLeastHour_X7_hasBit_n47 rfl rfl rfl hE.2.2.2.2.2.2.2.2.2.2.2.2.1 (hts (.initialized RX7) fwX5_pinLeastHour_3) (by decide +kernel) ⟨Nat.le_of_ble_eq_true rfl, Nat.le_of_ble_eq_true rfl⟩, (hts (.static yX7_hasBit) fwX5_pinLeastHour_2), trivial⟩ ex_preP rfl rfl hl.1 rfl (lv_room (Nat.le_of_ble_eq_true rfl)) dX5_pinLeastHour_17 ⟨Nat.le_of_ble_eq_true rfl, Nat.le_of_ble_eq_true rfl⟩) (fun r_5 H locs hw_5 hP hS => ?_)
        rcases hw_5 with rfl | rfl
        · refine lv_if_eq (tgt := 41) hx hb dX5_pinLeastHour_20 (by decide) (fun _ => ?_) (fun c9 => absurd c9 (by decide))
          obtain ⟨x_6, ex_6⟩ : ∃ y : Int32, y = y3_3 + 1 := ⟨_, rfl⟩
          refine lv_iinc (v := x_6) (lv' := [(3, .int x_6), (2, .int x_2), (0, .ref (ad 10)), (1, .int x0)]) hx hb dX5_pinLeastHour_41 hl (k := 0) rfl (by rw [ex_6]; rfl) (by decide) rfl (fun ls hl => ?_)
          have k_1 : (1 : Int32).toInt = 1 := by decide
          have tx_6 : x_6.toInt = y3_3.toInt + (1 : Int32).toInt := by rw [ex_6]; exact t_add ⟨by omega, by omega⟩
          refine lv_goto (tgt := 9) hx hb dX5_pinLeastHour_44 (by decide) ?_
          exact ih_3 x_6 u3 H locs (by omega) (by omega) (by omega) hv hfr hP hD hS ls (lv_sub hl [0, 1, 2, 3] rfl)
        · refine lv_if_eq (tgt := 41) hx hb dX5_pinLeastHour_20 (by decide) (fun c9 => absurd c9 (by decide)) (fun _ => ?_)
          refine lv_aload_n hx hb dX5_pinLeastHour_23 rfl (lv_at hl 2 rfl) ?_
          refine va_get (D := (dC, dI)) (ci := 5) (v := .ref (ad 12)) (C := RX5) (T := TX5) (N := 3) hx hb hts iwX5_pinLeastHour_X5 hown hK hP (10) (wl_at (by omega) (ce_2 (by decide))) rfl 2 (by decide) (hts (.fieldLink RX5 15 "QuietStairs$Table" "hourBits" "[I") fwX5_pinLeastHour_1) (fun _ h9 => h9) rfl dX5_pinLeastHour_24 ?_
          refine lv_iload_n hx hb dX5_pinLeastHour_27 rfl (lv_at hl 3 rfl) ?_
          refine lv_iconst (v := 1) hx hb dX5_pinLeastHour_28 (by decide) ?_
          refine lv_iload_n hx hb dX5_pinLeastHour_29 rfl (lv_at hl 0 rfl) ?_
          refine lv_ishl hx hb dX5_pinLeastHour_30 ?_
          refine lv_topi (fun x_6 ex_6 => ?_)
          refine va_iast hx hb hK hP hD hS (12) 0 (wl_at (by omega) (ce_19 (by decide))) rfl pi1 dX5_pinLeastHour_31 (fun H locs hP hD hS => ?_)
          obtain ⟨v_7, ev_7⟩ : ∃ u : Nat → Nat → Int32, u = upr u3 (12) (upd (u3 (12)) (x0.toNatClampNeg) x_6) := ⟨_, rfl⟩
          have hP : va_P (dC, dI) vwCl (wl ad kv cy N v_7) H := by rw [ev_7, ← wl_put (e := _) (ce_19 (by decide))]; exact hP
          have hD : va_D A (wl ad kv cy N v_7) := by rw [ev_7, ← wl_put (e := _) (ce_19 (by decide))]; exact hD
          have hv : Iv v_7 := by rw [ev_7]; exact hv.put (K := 19) (by decide) (fun h q => by simp [bd] at q)
          have hfr : Fz v v_7 := by rw [ev_7]; exact hfr.put (by omega) (by omega) (by omega)
          refine lv_aload_n hx hb dX5_pinLeastHour_32 rfl (lv_at hl 2 rfl) ?_
          refine yw_i (w1 := fun (u : Nat → Nat → Int32) => wl ad kv cy N u) hD hS hA (va_runV (As := []) (rest := []) ⟨hx, hb, hml, hown, hts⟩ (g_X5_stands l dC dI cy _ ad kv N hN v_7 hv ) (cwV 0 hts gX5_pinLeastHour_X5_stands rfl rfl rfl hd_V_X5_stands_0 ⟨Nat.le_of_ble_eq_true rfl, Nat.le_of_ble_eq_true rfl⟩) (yw_preV hE hK hP hD (ci := 5) (q := (RX5, TX5, 3)) (q0 := 10) rfl (wl_at (by omega) (ce_2 (by decide)))) rfl rfl hl.1 rfl (lv_room (Nat.le_of_ble_eq_true rfl)) dX5_pinLeastHour_33 ⟨Nat.le_of_ble_eq_true rfl, Nat.le_of_ble_eq_true rfl⟩) (fun r_8 v_8 H locs hw_8 hP hD hS => ?_)
          obtain ⟨hv, hw_8⟩ := hw_8
          have hfr : Fz v v_8 := hfr.trans hw_8.1
          refine lv_if_eq (tgt := 41) hx hb dX5_pinLeastHour_36 (by decide) (fun c_9 => ?_) (fun c_9 => ?_)
          · have tc_9 : r_8.toInt = (0 : Int32).toInt := by rw [c_9]
            obtain ⟨x_10, ex_10⟩ : ∃ y : Int32, y = y3_3 + 1 := ⟨_, rfl⟩
            refine lv_iinc (v := x_10) (lv' := [(3, .int x_10), (2, .int x_2), (0, .ref (ad 10)), (1, .int x0)]) hx hb dX5_pinLeastHour_41 hl (k := 0) rfl (by rw [ex_10]; rfl) (by decide) rfl (fun ls hl => ?_)
            have k_1 : (1 : Int32).toInt = 1 := by decide
            have tx_10 : x_10.toInt = y3_3.toInt + (1 : Int32).toInt := by rw [ex_10]; exact t_add ⟨by omega, by omega⟩
            refine lv_goto (tgt := 9) hx hb dX5_pinLeastHour_44 (by decide) ?_
            exact ih_3 x_10 v_8 H locs (by omega) (by omega) (by omega) hv hfr hP hD hS ls (lv_sub hl [0, 1, 2, 3] rfl)
          · have tc_9 : r_8.toInt ≠ (0 : Int32).toInt := fun q => absurd (Int32.toInt_inj.mp q) c_9
            refine lv_iload_n hx hb dX5_pinLeastHour_39 rfl (lv_at hl 0 rfl) ?_
            exact W.iret (v := y3_3) hx hb hr (fun t ht hW => ⟨⟨y3_3, v_8, rfl, ⟨hv, hfr⟩, by rw [ht]; exact hP, hD⟩, hS.F ht⟩) hS.2.2 dX5_pinLeastHour_40
  exact hloop_3 ((24 - (0 : Int32).toInt).toNat + 1) 0 v _ _ (by omega) (by omega) (by omega) hv hfr hP hD hS ls hl

set_option maxHeartbeats 4000000 in
set_option maxRecDepth 100000 in
theorem g_X5_hourOf (l : Launch) (dC : Nat → ClassId) (dI : Nat → Nat → Nat) (cy : Nat → ClassId) (sz : Nat) (ad : Nat → Nat) (kv : Value) (N : Nat) (hN : 119 ≤ N) (v : Nat → Nat → Int32) (hv : Iv v) (x0 : Int32) : Met l yX5_hourOf wsX5_hourOf ({ frames := 3, cells := 0, slots := 0, locals := 192 }) (va_Pc [.ref (ad 10), .int x0] (ex_Pre dC dI cy sz (wl ad kv cy N v))) (va_Qi (fun (r : Int32) (u : Nat → Nat → Int32) => Iv u ∧ Fz v u) (fun u t => ex_Pst dC dI (va_A (wl ad kv cy N v) sz) (wl ad kv cy N u) t) (va_A (wl ad kv cy N v) sz)) 0 0 (va_A (wl ad kv cy N v) sz) := by
  refine Met.ofW (cc := cX5_hourOf) (maxL := 4) (ret := (some .int)) (by decide) rfl ?_
  intro p e s m args below meth c s₁ B hml hv
  obtain ⟨rfl, hsz, hE, hP, hK, hD0⟩ := hv
  have hx := B.exec
  have hb := B.bytes
  have hr := B.returns
  have hts := atoms_spec (ws := wsX5_hourOf) B.pre
  have hown : s.vm.findClass RX5 = some m.cls := findClass_of_methodNamed B.named
  have hlocks := B.notSynchronized
  subst hsz
  have hD := hD0.self (sz := s.heap.size)
  generalize hAe : va_A (wl ad kv cy N v) s.heap.size = A at hD ⊢
  have hA : ∀ q : Nat, s.heap.size ≤ q → A q := fun q h => by rw [← hAe]; exact Or.inr h
  have hS : va_S A s.heap s.heap [] := va_S.rf
  have hP : va_P (dC, dI) vwCl (wl ad kv cy N v) s.heap := hP
  have hl := lv_entry ([.ref (ad 10), .int x0]) (n := 4) (Nat.le_of_ble_eq_true rfl)
  rw [lg_entry_eq]
  generalize (lg_sl ([.ref (ad 10), .int x0]) ++ List.replicate (4 - (lg_sl ([.ref (ad 10), .int x0])).length) Slot.unset).toArray = ls at hl ⊢
  have hl : lv_has ls 4 [(0, .ref (ad 10)), (1, .int x0)] := hl
  have hfr : Fz v v := Fz.rf
  refine lv_iconst (v := 0) hx hb dX5_hourOf_0 (by decide) ?_
  refine lv_istore_n (lv' := [(2, .int 0), (0, .ref (ad 10)), (1, .int x0)]) hx hb dX5_hourOf_1 rfl hl (by decide) rfl (fun ls hl => ?_)
  have k_0 : (0 : Int32).toInt = 0 := by decide
  have hloop_1 : ∀ (n : Nat) (y1_2 : Int32) (u1 : Nat → Nat → Int32) (H : Heap) (locs : List Loc), 0 ≤ y1_2.toInt → y1_2.toInt ≤ 5 → (5 - y1_2.toInt).toNat < n → Iv u1 → Fz v u1 → va_P (dC, dI) vwCl (wl ad kv cy N u1) H → va_D A (wl ad kv cy N u1) → va_S A s.heap H locs → ∀ ls : Array Slot, lv_has ls 4 [(2, .int y1_2), (0, .ref (ad 10)), (1, .int x0)] → W p l e (headSpec wsX5_hourOf ({ frames := 3, cells := 0, slots := 0, locals := 192 })).room s m [Value.ref (ad 10), Value.int x0].toArray below meth c H locs 0 0 (MQ below (va_Qi (fun (r : Int32) (u : Nat → Nat → Int32) => Iv u ∧ Fz v u) (fun u t => ex_Pst dC dI A (wl ad kv cy N u) t) A) [Value.ref (ad 10), Value.int x0].toArray s 0 0 A) (F0 m 2 ls []) := by
    intro n
    induction n with
    | zero =>
      intro y1_2 u1 H locs ay1_2 by1_2 hm_1 hv hfr hP hD hS ls hl
      exact absurd hm_1 (by omega)
    | succ n ih_1 =>
      intro y1_2 u1 H locs ay1_2 by1_2 hm_1 hv hfr hP hD hS ls hl
      refine lv_iload_n hx hb dX5_hourOf_2 rfl (lv_at hl 0 rfl) ?_
      refine lv_aload_n hx hb dX5_hourOf_3 rfl (lv_at hl 1 rfl) ?_
      refine va_get (D := (dC, dI)) (ci := 5) (v := .int (u1 (10) 0)) (C := RX5) (T := TX5) (N := 3) hx hb hts iwX5_hourOf_X5 hown hK hP (10) (wl_at (by omega) (ce_2 (by decide))) rfl 0 (by decide) (hts (.fieldLink RX5 18 "QuietStairs$Table" "count" "I") fwX5_hourOf_1) (fun _ h9 => h9) rfl dX5_hourOf_4 ?_
      refine lv_topi (fun x_2 ex_2 => ?_)
      have bx_2 : 0 ≤ x_2.toInt ∧ x_2.toInt ≤ 5 := by rw [ex_2]; exact hv.at (K := 2) (by decide) rfl
      refine lv_icmp_ge (tgt := 34) hx hb dX5_hourOf_7 (by decide) (fun c_3 => ?_) (fun c_3 => ?_)
      · have tc_3 : y1_2.toInt ≥ x_2.toInt := Int32.le_iff_toInt_le.mp c_3
        refine lv_bipush (v := (-5)) hx hb dX5_hourOf_34 (by decide) ?_
        exact W.iret (v := (-5)) hx hb hr (fun t ht hW => ⟨⟨(-5), u1, rfl, ⟨hv, hfr⟩, by rw [ht]; exact hP, hD⟩, hS.F ht⟩) hS.2.2 dX5_hourOf_36
      · have tc_3 : y1_2.toInt < x_2.toInt := Int32.lt_iff_toInt_lt.mp (Int32.not_le.mp c_3)
        refine lv_aload_n hx hb dX5_hourOf_10 rfl (lv_at hl 1 rfl) ?_
        refine lv_iload_n hx hb dX5_hourOf_11 rfl (lv_at hl 0 rfl) ?_
        refine yw_i (w1 := fun (u : Nat → Nat → Int32) => wl ad kv cy N u) hD hS hA (va_runV (As := [.int y1_2]) (rest := []) ⟨hx, hb, hml, hown, hts⟩ (g_X5_pinLeastHour l dC dI cy _ ad kv N hN u1 hv y1_2 ⟨by omega, by omega⟩) (cwV 1 hts gX5_hourOf_X5_pinLeastHour rfl rfl rfl hd_V_X5_pinLeastHour_1 ⟨Nat.le_of_ble_eq_true rfl, Nat.le_of_ble_eq_true rfl⟩) (yw_preV hE hK hP hD (ci := 5) (q := (RX5, TX5, 3)) (q0 := 10) rfl (wl_at (by omega) (ce_2 (by decide)))) rfl rfl hl.1 rfl (lv_room (Nat.le_of_ble_eq_true rfl)) dX5_hourOf_12 ⟨Nat.le_of_ble_eq_true rfl, Nat.le_of_ble_eq_true rfl⟩) (fun r_4 v_4 H locs hw_4 hP hD hS => ?_)
        obtain ⟨hv, hw_4⟩ := hw_4
        have hfr : Fz v v_4 := hfr.trans hw_4
        refine lv_istore_n (lv' := [(3, .int r_4), (2, .int y1_2), (0, .ref (ad 10)), (1, .int x0)]) hx hb dX5_hourOf_15 rfl hl (by decide) rfl (fun ls hl => ?_)
        refine lv_aload_n hx hb dX5_hourOf_16 rfl (lv_at hl 2 rfl) ?_
        refine va_get (D := (dC, dI)) (ci := 5) (v := .ref (ad 11)) (C := RX5) (T := TX5) (N := 3) hx hb hts iwX5_hourOf_X5 hown hK hP (10) (wl_at (by omega) (ce_2 (by decide))) rfl 1 (by decide) (hts (.fieldLink RX5 9 "QuietStairs$Table" "musts" "[I") fwX5_hourOf_2) (fun _ h9 => h9) rfl dX5_hourOf_17 ?_
        refine lv_iload_n hx hb dX5_hourOf_20 rfl (lv_at hl 1 rfl) ?_
        obtain ⟨pi5, i5, hi5, ni5, mi5⟩ := t_in (x := y1_2) (n := 5) ⟨by omega, by omega⟩
        refine va_iald hx hb hK hP (11) 0 (wl_at (by omega) (ce_19 (by decide))) rfl pi5 dX5_hourOf_21 ?_
        refine lv_topi (fun x_6 ex_6 => ?_)
        refine lv_iload_n hx hb dX5_hourOf_22 rfl (lv_at hl 3 rfl) ?_
        refine lv_icmp_ne (tgt := 28) hx hb dX5_hourOf_23 (by decide) (fun c_7 => ?_) (fun c_7 => ?_)
        · have tc_7 : x_6.toInt ≠ x0.toInt := fun q => absurd (Int32.toInt_inj.mp q) c_7
          obtain ⟨x_8, ex_8⟩ : ∃ y : Int32, y = y1_2 + 1 := ⟨_, rfl⟩
          refine lv_iinc (v := x_8) (lv' := [(2, .int x_8), (3, .int r_4), (0, .ref (ad 10)), (1, .int x0)]) hx hb dX5_hourOf_28 hl (k := 1) rfl (by rw [ex_8]; rfl) (by decide) rfl (fun ls hl => ?_)
          have k_1 : (1 : Int32).toInt = 1 := by decide
          have tx_8 : x_8.toInt = y1_2.toInt + (1 : Int32).toInt := by rw [ex_8]; exact t_add ⟨by omega, by omega⟩
          refine lv_goto (tgt := 2) hx hb dX5_hourOf_31 (by decide) ?_
          exact ih_1 x_8 v_4 H locs (by omega) (by omega) (by omega) hv hfr hP hD hS ls (lv_sub hl [0, 2, 3] rfl)
        · have tc_7 : x_6.toInt = x0.toInt := by rw [c_7]
          refine lv_iload_n hx hb dX5_hourOf_26 rfl (lv_at hl 0 rfl) ?_
          exact W.iret (v := r_4) hx hb hr (fun t ht hW => ⟨⟨r_4, v_4, rfl, ⟨hv, hfr⟩, by rw [ht]; exact hP, hD⟩, hS.F ht⟩) hS.2.2 dX5_hourOf_27
  exact hloop_1 ((5 - (0 : Int32).toInt).toNat + 1) 0 v _ _ (by omega) (by omega) (by omega) hv hfr hP hD hS ls hl

set_option maxHeartbeats 4000000 in
set_option maxRecDepth 100000 in
theorem g_X7_canHold (l : Launch) (dC : Nat → ClassId) (dI : Nat → Nat → Nat) (cy : Nat → ClassId) (sz : Nat) (ad : Nat → Nat) (kv : Value) (N : Nat) (hN : 119 ≤ N) (v : Nat → Nat → Int32) (hv : Iv v)  (x0 x1 : Int32) : Met l yX7_canHold wsX7_canHold ({ frames := 3, cells := 0, slots := 0, locals := 192 }) (va_Pc [.ref (ad 0), .int x0, .int x1] (ex_Pre dC dI cy sz (wl ad kv cy N v))) (va_Qi (fun (r : Int32) (u : Nat → Nat → Int32) => Iv u ∧ Fz v u) (fun u t => ex_Pst dC dI (va_A (wl ad kv cy N v) sz) (wl ad kv cy N u) t) (va_A (wl ad kv cy N v) sz)) 0 0 (va_A (wl ad kv cy N v) sz) := by
  refine Met.ofW (cc := cX7_canHold) (maxL := 3) (ret := (some .int)) (by decide) rfl ?_
  intro p e s m args below meth c s₁ B hml hv
  obtain ⟨rfl, hsz, hE, hP, hK, hD0⟩ := hv
  have hx := B.exec
  have hb := B.bytes
  have hr := B.returns
  have hts := atoms_spec (ws := wsX7_canHold) B.pre
  have hown : s.vm.findClass RX7 = some m.cls := findClass_of_methodNamed B.named
  have hlocks := B.notSynchronized
  subst hsz
  have hD := hD0.self (sz := s.heap.size)
  generalize hAe : va_A (wl ad kv cy N v) s.heap.size = A at hD ⊢
  have hA : ∀ q : Nat, s.heap.size ≤ q → A q := fun q h => by rw [← hAe]; exact Or.inr h
  have hS : va_S A s.heap s.heap [] := va_S.rf
  have hP : va_P (dC, dI) vwCl (wl ad kv cy N v) s.heap := hP
  have hl := lv_entry ([.ref (ad 0), .int x0, .int x1]) (n := 3) (Nat.le_of_ble_eq_true rfl)
  rw [lg_entry_eq]
  generalize (lg_sl ([.ref (ad 0), .int x0, .int x1]) ++ List.replicate (3 - (lg_sl ([.ref (ad 0), .int x0, .int x1])).length) Slot.unset).toArray = ls at hl ⊢
  have hl : lv_has ls 3 [(0, .ref (ad 0)), (1, .int x0), (2, .int x1)] := hl
  have hfr : Fz v v := Fz.rf
  refine lv_aload_n hx hb dX7_canHold_0 rfl (lv_at hl 0 rfl) ?_
  refine lv_iload_n hx hb dX7_canHold_1 rfl (lv_at hl 1 rfl) ?_
  refine yw_i (w1 := fun (u : Nat → Nat → Int32) => wl ad kv cy N u) hD hS hA (va_runV (As := [.int x0]) (rest := []) ⟨hx, hb, hml, hown, hts⟩ (g_X7_isCase l dC dI cy _ ad kv N hN v hv x0) (cwV 1 hts gX7_canHold_X7_isCase rfl rfl rfl hd_V_X7_isCase_1 ⟨Nat.le_of_ble_eq_true rfl, Nat.le_of_ble_eq_true rfl⟩) (yw_preV hE hK hP hD (ci := 7) (q := (RX7, TX7, 5)) (q0 := 0) rfl (wl_at (by omega) (ce_0 (by decide)))) rfl rfl hl.1 rfl (lv_room (Nat.le_of_ble_eq_true rfl)) dX7_canHold_2 ⟨Nat.le_of_ble_eq_true rfl, Nat.le_of_ble_eq_true rfl⟩) (fun r_1 v_1 H locs hw_1 hP hD hS => ?_)
  obtain ⟨hv, hw_1⟩ := hw_1
  obtain ⟨hu_1, hw_1⟩ := hw_1
  have hfr : Fz v v_1 := by rw [hu_1]; exact hfr
  rcases hw_1 with ⟨rfl, ha_2⟩ | ⟨rfl, -⟩
  · have hb_2 := hv.at (k := 13) (j := 2) (K := 3) (by decide) rfl
    have hb_2 : 0 ≤ x0.toInt ∧ x0.toInt < 6 := by omega
    refine lv_if_eq (tgt := 15) hx hb dX7_canHold_5 (by decide) (fun c9 => absurd c9 (by decide)) (fun _ => ?_)
    refine lv_iload_n hx hb dX7_canHold_8 rfl (lv_at hl 2 rfl) ?_
    refine yc_p hP hS (va_runS (As := [.int x1]) (rest := []) ⟨hx, hb, hml, hown, hts⟩ (c_X7_isSide l x1) (cwS 1 hts gX7_canHold_X7_isSide rfl rfl rfl hd_S_X7_isSide_1 ⟨Nat.le_of_ble_eq_true rfl, Nat.le_of_ble_eq_true rfl⟩) ex_preP rfl rfl hl.1 rfl (lv_room (Nat.le_of_ble_eq_true rfl)) dX7_canHold_9 ⟨Nat.le_of_ble_eq_true rfl, Nat.le_of_ble_eq_true rfl⟩) (fun r_3 H locs hw_3 hP hS => ?_)
    rcases wi_ca hw_3 with ⟨rfl, hc_4⟩ | ⟨rfl, hc_4⟩
    · have k_0 : (0 : Int32).toInt = 0 := by decide
      have k_1 : (1 : Int32).toInt = 1 := by decide
      have tc_4 := wi_tl hc_4
      refine lv_if_ne (tgt := 17) hx hb dX7_canHold_12 (by decide) (fun _ => ?_) (fun c9 => absurd c9 (by decide))
      refine lv_aload_n hx hb dX7_canHold_17 rfl (lv_at hl 0 rfl) ?_
      refine va_get (D := (dC, dI)) (ci := 7) (v := .ref (ad 10)) (C := RX7) (T := TX7) (N := 5) hx hb hts iwX7_canHold_X7 hown hK hP (0) (wl_at (by omega) (ce_0 (by decide))) rfl 2 (by decide) (hts (.fieldLink RX7 26 "QuietStairs" "table" "LQuietStairs$Table;") fwX7_canHold_1) (fun _ h9 => h9) rfl dX7_canHold_18 ?_
      refine lv_aload_n hx hb dX7_canHold_21 rfl (lv_at hl 0 rfl) ?_
      refine va_get (D := (dC, dI)) (ci := 7) (v := .ref (ad 13)) (C := RX7) (T := TX7) (N := 5) hx hb hts iwX7_canHold_X7 hown hK hP (0) (wl_at (by omega) (ce_0 (by decide))) rfl 0 (by decide) (hts (.fieldLink RX7 12 "QuietStairs" "now" "LQuietStairs$House;") fwX7_canHold_2) (fun _ h9 => h9) rfl dX7_canHold_22 ?_
      refine va_get (D := (dC, dI)) (ci := 1) (v := .ref (ad 16)) (C := RX1) (T := TX1) (N := 7) hx hb hts iwX7_canHold_X1 hown hK hP (13) (wl_at (by omega) (ce_3 (by decide))) rfl 6 (by decide) (hts (.fieldLink RX7 86 "QuietStairs$House" "cases" "[LQuietStairs$Case;") fwX7_canHold_3) (fun _ h9 => h9) rfl dX7_canHold_25 ?_
      refine lv_iload_n hx hb dX7_canHold_28 rfl (lv_at hl 1 rfl) ?_
      obtain ⟨pi5, i5, hi5, ni5, mi5⟩ := t_in (x := x0) (n := 6) ⟨by omega, by omega⟩
      refine va_aldq hx hb hK hP (16) 3 (wl_at (by omega) (ce_6 (by decide))) rfl pi5 dX7_canHold_29 ?_
      refine W.eq (g2 := F0 m 30 ls [.ref (ad (29 + 15 * i5)), .ref (ad 10)]) (by rw [ni5, if_pos hi5, show 16 + 13 + 15 * i5 = 29 + 15 * i5 from by omega]; rfl) ?_
      refine lv_iload_n hx hb dX7_canHold_30 rfl (lv_at hl 2 rfl) ?_
      refine lv_aload_n hx hb dX7_canHold_31 rfl (lv_at hl 0 rfl) ?_
      refine va_get (D := (dC, dI)) (ci := 7) (v := .ref (ad 13)) (C := RX7) (T := TX7) (N := 5) hx hb hts iwX7_canHold_X7 hown hK hP (0) (wl_at (by omega) (ce_0 (by decide))) rfl 0 (by decide) (hts (.fieldLink RX7 12 "QuietStairs" "now" "LQuietStairs$House;") fwX7_canHold_2) (fun _ h9 => h9) rfl dX7_canHold_32 ?_
      refine va_get (D := (dC, dI)) (ci := 1) (v := .ref (ad 16)) (C := RX1) (T := TX1) (N := 7) hx hb hts iwX7_canHold_X1 hown hK hP (13) (wl_at (by omega) (ce_3 (by decide))) rfl 6 (by decide) (hts (.fieldLink RX7 86 "QuietStairs$House" "cases" "[LQuietStairs$Case;") fwX7_canHold_3) (fun _ h9 => h9) rfl dX7_canHold_35 ?_
      refine lv_iload_n hx hb dX7_canHold_38 rfl (lv_at hl 1 rfl) ?_
      refine va_aldq hx hb hK hP (16) 3 (wl_at (by omega) (ce_6 (by decide))) rfl pi5 dX7_canHold_39 ?_
      refine W.eq (g2 := F0 m 40 ls [.ref (ad (29 + 15 * i5)), .int x1, .ref (ad (29 + 15 * i5)), .ref (ad 10)]) (by rw [ni5, if_pos hi5, show 16 + 13 + 15 * i5 = 29 + 15 * i5 from by omega]; rfl) ?_
      refine va_get (D := (dC, dI)) (ci := 0) (v := .int (v_1 (29 + 15 * i5) 5)) (C := RX0) (T := TX0) (N := 11) hx hb hts iwX7_canHold_X0 hown hK hP (29 + 15 * i5) (wl_at (by omega) (ce_9 (kd_c i5 hi5).1.1)) rfl 5 (by decide) (hts (.fieldLink RX7 169 "QuietStairs$Case" "termCount" "I") fwX7_canHold_4) (fun _ h9 => h9) rfl dX7_canHold_40 ?_
      refine lv_topi (fun x_6 ex_6 => ?_)
      have bx_6 : 0 ≤ x_6.toInt ∧ x_6.toInt ≤ 5 := by rw [ex_6]; exact hv.at (K := 9) (kd_c i5 hi5).1.1 rfl
      refine yw_v (w1 := fun (u : Nat → Nat → Int32) => wl ad kv cy N u) hD hS hA (va_runV (As := [.ref (ad (29 + 15 * i5)), .int x1, .int x_6]) (rest := []) ⟨hx, hb, hml, hown, hts⟩ (g_X5_read l dC dI cy _ ad kv N hN v_1 hv i5 hi5 x1 x_6 ⟨by omega, by omega⟩) (cwV 3 hts gX7_canHold_X5_read rfl rfl rfl hd_V_X5_read_3 ⟨Nat.le_of_ble_eq_true rfl, Nat.le_of_ble_eq_true rfl⟩) (yw_preV hE hK hP hD (ci := 5) (q := (RX5, TX5, 3)) (q0 := 10) rfl (wl_at (by omega) (ce_2 (by decide)))) rfl rfl hl.1 rfl (lv_room (Nat.le_of_ble_eq_true rfl)) dX7_canHold_43 ⟨Nat.le_of_ble_eq_true rfl, Nat.le_of_ble_eq_true rfl⟩) (fun v_7 H locs hw_7 hP hD hS => ?_)
      obtain ⟨hv, hw_7⟩ := hw_7
      have hfr : Fz v v_7 := hfr.trans hw_7
      refine lv_aload_n hx hb dX7_canHold_46 rfl (lv_at hl 0 rfl) ?_
      refine va_get (D := (dC, dI)) (ci := 7) (v := .ref (ad 10)) (C := RX7) (T := TX7) (N := 5) hx hb hts iwX7_canHold_X7 hown hK hP (0) (wl_at (by omega) (ce_0 (by decide))) rfl 2 (by decide) (hts (.fieldLink RX7 26 "QuietStairs" "table" "LQuietStairs$Table;") fwX7_canHold_1) (fun _ h9 => h9) rfl dX7_canHold_47 ?_
      refine yw_i (w1 := fun (u : Nat → Nat → Int32) => wl ad kv cy N u) hD hS hA (va_runV (As := []) (rest := []) ⟨hx, hb, hml, hown, hts⟩ (g_X5_stands l dC dI cy _ ad kv N hN v_7 hv ) (cwV 0 hts gX7_canHold_X5_stands rfl rfl rfl hd_V_X5_stands_0 ⟨Nat.le_of_ble_eq_true rfl, Nat.le_of_ble_eq_true rfl⟩) (yw_preV hE hK hP hD (ci := 5) (q := (RX5, TX5, 3)) (q0 := 10) rfl (wl_at (by omega) (ce_2 (by decide)))) rfl rfl hl.1 rfl (lv_room (Nat.le_of_ble_eq_true rfl)) dX7_canHold_50 ⟨Nat.le_of_ble_eq_true rfl, Nat.le_of_ble_eq_true rfl⟩) (fun r_8 v_8 H locs hw_8 hP hD hS => ?_)
      obtain ⟨hv, hw_8⟩ := hw_8
      have hfr : Fz v v_8 := hfr.trans hw_8.1
      refine lv_if_eq (tgt := 60) hx hb dX7_canHold_53 (by decide) (fun c_9 => ?_) (fun c_9 => ?_)
      · have tc_9 : r_8.toInt = (0 : Int32).toInt := by rw [c_9]
        refine lv_iconst (v := 0) hx hb dX7_canHold_60 (by decide) ?_
        exact W.iret (v := 0) hx hb hr (fun t ht hW => ⟨⟨0, v_8, rfl, ⟨hv, hfr⟩, by rw [ht]; exact hP, hD⟩, hS.F ht⟩) hS.2.2 dX7_canHold_61
      · have tc_9 : r_8.toInt ≠ (0 : Int32).toInt := fun q => absurd (Int32.toInt_inj.mp q) c_9
        refine lv_iconst (v := 1) hx hb dX7_canHold_56 (by decide) ?_
        refine lv_goto (tgt := 61) hx hb dX7_canHold_57 (by decide) ?_
        exact W.iret (v := 1) hx hb hr (fun t ht hW => ⟨⟨1, v_8, rfl, ⟨hv, hfr⟩, by rw [ht]; exact hP, hD⟩, hS.F ht⟩) hS.2.2 dX7_canHold_61
    · refine lv_if_ne (tgt := 17) hx hb dX7_canHold_12 (by decide) (fun c9 => absurd c9 (by decide)) (fun _ => ?_)
      refine lv_iconst (v := (-1)) hx hb dX7_canHold_15 (by decide) ?_
      exact W.iret (v := (-1)) hx hb hr (fun t ht hW => ⟨⟨(-1), v_1, rfl, ⟨hv, hfr⟩, by rw [ht]; exact hP, hD⟩, hS.F ht⟩) hS.2.2 dX7_canHold_16
  · refine lv_if_eq (tgt := 15) hx hb dX7_canHold_5 (by decide) (fun _ => ?_) (fun c9 => absurd c9 (by decide))
    refine lv_iconst (v := (-1)) hx hb dX7_canHold_15 (by decide) ?_
    exact W.iret (v := (-1)) hx hb hr (fun t ht hW => ⟨⟨(-1), v_1, rfl, ⟨hv, hfr⟩, by rw [ht]; exact hP, hD⟩, hS.F ht⟩) hS.2.2 dX7_canHold_16

set_option maxHeartbeats 4000000 in
set_option maxRecDepth 100000 in
theorem g_X7_hour (l : Launch) (dC : Nat → ClassId) (dI : Nat → Nat → Nat) (cy : Nat → ClassId) (sz : Nat) (ad : Nat → Nat) (kv : Value) (N : Nat) (hN : 119 ≤ N) (v : Nat → Nat → Int32) (hv : Iv v)  (x0 x1 : Int32) : Met l yX7_hour wsX7_hour ({ frames := 4, cells := 0, slots := 0, locals := 256 }) (va_Pc [.ref (ad 0), .int x0, .int x1] (ex_Pre dC dI cy sz (wl ad kv cy N v))) (va_Qi (fun (r : Int32) (u : Nat → Nat → Int32) => Iv u ∧ Fz v u) (fun u t => ex_Pst dC dI (va_A (wl ad kv cy N v) sz) (wl ad kv cy N u) t) (va_A (wl ad kv cy N v) sz)) 0 0 (va_A (wl ad kv cy N v) sz) := by
  refine Met.ofW (cc := cX7_hour) (maxL := 4) (ret := (some .int)) (by decide) rfl ?_
  intro p e s m args below meth c s₁ B hml hv
  obtain ⟨rfl, hsz, hE, hP, hK, hD0⟩ := hv
  have hx := B.exec
  have hb := B.bytes
  have hr := B.returns
  have hts := atoms_spec (ws := wsX7_hour) B.pre
  have hown : s.vm.findClass RX7 = some m.cls := findClass_of_methodNamed B.named
  have hlocks := B.notSynchronized
  subst hsz
  have hD := hD0.self (sz := s.heap.size)
  generalize hAe : va_A (wl ad kv cy N v) s.heap.size = A at hD ⊢
  have hA : ∀ q : Nat, s.heap.size ≤ q → A q := fun q h => by rw [← hAe]; exact Or.inr h
  have hS : va_S A s.heap s.heap [] := va_S.rf
  have hP : va_P (dC, dI) vwCl (wl ad kv cy N v) s.heap := hP
  have hl := lv_entry ([.ref (ad 0), .int x0, .int x1]) (n := 4) (Nat.le_of_ble_eq_true rfl)
  rw [lg_entry_eq]
  generalize (lg_sl ([.ref (ad 0), .int x0, .int x1]) ++ List.replicate (4 - (lg_sl ([.ref (ad 0), .int x0, .int x1])).length) Slot.unset).toArray = ls at hl ⊢
  have hl : lv_has ls 4 [(0, .ref (ad 0)), (1, .int x0), (2, .int x1)] := hl
  have hfr : Fz v v := Fz.rf
  refine lv_aload_n hx hb dX7_hour_0 rfl (lv_at hl 0 rfl) ?_
  refine lv_iload_n hx hb dX7_hour_1 rfl (lv_at hl 1 rfl) ?_
  refine lv_iload_n hx hb dX7_hour_2 rfl (lv_at hl 2 rfl) ?_
  refine yw_i (w1 := fun (u : Nat → Nat → Int32) => wl ad kv cy N u) hD hS hA (va_runV (As := [.int x0, .int x1]) (rest := []) ⟨hx, hb, hml, hown, hts⟩ (g_X7_isTerm l dC dI cy _ ad kv N hN v hv x0 x1) (cwV 2 hts gX7_hour_X7_isTerm rfl rfl rfl hd_V_X7_isTerm_2 ⟨Nat.le_of_ble_eq_true rfl, Nat.le_of_ble_eq_true rfl⟩) (yw_preV hE hK hP hD (ci := 7) (q := (RX7, TX7, 5)) (q0 := 0) rfl (wl_at (by omega) (ce_0 (by decide)))) rfl rfl hl.1 rfl (lv_room (Nat.le_of_ble_eq_true rfl)) dX7_hour_3 ⟨Nat.le_of_ble_eq_true rfl, Nat.le_of_ble_eq_true rfl⟩) (fun r_1 v_1 H locs hw_1 hP hD hS => ?_)
  obtain ⟨hv, hw_1⟩ := hw_1
  have hfr : Fz v v_1 := hfr.trans hw_1.1
  rcases hw_1.2 with ⟨rfl, ha_2, hb_2⟩ | rfl
  · refine lv_if_ne (tgt := 11) hx hb dX7_hour_6 (by decide) (fun _ => ?_) (fun c9 => absurd c9 (by decide))
    refine lv_aload_n hx hb dX7_hour_11 rfl (lv_at hl 0 rfl) ?_
    refine va_get (D := (dC, dI)) (ci := 7) (v := .ref (ad 13)) (C := RX7) (T := TX7) (N := 5) hx hb hts iwX7_hour_X7 hown hK hP (0) (wl_at (by omega) (ce_0 (by decide))) rfl 0 (by decide) (hts (.fieldLink RX7 12 "QuietStairs" "now" "LQuietStairs$House;") fwX7_hour_1) (fun _ h9 => h9) rfl dX7_hour_12 ?_
    refine va_get (D := (dC, dI)) (ci := 1) (v := .ref (ad 16)) (C := RX1) (T := TX1) (N := 7) hx hb hts iwX7_hour_X1 hown hK hP (13) (wl_at (by omega) (ce_3 (by decide))) rfl 6 (by decide) (hts (.fieldLink RX7 86 "QuietStairs$House" "cases" "[LQuietStairs$Case;") fwX7_hour_2) (fun _ h9 => h9) rfl dX7_hour_15 ?_
    refine lv_iload_n hx hb dX7_hour_18 rfl (lv_at hl 1 rfl) ?_
    obtain ⟨pi3, i3, hi3, ni3, mi3⟩ := t_in (x := x0) (n := 6) ⟨by omega, by omega⟩
    refine va_aldq hx hb hK hP (16) 3 (wl_at (by omega) (ce_6 (by decide))) rfl pi3 dX7_hour_19 ?_
    refine W.eq (g2 := F0 m 20 ls [.ref (ad (29 + 15 * i3))]) (by rw [ni3, if_pos hi3, show 16 + 13 + 15 * i3 = 29 + 15 * i3 from by omega]; rfl) ?_
    refine lv_astore_n (lv' := [(3, .ref (ad (29 + 15 * i3))), (0, .ref (ad 0)), (1, .int x0), (2, .int x1)]) hx hb dX7_hour_20 rfl hl (by decide) rfl (fun ls hl => ?_)
    refine lv_aload_n hx hb dX7_hour_21 rfl (lv_at hl 0 rfl) ?_
    refine va_get (D := (dC, dI)) (ci := 0) (v := .ref (ad (29 + 15 * i3 + 9))) (C := RX0) (T := TX0) (N := 11) hx hb hts iwX7_hour_X0 hown hK hP (29 + 15 * i3) (wl_at (by omega) (ce_9 (kd_c i3 hi3).1.1)) rfl 10 (by decide) (hts (.fieldLink RX7 172 "QuietStairs$Case" "terms" "[LQuietStairs$Term;") fwX7_hour_3) (fun _ h9 => h9) rfl dX7_hour_22 ?_
    refine W.eq (g2 := F0 m 25 ls [.ref (ad (38 + 15 * i3))]) (by rw [show 29 + 15 * i3 + 9 = 38 + 15 * i3 from by omega]) ?_
    refine lv_iload_n hx hb dX7_hour_25 rfl (lv_at hl 3 rfl) ?_
    obtain ⟨pi4, i4, hi4, ni4, mi4⟩ := t_in (x := x1) (n := 5) ⟨by omega, by omega⟩
    refine va_aldq hx hb hK hP (38 + 15 * i3) 4 (wl_at (by omega) (ce_15 (kd_c i3 hi3).1.2.2.2.2.2)) rfl pi4 dX7_hour_26 ?_
    refine W.eq (g2 := F0 m 27 ls [.ref (ad (39 + 15 * i3 + i4))]) (by rw [ni4, if_pos hi4, show 38 + 15 * i3 + 1 + i4 = 39 + 15 * i3 + i4 from by omega]; rfl) ?_
    refine va_get (D := (dC, dI)) (ci := 6) (v := .int (v_1 (39 + 15 * i3 + i4) 1)) (C := RX6) (T := TX6) (N := 5) hx hb hts iwX7_hour_X6 hown hK hP (39 + 15 * i3 + i4) (wl_at (by omega) (ce_16 (kd_t i3 hi3 i4 hi4).1)) rfl 1 (by decide) (hts (.fieldLink RX7 181 "QuietStairs$Term" "must" "Z") fwX7_hour_4) (fun _ h9 => h9) rfl dX7_hour_27 ?_
    refine lv_topi (fun x_5 ex_5 => ?_)
    have bx_5 : 0 ≤ x_5.toInt ∧ x_5.toInt ≤ 1 := by rw [ex_5]; exact hv.at (K := 16) (kd_t i3 hi3 i4 hi4).1 rfl
    have k_0 : (0 : Int32).toInt = 0 := by decide
    refine lv_if_ne (tgt := 36) hx hb dX7_hour_30 (by decide) (fun c_6 => ?_) (fun c_6 => ?_)
    · have tc_6 : x_5.toInt ≠ (0 : Int32).toInt := fun q => absurd (Int32.toInt_inj.mp q) c_6
      refine lv_aload_n hx hb dX7_hour_36 rfl (lv_at hl 1 rfl) ?_
      refine va_get (D := (dC, dI)) (ci := 7) (v := .ref (ad 10)) (C := RX7) (T := TX7) (N := 5) hx hb hts iwX7_hour_X7 hown hK hP (0) (wl_at (by omega) (ce_0 (by decide))) rfl 2 (by decide) (hts (.fieldLink RX7 26 "QuietStairs" "table" "LQuietStairs$Table;") fwX7_hour_5) (fun _ h9 => h9) rfl dX7_hour_37 ?_
      refine lv_aload_n hx hb dX7_hour_40 rfl (lv_at hl 0 rfl) ?_
      refine lv_aload_n hx hb dX7_hour_41 rfl (lv_at hl 0 rfl) ?_
      refine va_get (D := (dC, dI)) (ci := 0) (v := .ref (ad (29 + 15 * i3 + 9))) (C := RX0) (T := TX0) (N := 11) hx hb hts iwX7_hour_X0 hown hK hP (29 + 15 * i3) (wl_at (by omega) (ce_9 (kd_c i3 hi3).1.1)) rfl 10 (by decide) (hts (.fieldLink RX7 172 "QuietStairs$Case" "terms" "[LQuietStairs$Term;") fwX7_hour_3) (fun _ h9 => h9) rfl dX7_hour_42 ?_
      refine W.eq (g2 := F0 m 45 ls [.ref (ad (38 + 15 * i3)), .ref (ad (29 + 15 * i3)), .ref (ad 10)]) (by rw [show 29 + 15 * i3 + 9 = 38 + 15 * i3 from by omega]) ?_
      refine lv_iload_n hx hb dX7_hour_45 rfl (lv_at hl 3 rfl) ?_
      refine va_aldq hx hb hK hP (38 + 15 * i3) 4 (wl_at (by omega) (ce_15 (kd_c i3 hi3).1.2.2.2.2.2)) rfl pi4 dX7_hour_46 ?_
      refine W.eq (g2 := F0 m 47 ls [.ref (ad (39 + 15 * i3 + i4)), .ref (ad (29 + 15 * i3)), .ref (ad 10)]) (by rw [ni4, if_pos hi4, show 38 + 15 * i3 + 1 + i4 = 39 + 15 * i3 + i4 from by omega]; rfl) ?_
      refine va_get (D := (dC, dI)) (ci := 6) (v := .int (v_1 (39 + 15 * i3 + i4) 0)) (C := RX6) (T := TX6) (N := 5) hx hb hts iwX7_hour_X6 hown hK hP (39 + 15 * i3 + i4) (wl_at (by omega) (ce_16 (kd_t i3 hi3 i4 hi4).1)) rfl 0 (by decide) (hts (.fieldLink RX7 176 "QuietStairs$Term" "side" "I") fwX7_hour_6) (fun _ h9 => h9) rfl dX7_hour_47 ?_
      refine lv_topi (fun x_7 ex_7 => ?_)
      have bx_7 : 0 ≤ x_7.toInt ∧ x_7.toInt ≤ 1 := by rw [ex_7]; exact hv.at (K := 16) (kd_t i3 hi3 i4 hi4).1 rfl
      refine lv_aload_n hx hb dX7_hour_50 rfl (lv_at hl 0 rfl) ?_
      refine va_get (D := (dC, dI)) (ci := 0) (v := .int (v_1 (29 + 15 * i3) 5)) (C := RX0) (T := TX0) (N := 11) hx hb hts iwX7_hour_X0 hown hK hP (29 + 15 * i3) (wl_at (by omega) (ce_9 (kd_c i3 hi3).1.1)) rfl 5 (by decide) (hts (.fieldLink RX7 169 "QuietStairs$Case" "termCount" "I") fwX7_hour_7) (fun _ h9 => h9) rfl dX7_hour_51 ?_
      refine lv_topi (fun x_8 ex_8 => ?_)
      have bx_8 : 0 ≤ x_8.toInt ∧ x_8.toInt ≤ 5 := by rw [ex_8]; exact hv.at (K := 9) (kd_c i3 hi3).1.1 rfl
      refine yw_v (w1 := fun (u : Nat → Nat → Int32) => wl ad kv cy N u) hD hS hA (va_runV (As := [.ref (ad (29 + 15 * i3)), .int x_7, .int x_8]) (rest := []) ⟨hx, hb, hml, hown, hts⟩ (g_X5_read l dC dI cy _ ad kv N hN v_1 hv i3 hi3 x_7 x_8 ⟨by omega, by omega⟩) (cwV 3 hts gX7_hour_X5_read rfl rfl rfl hd_V_X5_read_3 ⟨Nat.le_of_ble_eq_true rfl, Nat.le_of_ble_eq_true rfl⟩) (yw_preV hE hK hP hD (ci := 5) (q := (RX5, TX5, 3)) (q0 := 10) rfl (wl_at (by omega) (ce_2 (by decide)))) rfl rfl hl.1 rfl (lv_room (Nat.le_of_ble_eq_true rfl)) dX7_hour_54 ⟨Nat.le_of_ble_eq_true rfl, Nat.le_of_ble_eq_true rfl⟩) (fun v_9 H locs hw_9 hP hD hS => ?_)
      obtain ⟨hv, hw_9⟩ := hw_9
      have hfr : Fz v v_9 := hfr.trans hw_9
      refine lv_aload_n hx hb dX7_hour_57 rfl (lv_at hl 1 rfl) ?_
      refine va_get (D := (dC, dI)) (ci := 7) (v := .ref (ad 10)) (C := RX7) (T := TX7) (N := 5) hx hb hts iwX7_hour_X7 hown hK hP (0) (wl_at (by omega) (ce_0 (by decide))) rfl 2 (by decide) (hts (.fieldLink RX7 26 "QuietStairs" "table" "LQuietStairs$Table;") fwX7_hour_5) (fun _ h9 => h9) rfl dX7_hour_58 ?_
      refine yw_i (w1 := fun (u : Nat → Nat → Int32) => wl ad kv cy N u) hD hS hA (va_runV (As := []) (rest := []) ⟨hx, hb, hml, hown, hts⟩ (g_X5_stands l dC dI cy _ ad kv N hN v_9 hv ) (cwV 0 hts gX7_hour_X5_stands rfl rfl rfl hd_V_X5_stands_0 ⟨Nat.le_of_ble_eq_true rfl, Nat.le_of_ble_eq_true rfl⟩) (yw_preV hE hK hP hD (ci := 5) (q := (RX5, TX5, 3)) (q0 := 10) rfl (wl_at (by omega) (ce_2 (by decide)))) rfl rfl hl.1 rfl (lv_room (Nat.le_of_ble_eq_true rfl)) dX7_hour_61 ⟨Nat.le_of_ble_eq_true rfl, Nat.le_of_ble_eq_true rfl⟩) (fun r_10 v_10 H locs hw_10 hP hD hS => ?_)
      obtain ⟨hv, hw_10⟩ := hw_10
      have hfr : Fz v v_10 := hfr.trans hw_10.1
      refine lv_if_eq (tgt := 78) hx hb dX7_hour_64 (by decide) (fun c_11 => ?_) (fun c_11 => ?_)
      · have tc_11 : r_10.toInt = (0 : Int32).toInt := by rw [c_11]
        refine lv_bipush (v := (-5)) hx hb dX7_hour_78 (by decide) ?_
        exact W.iret (v := (-5)) hx hb hr (fun t ht hW => ⟨⟨(-5), v_10, rfl, ⟨hv, hfr⟩, by rw [ht]; exact hP, hD⟩, hS.F ht⟩) hS.2.2 dX7_hour_80
      · have tc_11 : r_10.toInt ≠ (0 : Int32).toInt := fun q => absurd (Int32.toInt_inj.mp q) c_11
        refine lv_aload_n hx hb dX7_hour_67 rfl (lv_at hl 1 rfl) ?_
        refine va_get (D := (dC, dI)) (ci := 7) (v := .ref (ad 10)) (C := RX7) (T := TX7) (N := 5) hx hb hts iwX7_hour_X7 hown hK hP (0) (wl_at (by omega) (ce_0 (by decide))) rfl 2 (by decide) (hts (.fieldLink RX7 26 "QuietStairs" "table" "LQuietStairs$Table;") fwX7_hour_5) (fun _ h9 => h9) rfl dX7_hour_68 ?_
        refine lv_iload_n hx hb dX7_hour_71 rfl (lv_at hl 3 rfl) ?_
        refine yw_i (w1 := fun (u : Nat → Nat → Int32) => wl ad kv cy N u) hD hS hA (va_runV (As := [.int x1]) (rest := []) ⟨hx, hb, hml, hown, hts⟩ (g_X5_hourOf l dC dI cy _ ad kv N hN v_10 hv x1) (cwV 1 hts gX7_hour_X5_hourOf rfl rfl rfl hd_V_X5_hourOf_1 ⟨Nat.le_of_ble_eq_true rfl, Nat.le_of_ble_eq_true rfl⟩) (yw_preV hE hK hP hD (ci := 5) (q := (RX5, TX5, 3)) (q0 := 10) rfl (wl_at (by omega) (ce_2 (by decide)))) rfl rfl hl.1 rfl (lv_room (Nat.le_of_ble_eq_true rfl)) dX7_hour_72 ⟨Nat.le_of_ble_eq_true rfl, Nat.le_of_ble_eq_true rfl⟩) (fun r_12 v_12 H locs hw_12 hP hD hS => ?_)
        obtain ⟨hv, hw_12⟩ := hw_12
        have hfr : Fz v v_12 := hfr.trans hw_12
        refine lv_goto (tgt := 80) hx hb dX7_hour_75 (by decide) ?_
        exact W.iret (v := r_12) hx hb hr (fun t ht hW => ⟨⟨r_12, v_12, rfl, ⟨hv, hfr⟩, by rw [ht]; exact hP, hD⟩, hS.F ht⟩) hS.2.2 dX7_hour_80
    · have tc_6 : x_5.toInt = (0 : Int32).toInt := by rw [c_6]
      refine lv_bipush (v := (-4)) hx hb dX7_hour_33 (by decide) ?_
      exact W.iret (v := (-4)) hx hb hr (fun t ht hW => ⟨⟨(-4), v_1, rfl, ⟨hv, hfr⟩, by rw [ht]; exact hP, hD⟩, hS.F ht⟩) hS.2.2 dX7_hour_35
  · refine lv_if_ne (tgt := 11) hx hb dX7_hour_6 (by decide) (fun c9 => absurd c9 (by decide)) (fun _ => ?_)
    refine lv_iconst (v := (-1)) hx hb dX7_hour_9 (by decide) ?_
    exact W.iret (v := (-1)) hx hb hr (fun t ht hW => ⟨⟨(-1), v_1, rfl, ⟨hv, hfr⟩, by rw [ht]; exact hP, hD⟩, hS.F ht⟩) hS.2.2 dX7_hour_10

set_option maxHeartbeats 4000000 in
set_option maxRecDepth 100000 in
theorem g_X7_breaks (l : Launch) (dC : Nat → ClassId) (dI : Nat → Nat → Nat) (cy : Nat → ClassId) (sz : Nat) (ad : Nat → Nat) (kv : Value) (N : Nat) (hN : 119 ≤ N) (v : Nat → Nat → Int32) (hv : Iv v)  (x0 x1 : Int32) : Met l yX7_breaks wsX7_breaks ({ frames := 3, cells := 0, slots := 0, locals := 192 }) (va_Pc [.ref (ad 0), .int x0, .int x1] (ex_Pre dC dI cy sz (wl ad kv cy N v))) (va_Qi (fun (r : Int32) (u : Nat → Nat → Int32) => Iv u ∧ Fz v u) (fun u t => ex_Pst dC dI (va_A (wl ad kv cy N v) sz) (wl ad kv cy N u) t) (va_A (wl ad kv cy N v) sz)) 0 0 (va_A (wl ad kv cy N v) sz) := by
  refine Met.ofW (cc := cX7_breaks) (maxL := 5) (ret := (some .int)) (by decide) rfl ?_
  intro p e s m args below meth c s₁ B hml hv
  obtain ⟨rfl, hsz, hE, hP, hK, hD0⟩ := hv
  have hx := B.exec
  have hb := B.bytes
  have hr := B.returns
  have hts := atoms_spec (ws := wsX7_breaks) B.pre
  have hown : s.vm.findClass RX7 = some m.cls := findClass_of_methodNamed B.named
  have hlocks := B.notSynchronized
  subst hsz
  have hD := hD0.self (sz := s.heap.size)
  generalize hAe : va_A (wl ad kv cy N v) s.heap.size = A at hD ⊢
  have hA : ∀ q : Nat, s.heap.size ≤ q → A q := fun q h => by rw [← hAe]; exact Or.inr h
  have hS : va_S A s.heap s.heap [] := va_S.rf
  have hP : va_P (dC, dI) vwCl (wl ad kv cy N v) s.heap := hP
  have hl := lv_entry ([.ref (ad 0), .int x0, .int x1]) (n := 5) (Nat.le_of_ble_eq_true rfl)
  rw [lg_entry_eq]
  generalize (lg_sl ([.ref (ad 0), .int x0, .int x1]) ++ List.replicate (5 - (lg_sl ([.ref (ad 0), .int x0, .int x1])).length) Slot.unset).toArray = ls at hl ⊢
  have hl : lv_has ls 5 [(0, .ref (ad 0)), (1, .int x0), (2, .int x1)] := hl
  have hfr : Fz v v := Fz.rf
  refine lv_aload_n hx hb dX7_breaks_0 rfl (lv_at hl 0 rfl) ?_
  refine lv_iload_n hx hb dX7_breaks_1 rfl (lv_at hl 1 rfl) ?_
  refine yw_i (w1 := fun (u : Nat → Nat → Int32) => wl ad kv cy N u) hD hS hA (va_runV (As := [.int x0]) (rest := []) ⟨hx, hb, hml, hown, hts⟩ (g_X7_isCase l dC dI cy _ ad kv N hN v hv x0) (cwV 1 hts gX7_breaks_X7_isCase rfl rfl rfl hd_V_X7_isCase_1 ⟨Nat.le_of_ble_eq_true rfl, Nat.le_of_ble_eq_true rfl⟩) (yw_preV hE hK hP hD (ci := 7) (q := (RX7, TX7, 5)) (q0 := 0) rfl (wl_at (by omega) (ce_0 (by decide)))) rfl rfl hl.1 rfl (lv_room (Nat.le_of_ble_eq_true rfl)) dX7_breaks_2 ⟨Nat.le_of_ble_eq_true rfl, Nat.le_of_ble_eq_true rfl⟩) (fun r_1 v_1 H locs hw_1 hP hD hS => ?_)
  obtain ⟨hv, hw_1⟩ := hw_1
  obtain ⟨hu_1, hw_1⟩ := hw_1
  have hfr : Fz v v_1 := by rw [hu_1]; exact hfr
  rcases hw_1 with ⟨rfl, ha_2⟩ | ⟨rfl, -⟩
  · have hb_2 := hv.at (k := 13) (j := 2) (K := 3) (by decide) rfl
    have hb_2 : 0 ≤ x0.toInt ∧ x0.toInt < 6 := by omega
    refine lv_if_eq (tgt := 15) hx hb dX7_breaks_5 (by decide) (fun c9 => absurd c9 (by decide)) (fun _ => ?_)
    refine lv_iload_n hx hb dX7_breaks_8 rfl (lv_at hl 2 rfl) ?_
    refine yc_p hP hS (va_runS (As := [.int x1]) (rest := []) ⟨hx, hb, hml, hown, hts⟩ (c_X7_isSide l x1) (cwS 1 hts gX7_breaks_X7_isSide rfl rfl rfl hd_S_X7_isSide_1 ⟨Nat.le_of_ble_eq_true rfl, Nat.le_of_ble_eq_true rfl⟩) ex_preP rfl rfl hl.1 rfl (lv_room (Nat.le_of_ble_eq_true rfl)) dX7_breaks_9 ⟨Nat.le_of_ble_eq_true rfl, Nat.le_of_ble_eq_true rfl⟩) (fun r_3 H locs hw_3 hP hS => ?_)
    rcases wi_ca hw_3 with ⟨rfl, hc_4⟩ | ⟨rfl, hc_4⟩
    · have k_0 : (0 : Int32).toInt = 0 := by decide
      have k_1 : (1 : Int32).toInt = 1 := by decide
      have tc_4 := wi_tl hc_4
      refine lv_if_ne (tgt := 17) hx hb dX7_breaks_12 (by decide) (fun _ => ?_) (fun c9 => absurd c9 (by decide))
      refine lv_aload_n hx hb dX7_breaks_17 rfl (lv_at hl 0 rfl) ?_
      refine va_get (D := (dC, dI)) (ci := 7) (v := .ref (ad 13)) (C := RX7) (T := TX7) (N := 5) hx hb hts iwX7_breaks_X7 hown hK hP (0) (wl_at (by omega) (ce_0 (by decide))) rfl 0 (by decide) (hts (.fieldLink RX7 12 "QuietStairs" "now" "LQuietStairs$House;") fwX7_breaks_1) (fun _ h9 => h9) rfl dX7_breaks_18 ?_
      refine va_get (D := (dC, dI)) (ci := 1) (v := .ref (ad 16)) (C := RX1) (T := TX1) (N := 7) hx hb hts iwX7_breaks_X1 hown hK hP (13) (wl_at (by omega) (ce_3 (by decide))) rfl 6 (by decide) (hts (.fieldLink RX7 86 "QuietStairs$House" "cases" "[LQuietStairs$Case;") fwX7_breaks_2) (fun _ h9 => h9) rfl dX7_breaks_21 ?_
      refine lv_iload_n hx hb dX7_breaks_24 rfl (lv_at hl 1 rfl) ?_
      obtain ⟨pi5, i5, hi5, ni5, mi5⟩ := t_in (x := x0) (n := 6) ⟨by omega, by omega⟩
      refine va_aldq hx hb hK hP (16) 3 (wl_at (by omega) (ce_6 (by decide))) rfl pi5 dX7_breaks_25 ?_
      refine W.eq (g2 := F0 m 26 ls [.ref (ad (29 + 15 * i5))]) (by rw [ni5, if_pos hi5, show 16 + 13 + 15 * i5 = 29 + 15 * i5 from by omega]; rfl) ?_
      refine lv_astore_n (lv' := [(3, .ref (ad (29 + 15 * i5))), (0, .ref (ad 0)), (1, .int x0), (2, .int x1)]) hx hb dX7_breaks_26 rfl hl (by decide) rfl (fun ls hl => ?_)
      refine lv_iconst (v := 0) hx hb dX7_breaks_27 (by decide) ?_
      refine lv_istore (lv' := [(4, .int 0), (3, .ref (ad (29 + 15 * i5))), (0, .ref (ad 0)), (1, .int x0), (2, .int x1)]) hx hb dX7_breaks_28 hl (by decide) rfl (fun ls hl => ?_)
      have hloop_6 : ∀ (n : Nat) (y6_4 : Int32) (u6 : Nat → Nat → Int32) (H : Heap) (locs : List Loc), 0 ≤ y6_4.toInt → y6_4.toInt ≤ 5 → (5 - y6_4.toInt).toNat < n → Iv u6 → Fz v u6 → va_P (dC, dI) vwCl (wl ad kv cy N u6) H → va_D A (wl ad kv cy N u6) → va_S A s.heap H locs → ∀ ls : Array Slot, lv_has ls 5 [(4, .int y6_4), (3, .ref (ad (29 + 15 * i5))), (0, .ref (ad 0)), (1, .int x0), (2, .int x1)] → W p l e (headSpec wsX7_breaks ({ frames := 3, cells := 0, slots := 0, locals := 192 })).room s m [Value.ref (ad 0), Value.int x0, Value.int x1].toArray below meth c H locs 0 0 (MQ below (va_Qi (fun (r : Int32) (u : Nat → Nat → Int32) => Iv u ∧ Fz v u) (fun u t => ex_Pst dC dI A (wl ad kv cy N u) t) A) [Value.ref (ad 0), Value.int x0, Value.int x1].toArray s 0 0 A) (F0 m 30 ls []) := by
        intro n
        induction n with
        | zero =>
          intro y6_4 u6 H locs ay6_4 by6_4 hm_6 hv hfr hP hD hS ls hl
          exact absurd hm_6 (by omega)
        | succ n ih_6 =>
          intro y6_4 u6 H locs ay6_4 by6_4 hm_6 hv hfr hP hD hS ls hl
          refine lv_iload hx hb dX7_breaks_30 (lv_at hl 0 rfl) ?_
          refine lv_aload_n hx hb dX7_breaks_32 rfl (lv_at hl 1 rfl) ?_
          refine va_get (D := (dC, dI)) (ci := 0) (v := .int (u6 (29 + 15 * i5) 5)) (C := RX0) (T := TX0) (N := 11) hx hb hts iwX7_breaks_X0 hown hK hP (29 + 15 * i5) (wl_at (by omega) (ce_9 (kd_c i5 hi5).1.1)) rfl 5 (by decide) (hts (.fieldLink RX7 169 "QuietStairs$Case" "termCount" "I") fwX7_breaks_3) (fun _ h9 => h9) rfl dX7_breaks_33 ?_
          refine lv_topi (fun x_7 ex_7 => ?_)
          have bx_7 : 0 ≤ x_7.toInt ∧ x_7.toInt ≤ 5 := by rw [ex_7]; exact hv.at (K := 9) (kd_c i5 hi5).1.1 rfl
          refine lv_icmp_ge (tgt := 85) hx hb dX7_breaks_36 (by decide) (fun c_8 => ?_) (fun c_8 => ?_)
          · have tc_8 : y6_4.toInt ≥ x_7.toInt := Int32.le_iff_toInt_le.mp c_8
            refine lv_bipush (v := (-5)) hx hb dX7_breaks_85 (by decide) ?_
            exact W.iret (v := (-5)) hx hb hr (fun t ht hW => ⟨⟨(-5), u6, rfl, ⟨hv, hfr⟩, by rw [ht]; exact hP, hD⟩, hS.F ht⟩) hS.2.2 dX7_breaks_87
          · have tc_8 : y6_4.toInt < x_7.toInt := Int32.lt_iff_toInt_lt.mp (Int32.not_le.mp c_8)
            refine lv_aload_n hx hb dX7_breaks_39 rfl (lv_at hl 1 rfl) ?_
            refine va_get (D := (dC, dI)) (ci := 0) (v := .ref (ad (29 + 15 * i5 + 9))) (C := RX0) (T := TX0) (N := 11) hx hb hts iwX7_breaks_X0 hown hK hP (29 + 15 * i5) (wl_at (by omega) (ce_9 (kd_c i5 hi5).1.1)) rfl 10 (by decide) (hts (.fieldLink RX7 172 "QuietStairs$Case" "terms" "[LQuietStairs$Term;") fwX7_breaks_4) (fun _ h9 => h9) rfl dX7_breaks_40 ?_
            refine W.eq (g2 := F0 m 43 ls [.ref (ad (38 + 15 * i5))]) (by rw [show 29 + 15 * i5 + 9 = 38 + 15 * i5 from by omega]) ?_
            refine lv_iload hx hb dX7_breaks_43 (lv_at hl 0 rfl) ?_
            obtain ⟨pi9, i9, hi9, ni9, mi9⟩ := t_in (x := y6_4) (n := 5) ⟨by omega, by omega⟩
            refine va_aldq hx hb hK hP (38 + 15 * i5) 4 (wl_at (by omega) (ce_15 (kd_c i5 hi5).1.2.2.2.2.2)) rfl pi9 dX7_breaks_45 ?_
            refine W.eq (g2 := F0 m 46 ls [.ref (ad (39 + 15 * i5 + i9))]) (by rw [ni9, if_pos hi9, show 38 + 15 * i5 + 1 + i9 = 39 + 15 * i5 + i9 from by omega]; rfl) ?_
            refine va_get (D := (dC, dI)) (ci := 6) (v := .int (u6 (39 + 15 * i5 + i9) 0)) (C := RX6) (T := TX6) (N := 5) hx hb hts iwX7_breaks_X6 hown hK hP (39 + 15 * i5 + i9) (wl_at (by omega) (ce_16 (kd_t i5 hi5 i9 hi9).1)) rfl 0 (by decide) (hts (.fieldLink RX7 176 "QuietStairs$Term" "side" "I") fwX7_breaks_5) (fun _ h9 => h9) rfl dX7_breaks_46 ?_
            refine lv_topi (fun x_10 ex_10 => ?_)
            have bx_10 : 0 ≤ x_10.toInt ∧ x_10.toInt ≤ 1 := by rw [ex_10]; exact hv.at (K := 16) (kd_t i5 hi5 i9 hi9).1 rfl
            refine lv_iload_n hx hb dX7_breaks_49 rfl (lv_at hl 4 rfl) ?_
            refine lv_icmp_ne (tgt := 79) hx hb dX7_breaks_50 (by decide) (fun c_11 => ?_) (fun c_11 => ?_)
            · have tc_11 : x_10.toInt ≠ x1.toInt := fun q => absurd (Int32.toInt_inj.mp q) c_11
              obtain ⟨x_12, ex_12⟩ : ∃ y : Int32, y = y6_4 + 1 := ⟨_, rfl⟩
              refine lv_iinc (v := x_12) (lv' := [(4, .int x_12), (3, .ref (ad (29 + 15 * i5))), (0, .ref (ad 0)), (1, .int x0), (2, .int x1)]) hx hb dX7_breaks_79 hl (k := 0) rfl (by rw [ex_12]; rfl) (by decide) rfl (fun ls hl => ?_)
              have tx_12 : x_12.toInt = y6_4.toInt + (1 : Int32).toInt := by rw [ex_12]; exact t_add ⟨by omega, by omega⟩
              refine lv_goto (tgt := 30) hx hb dX7_breaks_82 (by decide) ?_
              exact ih_6 x_12 u6 H locs (by omega) (by omega) (by omega) hv hfr hP hD hS ls (lv_sub hl [0, 1, 2, 3, 4] rfl)
            · have tc_11 : x_10.toInt = x1.toInt := by rw [c_11]
              refine lv_aload_n hx hb dX7_breaks_53 rfl (lv_at hl 2 rfl) ?_
              refine va_get (D := (dC, dI)) (ci := 7) (v := .ref (ad 10)) (C := RX7) (T := TX7) (N := 5) hx hb hts iwX7_breaks_X7 hown hK hP (0) (wl_at (by omega) (ce_0 (by decide))) rfl 2 (by decide) (hts (.fieldLink RX7 26 "QuietStairs" "table" "LQuietStairs$Table;") fwX7_breaks_6) (fun _ h9 => h9) rfl dX7_breaks_54 ?_
              refine lv_aload_n hx hb dX7_breaks_57 rfl (lv_at hl 1 rfl) ?_
              refine lv_iload_n hx hb dX7_breaks_58 rfl (lv_at hl 4 rfl) ?_
              refine lv_iload hx hb dX7_breaks_59 (lv_at hl 0 rfl) ?_
              refine lv_iconst (v := 1) hx hb dX7_breaks_61 (by decide) ?_
              refine lv_iadd hx hb dX7_breaks_62 ?_
              refine lv_topi (fun x_12 ex_12 => ?_)
              have tx_12 : x_12.toInt = y6_4.toInt + (1 : Int32).toInt := by rw [ex_12]; exact t_add ⟨by omega, by omega⟩
              refine yw_v (w1 := fun (u : Nat → Nat → Int32) => wl ad kv cy N u) hD hS hA (va_runV (As := [.ref (ad (29 + 15 * i5)), .int x1, .int x_12]) (rest := []) ⟨hx, hb, hml, hown, hts⟩ (g_X5_read l dC dI cy _ ad kv N hN u6 hv i5 hi5 x1 x_12 ⟨by omega, by omega⟩) (cwV 3 hts gX7_breaks_X5_read rfl rfl rfl hd_V_X5_read_3 ⟨Nat.le_of_ble_eq_true rfl, Nat.le_of_ble_eq_true rfl⟩) (yw_preV hE hK hP hD (ci := 5) (q := (RX5, TX5, 3)) (q0 := 10) rfl (wl_at (by omega) (ce_2 (by decide)))) rfl rfl hl.1 rfl (lv_room (Nat.le_of_ble_eq_true rfl)) dX7_breaks_63 ⟨Nat.le_of_ble_eq_true rfl, Nat.le_of_ble_eq_true rfl⟩) (fun v_13 H locs hw_13 hP hD hS => ?_)
              obtain ⟨hv, hw_13⟩ := hw_13
              have hfr : Fz v v_13 := hfr.trans hw_13
              refine lv_aload_n hx hb dX7_breaks_66 rfl (lv_at hl 2 rfl) ?_
              refine va_get (D := (dC, dI)) (ci := 7) (v := .ref (ad 10)) (C := RX7) (T := TX7) (N := 5) hx hb hts iwX7_breaks_X7 hown hK hP (0) (wl_at (by omega) (ce_0 (by decide))) rfl 2 (by decide) (hts (.fieldLink RX7 26 "QuietStairs" "table" "LQuietStairs$Table;") fwX7_breaks_6) (fun _ h9 => h9) rfl dX7_breaks_67 ?_
              refine yw_i (w1 := fun (u : Nat → Nat → Int32) => wl ad kv cy N u) hD hS hA (va_runV (As := []) (rest := []) ⟨hx, hb, hml, hown, hts⟩ (g_X5_stands l dC dI cy _ ad kv N hN v_13 hv ) (cwV 0 hts gX7_breaks_X5_stands rfl rfl rfl hd_V_X5_stands_0 ⟨Nat.le_of_ble_eq_true rfl, Nat.le_of_ble_eq_true rfl⟩) (yw_preV hE hK hP hD (ci := 5) (q := (RX5, TX5, 3)) (q0 := 10) rfl (wl_at (by omega) (ce_2 (by decide)))) rfl rfl hl.1 rfl (lv_room (Nat.le_of_ble_eq_true rfl)) dX7_breaks_70 ⟨Nat.le_of_ble_eq_true rfl, Nat.le_of_ble_eq_true rfl⟩) (fun r_14 v_14 H locs hw_14 hP hD hS => ?_)
              obtain ⟨hv, hw_14⟩ := hw_14
              have hfr : Fz v v_14 := hfr.trans hw_14.1
              refine lv_if_ne (tgt := 79) hx hb dX7_breaks_73 (by decide) (fun c_15 => ?_) (fun c_15 => ?_)
              · have tc_15 : r_14.toInt ≠ (0 : Int32).toInt := fun q => absurd (Int32.toInt_inj.mp q) c_15
                obtain ⟨x_16, ex_16⟩ : ∃ y : Int32, y = y6_4 + 1 := ⟨_, rfl⟩
                refine lv_iinc (v := x_16) (lv' := [(4, .int x_16), (3, .ref (ad (29 + 15 * i5))), (0, .ref (ad 0)), (1, .int x0), (2, .int x1)]) hx hb dX7_breaks_79 hl (k := 0) rfl (by rw [ex_16]; rfl) (by decide) rfl (fun ls hl => ?_)
                have tx_16 : x_16.toInt = y6_4.toInt + (1 : Int32).toInt := by rw [ex_16]; exact t_add ⟨by omega, by omega⟩
                refine lv_goto (tgt := 30) hx hb dX7_breaks_82 (by decide) ?_
                exact ih_6 x_16 v_14 H locs (by omega) (by omega) (by omega) hv hfr hP hD hS ls (lv_sub hl [0, 1, 2, 3, 4] rfl)
              · have tc_15 : r_14.toInt = (0 : Int32).toInt := by rw [c_15]
                refine lv_iload hx hb dX7_breaks_76 (lv_at hl 0 rfl) ?_
                exact W.iret (v := y6_4) hx hb hr (fun t ht hW => ⟨⟨y6_4, v_14, rfl, ⟨hv, hfr⟩, by rw [ht]; exact hP, hD⟩, hS.F ht⟩) hS.2.2 dX7_breaks_78
      exact hloop_6 ((5 - (0 : Int32).toInt).toNat + 1) 0 v_1 _ _ (by omega) (by omega) (by omega) hv hfr hP hD hS ls hl
    · refine lv_if_ne (tgt := 17) hx hb dX7_breaks_12 (by decide) (fun c9 => absurd c9 (by decide)) (fun _ => ?_)
      refine lv_iconst (v := (-1)) hx hb dX7_breaks_15 (by decide) ?_
      exact W.iret (v := (-1)) hx hb hr (fun t ht hW => ⟨⟨(-1), v_1, rfl, ⟨hv, hfr⟩, by rw [ht]; exact hP, hD⟩, hS.F ht⟩) hS.2.2 dX7_breaks_16
  · refine lv_if_eq (tgt := 15) hx hb dX7_breaks_5 (by decide) (fun _ => ?_) (fun c9 => absurd c9 (by decide))
    refine lv_iconst (v := (-1)) hx hb dX7_breaks_15 (by decide) ?_
    exact W.iret (v := (-1)) hx hb hr (fun t ht hW => ⟨⟨(-1), v_1, rfl, ⟨hv, hfr⟩, by rw [ht]; exact hP, hD⟩, hS.F ht⟩) hS.2.2 dX7_breaks_16

def Ft (v u : Nat → Nat → Int32) : Prop := True
theorem Ft.rf {v : Nat → Nat → Int32} : Ft v v := trivial
theorem t_n {x : Int32} {m : Nat} (h : 0 ≤ x.toInt ∧ x.toInt ≤ m) : ¬ x < 0 ∧ x.toNatClampNeg ≤ m := by
  have k0 : (0 : Int32).toInt = 0 := by decide
  refine ⟨fun q => ?_, ?_⟩
  · have := Int32.lt_iff_toInt_lt.mp q
    omega
  · show x.toInt.toNat ≤ m
    omega
theorem Iv.row {v : Nat → Nat → Int32} (hv : Iv v) {k K : Nat} {r : Nat → Int32} (hk : kd k = K) (hb : ∀ j, bd K j = none) : Iv (upr v k r) := by
  intro a b h q
  by_cases ha : a = k
  · subst ha
    rw [hk, hb] at q
    cases q
  · rw [upr_n ha]
    exact hv a b h q
set_option maxRecDepth 20000 in
theorem db_X1_hasPair_0 : (decode cX1_hasPair 0 = .ok (.getstatic 32, 3)) ∧ (decode cX1_hasPair 3 = .ok (.iload_n 1, 1)) ∧ (decode cX1_hasPair 4 = .ok (.iaload, 1)) ∧ (decode cX1_hasPair 5 = .ok (.aload_n 0, 1)) ∧ (decode cX1_hasPair 6 = .ok (.getfield 36, 3)) ∧ (decode cX1_hasPair 9 = .ok (.if_icmp .ge 7, 3)) ∧ (decode cX1_hasPair 16 = .ok (.iconst 0, 1)) ∧ (decode cX1_hasPair 17 = .ok (.ireturn, 1)) := by decide +kernel
theorem dX1_hasPair_0 : decode cX1_hasPair 0 = .ok (.getstatic 32, 3) := db_X1_hasPair_0.1
theorem dX1_hasPair_3 : decode cX1_hasPair 3 = .ok (.iload_n 1, 1) := db_X1_hasPair_0.2.1
theorem dX1_hasPair_4 : decode cX1_hasPair 4 = .ok (.iaload, 1) := db_X1_hasPair_0.2.2.1
theorem dX1_hasPair_5 : decode cX1_hasPair 5 = .ok (.aload_n 0, 1) := db_X1_hasPair_0.2.2.2.1
theorem dX1_hasPair_6 : decode cX1_hasPair 6 = .ok (.getfield 36, 3) := db_X1_hasPair_0.2.2.2.2.1
theorem dX1_hasPair_9 : decode cX1_hasPair 9 = .ok (.if_icmp .ge 7, 3) := db_X1_hasPair_0.2.2.2.2.2.1
theorem dX1_hasPair_16 : decode cX1_hasPair 16 = .ok (.iconst 0, 1) := db_X1_hasPair_0.2.2.2.2.2.2.1
theorem dX1_hasPair_17 : decode cX1_hasPair 17 = .ok (.ireturn, 1) := db_X1_hasPair_0.2.2.2.2.2.2.2
set_option maxRecDepth 20000 in
theorem db_X1_hasPair_12 : (decode cX1_hasPair 12 = .ok (.iconst 1, 1)) ∧ (decode cX1_hasPair 13 = .ok (.goto 4, 3)) := by decide +kernel
theorem dX1_hasPair_12 : decode cX1_hasPair 12 = .ok (.iconst 1, 1) := db_X1_hasPair_12.1
theorem dX1_hasPair_13 : decode cX1_hasPair 13 = .ok (.goto 4, 3) := db_X1_hasPair_12.2
set_option maxRecDepth 20000 in
theorem db_X1_isNear_0 : (decode cX1_isNear 0 = .ok (.aload_n 1, 1)) ∧ (decode cX1_isNear 1 = .ok (.getfield 59, 3)) ∧ (decode cX1_isNear 4 = .ok (.iload_n 2, 1)) ∧ (decode cX1_isNear 5 = .ok (.invokestatic 51, 3)) ∧ (decode cX1_isNear 8 = .ok (.ifCond .ne 19, 3)) ∧ (decode cX1_isNear 11 = .ok (.aload_n 1, 1)) ∧ (decode cX1_isNear 12 = .ok (.getfield 62, 3)) ∧ (decode cX1_isNear 15 = .ok (.aload_n 0, 1)) := by decide +kernel
theorem dX1_isNear_0 : decode cX1_isNear 0 = .ok (.aload_n 1, 1) := db_X1_isNear_0.1
theorem dX1_isNear_1 : decode cX1_isNear 1 = .ok (.getfield 59, 3) := db_X1_isNear_0.2.1
theorem dX1_isNear_4 : decode cX1_isNear 4 = .ok (.iload_n 2, 1) := db_X1_isNear_0.2.2.1
set_option maxRecDepth 20000 in
theorem ggX1_isNear_X7_hasBit : GoodIn wsX1_isNear wsX7_hasBit := goodIn_r _ [7] rfl (by decide +kernel)
set_option maxRecDepth 20000 in
theorem gX1_isNear_X7_hasBit_n51 : GoodIn wsX1_isNear (wsX7_hasBit) := ggX1_isNear_X7_hasBit
theorem dX1_isNear_5 : decode cX1_isNear 5 = .ok (.invokestatic 51, 3) := db_X1_isNear_0.2.2.2.1
theorem dX1_isNear_8 : decode cX1_isNear 8 = .ok (.ifCond .ne 19, 3) := db_X1_isNear_0.2.2.2.2.1
theorem dX1_isNear_11 : decode cX1_isNear 11 = .ok (.aload_n 1, 1) := db_X1_isNear_0.2.2.2.2.2.1
theorem dX1_isNear_12 : decode cX1_isNear 12 = .ok (.getfield 62, 3) := db_X1_isNear_0.2.2.2.2.2.2.1
theorem dX1_isNear_15 : decode cX1_isNear 15 = .ok (.aload_n 0, 1) := db_X1_isNear_0.2.2.2.2.2.2.2
set_option maxRecDepth 20000 in
theorem db_X1_isNear_16 : (decode cX1_isNear 16 = .ok (.getfield 11, 3)) ∧ (decode cX1_isNear 19 = .ok (.iload_n 2, 1)) ∧ (decode cX1_isNear 20 = .ok (.aaload, 1)) ∧ (decode cX1_isNear 21 = .ok (.getfield 65, 3)) ∧ (decode cX1_isNear 24 = .ok (.if_icmp .ne 7, 3)) ∧ (decode cX1_isNear 31 = .ok (.iconst 0, 1)) ∧ (decode cX1_isNear 32 = .ok (.ireturn, 1)) ∧ (decode cX1_isNear 27 = .ok (.iconst 1, 1)) := by decide +kernel
theorem dX1_isNear_16 : decode cX1_isNear 16 = .ok (.getfield 11, 3) := db_X1_isNear_16.1
theorem dX1_isNear_19 : decode cX1_isNear 19 = .ok (.iload_n 2, 1) := db_X1_isNear_16.2.1
theorem dX1_isNear_20 : decode cX1_isNear 20 = .ok (.aaload, 1) := db_X1_isNear_16.2.2.1
theorem dX1_isNear_21 : decode cX1_isNear 21 = .ok (.getfield 65, 3) := db_X1_isNear_16.2.2.2.1
theorem dX1_isNear_24 : decode cX1_isNear 24 = .ok (.if_icmp .ne 7, 3) := db_X1_isNear_16.2.2.2.2.1
theorem dX1_isNear_31 : decode cX1_isNear 31 = .ok (.iconst 0, 1) := db_X1_isNear_16.2.2.2.2.2.1
theorem dX1_isNear_32 : decode cX1_isNear 32 = .ok (.ireturn, 1) := db_X1_isNear_16.2.2.2.2.2.2.1
theorem dX1_isNear_27 : decode cX1_isNear 27 = .ok (.iconst 1, 1) := db_X1_isNear_16.2.2.2.2.2.2.2
theorem dX1_isNear_28 : decode cX1_isNear 28 = .ok (.goto 4, 3) := by decide +kernel
set_option maxRecDepth 20000 in
theorem db_X1_pairFits_0 : (decode cX1_pairFits 0 = .ok (.aload_n 0, 1)) ∧ (decode cX1_pairFits 1 = .ok (.getfield 19, 3)) ∧ (decode cX1_pairFits 4 = .ok (.getstatic 40, 3)) ∧ (decode cX1_pairFits 7 = .ok (.iload_n 1, 1)) ∧ (decode cX1_pairFits 8 = .ok (.iaload, 1)) ∧ (decode cX1_pairFits 9 = .ok (.aaload, 1)) ∧ (decode cX1_pairFits 10 = .ok (.astore_n 3, 1)) ∧ (decode cX1_pairFits 11 = .ok (.aload_n 0, 1)) := by decide +kernel
theorem dX1_pairFits_0 : decode cX1_pairFits 0 = .ok (.aload_n 0, 1) := db_X1_pairFits_0.1
theorem dX1_pairFits_1 : decode cX1_pairFits 1 = .ok (.getfield 19, 3) := db_X1_pairFits_0.2.1
theorem dX1_pairFits_4 : decode cX1_pairFits 4 = .ok (.getstatic 40, 3) := db_X1_pairFits_0.2.2.1
theorem dX1_pairFits_7 : decode cX1_pairFits 7 = .ok (.iload_n 1, 1) := db_X1_pairFits_0.2.2.2.1
theorem dX1_pairFits_8 : decode cX1_pairFits 8 = .ok (.iaload, 1) := db_X1_pairFits_0.2.2.2.2.1
theorem dX1_pairFits_9 : decode cX1_pairFits 9 = .ok (.aaload, 1) := db_X1_pairFits_0.2.2.2.2.2.1
theorem dX1_pairFits_10 : decode cX1_pairFits 10 = .ok (.astore_n 3, 1) := db_X1_pairFits_0.2.2.2.2.2.2.1
theorem dX1_pairFits_11 : decode cX1_pairFits 11 = .ok (.aload_n 0, 1) := db_X1_pairFits_0.2.2.2.2.2.2.2
set_option maxRecDepth 20000 in
theorem db_X1_pairFits_12 : (decode cX1_pairFits 12 = .ok (.getfield 19, 3)) ∧ (decode cX1_pairFits 15 = .ok (.getstatic 32, 3)) ∧ (decode cX1_pairFits 18 = .ok (.iload_n 1, 1)) ∧ (decode cX1_pairFits 19 = .ok (.iaload, 1)) ∧ (decode cX1_pairFits 20 = .ok (.aaload, 1)) ∧ (decode cX1_pairFits 21 = .ok (.astore 4, 2)) ∧ (decode cX1_pairFits 23 = .ok (.aload_n 3, 1)) ∧ (decode cX1_pairFits 24 = .ok (.getfield 43, 3)) := by decide +kernel
theorem dX1_pairFits_12 : decode cX1_pairFits 12 = .ok (.getfield 19, 3) := db_X1_pairFits_12.1
theorem dX1_pairFits_15 : decode cX1_pairFits 15 = .ok (.getstatic 32, 3) := db_X1_pairFits_12.2.1
theorem dX1_pairFits_18 : decode cX1_pairFits 18 = .ok (.iload_n 1, 1) := db_X1_pairFits_12.2.2.1
theorem dX1_pairFits_19 : decode cX1_pairFits 19 = .ok (.iaload, 1) := db_X1_pairFits_12.2.2.2.1
theorem dX1_pairFits_20 : decode cX1_pairFits 20 = .ok (.aaload, 1) := db_X1_pairFits_12.2.2.2.2.1
theorem dX1_pairFits_21 : decode cX1_pairFits 21 = .ok (.astore 4, 2) := db_X1_pairFits_12.2.2.2.2.2.1
theorem dX1_pairFits_23 : decode cX1_pairFits 23 = .ok (.aload_n 3, 1) := db_X1_pairFits_12.2.2.2.2.2.2.1
theorem dX1_pairFits_24 : decode cX1_pairFits 24 = .ok (.getfield 43, 3) := db_X1_pairFits_12.2.2.2.2.2.2.2
set_option maxRecDepth 20000 in
theorem db_X1_pairFits_27 : (decode cX1_pairFits 27 = .ok (.aload 4, 2)) ∧ (decode cX1_pairFits 29 = .ok (.getfield 43, 3)) ∧ (decode cX1_pairFits 32 = .ok (.ior, 1)) ∧ (decode cX1_pairFits 33 = .ok (.istore 5, 2)) ∧ (decode cX1_pairFits 35 = .ok (.iconst 0, 1)) ∧ (decode cX1_pairFits 36 = .ok (.istore 6, 2)) ∧ (decode cX1_pairFits 38 = .ok (.iload 6, 2)) ∧ (decode cX1_pairFits 40 = .ok (.iconst 2, 1)) := by decide +kernel
theorem dX1_pairFits_27 : decode cX1_pairFits 27 = .ok (.aload 4, 2) := db_X1_pairFits_27.1
theorem dX1_pairFits_29 : decode cX1_pairFits 29 = .ok (.getfield 43, 3) := db_X1_pairFits_27.2.1
theorem dX1_pairFits_32 : decode cX1_pairFits 32 = .ok (.ior, 1) := db_X1_pairFits_27.2.2.1
theorem dX1_pairFits_33 : decode cX1_pairFits 33 = .ok (.istore 5, 2) := db_X1_pairFits_27.2.2.2.1
theorem dX1_pairFits_35 : decode cX1_pairFits 35 = .ok (.iconst 0, 1) := db_X1_pairFits_27.2.2.2.2.1
theorem dX1_pairFits_36 : decode cX1_pairFits 36 = .ok (.istore 6, 2) := db_X1_pairFits_27.2.2.2.2.2.1
theorem dX1_pairFits_38 : decode cX1_pairFits 38 = .ok (.iload 6, 2) := db_X1_pairFits_27.2.2.2.2.2.2.1
theorem dX1_pairFits_40 : decode cX1_pairFits 40 = .ok (.iconst 2, 1) := db_X1_pairFits_27.2.2.2.2.2.2.2
set_option maxRecDepth 20000 in
theorem db_X1_pairFits_41 : (decode cX1_pairFits 41 = .ok (.if_icmp .ge 59, 3)) ∧ (decode cX1_pairFits 100 = .ok (.iconst 1, 1)) ∧ (decode cX1_pairFits 101 = .ok (.ireturn, 1)) ∧ (decode cX1_pairFits 44 = .ok (.aload_n 2, 1)) ∧ (decode cX1_pairFits 45 = .ok (.getfield 46, 3)) ∧ (decode cX1_pairFits 48 = .ok (.iload 6, 2)) ∧ (decode cX1_pairFits 50 = .ok (.iaload, 1)) ∧ (decode cX1_pairFits 51 = .ok (.istore 7, 2)) := by decide +kernel
theorem dX1_pairFits_41 : decode cX1_pairFits 41 = .ok (.if_icmp .ge 59, 3) := db_X1_pairFits_41.1
theorem dX1_pairFits_100 : decode cX1_pairFits 100 = .ok (.iconst 1, 1) := db_X1_pairFits_41.2.1
theorem dX1_pairFits_101 : decode cX1_pairFits 101 = .ok (.ireturn, 1) := db_X1_pairFits_41.2.2.1
theorem dX1_pairFits_44 : decode cX1_pairFits 44 = .ok (.aload_n 2, 1) := db_X1_pairFits_41.2.2.2.1
theorem dX1_pairFits_45 : decode cX1_pairFits 45 = .ok (.getfield 46, 3) := db_X1_pairFits_41.2.2.2.2.1
theorem dX1_pairFits_48 : decode cX1_pairFits 48 = .ok (.iload 6, 2) := db_X1_pairFits_41.2.2.2.2.2.1
theorem dX1_pairFits_50 : decode cX1_pairFits 50 = .ok (.iaload, 1) := db_X1_pairFits_41.2.2.2.2.2.2.1
theorem dX1_pairFits_51 : decode cX1_pairFits 51 = .ok (.istore 7, 2) := db_X1_pairFits_41.2.2.2.2.2.2.2
set_option maxRecDepth 20000 in
theorem db_X1_pairFits_53 : (decode cX1_pairFits 53 = .ok (.iload 5, 2)) ∧ (decode cX1_pairFits 55 = .ok (.aload_n 0, 1)) ∧ (decode cX1_pairFits 56 = .ok (.getfield 11, 3)) ∧ (decode cX1_pairFits 59 = .ok (.iload 7, 2)) ∧ (decode cX1_pairFits 61 = .ok (.aaload, 1)) ∧ (decode cX1_pairFits 62 = .ok (.getfield 48, 3)) ∧ (decode cX1_pairFits 65 = .ok (.invokestatic 51, 3)) ∧ (decode cX1_pairFits 68 = .ok (.ifCond .eq 24, 3)) := by decide +kernel
theorem dX1_pairFits_53 : decode cX1_pairFits 53 = .ok (.iload 5, 2) := db_X1_pairFits_53.1
theorem dX1_pairFits_55 : decode cX1_pairFits 55 = .ok (.aload_n 0, 1) := db_X1_pairFits_53.2.1
theorem dX1_pairFits_56 : decode cX1_pairFits 56 = .ok (.getfield 11, 3) := db_X1_pairFits_53.2.2.1
theorem dX1_pairFits_59 : decode cX1_pairFits 59 = .ok (.iload 7, 2) := db_X1_pairFits_53.2.2.2.1
theorem dX1_pairFits_61 : decode cX1_pairFits 61 = .ok (.aaload, 1) := db_X1_pairFits_53.2.2.2.2.1
theorem dX1_pairFits_62 : decode cX1_pairFits 62 = .ok (.getfield 48, 3) := db_X1_pairFits_53.2.2.2.2.2.1
set_option maxRecDepth 20000 in
theorem ggX1_pairFits_X7_hasBit : GoodIn wsX1_pairFits wsX7_hasBit := goodIn_r _ [8] rfl (by decide +kernel)
set_option maxRecDepth 20000 in
theorem gX1_pairFits_X7_hasBit_n51 : GoodIn wsX1_pairFits (wsX7_hasBit) := ggX1_pairFits_X7_hasBit
theorem dX1_pairFits_65 : decode cX1_pairFits 65 = .ok (.invokestatic 51, 3) := db_X1_pairFits_53.2.2.2.2.2.2.1
theorem dX1_pairFits_68 : decode cX1_pairFits 68 = .ok (.ifCond .eq 24, 3) := db_X1_pairFits_53.2.2.2.2.2.2.2
set_option maxRecDepth 20000 in
theorem db_X1_pairFits_92 : (decode cX1_pairFits 92 = .ok (.iconst 0, 1)) ∧ (decode cX1_pairFits 93 = .ok (.ireturn, 1)) ∧ (decode cX1_pairFits 71 = .ok (.aload_n 0, 1)) ∧ (decode cX1_pairFits 72 = .ok (.aload_n 3, 1)) ∧ (decode cX1_pairFits 73 = .ok (.iload 7, 2)) ∧ (decode cX1_pairFits 75 = .ok (.invokevirtual 55, 3)) ∧ (decode cX1_pairFits 78 = .ok (.ifCond .ne 14, 3)) ∧ (decode cX1_pairFits 81 = .ok (.aload_n 0, 1)) := by decide +kernel
theorem dX1_pairFits_92 : decode cX1_pairFits 92 = .ok (.iconst 0, 1) := db_X1_pairFits_92.1
theorem dX1_pairFits_93 : decode cX1_pairFits 93 = .ok (.ireturn, 1) := db_X1_pairFits_92.2.1
theorem dX1_pairFits_71 : decode cX1_pairFits 71 = .ok (.aload_n 0, 1) := db_X1_pairFits_92.2.2.1
theorem dX1_pairFits_72 : decode cX1_pairFits 72 = .ok (.aload_n 3, 1) := db_X1_pairFits_92.2.2.2.1
theorem dX1_pairFits_73 : decode cX1_pairFits 73 = .ok (.iload 7, 2) := db_X1_pairFits_92.2.2.2.2.1
set_option maxRecDepth 20000 in
theorem ggX1_pairFits_X1_isNear : GoodIn wsX1_pairFits wsX1_isNear := goodIn_r _ [13, 14, 15, 4, 16, 6, 7, 8, 24, 25, 26, 17, 18, 19, 20, 21, 22, 23, 38, 39] rfl (by decide +kernel)
set_option maxRecDepth 20000 in
theorem gX1_pairFits_X1_isNear : GoodIn wsX1_pairFits (wsV RX1 55 RX1 yX1_isNear wsX1_isNear) := goodIn_app (goodIn_r _ [9, 10, 11, 12] rfl (by decide +kernel)) ggX1_pairFits_X1_isNear
theorem dX1_pairFits_75 : decode cX1_pairFits 75 = .ok (.invokevirtual 55, 3) := db_X1_pairFits_92.2.2.2.2.2.1
theorem dX1_pairFits_78 : decode cX1_pairFits 78 = .ok (.ifCond .ne 14, 3) := db_X1_pairFits_92.2.2.2.2.2.2.1
theorem dX1_pairFits_81 : decode cX1_pairFits 81 = .ok (.aload_n 0, 1) := db_X1_pairFits_92.2.2.2.2.2.2.2
set_option maxRecDepth 20000 in
theorem db_X1_pairFits_82 : (decode cX1_pairFits 82 = .ok (.aload 4, 2)) ∧ (decode cX1_pairFits 84 = .ok (.iload 7, 2)) ∧ (decode cX1_pairFits 86 = .ok (.invokevirtual 55, 3)) ∧ (decode cX1_pairFits 89 = .ok (.ifCond .eq 5, 3)) ∧ (decode cX1_pairFits 94 = .ok (.iinc 6 1, 3)) ∧ (decode cX1_pairFits 97 = .ok (.goto (-59), 3)) := by decide +kernel
theorem dX1_pairFits_82 : decode cX1_pairFits 82 = .ok (.aload 4, 2) := db_X1_pairFits_82.1
theorem dX1_pairFits_84 : decode cX1_pairFits 84 = .ok (.iload 7, 2) := db_X1_pairFits_82.2.1
theorem dX1_pairFits_86 : decode cX1_pairFits 86 = .ok (.invokevirtual 55, 3) := db_X1_pairFits_82.2.2.1
theorem dX1_pairFits_89 : decode cX1_pairFits 89 = .ok (.ifCond .eq 5, 3) := db_X1_pairFits_82.2.2.2.1
theorem dX1_pairFits_94 : decode cX1_pairFits 94 = .ok (.iinc 6 1, 3) := db_X1_pairFits_82.2.2.2.2.1
theorem dX1_pairFits_97 : decode cX1_pairFits 97 = .ok (.goto (-59), 3) := db_X1_pairFits_82.2.2.2.2.2
set_option maxRecDepth 20000 in
theorem db_X7_maySit_0 : (decode cX7_maySit 0 = .ok (.iload_n 1, 1)) ∧ (decode cX7_maySit 1 = .ok (.iconst 0, 1)) ∧ (decode cX7_maySit 2 = .ok (.iconst 5, 1)) ∧ (decode cX7_maySit 3 = .ok (.invokestatic 37, 3)) ∧ (decode cX7_maySit 6 = .ok (.ifCond .eq 22, 3)) ∧ (decode cX7_maySit 9 = .ok (.aload_n 0, 1)) ∧ (decode cX7_maySit 10 = .ok (.getfield 12, 3)) ∧ (decode cX7_maySit 13 = .ok (.iload_n 1, 1)) := by decide +kernel
theorem dX7_maySit_0 : decode cX7_maySit 0 = .ok (.iload_n 1, 1) := db_X7_maySit_0.1
theorem dX7_maySit_1 : decode cX7_maySit 1 = .ok (.iconst 0, 1) := db_X7_maySit_0.2.1
theorem dX7_maySit_2 : decode cX7_maySit 2 = .ok (.iconst 5, 1) := db_X7_maySit_0.2.2.1
set_option maxRecDepth 20000 in
theorem ggX7_maySit_X7_isWithin : GoodIn wsX7_maySit wsX7_isWithin := goodIn_r _ [6] rfl (by decide +kernel)
set_option maxRecDepth 20000 in
theorem gX7_maySit_X7_isWithin : GoodIn wsX7_maySit (va_wsS RX7 37 yX7_isWithin wsX7_isWithin) := goodIn_app (goodIn_r _ [3, 4, 5] rfl (by decide +kernel)) ggX7_maySit_X7_isWithin
theorem dX7_maySit_3 : decode cX7_maySit 3 = .ok (.invokestatic 37, 3) := db_X7_maySit_0.2.2.2.1
theorem dX7_maySit_6 : decode cX7_maySit 6 = .ok (.ifCond .eq 22, 3) := db_X7_maySit_0.2.2.2.2.1
theorem dX7_maySit_9 : decode cX7_maySit 9 = .ok (.aload_n 0, 1) := db_X7_maySit_0.2.2.2.2.2.1
theorem dX7_maySit_10 : decode cX7_maySit 10 = .ok (.getfield 12, 3) := db_X7_maySit_0.2.2.2.2.2.2.1
theorem dX7_maySit_13 : decode cX7_maySit 13 = .ok (.iload_n 1, 1) := db_X7_maySit_0.2.2.2.2.2.2.2
set_option maxRecDepth 20000 in
theorem ggX7_maySit_X1_hasPair : GoodIn wsX7_maySit wsX1_hasPair := goodIn_r _ [11, 12, 41, 42, 43, 44, 45, 46, 47] rfl (by decide +kernel)
set_option maxRecDepth 20000 in
theorem gX7_maySit_X1_hasPair : GoodIn wsX7_maySit (wsV RX7 149 RX1 yX1_hasPair wsX1_hasPair) := goodIn_app (goodIn_r _ [7, 8, 9, 10] rfl (by decide +kernel)) ggX7_maySit_X1_hasPair
set_option maxRecDepth 20000 in
theorem db_X7_maySit_14 : (decode cX7_maySit 14 = .ok (.invokevirtual 149, 3)) ∧ (decode cX7_maySit 17 = .ok (.ifCond .eq 11, 3)) ∧ (decode cX7_maySit 28 = .ok (.iconst (-1), 1)) ∧ (decode cX7_maySit 29 = .ok (.ireturn, 1)) ∧ (decode cX7_maySit 20 = .ok (.aload_n 0, 1)) ∧ (decode cX7_maySit 21 = .ok (.iload_n 2, 1)) ∧ (decode cX7_maySit 22 = .ok (.invokevirtual 96, 3)) ∧ (decode cX7_maySit 25 = .ok (.ifCond .ne 5, 3)) := by decide +kernel
theorem dX7_maySit_14 : decode cX7_maySit 14 = .ok (.invokevirtual 149, 3) := db_X7_maySit_14.1
theorem dX7_maySit_17 : decode cX7_maySit 17 = .ok (.ifCond .eq 11, 3) := db_X7_maySit_14.2.1
theorem dX7_maySit_28 : decode cX7_maySit 28 = .ok (.iconst (-1), 1) := db_X7_maySit_14.2.2.1
theorem dX7_maySit_29 : decode cX7_maySit 29 = .ok (.ireturn, 1) := db_X7_maySit_14.2.2.2.1
theorem dX7_maySit_20 : decode cX7_maySit 20 = .ok (.aload_n 0, 1) := db_X7_maySit_14.2.2.2.2.1
theorem dX7_maySit_21 : decode cX7_maySit 21 = .ok (.iload_n 2, 1) := db_X7_maySit_14.2.2.2.2.2.1
set_option maxRecDepth 20000 in
theorem ggX7_maySit_X7_isCase : GoodIn wsX7_maySit wsX7_isCase := goodIn_r _ [16, 1, 17, 3, 4, 5, 6, 36, 37, 38, 39, 40, 41, 42, 43, 44, 45, 46, 47] rfl (by decide +kernel)
set_option maxRecDepth 20000 in
theorem gX7_maySit_X7_isCase : GoodIn wsX7_maySit (wsV RX7 96 RX7 yX7_isCase wsX7_isCase) := goodIn_app (goodIn_r _ [13, 14, 15, 5] rfl (by decide +kernel)) ggX7_maySit_X7_isCase
theorem dX7_maySit_22 : decode cX7_maySit 22 = .ok (.invokevirtual 96, 3) := db_X7_maySit_14.2.2.2.2.2.2.1
theorem dX7_maySit_25 : decode cX7_maySit 25 = .ok (.ifCond .ne 5, 3) := db_X7_maySit_14.2.2.2.2.2.2.2
set_option maxRecDepth 20000 in
theorem db_X7_maySit_30 : (decode cX7_maySit 30 = .ok (.aload_n 0, 1)) ∧ (decode cX7_maySit 31 = .ok (.getfield 12, 3)) ∧ (decode cX7_maySit 34 = .ok (.iload_n 1, 1)) ∧ (decode cX7_maySit 35 = .ok (.aload_n 0, 1)) ∧ (decode cX7_maySit 36 = .ok (.getfield 12, 3)) ∧ (decode cX7_maySit 39 = .ok (.getfield 86, 3)) ∧ (decode cX7_maySit 42 = .ok (.iload_n 2, 1)) ∧ (decode cX7_maySit 43 = .ok (.aaload, 1)) := by decide +kernel
theorem dX7_maySit_30 : decode cX7_maySit 30 = .ok (.aload_n 0, 1) := db_X7_maySit_30.1
theorem dX7_maySit_31 : decode cX7_maySit 31 = .ok (.getfield 12, 3) := db_X7_maySit_30.2.1
theorem dX7_maySit_34 : decode cX7_maySit 34 = .ok (.iload_n 1, 1) := db_X7_maySit_30.2.2.1
theorem dX7_maySit_35 : decode cX7_maySit 35 = .ok (.aload_n 0, 1) := db_X7_maySit_30.2.2.2.1
theorem dX7_maySit_36 : decode cX7_maySit 36 = .ok (.getfield 12, 3) := db_X7_maySit_30.2.2.2.2.1
theorem dX7_maySit_39 : decode cX7_maySit 39 = .ok (.getfield 86, 3) := db_X7_maySit_30.2.2.2.2.2.1
theorem dX7_maySit_42 : decode cX7_maySit 42 = .ok (.iload_n 2, 1) := db_X7_maySit_30.2.2.2.2.2.2.1
theorem dX7_maySit_43 : decode cX7_maySit 43 = .ok (.aaload, 1) := db_X7_maySit_30.2.2.2.2.2.2.2
set_option maxRecDepth 20000 in
theorem ggX7_maySit_X1_pairFits : GoodIn wsX7_maySit wsX1_pairFits := goodIn_r _ [21, 22, 23, 24, 25, 26, 27, 5, 28, 29, 30, 31, 10, 32, 33, 34, 35, 41, 42, 43, 44, 45, 46, 47, 48, 49, 50, 51, 52, 53, 54, 55, 56, 57, 58, 59, 60, 61, 62, 63] rfl (by decide +kernel)
set_option maxRecDepth 20000 in
theorem gX7_maySit_X1_pairFits : GoodIn wsX7_maySit (wsV RX7 152 RX1 yX1_pairFits wsX1_pairFits) := goodIn_app (goodIn_r _ [18, 19, 20, 10] rfl (by decide +kernel)) ggX7_maySit_X1_pairFits
set_option maxRecDepth 20000 in
theorem db_X7_maySit_44 : (decode cX7_maySit 44 = .ok (.invokevirtual 152, 3)) ∧ (decode cX7_maySit 47 = .ok (.ifCond .eq 7, 3)) ∧ (decode cX7_maySit 54 = .ok (.iconst 0, 1)) ∧ (decode cX7_maySit 55 = .ok (.ireturn, 1)) ∧ (decode cX7_maySit 50 = .ok (.iconst 1, 1)) ∧ (decode cX7_maySit 51 = .ok (.goto 4, 3)) := by decide +kernel
theorem dX7_maySit_44 : decode cX7_maySit 44 = .ok (.invokevirtual 152, 3) := db_X7_maySit_44.1
theorem dX7_maySit_47 : decode cX7_maySit 47 = .ok (.ifCond .eq 7, 3) := db_X7_maySit_44.2.1
theorem dX7_maySit_54 : decode cX7_maySit 54 = .ok (.iconst 0, 1) := db_X7_maySit_44.2.2.1
theorem dX7_maySit_55 : decode cX7_maySit 55 = .ok (.ireturn, 1) := db_X7_maySit_44.2.2.2.1
theorem dX7_maySit_50 : decode cX7_maySit 50 = .ok (.iconst 1, 1) := db_X7_maySit_44.2.2.2.2.1
theorem dX7_maySit_51 : decode cX7_maySit 51 = .ok (.goto 4, 3) := db_X7_maySit_44.2.2.2.2.2
set_option maxHeartbeats 4000000 in
set_option maxRecDepth 100000 in
theorem g_X1_hasPair (l : Launch) (dC : Nat → ClassId) (dI : Nat → Nat → Nat) (cy : Nat → ClassId) (sz : Nat) (ad : Nat → Nat) (kv : Value) (N : Nat) (hN : 119 ≤ N) (v : Nat → Nat → Int32) (hv : Iv v) (x0 : Int32) (hs : 0 ≤ x0.toInt ∧ x0.toInt ≤ 5) (t1 t2 : Nat) : Met l yX1_hasPair wsX1_hasPair ({ frames := 0, cells := 0, slots := 0, locals := 0 }) (va_Pc [.ref (ad 13), .int x0] (ex_PreT dC dI cy sz (wl ad kv cy N v) t1 t2)) (va_Qi (fun (r : Int32) (u : Nat → Nat → Int32) => Iv u ∧ Fe v u ∧ (r = 0 ∨ r = 1)) (fun u t => ex_Pst dC dI (va_A (wl ad kv cy N v) sz) (wl ad kv cy N u) t) (va_A (wl ad kv cy N v) sz)) 0 0 (va_A (wl ad kv cy N v) sz) := by
  refine Met.ofW (cc := cX1_hasPair) (maxL := 2) (ret := (some .boolean)) (by decide) rfl ?_
  intro p e s m args below meth c s₁ B hml hv
  obtain ⟨rfl, ⟨hsz, hE, hP, hK, hD0⟩, hSt⟩ := hv
  have hx := B.exec
  have hb := B.bytes
  have hr := B.returns
  have hts := atoms_spec (ws := wsX1_hasPair) B.pre
  have hown : s.vm.findClass RX1 = some m.cls := findClass_of_methodNamed B.named
  have hlocks := B.notSynchronized
  subst hsz
  have hD := hD0.self (sz := s.heap.size)
  generalize hAe : va_A (wl ad kv cy N v) s.heap.size = A at hD hSt ⊢
  have hA : ∀ q : Nat, s.heap.size ≤ q → A q := fun q h => by rw [← hAe]; exact Or.inr h
  have hS : va_S A s.heap s.heap [] := va_S.rf
  have hP : va_P (dC, dI) vwCl (wl ad kv cy N v) s.heap := hP
  have hl := lv_entry ([.ref (ad 13), .int x0]) (n := 2) (Nat.le_of_ble_eq_true rfl)
  rw [lg_entry_eq]
  generalize (lg_sl ([.ref (ad 13), .int x0]) ++ List.replicate (2 - (lg_sl ([.ref (ad 13), .int x0])).length) Slot.unset).toArray = ls at hl ⊢
  have hl : lv_has ls 2 [(0, .ref (ad 13)), (1, .int x0)] := hl
  have hfr : Fe v v := Fe.rf
  refine va_getsN hx hb hSt.1.1 hS hown (va_Nw.use rfl hE.2.2.2.2.2.2.2.2.2.2.2.2.2.1) (fun _ h => h) dX1_hasPair_0 ?_
  refine lv_iload_n hx hb dX1_hasPair_3 rfl (lv_at hl 1 rfl) ?_
  obtain ⟨pi1, i1, hi1, ni1, mi1⟩ := t_in (x := x0) (n := 6) ⟨by omega, by omega⟩
  refine va_ti (v := .int (st_o x0.toNatClampNeg)) hx hb hSt.1.2 hS pi1 rfl dX1_hasPair_4 ?_
  refine lv_topi (fun x_2 ex_2 => ?_)
  have bx_2 : 0 ≤ x_2.toInt ∧ x_2.toInt ≤ 3 := by rw [ex_2]; exact (st_b _).1
  refine lv_aload_n hx hb dX1_hasPair_5 rfl (lv_at hl 0 rfl) ?_
  refine va_get (D := (dC, dI)) (ci := 1) (v := .int (v (13) 1)) (C := RX1) (T := TX1) (N := 7) hx hb hts iwX1_hasPair_X1 hown hK hP (13) (wl_at (by omega) (ce_3 (by decide))) rfl 1 (by decide) (hts (.fieldLink RX1 36 "QuietStairs$House" "mediatorCount" "I") fwX1_hasPair_1) (fun _ h9 => h9) rfl dX1_hasPair_6 ?_
  refine lv_topi (fun x_3 ex_3 => ?_)
  have bx_3 : 0 ≤ x_3.toInt ∧ x_3.toInt ≤ 4 := by rw [ex_3]; exact hv.at (K := 3) (by decide) rfl
  refine lv_icmp_ge (tgt := 16) hx hb dX1_hasPair_9 (by decide) (fun c_4 => ?_) (fun c_4 => ?_)
  · have tc_4 : x_2.toInt ≥ x_3.toInt := Int32.le_iff_toInt_le.mp c_4
    refine lv_iconst (v := 0) hx hb dX1_hasPair_16 (by decide) ?_
    exact W.zret (ty := .boolean) (v := 0) hx hb hr rfl (fun t ht hW => ⟨⟨0, v, rfl, ⟨hv, hfr, by decide⟩, by rw [ht]; exact hP, hD⟩, hS.F ht⟩) hS.2.2 dX1_hasPair_17
  · have tc_4 : x_2.toInt < x_3.toInt := Int32.lt_iff_toInt_lt.mp (Int32.not_le.mp c_4)
    refine lv_iconst (v := 1) hx hb dX1_hasPair_12 (by decide) ?_
    refine lv_goto (tgt := 17) hx hb dX1_hasPair_13 (by decide) ?_
    exact W.zret (ty := .boolean) (v := 1) hx hb hr rfl (fun t ht hW => ⟨⟨1, v, rfl, ⟨hv, hfr, by decide⟩, by rw [ht]; exact hP, hD⟩, hS.F ht⟩) hS.2.2 dX1_hasPair_17

set_option maxHeartbeats 4000000 in
set_option maxRecDepth 100000 in
theorem g_X1_isNear (l : Launch) (dC : Nat → ClassId) (dI : Nat → Nat → Nat) (cy : Nat → ClassId) (sz : Nat) (ad : Nat → Nat) (kv : Value) (N : Nat) (hN : 119 ≤ N) (v : Nat → Nat → Int32) (hv : Iv v) (i : Nat) (hi : i < 4) (x0 : Int32) (hs : 0 ≤ x0.toInt ∧ x0.toInt ≤ 7) : Met l yX1_isNear wsX1_isNear ({ frames := 1, cells := 0, slots := 0, locals := 64 }) (va_Pc [.ref (ad 13), .ref (ad (25 + i)), .int x0] (ex_Pre dC dI cy sz (wl ad kv cy N v))) (va_Qi (fun (r : Int32) (u : Nat → Nat → Int32) => Iv u ∧ Fe v u ∧ (r = 0 ∨ r = 1)) (fun u t => ex_Pst dC dI (va_A (wl ad kv cy N v) sz) (wl ad kv cy N u) t) (va_A (wl ad kv cy N v) sz)) 0 0 (va_A (wl ad kv cy N v) sz) := by
  refine Met.ofW (cc := cX1_isNear) (maxL := 3) (ret := (some .boolean)) (by decide) rfl ?_
  intro p e s m args below meth c s₁ B hml hv
  obtain ⟨rfl, hsz, hE, hP, hK, hD0⟩ := hv
  have hx := B.exec
  have hb := B.bytes
  have hr := B.returns
  have hts := atoms_spec (ws := wsX1_isNear) B.pre
  have hown : s.vm.findClass RX1 = some m.cls := findClass_of_methodNamed B.named
  have hlocks := B.notSynchronized
  subst hsz
  have hD := hD0.self (sz := s.heap.size)
  generalize hAe : va_A (wl ad kv cy N v) s.heap.size = A at hD ⊢
  have hA : ∀ q : Nat, s.heap.size ≤ q → A q := fun q h => by rw [← hAe]; exact Or.inr h
  have hS : va_S A s.heap s.heap [] := va_S.rf
  have hP : va_P (dC, dI) vwCl (wl ad kv cy N v) s.heap := hP
  have hl := lv_entry ([.ref (ad 13), .ref (ad (25 + i)), .int x0]) (n := 3) (Nat.le_of_ble_eq_true rfl)
  rw [lg_entry_eq]
  generalize (lg_sl ([.ref (ad 13), .ref (ad (25 + i)), .int x0]) ++ List.replicate (3 - (lg_sl ([.ref (ad 13), .ref (ad (25 + i)), .int x0])).length) Slot.unset).toArray = ls at hl ⊢
  have hl : lv_has ls 3 [(0, .ref (ad 13)), (1, .ref (ad (25 + i))), (2, .int x0)] := hl
  have hfr : Fe v v := Fe.rf
  refine lv_aload_n hx hb dX1_isNear_0 rfl (lv_at hl 1 rfl) ?_
  refine va_get (D := (dC, dI)) (ci := 2) (v := .int (v (25 + i) 2)) (C := RX2) (T := TX2) (N := 3) hx hb hts iwX1_isNear_X2 hown hK hP (25 + i) (wl_at (by omega) (ce_8 (kd_m i hi).1)) rfl 2 (by decide) (hts (.fieldLink RX1 59 "QuietStairs$Mediator" "kinBits" "I") fwX1_isNear_1) (fun _ h9 => h9) rfl dX1_isNear_1 ?_
  refine lv_topi (fun x_1 ex_1 => ?_)
  refine lv_iload_n hx hb dX1_isNear_4 rfl (lv_at hl 2 rfl) ?_
  refine yc_p hP hS (va_runSN (As := [.int x_1, .int x0]) (rest := []) ⟨hx, hb, hml, hown, hts⟩ (c_X7_hasBit l x_1 x0) ⟨va_cnB 2 hts gX1_isNear_X7_hasBit_n51 rfl rfl rfl hE.2.2.2.2.2.2.2.2.2.2.1 (hts (.initialized RX7) fwX1_isNear_6) (by decide +kernel) ⟨Nat.le_of_ble_eq_true rfl, Nat.le_of_ble_eq_true rfl⟩, (hts (.static yX7_hasBit) fwX1_isNear_5), trivial⟩ ex_preP rfl rfl hl.1 rfl (lv_room (Nat.le_of_ble_eq_true rfl)) dX1_isNear_5 ⟨Nat.le_of_ble_eq_true rfl, Nat.le_of_ble_eq_true rfl⟩) (fun r_2 H locs hw_2 hP hS => ?_)
  rcases hw_2 with rfl | rfl
  · refine lv_if_ne (tgt := 27) hx hb dX1_isNear_8 (by decide) (fun c9 => absurd c9 (by decide)) (fun _ => ?_)
    refine lv_aload_n hx hb dX1_isNear_11 rfl (lv_at hl 1 rfl) ?_
    refine va_get (D := (dC, dI)) (ci := 2) (v := .int (v (25 + i) 0)) (C := RX2) (T := TX2) (N := 3) hx hb hts iwX1_isNear_X2 hown hK hP (25 + i) (wl_at (by omega) (ce_8 (kd_m i hi).1)) rfl 0 (by decide) (hts (.fieldLink RX1 62 "QuietStairs$Mediator" "floor" "I") fwX1_isNear_2) (fun _ h9 => h9) rfl dX1_isNear_12 ?_
    refine lv_topi (fun x_3 ex_3 => ?_)
    refine lv_aload_n hx hb dX1_isNear_15 rfl (lv_at hl 0 rfl) ?_
    refine va_get (D := (dC, dI)) (ci := 1) (v := .ref (ad 14)) (C := RX1) (T := TX1) (N := 7) hx hb hts iwX1_isNear_X1 hown hK hP (13) (wl_at (by omega) (ce_3 (by decide))) rfl 4 (by decide) (hts (.fieldLink RX1 11 "QuietStairs$House" "parties" "[LQuietStairs$Party;") fwX1_isNear_3) (fun _ h9 => h9) rfl dX1_isNear_16 ?_
    refine lv_iload_n hx hb dX1_isNear_19 rfl (lv_at hl 2 rfl) ?_
    obtain ⟨pi4, i4, hi4, ni4, mi4⟩ := t_in (x := x0) (n := 8) ⟨by omega, by omega⟩
    refine va_aldq hx hb hK hP (14) 1 (wl_at (by omega) (ce_4 (by decide))) rfl pi4 dX1_isNear_20 ?_
    refine W.eq (g2 := F0 m 21 ls [.ref (ad (17 + i4)), .int x_3]) (by rw [ni4, if_pos hi4, show 14 + 3 + i4 = 17 + i4 from by omega]; rfl) ?_
    refine va_get (D := (dC, dI)) (ci := 3) (v := .int (v (17 + i4) 0)) (C := RX3) (T := TX3) (N := 2) hx hb hts iwX1_isNear_X3 hown hK hP (17 + i4) (wl_at (by omega) (ce_7 (kd_p i4 hi4).1)) rfl 0 (by decide) (hts (.fieldLink RX1 65 "QuietStairs$Party" "floor" "I") fwX1_isNear_4) (fun _ h9 => h9) rfl dX1_isNear_21 ?_
    refine lv_topi (fun x_5 ex_5 => ?_)
    refine lv_icmp_ne (tgt := 31) hx hb dX1_isNear_24 (by decide) (fun c_6 => ?_) (fun c_6 => ?_)
    · have tc_6 : x_3.toInt ≠ x_5.toInt := fun q => absurd (Int32.toInt_inj.mp q) c_6
      refine lv_iconst (v := 0) hx hb dX1_isNear_31 (by decide) ?_
      exact W.zret (ty := .boolean) (v := 0) hx hb hr rfl (fun t ht hW => ⟨⟨0, v, rfl, ⟨hv, hfr, by decide⟩, by rw [ht]; exact hP, hD⟩, hS.F ht⟩) hS.2.2 dX1_isNear_32
    · have tc_6 : x_3.toInt = x_5.toInt := by rw [c_6]
      refine lv_iconst (v := 1) hx hb dX1_isNear_27 (by decide) ?_
      refine lv_goto (tgt := 32) hx hb dX1_isNear_28 (by decide) ?_
      exact W.zret (ty := .boolean) (v := 1) hx hb hr rfl (fun t ht hW => ⟨⟨1, v, rfl, ⟨hv, hfr, by decide⟩, by rw [ht]; exact hP, hD⟩, hS.F ht⟩) hS.2.2 dX1_isNear_32
  · refine lv_if_ne (tgt := 27) hx hb dX1_isNear_8 (by decide) (fun _ => ?_) (fun c9 => absurd c9 (by decide))
    refine lv_iconst (v := 1) hx hb dX1_isNear_27 (by decide) ?_
    refine lv_goto (tgt := 32) hx hb dX1_isNear_28 (by decide) ?_
    exact W.zret (ty := .boolean) (v := 1) hx hb hr rfl (fun t ht hW => ⟨⟨1, v, rfl, ⟨hv, hfr, by decide⟩, by rw [ht]; exact hP, hD⟩, hS.F ht⟩) hS.2.2 dX1_isNear_32

set_option maxHeartbeats 4000000 in
set_option maxRecDepth 100000 in
theorem g_X1_pairFits (l : Launch) (dC : Nat → ClassId) (dI : Nat → Nat → Nat) (cy : Nat → ClassId) (sz : Nat) (ad : Nat → Nat) (kv : Value) (N : Nat) (hN : 119 ≤ N) (v : Nat → Nat → Int32) (hv : Iv v) (x0 : Int32) (hs : 0 ≤ x0.toInt ∧ x0.toInt ≤ 5) (i : Nat) (hi : i < 6) (t1 t2 : Nat) : Met l yX1_pairFits wsX1_pairFits ({ frames := 2, cells := 0, slots := 0, locals := 128 }) (va_Pc [.ref (ad 13), .int x0, .ref (ad (29 + 15 * i))] (ex_PreT dC dI cy sz (wl ad kv cy N v) t1 t2)) (va_Qi (fun (r : Int32) (u : Nat → Nat → Int32) => Iv u ∧ Fe v u ∧ (r = 0 ∨ r = 1)) (fun u t => ex_Pst dC dI (va_A (wl ad kv cy N v) sz) (wl ad kv cy N u) t) (va_A (wl ad kv cy N v) sz)) 0 0 (va_A (wl ad kv cy N v) sz) := by
  refine Met.ofW (cc := cX1_pairFits) (maxL := 8) (ret := (some .boolean)) (by decide) rfl ?_
  intro p e s m args below meth c s₁ B hml hv
  obtain ⟨rfl, ⟨hsz, hE, hP, hK, hD0⟩, hSt⟩ := hv
  have hx := B.exec
  have hb := B.bytes
  have hr := B.returns
  have hts := atoms_spec (ws := wsX1_pairFits) B.pre
  have hown : s.vm.findClass RX1 = some m.cls := findClass_of_methodNamed B.named
  have hlocks := B.notSynchronized
  subst hsz
  have hD := hD0.self (sz := s.heap.size)
  generalize hAe : va_A (wl ad kv cy N v) s.heap.size = A at hD hSt ⊢
  have hA : ∀ q : Nat, s.heap.size ≤ q → A q := fun q h => by rw [← hAe]; exact Or.inr h
  have hS : va_S A s.heap s.heap [] := va_S.rf
  have hP : va_P (dC, dI) vwCl (wl ad kv cy N v) s.heap := hP
  have hl := lv_entry ([.ref (ad 13), .int x0, .ref (ad (29 + 15 * i))]) (n := 8) (Nat.le_of_ble_eq_true rfl)
  rw [lg_entry_eq]
  generalize (lg_sl ([.ref (ad 13), .int x0, .ref (ad (29 + 15 * i))]) ++ List.replicate (8 - (lg_sl ([.ref (ad 13), .int x0, .ref (ad (29 + 15 * i))])).length) Slot.unset).toArray = ls at hl ⊢
  have hl : lv_has ls 8 [(0, .ref (ad 13)), (1, .int x0), (2, .ref (ad (29 + 15 * i)))] := hl
  have hfr : Fe v v := Fe.rf
  refine lv_aload_n hx hb dX1_pairFits_0 rfl (lv_at hl 0 rfl) ?_
  refine va_get (D := (dC, dI)) (ci := 1) (v := .ref (ad 15)) (C := RX1) (T := TX1) (N := 7) hx hb hts iwX1_pairFits_X1 hown hK hP (13) (wl_at (by omega) (ce_3 (by decide))) rfl 5 (by decide) (hts (.fieldLink RX1 19 "QuietStairs$House" "mediators" "[LQuietStairs$Mediator;") fwX1_pairFits_1) (fun _ h9 => h9) rfl dX1_pairFits_1 ?_
  refine va_getsN hx hb hSt.2.1 hS hown (va_Nw.use rfl hE.2.2.2.2.2.2.2.2.2.2.2.2.2.2.1) (fun _ h => h) dX1_pairFits_4 ?_
  refine lv_iload_n hx hb dX1_pairFits_7 rfl (lv_at hl 1 rfl) ?_
  obtain ⟨pi1, i1, hi1, ni1, mi1⟩ := t_in (x := x0) (n := 6) ⟨by omega, by omega⟩
  refine va_ti (v := .int (st_l x0.toNatClampNeg)) hx hb hSt.2.2 hS pi1 rfl dX1_pairFits_8 ?_
  refine lv_topi (fun x_2 ex_2 => ?_)
  have bx_2 : 0 ≤ x_2.toInt ∧ x_2.toInt ≤ 3 := by rw [ex_2]; exact (st_b _).2
  obtain ⟨pi3, i3, hi3, ni3, mi3⟩ := t_in (x := x_2) (n := 4) ⟨by omega, by omega⟩
  refine va_aldq hx hb hK hP (15) 2 (wl_at (by omega) (ce_5 (by decide))) rfl pi3 dX1_pairFits_9 ?_
  refine W.eq (g2 := F0 m 10 ls [.ref (ad (25 + i3))]) (by rw [ni3, if_pos hi3, show 15 + 10 + i3 = 25 + i3 from by omega]; rfl) ?_
  refine lv_astore_n (lv' := [(3, .ref (ad (25 + i3))), (0, .ref (ad 13)), (1, .int x0), (2, .ref (ad (29 + 15 * i)))]) hx hb dX1_pairFits_10 rfl hl (by decide) rfl (fun ls hl => ?_)
  refine lv_aload_n hx hb dX1_pairFits_11 rfl (lv_at hl 1 rfl) ?_
  refine va_get (D := (dC, dI)) (ci := 1) (v := .ref (ad 15)) (C := RX1) (T := TX1) (N := 7) hx hb hts iwX1_pairFits_X1 hown hK hP (13) (wl_at (by omega) (ce_3 (by decide))) rfl 5 (by decide) (hts (.fieldLink RX1 19 "QuietStairs$House" "mediators" "[LQuietStairs$Mediator;") fwX1_pairFits_1) (fun _ h9 => h9) rfl dX1_pairFits_12 ?_
  refine va_getsN hx hb hSt.1.1 hS hown (va_Nw.use rfl hE.2.2.2.2.2.2.2.2.2.2.2.2.2.1) (fun _ h => h) dX1_pairFits_15 ?_
  refine lv_iload_n hx hb dX1_pairFits_18 rfl (lv_at hl 2 rfl) ?_
  refine va_ti (v := .int (st_o x0.toNatClampNeg)) hx hb hSt.1.2 hS pi1 rfl dX1_pairFits_19 ?_
  refine lv_topi (fun x_4 ex_4 => ?_)
  have bx_4 : 0 ≤ x_4.toInt ∧ x_4.toInt ≤ 3 := by rw [ex_4]; exact (st_b _).1
  obtain ⟨pi5, i5, hi5, ni5, mi5⟩ := t_in (x := x_4) (n := 4) ⟨by omega, by omega⟩
  refine va_aldq hx hb hK hP (15) 2 (wl_at (by omega) (ce_5 (by decide))) rfl pi5 dX1_pairFits_20 ?_
  refine W.eq (g2 := F0 m 21 ls [.ref (ad (25 + i5))]) (by rw [ni5, if_pos hi5, show 15 + 10 + i5 = 25 + i5 from by omega]; rfl) ?_
  refine lv_astore (lv' := [(4, .ref (ad (25 + i5))), (3, .ref (ad (25 + i3))), (0, .ref (ad 13)), (1, .int x0), (2, .ref (ad (29 + 15 * i)))]) hx hb dX1_pairFits_21 hl (by decide) rfl (fun ls hl => ?_)
  refine lv_aload_n hx hb dX1_pairFits_23 rfl (lv_at hl 1 rfl) ?_
  refine va_get (D := (dC, dI)) (ci := 2) (v := .int (v (25 + i3) 1)) (C := RX2) (T := TX2) (N := 3) hx hb hts iwX1_pairFits_X2 hown hK hP (25 + i3) (wl_at (by omega) (ce_8 (kd_m i3 hi3).1)) rfl 1 (by decide) (hts (.fieldLink RX1 43 "QuietStairs$Mediator" "tongues" "I") fwX1_pairFits_2) (fun _ h9 => h9) rfl dX1_pairFits_24 ?_
  refine lv_topi (fun x_6 ex_6 => ?_)
  refine lv_aload hx hb dX1_pairFits_27 (lv_at hl 0 rfl) ?_
  refine va_get (D := (dC, dI)) (ci := 2) (v := .int (v (25 + i5) 1)) (C := RX2) (T := TX2) (N := 3) hx hb hts iwX1_pairFits_X2 hown hK hP (25 + i5) (wl_at (by omega) (ce_8 (kd_m i5 hi5).1)) rfl 1 (by decide) (hts (.fieldLink RX1 43 "QuietStairs$Mediator" "tongues" "I") fwX1_pairFits_2) (fun _ h9 => h9) rfl dX1_pairFits_29 ?_
  refine lv_topi (fun x_7 ex_7 => ?_)
  refine lv_ior hx hb dX1_pairFits_32 ?_
  refine lv_topi (fun x_8 ex_8 => ?_)
  refine lv_istore (lv' := [(5, .int x_8), (4, .ref (ad (25 + i5))), (3, .ref (ad (25 + i3))), (0, .ref (ad 13)), (1, .int x0), (2, .ref (ad (29 + 15 * i)))]) hx hb dX1_pairFits_33 hl (by decide) rfl (fun ls hl => ?_)
  refine lv_iconst (v := 0) hx hb dX1_pairFits_35 (by decide) ?_
  refine lv_istore (lv' := [(6, .int 0), (5, .int x_8), (4, .ref (ad (25 + i5))), (3, .ref (ad (25 + i3))), (0, .ref (ad 13)), (1, .int x0), (2, .ref (ad (29 + 15 * i)))]) hx hb dX1_pairFits_36 hl (by decide) rfl (fun ls hl => ?_)
  have k_0 : (0 : Int32).toInt = 0 := by decide
  have hloop_9 : ∀ (n : Nat) (y9_6 : Int32) (u9 : Nat → Nat → Int32) (H : Heap) (locs : List Loc), 0 ≤ y9_6.toInt → y9_6.toInt ≤ 2 → (2 - y9_6.toInt).toNat < n → Iv u9 → Fe v u9 → va_P (dC, dI) vwCl (wl ad kv cy N u9) H → va_D A (wl ad kv cy N u9) → va_S A s.heap H locs → ∀ ls : Array Slot, lv_has ls 8 [(6, .int y9_6), (5, .int x_8), (4, .ref (ad (25 + i5))), (3, .ref (ad (25 + i3))), (0, .ref (ad 13)), (1, .int x0), (2, .ref (ad (29 + 15 * i)))] → W p l e (headSpec wsX1_pairFits ({ frames := 2, cells := 0, slots := 0, locals := 128 })).room s m [Value.ref (ad 13), Value.int x0, Value.ref (ad (29 + 15 * i))].toArray below meth c H locs 0 0 (MQ below (va_Qi (fun (r : Int32) (u : Nat → Nat → Int32) => Iv u ∧ Fe v u ∧ (r = 0 ∨ r = 1)) (fun u t => ex_Pst dC dI A (wl ad kv cy N u) t) A) [Value.ref (ad 13), Value.int x0, Value.ref (ad (29 + 15 * i))].toArray s 0 0 A) (F0 m 38 ls []) := by
    intro n
    induction n with
    | zero =>
      intro y9_6 u9 H locs ay9_6 by9_6 hm_9 hv hfr hP hD hS ls hl
      exact absurd hm_9 (by omega)
    | succ n ih_9 =>
      intro y9_6 u9 H locs ay9_6 by9_6 hm_9 hv hfr hP hD hS ls hl
      refine lv_iload hx hb dX1_pairFits_38 (lv_at hl 0 rfl) ?_
      refine lv_iconst (v := 2) hx hb dX1_pairFits_40 (by decide) ?_
      have k_2 : (2 : Int32).toInt = 2 := by decide
      refine lv_icmp_ge (tgt := 100) hx hb dX1_pairFits_41 (by decide) (fun c_10 => ?_) (fun c_10 => ?_)
      · have tc_10 : y9_6.toInt ≥ (2 : Int32).toInt := Int32.le_iff_toInt_le.mp c_10
        refine lv_iconst (v := 1) hx hb dX1_pairFits_100 (by decide) ?_
        exact W.zret (ty := .boolean) (v := 1) hx hb hr rfl (fun t ht hW => ⟨⟨1, u9, rfl, ⟨hv, hfr, by decide⟩, by rw [ht]; exact hP, hD⟩, hS.F ht⟩) hS.2.2 dX1_pairFits_101
      · have tc_10 : y9_6.toInt < (2 : Int32).toInt := Int32.lt_iff_toInt_lt.mp (Int32.not_le.mp c_10)
        refine lv_aload_n hx hb dX1_pairFits_44 rfl (lv_at hl 6 rfl) ?_
        refine va_get (D := (dC, dI)) (ci := 0) (v := .ref (ad (29 + 15 * i + 1))) (C := RX0) (T := TX0) (N := 11) hx hb hts iwX1_pairFits_X0 hown hK hP (29 + 15 * i) (wl_at (by omega) (ce_9 (kd_c i hi).1.1)) rfl 6 (by decide) (hts (.fieldLink RX1 46 "QuietStairs$Case" "parties" "[I") fwX1_pairFits_3) (fun _ h9 => h9) rfl dX1_pairFits_45 ?_
        refine W.eq (g2 := F0 m 48 ls [.ref (ad (30 + 15 * i))]) (by rw [show 29 + 15 * i + 1 = 30 + 15 * i from by omega]) ?_
        refine lv_iload hx hb dX1_pairFits_48 (lv_at hl 0 rfl) ?_
        obtain ⟨pi11, i11, hi11, ni11, mi11⟩ := t_in (x := y9_6) (n := 2) ⟨by omega, by omega⟩
        refine va_iald hx hb hK hP (30 + 15 * i) 0 (wl_at (by omega) (ce_10 (kd_c i hi).1.2.1)) rfl pi11 dX1_pairFits_50 ?_
        refine lv_topi (fun x_12 ex_12 => ?_)
        have bx_12 : 0 ≤ x_12.toInt ∧ x_12.toInt ≤ 7 := by rw [ex_12]; exact hv.at (K := 10) (kd_c i hi).1.2.1 rfl
        refine lv_istore (lv' := [(7, .int x_12), (6, .int y9_6), (5, .int x_8), (4, .ref (ad (25 + i5))), (3, .ref (ad (25 + i3))), (0, .ref (ad 13)), (1, .int x0), (2, .ref (ad (29 + 15 * i)))]) hx hb dX1_pairFits_51 hl (by decide) rfl (fun ls hl => ?_)
        refine lv_iload hx hb dX1_pairFits_53 (lv_at hl 2 rfl) ?_
        refine lv_aload_n hx hb dX1_pairFits_55 rfl (lv_at hl 5 rfl) ?_
        refine va_get (D := (dC, dI)) (ci := 1) (v := .ref (ad 14)) (C := RX1) (T := TX1) (N := 7) hx hb hts iwX1_pairFits_X1 hown hK hP (13) (wl_at (by omega) (ce_3 (by decide))) rfl 4 (by decide) (hts (.fieldLink RX1 11 "QuietStairs$House" "parties" "[LQuietStairs$Party;") fwX1_pairFits_4) (fun _ h9 => h9) rfl dX1_pairFits_56 ?_
        refine lv_iload hx hb dX1_pairFits_59 (lv_at hl 0 rfl) ?_
        obtain ⟨pi13, i13, hi13, ni13, mi13⟩ := t_in (x := x_12) (n := 8) ⟨by omega, by omega⟩
        refine va_aldq hx hb hK hP (14) 1 (wl_at (by omega) (ce_4 (by decide))) rfl pi13 dX1_pairFits_61 ?_
        refine W.eq (g2 := F0 m 62 ls [.ref (ad (17 + i13)), .int x_8]) (by rw [ni13, if_pos hi13, show 14 + 3 + i13 = 17 + i13 from by omega]; rfl) ?_
        refine va_get (D := (dC, dI)) (ci := 3) (v := .int (u9 (17 + i13) 1)) (C := RX3) (T := TX3) (N := 2) hx hb hts iwX1_pairFits_X3 hown hK hP (17 + i13) (wl_at (by omega) (ce_7 (kd_p i13 hi13).1)) rfl 1 (by decide) (hts (.fieldLink RX1 48 "QuietStairs$Party" "tongue" "I") fwX1_pairFits_5) (fun _ h9 => h9) rfl dX1_pairFits_62 ?_
        refine lv_topi (fun x_14 ex_14 => ?_)
        refine yc_p hP hS (va_runSN (As := [.int x_8, .int x_14]) (rest := []) ⟨hx, hb, hml, hown, hts⟩ (c_X7_hasBit l x_8 x_14) ⟨va_cnB 2 hts gX1_pairFits_X7_hasBit_n51 rfl rfl rfl hE.2.2.2.2.2.2.2.2.2.2.1 (hts (.initialized RX7) fwX1_pairFits_7) (by decide +kernel) ⟨Nat.le_of_ble_eq_true rfl, Nat.le_of_ble_eq_true rfl⟩, (hts (.static yX7_hasBit) fwX1_pairFits_6), trivial⟩ ex_preP rfl rfl hl.1 rfl (lv_room (Nat.le_of_ble_eq_true rfl)) dX1_pairFits_65 ⟨Nat.le_of_ble_eq_true rfl, Nat.le_of_ble_eq_true rfl⟩) (fun r_15 H locs hw_15 hP hS => ?_)
        rcases hw_15 with rfl | rfl
        · refine lv_if_eq (tgt := 92) hx hb dX1_pairFits_68 (by decide) (fun _ => ?_) (fun c9 => absurd c9 (by decide))
          refine lv_iconst (v := 0) hx hb dX1_pairFits_92 (by decide) ?_
          exact W.zret (ty := .boolean) (v := 0) hx hb hr rfl (fun t ht hW => ⟨⟨0, u9, rfl, ⟨hv, hfr, by decide⟩, by rw [ht]; exact hP, hD⟩, hS.F ht⟩) hS.2.2 dX1_pairFits_93
        · refine lv_if_eq (tgt := 92) hx hb dX1_pairFits_68 (by decide) (fun c9 => absurd c9 (by decide)) (fun _ => ?_)
          refine lv_aload_n hx hb dX1_pairFits_71 rfl (lv_at hl 5 rfl) ?_
          refine lv_aload_n hx hb dX1_pairFits_72 rfl (lv_at hl 4 rfl) ?_
          refine lv_iload hx hb dX1_pairFits_73 (lv_at hl 0 rfl) ?_
          refine yw_i (w1 := fun (u : Nat → Nat → Int32) => wl ad kv cy N u) hD hS hA (va_runV (As := [.ref (ad (25 + i3)), .int x_12]) (rest := []) ⟨hx, hb, hml, hown, hts⟩ (g_X1_isNear l dC dI cy _ ad kv N hN u9 hv i3 hi3 x_12 ⟨by omega, by omega⟩) (cwV 2 hts gX1_pairFits_X1_isNear rfl rfl rfl hd_V_X1_isNear_2 ⟨Nat.le_of_ble_eq_true rfl, Nat.le_of_ble_eq_true rfl⟩) (yw_preV hE hK hP hD (ci := 1) (q := (RX1, TX1, 7)) (q0 := 13) rfl (wl_at (by omega) (ce_3 (by decide)))) rfl rfl hl.1 rfl (lv_room (Nat.le_of_ble_eq_true rfl)) dX1_pairFits_75 ⟨Nat.le_of_ble_eq_true rfl, Nat.le_of_ble_eq_true rfl⟩) (fun r_16 v_16 H locs hw_16 hP hD hS => ?_)
          obtain ⟨hv, hw_16⟩ := hw_16
          have hs_16 : v_16 = u9 := hw_16.1
          have hfr : Fe v v_16 := by rw [hs_16]; exact hfr
          refine lv_if_ne (tgt := 92) hx hb dX1_pairFits_78 (by decide) (fun c_17 => ?_) (fun c_17 => ?_)
          · have tc_17 : r_16.toInt ≠ (0 : Int32).toInt := fun q => absurd (Int32.toInt_inj.mp q) c_17
            refine lv_iconst (v := 0) hx hb dX1_pairFits_92 (by decide) ?_
            exact W.zret (ty := .boolean) (v := 0) hx hb hr rfl (fun t ht hW => ⟨⟨0, v_16, rfl, ⟨hv, hfr, by decide⟩, by rw [ht]; exact hP, hD⟩, hS.F ht⟩) hS.2.2 dX1_pairFits_93
          · have tc_17 : r_16.toInt = (0 : Int32).toInt := by rw [c_17]
            refine lv_aload_n hx hb dX1_pairFits_81 rfl (lv_at hl 5 rfl) ?_
            refine lv_aload hx hb dX1_pairFits_82 (lv_at hl 3 rfl) ?_
            refine lv_iload hx hb dX1_pairFits_84 (lv_at hl 0 rfl) ?_
            refine yw_i (w1 := fun (u : Nat → Nat → Int32) => wl ad kv cy N u) hD hS hA (va_runV (As := [.ref (ad (25 + i5)), .int x_12]) (rest := []) ⟨hx, hb, hml, hown, hts⟩ (g_X1_isNear l dC dI cy _ ad kv N hN v_16 hv i5 hi5 x_12 ⟨by omega, by omega⟩) (cwV 2 hts gX1_pairFits_X1_isNear rfl rfl rfl hd_V_X1_isNear_2 ⟨Nat.le_of_ble_eq_true rfl, Nat.le_of_ble_eq_true rfl⟩) (yw_preV hE hK hP hD (ci := 1) (q := (RX1, TX1, 7)) (q0 := 13) rfl (wl_at (by omega) (ce_3 (by decide)))) rfl rfl hl.1 rfl (lv_room (Nat.le_of_ble_eq_true rfl)) dX1_pairFits_86 ⟨Nat.le_of_ble_eq_true rfl, Nat.le_of_ble_eq_true rfl⟩) (fun r_18 v_18 H locs hw_18 hP hD hS => ?_)
            obtain ⟨hv, hw_18⟩ := hw_18
            have hs_18 : v_18 = v_16 := hw_18.1
            have hfr : Fe v v_18 := by rw [hs_18]; exact hfr
            refine lv_if_eq (tgt := 94) hx hb dX1_pairFits_89 (by decide) (fun c_19 => ?_) (fun c_19 => ?_)
            · have tc_19 : r_18.toInt = (0 : Int32).toInt := by rw [c_19]
              obtain ⟨x_20, ex_20⟩ : ∃ y : Int32, y = y9_6 + 1 := ⟨_, rfl⟩
              refine lv_iinc (v := x_20) (lv' := [(6, .int x_20), (7, .int x_12), (5, .int x_8), (4, .ref (ad (25 + i5))), (3, .ref (ad (25 + i3))), (0, .ref (ad 13)), (1, .int x0), (2, .ref (ad (29 + 15 * i)))]) hx hb dX1_pairFits_94 hl (k := 1) rfl (by rw [ex_20]; rfl) (by decide) rfl (fun ls hl => ?_)
              have k_1 : (1 : Int32).toInt = 1 := by decide
              have tx_20 : x_20.toInt = y9_6.toInt + (1 : Int32).toInt := by rw [ex_20]; exact t_add ⟨by omega, by omega⟩
              refine lv_goto (tgt := 38) hx hb dX1_pairFits_97 (by decide) ?_
              exact ih_9 x_20 v_18 H locs (by omega) (by omega) (by omega) hv hfr hP hD hS ls (lv_sub hl [0, 2, 3, 4, 5, 6, 7] rfl)
            · have tc_19 : r_18.toInt ≠ (0 : Int32).toInt := fun q => absurd (Int32.toInt_inj.mp q) c_19
              refine lv_iconst (v := 0) hx hb dX1_pairFits_92 (by decide) ?_
              exact W.zret (ty := .boolean) (v := 0) hx hb hr rfl (fun t ht hW => ⟨⟨0, v_18, rfl, ⟨hv, hfr, by decide⟩, by rw [ht]; exact hP, hD⟩, hS.F ht⟩) hS.2.2 dX1_pairFits_93
  exact hloop_9 ((2 - (0 : Int32).toInt).toNat + 1) 0 v _ _ (by omega) (by omega) (by omega) hv hfr hP hD hS ls hl

set_option maxHeartbeats 4000000 in
set_option maxRecDepth 100000 in
theorem g_X7_maySit (l : Launch) (dC : Nat → ClassId) (dI : Nat → Nat → Nat) (cy : Nat → ClassId) (sz : Nat) (ad : Nat → Nat) (kv : Value) (N : Nat) (hN : 119 ≤ N) (v : Nat → Nat → Int32) (hv : Iv v) (x0 x1 : Int32) (t1 t2 : Nat) : Met l yX7_maySit wsX7_maySit ({ frames := 3, cells := 0, slots := 0, locals := 192 }) (va_Pc [.ref (ad 0), .int x0, .int x1] (ex_PreT dC dI cy sz (wl ad kv cy N v) t1 t2)) (va_Qi (fun (r : Int32) (u : Nat → Nat → Int32) => Iv u ∧ Fz v u) (fun u t => ex_Pst dC dI (va_A (wl ad kv cy N v) sz) (wl ad kv cy N u) t) (va_A (wl ad kv cy N v) sz)) 0 0 (va_A (wl ad kv cy N v) sz) := by
  refine Met.ofW (cc := cX7_maySit) (maxL := 3) (ret := (some .int)) (by decide) rfl ?_
  intro p e s m args below meth c s₁ B hml hv
  obtain ⟨rfl, ⟨hsz, hE, hP, hK, hD0⟩, hSt⟩ := hv
  have hx := B.exec
  have hb := B.bytes
  have hr := B.returns
  have hts := atoms_spec (ws := wsX7_maySit) B.pre
  have hown : s.vm.findClass RX7 = some m.cls := findClass_of_methodNamed B.named
  have hlocks := B.notSynchronized
  subst hsz
  have hD := hD0.self (sz := s.heap.size)
  generalize hAe : va_A (wl ad kv cy N v) s.heap.size = A at hD hSt ⊢
  have hA : ∀ q : Nat, s.heap.size ≤ q → A q := fun q h => by rw [← hAe]; exact Or.inr h
  have hS : va_S A s.heap s.heap [] := va_S.rf
  have hP : va_P (dC, dI) vwCl (wl ad kv cy N v) s.heap := hP
  have hl := lv_entry ([.ref (ad 0), .int x0, .int x1]) (n := 3) (Nat.le_of_ble_eq_true rfl)
  rw [lg_entry_eq]
  generalize (lg_sl ([.ref (ad 0), .int x0, .int x1]) ++ List.replicate (3 - (lg_sl ([.ref (ad 0), .int x0, .int x1])).length) Slot.unset).toArray = ls at hl ⊢
  have hl : lv_has ls 3 [(0, .ref (ad 0)), (1, .int x0), (2, .int x1)] := hl
  have hfr : Fz v v := Fz.rf
  refine lv_iload_n hx hb dX7_maySit_0 rfl (lv_at hl 1 rfl) ?_
  refine lv_iconst (v := 0) hx hb dX7_maySit_1 (by decide) ?_
  refine lv_iconst (v := 5) hx hb dX7_maySit_2 (by decide) ?_
  refine yc_p hP hS (va_runS (As := [.int x0, .int 0, .int 5]) (rest := []) ⟨hx, hb, hml, hown, hts⟩ (c_X7_isWithin l x0 0 5) (cwS 3 hts gX7_maySit_X7_isWithin rfl rfl rfl hd_S_X7_isWithin_3 ⟨Nat.le_of_ble_eq_true rfl, Nat.le_of_ble_eq_true rfl⟩) ex_preP rfl rfl hl.1 rfl (lv_room (Nat.le_of_ble_eq_true rfl)) dX7_maySit_3 ⟨Nat.le_of_ble_eq_true rfl, Nat.le_of_ble_eq_true rfl⟩) (fun r_1 H locs hw_1 hP hS => ?_)
  rcases wi_ca hw_1 with ⟨rfl, hc_2⟩ | ⟨rfl, hc_2⟩
  · have k_0 : (0 : Int32).toInt = 0 := by decide
    have k_5 : (5 : Int32).toInt = 5 := by decide
    have tc_2 := wi_tl hc_2
    refine lv_if_eq (tgt := 28) hx hb dX7_maySit_6 (by decide) (fun c9 => absurd c9 (by decide)) (fun _ => ?_)
    refine lv_aload_n hx hb dX7_maySit_9 rfl (lv_at hl 0 rfl) ?_
    refine va_get (D := (dC, dI)) (ci := 7) (v := .ref (ad 13)) (C := RX7) (T := TX7) (N := 5) hx hb hts iwX7_maySit_X7 hown hK hP (0) (wl_at (by omega) (ce_0 (by decide))) rfl 0 (by decide) (hts (.fieldLink RX7 12 "QuietStairs" "now" "LQuietStairs$House;") fwX7_maySit_1) (fun _ h9 => h9) rfl dX7_maySit_10 ?_
    refine lv_iload_n hx hb dX7_maySit_13 rfl (lv_at hl 1 rfl) ?_
    refine yw_i (w1 := fun (u : Nat → Nat → Int32) => wl ad kv cy N u) hD hS hA (va_runV (As := [.int x0]) (rest := []) ⟨hx, hb, hml, hown, hts⟩ (g_X1_hasPair l dC dI cy _ ad kv N hN v hv x0 ⟨by omega, by omega⟩ t1 t2) (cwV 1 hts gX7_maySit_X1_hasPair rfl rfl rfl hd_V_X1_hasPair_1 ⟨Nat.le_of_ble_eq_true rfl, Nat.le_of_ble_eq_true rfl⟩) ⟨ex_blindT, va_recv hK hP (ci := 1) (q := (RX1, TX1, 7)) (q0 := 13) rfl (wl_at (by omega) (ce_3 (by decide))), fun U hU hW => ⟨rfl, ((yw_preS (As := []) hE hK hP hD).2 U hU hW).2, hSt.go hS (yw_F hD hS hA) hU hW⟩⟩ rfl rfl hl.1 rfl (lv_room (Nat.le_of_ble_eq_true rfl)) dX7_maySit_14 ⟨Nat.le_of_ble_eq_true rfl, Nat.le_of_ble_eq_true rfl⟩) (fun r_3 v_3 H locs hw_3 hP hD hS => ?_)
    obtain ⟨hv, hw_3⟩ := hw_3
    have hs_3 : v_3 = v := hw_3.1
    have hfr : Fz v v_3 := by rw [hs_3]; exact hfr
    refine lv_if_eq (tgt := 28) hx hb dX7_maySit_17 (by decide) (fun c_4 => ?_) (fun c_4 => ?_)
    · have tc_4 : r_3.toInt = (0 : Int32).toInt := by rw [c_4]
      refine lv_iconst (v := (-1)) hx hb dX7_maySit_28 (by decide) ?_
      exact W.iret (v := (-1)) hx hb hr (fun t ht hW => ⟨⟨(-1), v_3, rfl, ⟨hv, hfr⟩, by rw [ht]; exact hP, hD⟩, hS.F ht⟩) hS.2.2 dX7_maySit_29
    · have tc_4 : r_3.toInt ≠ (0 : Int32).toInt := fun q => absurd (Int32.toInt_inj.mp q) c_4
      refine lv_aload_n hx hb dX7_maySit_20 rfl (lv_at hl 0 rfl) ?_
      refine lv_iload_n hx hb dX7_maySit_21 rfl (lv_at hl 2 rfl) ?_
      refine yw_i (w1 := fun (u : Nat → Nat → Int32) => wl ad kv cy N u) hD hS hA (va_runV (As := [.int x1]) (rest := []) ⟨hx, hb, hml, hown, hts⟩ (g_X7_isCase l dC dI cy _ ad kv N hN v_3 hv x1) (cwV 1 hts gX7_maySit_X7_isCase rfl rfl rfl hd_V_X7_isCase_1 ⟨Nat.le_of_ble_eq_true rfl, Nat.le_of_ble_eq_true rfl⟩) (yw_preV hE hK hP hD (ci := 7) (q := (RX7, TX7, 5)) (q0 := 0) rfl (wl_at (by omega) (ce_0 (by decide)))) rfl rfl hl.1 rfl (lv_room (Nat.le_of_ble_eq_true rfl)) dX7_maySit_22 ⟨Nat.le_of_ble_eq_true rfl, Nat.le_of_ble_eq_true rfl⟩) (fun r_5 v_5 H locs hw_5 hP hD hS => ?_)
      obtain ⟨hv, hw_5⟩ := hw_5
      obtain ⟨hu_5, hw_5⟩ := hw_5
      have hfr : Fz v v_5 := by rw [hu_5]; exact hfr
      rcases hw_5 with ⟨rfl, ha_6⟩ | ⟨rfl, -⟩
      · have hb_6 := hv.at (k := 13) (j := 2) (K := 3) (by decide) rfl
        have hb_6 : 0 ≤ x1.toInt ∧ x1.toInt < 6 := by omega
        refine lv_if_ne (tgt := 30) hx hb dX7_maySit_25 (by decide) (fun _ => ?_) (fun c9 => absurd c9 (by decide))
        refine lv_aload_n hx hb dX7_maySit_30 rfl (lv_at hl 0 rfl) ?_
        refine va_get (D := (dC, dI)) (ci := 7) (v := .ref (ad 13)) (C := RX7) (T := TX7) (N := 5) hx hb hts iwX7_maySit_X7 hown hK hP (0) (wl_at (by omega) (ce_0 (by decide))) rfl 0 (by decide) (hts (.fieldLink RX7 12 "QuietStairs" "now" "LQuietStairs$House;") fwX7_maySit_1) (fun _ h9 => h9) rfl dX7_maySit_31 ?_
        refine lv_iload_n hx hb dX7_maySit_34 rfl (lv_at hl 1 rfl) ?_
        refine lv_aload_n hx hb dX7_maySit_35 rfl (lv_at hl 0 rfl) ?_
        refine va_get (D := (dC, dI)) (ci := 7) (v := .ref (ad 13)) (C := RX7) (T := TX7) (N := 5) hx hb hts iwX7_maySit_X7 hown hK hP (0) (wl_at (by omega) (ce_0 (by decide))) rfl 0 (by decide) (hts (.fieldLink RX7 12 "QuietStairs" "now" "LQuietStairs$House;") fwX7_maySit_1) (fun _ h9 => h9) rfl dX7_maySit_36 ?_
        refine va_get (D := (dC, dI)) (ci := 1) (v := .ref (ad 16)) (C := RX1) (T := TX1) (N := 7) hx hb hts iwX7_maySit_X1 hown hK hP (13) (wl_at (by omega) (ce_3 (by decide))) rfl 6 (by decide) (hts (.fieldLink RX7 86 "QuietStairs$House" "cases" "[LQuietStairs$Case;") fwX7_maySit_2) (fun _ h9 => h9) rfl dX7_maySit_39 ?_
        refine lv_iload_n hx hb dX7_maySit_42 rfl (lv_at hl 2 rfl) ?_
        obtain ⟨pi7, i7, hi7, ni7, mi7⟩ := t_in (x := x1) (n := 6) ⟨by omega, by omega⟩
        refine va_aldq hx hb hK hP (16) 3 (wl_at (by omega) (ce_6 (by decide))) rfl pi7 dX7_maySit_43 ?_
        refine W.eq (g2 := F0 m 44 ls [.ref (ad (29 + 15 * i7)), .int x0, .ref (ad 13)]) (by rw [ni7, if_pos hi7, show 16 + 13 + 15 * i7 = 29 + 15 * i7 from by omega]; rfl) ?_
        refine yw_i (w1 := fun (u : Nat → Nat → Int32) => wl ad kv cy N u) hD hS hA (va_runV (As := [.int x0, .ref (ad (29 + 15 * i7))]) (rest := []) ⟨hx, hb, hml, hown, hts⟩ (g_X1_pairFits l dC dI cy _ ad kv N hN v_5 hv x0 ⟨by omega, by omega⟩ i7 hi7 t1 t2) (cwV 2 hts gX7_maySit_X1_pairFits rfl rfl rfl hd_V_X1_pairFits_2 ⟨Nat.le_of_ble_eq_true rfl, Nat.le_of_ble_eq_true rfl⟩) ⟨ex_blindT, va_recv hK hP (ci := 1) (q := (RX1, TX1, 7)) (q0 := 13) rfl (wl_at (by omega) (ce_3 (by decide))), fun U hU hW => ⟨rfl, ((yw_preS (As := []) hE hK hP hD).2 U hU hW).2, hSt.go hS (yw_F hD hS hA) hU hW⟩⟩ rfl rfl hl.1 rfl (lv_room (Nat.le_of_ble_eq_true rfl)) dX7_maySit_44 ⟨Nat.le_of_ble_eq_true rfl, Nat.le_of_ble_eq_true rfl⟩) (fun r_8 v_8 H locs hw_8 hP hD hS => ?_)
        obtain ⟨hv, hw_8⟩ := hw_8
        have hs_8 : v_8 = v_5 := hw_8.1
        have hfr : Fz v v_8 := by rw [hs_8]; exact hfr
        refine lv_if_eq (tgt := 54) hx hb dX7_maySit_47 (by decide) (fun c_9 => ?_) (fun c_9 => ?_)
        · have tc_9 : r_8.toInt = (0 : Int32).toInt := by rw [c_9]
          refine lv_iconst (v := 0) hx hb dX7_maySit_54 (by decide) ?_
          exact W.iret (v := 0) hx hb hr (fun t ht hW => ⟨⟨0, v_8, rfl, ⟨hv, hfr⟩, by rw [ht]; exact hP, hD⟩, hS.F ht⟩) hS.2.2 dX7_maySit_55
        · have tc_9 : r_8.toInt ≠ (0 : Int32).toInt := fun q => absurd (Int32.toInt_inj.mp q) c_9
          refine lv_iconst (v := 1) hx hb dX7_maySit_50 (by decide) ?_
          refine lv_goto (tgt := 55) hx hb dX7_maySit_51 (by decide) ?_
          exact W.iret (v := 1) hx hb hr (fun t ht hW => ⟨⟨1, v_8, rfl, ⟨hv, hfr⟩, by rw [ht]; exact hP, hD⟩, hS.F ht⟩) hS.2.2 dX7_maySit_55
      · refine lv_if_ne (tgt := 30) hx hb dX7_maySit_25 (by decide) (fun c9 => absurd c9 (by decide)) (fun _ => ?_)
        refine lv_iconst (v := (-1)) hx hb dX7_maySit_28 (by decide) ?_
        exact W.iret (v := (-1)) hx hb hr (fun t ht hW => ⟨⟨(-1), v_5, rfl, ⟨hv, hfr⟩, by rw [ht]; exact hP, hD⟩, hS.F ht⟩) hS.2.2 dX7_maySit_29
  · refine lv_if_eq (tgt := 28) hx hb dX7_maySit_6 (by decide) (fun _ => ?_) (fun c9 => absurd c9 (by decide))
    refine lv_iconst (v := (-1)) hx hb dX7_maySit_28 (by decide) ?_
    exact W.iret (v := (-1)) hx hb hr (fun t ht hW => ⟨⟨(-1), v, rfl, ⟨hv, hfr⟩, by rw [ht]; exact hP, hD⟩, hS.F ht⟩) hS.2.2 dX7_maySit_29
set_option maxRecDepth 20000 in
theorem db_X4_fittingPairs_0 : (decode cX4_fittingPairs 0 = .ok (.iconst 0, 1)) ∧ (decode cX4_fittingPairs 1 = .ok (.istore_n 2, 1)) ∧ (decode cX4_fittingPairs 2 = .ok (.iconst 0, 1)) ∧ (decode cX4_fittingPairs 3 = .ok (.istore_n 3, 1)) ∧ (decode cX4_fittingPairs 4 = .ok (.iload_n 3, 1)) ∧ (decode cX4_fittingPairs 5 = .ok (.bipush 6, 2)) ∧ (decode cX4_fittingPairs 7 = .ok (.if_icmp .ge 32, 3)) ∧ (decode cX4_fittingPairs 39 = .ok (.iload_n 2, 1)) := by decide +kernel
theorem dX4_fittingPairs_0 : decode cX4_fittingPairs 0 = .ok (.iconst 0, 1) := db_X4_fittingPairs_0.1
theorem dX4_fittingPairs_1 : decode cX4_fittingPairs 1 = .ok (.istore_n 2, 1) := db_X4_fittingPairs_0.2.1
theorem dX4_fittingPairs_2 : decode cX4_fittingPairs 2 = .ok (.iconst 0, 1) := db_X4_fittingPairs_0.2.2.1
theorem dX4_fittingPairs_3 : decode cX4_fittingPairs 3 = .ok (.istore_n 3, 1) := db_X4_fittingPairs_0.2.2.2.1
theorem dX4_fittingPairs_4 : decode cX4_fittingPairs 4 = .ok (.iload_n 3, 1) := db_X4_fittingPairs_0.2.2.2.2.1
theorem dX4_fittingPairs_5 : decode cX4_fittingPairs 5 = .ok (.bipush 6, 2) := db_X4_fittingPairs_0.2.2.2.2.2.1
theorem dX4_fittingPairs_7 : decode cX4_fittingPairs 7 = .ok (.if_icmp .ge 32, 3) := db_X4_fittingPairs_0.2.2.2.2.2.2.1
theorem dX4_fittingPairs_39 : decode cX4_fittingPairs 39 = .ok (.iload_n 2, 1) := db_X4_fittingPairs_0.2.2.2.2.2.2.2
set_option maxRecDepth 20000 in
theorem db_X4_fittingPairs_40 : (decode cX4_fittingPairs 40 = .ok (.ireturn, 1)) ∧ (decode cX4_fittingPairs 10 = .ok (.aload_n 0, 1)) ∧ (decode cX4_fittingPairs 11 = .ok (.iload_n 3, 1)) ∧ (decode cX4_fittingPairs 12 = .ok (.invokevirtual 87, 3)) ∧ (decode cX4_fittingPairs 15 = .ok (.ifCond .eq 18, 3)) ∧ (decode cX4_fittingPairs 33 = .ok (.iinc 3 1, 3)) ∧ (decode cX4_fittingPairs 36 = .ok (.goto (-32), 3)) ∧ (decode cX4_fittingPairs 18 = .ok (.aload_n 0, 1)) := by decide +kernel
theorem dX4_fittingPairs_40 : decode cX4_fittingPairs 40 = .ok (.ireturn, 1) := db_X4_fittingPairs_40.1
theorem dX4_fittingPairs_10 : decode cX4_fittingPairs 10 = .ok (.aload_n 0, 1) := db_X4_fittingPairs_40.2.1
theorem dX4_fittingPairs_11 : decode cX4_fittingPairs 11 = .ok (.iload_n 3, 1) := db_X4_fittingPairs_40.2.2.1
set_option maxRecDepth 20000 in
theorem ggX4_fittingPairs_X1_hasPair : GoodIn wsX4_fittingPairs wsX1_hasPair := goodIn_r _ [5, 6, 26, 27, 28, 29, 30, 31, 32] rfl (by decide +kernel)
set_option maxRecDepth 20000 in
theorem gX4_fittingPairs_X1_hasPair : GoodIn wsX4_fittingPairs (wsV RX4 87 RX1 yX1_hasPair wsX1_hasPair) := goodIn_app (goodIn_r _ [1, 2, 3, 4] rfl (by decide +kernel)) ggX4_fittingPairs_X1_hasPair
theorem dX4_fittingPairs_12 : decode cX4_fittingPairs 12 = .ok (.invokevirtual 87, 3) := db_X4_fittingPairs_40.2.2.2.1
theorem dX4_fittingPairs_15 : decode cX4_fittingPairs 15 = .ok (.ifCond .eq 18, 3) := db_X4_fittingPairs_40.2.2.2.2.1
theorem dX4_fittingPairs_33 : decode cX4_fittingPairs 33 = .ok (.iinc 3 1, 3) := db_X4_fittingPairs_40.2.2.2.2.2.1
theorem dX4_fittingPairs_36 : decode cX4_fittingPairs 36 = .ok (.goto (-32), 3) := db_X4_fittingPairs_40.2.2.2.2.2.2.1
theorem dX4_fittingPairs_18 : decode cX4_fittingPairs 18 = .ok (.aload_n 0, 1) := db_X4_fittingPairs_40.2.2.2.2.2.2.2
set_option maxRecDepth 20000 in
theorem db_X4_fittingPairs_19 : (decode cX4_fittingPairs 19 = .ok (.iload_n 3, 1)) ∧ (decode cX4_fittingPairs 20 = .ok (.aload_n 1, 1)) ∧ (decode cX4_fittingPairs 21 = .ok (.invokevirtual 91, 3)) ∧ (decode cX4_fittingPairs 24 = .ok (.ifCond .eq 9, 3)) ∧ (decode cX4_fittingPairs 27 = .ok (.iload_n 2, 1)) ∧ (decode cX4_fittingPairs 28 = .ok (.iconst 1, 1)) ∧ (decode cX4_fittingPairs 29 = .ok (.iload_n 3, 1)) ∧ (decode cX4_fittingPairs 30 = .ok (.ishl, 1)) := by decide +kernel
theorem dX4_fittingPairs_19 : decode cX4_fittingPairs 19 = .ok (.iload_n 3, 1) := db_X4_fittingPairs_19.1
theorem dX4_fittingPairs_20 : decode cX4_fittingPairs 20 = .ok (.aload_n 1, 1) := db_X4_fittingPairs_19.2.1
set_option maxRecDepth 20000 in
theorem ggX4_fittingPairs_X1_pairFits : GoodIn wsX4_fittingPairs wsX1_pairFits := goodIn_r _ [10, 11, 12, 13, 14, 15, 16, 17, 18, 19, 20, 21, 4, 22, 23, 24, 25, 26, 27, 28, 29, 30, 31, 32, 33, 34, 35, 36, 37, 38, 39, 40, 41, 42, 43, 44, 45, 46, 47, 48] rfl (by decide +kernel)
set_option maxRecDepth 20000 in
theorem gX4_fittingPairs_X1_pairFits : GoodIn wsX4_fittingPairs (wsV RX4 91 RX1 yX1_pairFits wsX1_pairFits) := goodIn_app (goodIn_r _ [7, 8, 9, 4] rfl (by decide +kernel)) ggX4_fittingPairs_X1_pairFits
theorem dX4_fittingPairs_21 : decode cX4_fittingPairs 21 = .ok (.invokevirtual 91, 3) := db_X4_fittingPairs_19.2.2.1
theorem dX4_fittingPairs_24 : decode cX4_fittingPairs 24 = .ok (.ifCond .eq 9, 3) := db_X4_fittingPairs_19.2.2.2.1
theorem dX4_fittingPairs_27 : decode cX4_fittingPairs 27 = .ok (.iload_n 2, 1) := db_X4_fittingPairs_19.2.2.2.2.1
theorem dX4_fittingPairs_28 : decode cX4_fittingPairs 28 = .ok (.iconst 1, 1) := db_X4_fittingPairs_19.2.2.2.2.2.1
theorem dX4_fittingPairs_29 : decode cX4_fittingPairs 29 = .ok (.iload_n 3, 1) := db_X4_fittingPairs_19.2.2.2.2.2.2.1
theorem dX4_fittingPairs_30 : decode cX4_fittingPairs 30 = .ok (.ishl, 1) := db_X4_fittingPairs_19.2.2.2.2.2.2.2
set_option maxRecDepth 20000 in
theorem db_X4_fittingPairs_31 : (decode cX4_fittingPairs 31 = .ok (.ior, 1)) ∧ (decode cX4_fittingPairs 32 = .ok (.istore_n 2, 1)) := by decide +kernel
theorem dX4_fittingPairs_31 : decode cX4_fittingPairs 31 = .ok (.ior, 1) := db_X4_fittingPairs_31.1
theorem dX4_fittingPairs_32 : decode cX4_fittingPairs 32 = .ok (.istore_n 2, 1) := db_X4_fittingPairs_31.2
set_option maxRecDepth 20000 in
theorem db_X4_gather_0 : (decode cX4_gather 0 = .ok (.aload_n 0, 1)) ∧ (decode cX4_gather 1 = .ok (.iconst 0, 1)) ∧ (decode cX4_gather 2 = .ok (.putfield 61, 3)) ∧ (decode cX4_gather 5 = .ok (.iconst 0, 1)) ∧ (decode cX4_gather 6 = .ok (.istore_n 2, 1)) ∧ (decode cX4_gather 7 = .ok (.iload_n 2, 1)) ∧ (decode cX4_gather 8 = .ok (.aload_n 1, 1)) ∧ (decode cX4_gather 9 = .ok (.getfield 68, 3)) := by decide +kernel
theorem dX4_gather_0 : decode cX4_gather 0 = .ok (.aload_n 0, 1) := db_X4_gather_0.1
theorem dX4_gather_1 : decode cX4_gather 1 = .ok (.iconst 0, 1) := db_X4_gather_0.2.1
theorem dX4_gather_2 : decode cX4_gather 2 = .ok (.putfield 61, 3) := db_X4_gather_0.2.2.1
theorem dX4_gather_5 : decode cX4_gather 5 = .ok (.iconst 0, 1) := db_X4_gather_0.2.2.2.1
theorem dX4_gather_6 : decode cX4_gather 6 = .ok (.istore_n 2, 1) := db_X4_gather_0.2.2.2.2.1
theorem dX4_gather_7 : decode cX4_gather 7 = .ok (.iload_n 2, 1) := db_X4_gather_0.2.2.2.2.2.1
theorem dX4_gather_8 : decode cX4_gather 8 = .ok (.aload_n 1, 1) := db_X4_gather_0.2.2.2.2.2.2.1
theorem dX4_gather_9 : decode cX4_gather 9 = .ok (.getfield 68, 3) := db_X4_gather_0.2.2.2.2.2.2.2
set_option maxRecDepth 20000 in
theorem db_X4_gather_12 : (decode cX4_gather 12 = .ok (.if_icmp .ge 78, 3)) ∧ (decode cX4_gather 90 = .ok (.return_, 1)) ∧ (decode cX4_gather 15 = .ok (.aload_n 0, 1)) ∧ (decode cX4_gather 16 = .ok (.getfield 61, 3)) ∧ (decode cX4_gather 19 = .ok (.iconst 4, 1)) ∧ (decode cX4_gather 20 = .ok (.if_icmp .ge 70, 3)) ∧ (decode cX4_gather 23 = .ok (.aload_n 1, 1)) ∧ (decode cX4_gather 24 = .ok (.getfield 71, 3)) := by decide +kernel
theorem dX4_gather_12 : decode cX4_gather 12 = .ok (.if_icmp .ge 78, 3) := db_X4_gather_12.1
theorem dX4_gather_90 : decode cX4_gather 90 = .ok (.return_, 1) := db_X4_gather_12.2.1
theorem dX4_gather_15 : decode cX4_gather 15 = .ok (.aload_n 0, 1) := db_X4_gather_12.2.2.1
theorem dX4_gather_16 : decode cX4_gather 16 = .ok (.getfield 61, 3) := db_X4_gather_12.2.2.2.1
theorem dX4_gather_19 : decode cX4_gather 19 = .ok (.iconst 4, 1) := db_X4_gather_12.2.2.2.2.1
theorem dX4_gather_20 : decode cX4_gather 20 = .ok (.if_icmp .ge 70, 3) := db_X4_gather_12.2.2.2.2.2.1
theorem dX4_gather_23 : decode cX4_gather 23 = .ok (.aload_n 1, 1) := db_X4_gather_12.2.2.2.2.2.2.1
theorem dX4_gather_24 : decode cX4_gather 24 = .ok (.getfield 71, 3) := db_X4_gather_12.2.2.2.2.2.2.2
set_option maxRecDepth 20000 in
theorem db_X4_gather_27 : (decode cX4_gather 27 = .ok (.iload_n 2, 1)) ∧ (decode cX4_gather 28 = .ok (.aaload, 1)) ∧ (decode cX4_gather 29 = .ok (.astore_n 3, 1)) ∧ (decode cX4_gather 30 = .ok (.aload_n 3, 1)) ∧ (decode cX4_gather 31 = .ok (.getfield 75, 3)) ∧ (decode cX4_gather 34 = .ok (.ifCond .ne 50, 3)) ∧ (decode cX4_gather 84 = .ok (.iinc 2 1, 3)) ∧ (decode cX4_gather 87 = .ok (.goto (-80), 3)) := by decide +kernel
theorem dX4_gather_27 : decode cX4_gather 27 = .ok (.iload_n 2, 1) := db_X4_gather_27.1
theorem dX4_gather_28 : decode cX4_gather 28 = .ok (.aaload, 1) := db_X4_gather_27.2.1
theorem dX4_gather_29 : decode cX4_gather 29 = .ok (.astore_n 3, 1) := db_X4_gather_27.2.2.1
theorem dX4_gather_30 : decode cX4_gather 30 = .ok (.aload_n 3, 1) := db_X4_gather_27.2.2.2.1
theorem dX4_gather_31 : decode cX4_gather 31 = .ok (.getfield 75, 3) := db_X4_gather_27.2.2.2.2.1
theorem dX4_gather_34 : decode cX4_gather 34 = .ok (.ifCond .ne 50, 3) := db_X4_gather_27.2.2.2.2.2.1
theorem dX4_gather_84 : decode cX4_gather 84 = .ok (.iinc 2 1, 3) := db_X4_gather_27.2.2.2.2.2.2.1
theorem dX4_gather_87 : decode cX4_gather 87 = .ok (.goto (-80), 3) := db_X4_gather_27.2.2.2.2.2.2.2
set_option maxRecDepth 20000 in
theorem db_X4_gather_37 : (decode cX4_gather 37 = .ok (.aload_n 0, 1)) ∧ (decode cX4_gather 38 = .ok (.getfield 9, 3)) ∧ (decode cX4_gather 41 = .ok (.aload_n 0, 1)) ∧ (decode cX4_gather 42 = .ok (.getfield 61, 3)) ∧ (decode cX4_gather 45 = .ok (.iload_n 2, 1)) ∧ (decode cX4_gather 46 = .ok (.iastore, 1)) ∧ (decode cX4_gather 47 = .ok (.aload_n 0, 1)) ∧ (decode cX4_gather 48 = .ok (.getfield 15, 3)) := by decide +kernel
theorem dX4_gather_37 : decode cX4_gather 37 = .ok (.aload_n 0, 1) := db_X4_gather_37.1
theorem dX4_gather_38 : decode cX4_gather 38 = .ok (.getfield 9, 3) := db_X4_gather_37.2.1
theorem dX4_gather_41 : decode cX4_gather 41 = .ok (.aload_n 0, 1) := db_X4_gather_37.2.2.1
theorem dX4_gather_42 : decode cX4_gather 42 = .ok (.getfield 61, 3) := db_X4_gather_37.2.2.2.1
theorem dX4_gather_45 : decode cX4_gather 45 = .ok (.iload_n 2, 1) := db_X4_gather_37.2.2.2.2.1
theorem dX4_gather_46 : decode cX4_gather 46 = .ok (.iastore, 1) := db_X4_gather_37.2.2.2.2.2.1
theorem dX4_gather_47 : decode cX4_gather 47 = .ok (.aload_n 0, 1) := db_X4_gather_37.2.2.2.2.2.2.1
theorem dX4_gather_48 : decode cX4_gather 48 = .ok (.getfield 15, 3) := db_X4_gather_37.2.2.2.2.2.2.2
set_option maxRecDepth 20000 in
theorem db_X4_gather_51 : (decode cX4_gather 51 = .ok (.aload_n 0, 1)) ∧ (decode cX4_gather 52 = .ok (.getfield 61, 3)) ∧ (decode cX4_gather 55 = .ok (.aload_n 3, 1)) ∧ (decode cX4_gather 56 = .ok (.getfield 80, 3)) ∧ (decode cX4_gather 59 = .ok (.iastore, 1)) ∧ (decode cX4_gather 60 = .ok (.aload_n 0, 1)) ∧ (decode cX4_gather 61 = .ok (.getfield 18, 3)) ∧ (decode cX4_gather 64 = .ok (.aload_n 0, 1)) := by decide +kernel
theorem dX4_gather_51 : decode cX4_gather 51 = .ok (.aload_n 0, 1) := db_X4_gather_51.1
theorem dX4_gather_52 : decode cX4_gather 52 = .ok (.getfield 61, 3) := db_X4_gather_51.2.1
theorem dX4_gather_55 : decode cX4_gather 55 = .ok (.aload_n 3, 1) := db_X4_gather_51.2.2.1
theorem dX4_gather_56 : decode cX4_gather 56 = .ok (.getfield 80, 3) := db_X4_gather_51.2.2.2.1
theorem dX4_gather_59 : decode cX4_gather 59 = .ok (.iastore, 1) := db_X4_gather_51.2.2.2.2.1
theorem dX4_gather_60 : decode cX4_gather 60 = .ok (.aload_n 0, 1) := db_X4_gather_51.2.2.2.2.2.1
theorem dX4_gather_61 : decode cX4_gather 61 = .ok (.getfield 18, 3) := db_X4_gather_51.2.2.2.2.2.2.1
theorem dX4_gather_64 : decode cX4_gather 64 = .ok (.aload_n 0, 1) := db_X4_gather_51.2.2.2.2.2.2.2
set_option maxRecDepth 20000 in
theorem db_X4_gather_65 : (decode cX4_gather 65 = .ok (.getfield 61, 3)) ∧ (decode cX4_gather 68 = .ok (.aload_n 1, 1)) ∧ (decode cX4_gather 69 = .ok (.aload_n 3, 1)) ∧ (decode cX4_gather 70 = .ok (.invokestatic 83, 3)) ∧ (decode cX4_gather 73 = .ok (.iastore, 1)) ∧ (decode cX4_gather 74 = .ok (.aload_n 0, 1)) ∧ (decode cX4_gather 75 = .ok (.dup, 1)) ∧ (decode cX4_gather 76 = .ok (.getfield 61, 3)) := by decide +kernel
theorem dX4_gather_65 : decode cX4_gather 65 = .ok (.getfield 61, 3) := db_X4_gather_65.1
theorem dX4_gather_68 : decode cX4_gather 68 = .ok (.aload_n 1, 1) := db_X4_gather_65.2.1
theorem dX4_gather_69 : decode cX4_gather 69 = .ok (.aload_n 3, 1) := db_X4_gather_65.2.2.1
set_option maxRecDepth 20000 in
theorem ggX4_gather_X4_fittingPairs : GoodIn wsX4_gather wsX4_fittingPairs := goodIn_r _ [12, 13, 14, 15, 16, 17, 18, 19, 20, 21, 22, 23, 24, 25, 26, 27, 28, 29, 30, 31, 32, 33, 34, 35, 36, 37, 49, 50, 51, 52, 53, 54, 55, 67, 68, 69, 56, 57, 58, 59, 60, 61, 62, 63, 64, 65, 66, 70, 71] rfl (by decide +kernel)
set_option maxRecDepth 20000 in
theorem gX4_gather_X4_fittingPairs : GoodIn wsX4_gather (va_wsS RX4 83 yX4_fittingPairs wsX4_fittingPairs) := goodIn_app (goodIn_r _ [9, 10, 11] rfl (by decide +kernel)) ggX4_gather_X4_fittingPairs
theorem dX4_gather_70 : decode cX4_gather 70 = .ok (.invokestatic 83, 3) := db_X4_gather_65.2.2.2.1
theorem dX4_gather_73 : decode cX4_gather 73 = .ok (.iastore, 1) := db_X4_gather_65.2.2.2.2.1
theorem dX4_gather_74 : decode cX4_gather 74 = .ok (.aload_n 0, 1) := db_X4_gather_65.2.2.2.2.2.1
theorem dX4_gather_75 : decode cX4_gather 75 = .ok (.dup, 1) := db_X4_gather_65.2.2.2.2.2.2.1
theorem dX4_gather_76 : decode cX4_gather 76 = .ok (.getfield 61, 3) := db_X4_gather_65.2.2.2.2.2.2.2
set_option maxRecDepth 20000 in
theorem db_X4_gather_79 : (decode cX4_gather 79 = .ok (.iconst 1, 1)) ∧ (decode cX4_gather 80 = .ok (.iadd, 1)) ∧ (decode cX4_gather 81 = .ok (.putfield 61, 3)) := by decide +kernel
theorem dX4_gather_79 : decode cX4_gather 79 = .ok (.iconst 1, 1) := db_X4_gather_79.1
theorem dX4_gather_80 : decode cX4_gather 80 = .ok (.iadd, 1) := db_X4_gather_79.2.1
theorem dX4_gather_81 : decode cX4_gather 81 = .ok (.putfield 61, 3) := db_X4_gather_79.2.2
set_option maxRecDepth 20000 in
theorem db_X4_sortByWeight_0 : (decode cX4_sortByWeight 0 = .ok (.iconst 0, 1)) ∧ (decode cX4_sortByWeight 1 = .ok (.istore_n 1, 1)) ∧ (decode cX4_sortByWeight 2 = .ok (.iload_n 1, 1)) ∧ (decode cX4_sortByWeight 3 = .ok (.aload_n 0, 1)) ∧ (decode cX4_sortByWeight 4 = .ok (.getfield 61, 3)) ∧ (decode cX4_sortByWeight 7 = .ok (.if_icmp .ge 64, 3)) ∧ (decode cX4_sortByWeight 71 = .ok (.return_, 1)) ∧ (decode cX4_sortByWeight 10 = .ok (.iload_n 1, 1)) := by decide +kernel
theorem dX4_sortByWeight_0 : decode cX4_sortByWeight 0 = .ok (.iconst 0, 1) := db_X4_sortByWeight_0.1
theorem dX4_sortByWeight_1 : decode cX4_sortByWeight 1 = .ok (.istore_n 1, 1) := db_X4_sortByWeight_0.2.1
theorem dX4_sortByWeight_2 : decode cX4_sortByWeight 2 = .ok (.iload_n 1, 1) := db_X4_sortByWeight_0.2.2.1
theorem dX4_sortByWeight_3 : decode cX4_sortByWeight 3 = .ok (.aload_n 0, 1) := db_X4_sortByWeight_0.2.2.2.1
theorem dX4_sortByWeight_4 : decode cX4_sortByWeight 4 = .ok (.getfield 61, 3) := db_X4_sortByWeight_0.2.2.2.2.1
theorem dX4_sortByWeight_7 : decode cX4_sortByWeight 7 = .ok (.if_icmp .ge 64, 3) := db_X4_sortByWeight_0.2.2.2.2.2.1
theorem dX4_sortByWeight_71 : decode cX4_sortByWeight 71 = .ok (.return_, 1) := db_X4_sortByWeight_0.2.2.2.2.2.2.1
theorem dX4_sortByWeight_10 : decode cX4_sortByWeight 10 = .ok (.iload_n 1, 1) := db_X4_sortByWeight_0.2.2.2.2.2.2.2
set_option maxRecDepth 20000 in
theorem db_X4_sortByWeight_11 : (decode cX4_sortByWeight 11 = .ok (.istore_n 2, 1)) ∧ (decode cX4_sortByWeight 12 = .ok (.iload_n 2, 1)) ∧ (decode cX4_sortByWeight 13 = .ok (.ifCond .le 45, 3)) ∧ (decode cX4_sortByWeight 58 = .ok (.aload_n 0, 1)) ∧ (decode cX4_sortByWeight 59 = .ok (.getfield 21, 3)) ∧ (decode cX4_sortByWeight 62 = .ok (.iload_n 2, 1)) ∧ (decode cX4_sortByWeight 63 = .ok (.iload_n 1, 1)) ∧ (decode cX4_sortByWeight 64 = .ok (.iastore, 1)) := by decide +kernel
theorem dX4_sortByWeight_11 : decode cX4_sortByWeight 11 = .ok (.istore_n 2, 1) := db_X4_sortByWeight_11.1
theorem dX4_sortByWeight_12 : decode cX4_sortByWeight 12 = .ok (.iload_n 2, 1) := db_X4_sortByWeight_11.2.1
theorem dX4_sortByWeight_13 : decode cX4_sortByWeight 13 = .ok (.ifCond .le 45, 3) := db_X4_sortByWeight_11.2.2.1
theorem dX4_sortByWeight_58 : decode cX4_sortByWeight 58 = .ok (.aload_n 0, 1) := db_X4_sortByWeight_11.2.2.2.1
theorem dX4_sortByWeight_59 : decode cX4_sortByWeight 59 = .ok (.getfield 21, 3) := db_X4_sortByWeight_11.2.2.2.2.1
theorem dX4_sortByWeight_62 : decode cX4_sortByWeight 62 = .ok (.iload_n 2, 1) := db_X4_sortByWeight_11.2.2.2.2.2.1
theorem dX4_sortByWeight_63 : decode cX4_sortByWeight 63 = .ok (.iload_n 1, 1) := db_X4_sortByWeight_11.2.2.2.2.2.2.1
theorem dX4_sortByWeight_64 : decode cX4_sortByWeight 64 = .ok (.iastore, 1) := db_X4_sortByWeight_11.2.2.2.2.2.2.2
set_option maxRecDepth 20000 in
theorem db_X4_sortByWeight_65 : (decode cX4_sortByWeight 65 = .ok (.iinc 1 1, 3)) ∧ (decode cX4_sortByWeight 68 = .ok (.goto (-66), 3)) ∧ (decode cX4_sortByWeight 16 = .ok (.aload_n 0, 1)) ∧ (decode cX4_sortByWeight 17 = .ok (.getfield 15, 3)) ∧ (decode cX4_sortByWeight 20 = .ok (.aload_n 0, 1)) ∧ (decode cX4_sortByWeight 21 = .ok (.getfield 21, 3)) ∧ (decode cX4_sortByWeight 24 = .ok (.iload_n 2, 1)) ∧ (decode cX4_sortByWeight 25 = .ok (.iconst 1, 1)) := by decide +kernel
theorem dX4_sortByWeight_65 : decode cX4_sortByWeight 65 = .ok (.iinc 1 1, 3) := db_X4_sortByWeight_65.1
theorem dX4_sortByWeight_68 : decode cX4_sortByWeight 68 = .ok (.goto (-66), 3) := db_X4_sortByWeight_65.2.1
theorem dX4_sortByWeight_16 : decode cX4_sortByWeight 16 = .ok (.aload_n 0, 1) := db_X4_sortByWeight_65.2.2.1
theorem dX4_sortByWeight_17 : decode cX4_sortByWeight 17 = .ok (.getfield 15, 3) := db_X4_sortByWeight_65.2.2.2.1
theorem dX4_sortByWeight_20 : decode cX4_sortByWeight 20 = .ok (.aload_n 0, 1) := db_X4_sortByWeight_65.2.2.2.2.1
theorem dX4_sortByWeight_21 : decode cX4_sortByWeight 21 = .ok (.getfield 21, 3) := db_X4_sortByWeight_65.2.2.2.2.2.1
theorem dX4_sortByWeight_24 : decode cX4_sortByWeight 24 = .ok (.iload_n 2, 1) := db_X4_sortByWeight_65.2.2.2.2.2.2.1
theorem dX4_sortByWeight_25 : decode cX4_sortByWeight 25 = .ok (.iconst 1, 1) := db_X4_sortByWeight_65.2.2.2.2.2.2.2
set_option maxRecDepth 20000 in
theorem db_X4_sortByWeight_26 : (decode cX4_sortByWeight 26 = .ok (.isub, 1)) ∧ (decode cX4_sortByWeight 27 = .ok (.iaload, 1)) ∧ (decode cX4_sortByWeight 28 = .ok (.iaload, 1)) ∧ (decode cX4_sortByWeight 29 = .ok (.aload_n 0, 1)) ∧ (decode cX4_sortByWeight 30 = .ok (.getfield 15, 3)) ∧ (decode cX4_sortByWeight 33 = .ok (.iload_n 1, 1)) ∧ (decode cX4_sortByWeight 34 = .ok (.iaload, 1)) ∧ (decode cX4_sortByWeight 35 = .ok (.if_icmp .ge 23, 3)) := by decide +kernel
theorem dX4_sortByWeight_26 : decode cX4_sortByWeight 26 = .ok (.isub, 1) := db_X4_sortByWeight_26.1
theorem dX4_sortByWeight_27 : decode cX4_sortByWeight 27 = .ok (.iaload, 1) := db_X4_sortByWeight_26.2.1
theorem dX4_sortByWeight_28 : decode cX4_sortByWeight 28 = .ok (.iaload, 1) := db_X4_sortByWeight_26.2.2.1
theorem dX4_sortByWeight_29 : decode cX4_sortByWeight 29 = .ok (.aload_n 0, 1) := db_X4_sortByWeight_26.2.2.2.1
theorem dX4_sortByWeight_30 : decode cX4_sortByWeight 30 = .ok (.getfield 15, 3) := db_X4_sortByWeight_26.2.2.2.2.1
theorem dX4_sortByWeight_33 : decode cX4_sortByWeight 33 = .ok (.iload_n 1, 1) := db_X4_sortByWeight_26.2.2.2.2.2.1
theorem dX4_sortByWeight_34 : decode cX4_sortByWeight 34 = .ok (.iaload, 1) := db_X4_sortByWeight_26.2.2.2.2.2.2.1
theorem dX4_sortByWeight_35 : decode cX4_sortByWeight 35 = .ok (.if_icmp .ge 23, 3) := db_X4_sortByWeight_26.2.2.2.2.2.2.2
set_option maxRecDepth 20000 in
theorem db_X4_sortByWeight_38 : (decode cX4_sortByWeight 38 = .ok (.aload_n 0, 1)) ∧ (decode cX4_sortByWeight 39 = .ok (.getfield 21, 3)) ∧ (decode cX4_sortByWeight 42 = .ok (.iload_n 2, 1)) ∧ (decode cX4_sortByWeight 43 = .ok (.aload_n 0, 1)) ∧ (decode cX4_sortByWeight 44 = .ok (.getfield 21, 3)) ∧ (decode cX4_sortByWeight 47 = .ok (.iload_n 2, 1)) ∧ (decode cX4_sortByWeight 48 = .ok (.iconst 1, 1)) ∧ (decode cX4_sortByWeight 49 = .ok (.isub, 1)) := by decide +kernel
theorem dX4_sortByWeight_38 : decode cX4_sortByWeight 38 = .ok (.aload_n 0, 1) := db_X4_sortByWeight_38.1
theorem dX4_sortByWeight_39 : decode cX4_sortByWeight 39 = .ok (.getfield 21, 3) := db_X4_sortByWeight_38.2.1
theorem dX4_sortByWeight_42 : decode cX4_sortByWeight 42 = .ok (.iload_n 2, 1) := db_X4_sortByWeight_38.2.2.1
theorem dX4_sortByWeight_43 : decode cX4_sortByWeight 43 = .ok (.aload_n 0, 1) := db_X4_sortByWeight_38.2.2.2.1
theorem dX4_sortByWeight_44 : decode cX4_sortByWeight 44 = .ok (.getfield 21, 3) := db_X4_sortByWeight_38.2.2.2.2.1
theorem dX4_sortByWeight_47 : decode cX4_sortByWeight 47 = .ok (.iload_n 2, 1) := db_X4_sortByWeight_38.2.2.2.2.2.1
theorem dX4_sortByWeight_48 : decode cX4_sortByWeight 48 = .ok (.iconst 1, 1) := db_X4_sortByWeight_38.2.2.2.2.2.2.1
theorem dX4_sortByWeight_49 : decode cX4_sortByWeight 49 = .ok (.isub, 1) := db_X4_sortByWeight_38.2.2.2.2.2.2.2
set_option maxRecDepth 20000 in
theorem db_X4_sortByWeight_50 : (decode cX4_sortByWeight 50 = .ok (.iaload, 1)) ∧ (decode cX4_sortByWeight 51 = .ok (.iastore, 1)) ∧ (decode cX4_sortByWeight 52 = .ok (.iinc 2 (-1), 3)) ∧ (decode cX4_sortByWeight 55 = .ok (.goto (-43), 3)) := by decide +kernel
theorem dX4_sortByWeight_50 : decode cX4_sortByWeight 50 = .ok (.iaload, 1) := db_X4_sortByWeight_50.1
theorem dX4_sortByWeight_51 : decode cX4_sortByWeight 51 = .ok (.iastore, 1) := db_X4_sortByWeight_50.2.1
theorem dX4_sortByWeight_52 : decode cX4_sortByWeight 52 = .ok (.iinc 2 (-1), 3) := db_X4_sortByWeight_50.2.2.1
theorem dX4_sortByWeight_55 : decode cX4_sortByWeight 55 = .ok (.goto (-43), 3) := db_X4_sortByWeight_50.2.2.2
set_option maxRecDepth 20000 in
theorem db_X4_leastBehind_0 : (decode cX4_leastBehind 0 = .ok (.iconst 0, 1)) ∧ (decode cX4_leastBehind 1 = .ok (.istore_n 2, 1)) ∧ (decode cX4_leastBehind 2 = .ok (.iconst 0, 1)) ∧ (decode cX4_leastBehind 3 = .ok (.istore_n 3, 1)) ∧ (decode cX4_leastBehind 4 = .ok (.aload_n 0, 1)) ∧ (decode cX4_leastBehind 5 = .ok (.getfield 33, 3)) ∧ (decode cX4_leastBehind 8 = .ok (.iconst 0, 1)) ∧ (decode cX4_leastBehind 9 = .ok (.iaload, 1)) := by decide +kernel
theorem dX4_leastBehind_0 : decode cX4_leastBehind 0 = .ok (.iconst 0, 1) := db_X4_leastBehind_0.1
theorem dX4_leastBehind_1 : decode cX4_leastBehind 1 = .ok (.istore_n 2, 1) := db_X4_leastBehind_0.2.1
theorem dX4_leastBehind_2 : decode cX4_leastBehind 2 = .ok (.iconst 0, 1) := db_X4_leastBehind_0.2.2.1
theorem dX4_leastBehind_3 : decode cX4_leastBehind 3 = .ok (.istore_n 3, 1) := db_X4_leastBehind_0.2.2.2.1
theorem dX4_leastBehind_4 : decode cX4_leastBehind 4 = .ok (.aload_n 0, 1) := db_X4_leastBehind_0.2.2.2.2.1
theorem dX4_leastBehind_5 : decode cX4_leastBehind 5 = .ok (.getfield 33, 3) := db_X4_leastBehind_0.2.2.2.2.2.1
theorem dX4_leastBehind_8 : decode cX4_leastBehind 8 = .ok (.iconst 0, 1) := db_X4_leastBehind_0.2.2.2.2.2.2.1
theorem dX4_leastBehind_9 : decode cX4_leastBehind 9 = .ok (.iaload, 1) := db_X4_leastBehind_0.2.2.2.2.2.2.2
set_option maxRecDepth 20000 in
theorem db_X4_leastBehind_10 : (decode cX4_leastBehind 10 = .ok (.istore 4, 2)) ∧ (decode cX4_leastBehind 12 = .ok (.iconst 0, 1)) ∧ (decode cX4_leastBehind 13 = .ok (.istore 5, 2)) ∧ (decode cX4_leastBehind 15 = .ok (.iload 5, 2)) ∧ (decode cX4_leastBehind 17 = .ok (.aload_n 0, 1)) ∧ (decode cX4_leastBehind 18 = .ok (.getfield 61, 3)) ∧ (decode cX4_leastBehind 21 = .ok (.if_icmp .ge 119, 3)) ∧ (decode cX4_leastBehind 140 = .ok (.iload_n 2, 1)) := by decide +kernel
theorem dX4_leastBehind_10 : decode cX4_leastBehind 10 = .ok (.istore 4, 2) := db_X4_leastBehind_10.1
theorem dX4_leastBehind_12 : decode cX4_leastBehind 12 = .ok (.iconst 0, 1) := db_X4_leastBehind_10.2.1
theorem dX4_leastBehind_13 : decode cX4_leastBehind 13 = .ok (.istore 5, 2) := db_X4_leastBehind_10.2.2.1
theorem dX4_leastBehind_15 : decode cX4_leastBehind 15 = .ok (.iload 5, 2) := db_X4_leastBehind_10.2.2.2.1
theorem dX4_leastBehind_17 : decode cX4_leastBehind 17 = .ok (.aload_n 0, 1) := db_X4_leastBehind_10.2.2.2.2.1
theorem dX4_leastBehind_18 : decode cX4_leastBehind 18 = .ok (.getfield 61, 3) := db_X4_leastBehind_10.2.2.2.2.2.1
theorem dX4_leastBehind_21 : decode cX4_leastBehind 21 = .ok (.if_icmp .ge 119, 3) := db_X4_leastBehind_10.2.2.2.2.2.2.1
theorem dX4_leastBehind_140 : decode cX4_leastBehind 140 = .ok (.iload_n 2, 1) := db_X4_leastBehind_10.2.2.2.2.2.2.2
set_option maxRecDepth 20000 in
theorem db_X4_leastBehind_141 : (decode cX4_leastBehind 141 = .ok (.ireturn, 1)) ∧ (decode cX4_leastBehind 24 = .ok (.aload_n 0, 1)) ∧ (decode cX4_leastBehind 25 = .ok (.getfield 21, 3)) ∧ (decode cX4_leastBehind 28 = .ok (.iload 5, 2)) ∧ (decode cX4_leastBehind 30 = .ok (.iaload, 1)) ∧ (decode cX4_leastBehind 31 = .ok (.istore 6, 2)) ∧ (decode cX4_leastBehind 33 = .ok (.iload 6, 2)) ∧ (decode cX4_leastBehind 35 = .ok (.iload_n 1, 1)) := by decide +kernel
theorem dX4_leastBehind_141 : decode cX4_leastBehind 141 = .ok (.ireturn, 1) := db_X4_leastBehind_141.1
theorem dX4_leastBehind_24 : decode cX4_leastBehind 24 = .ok (.aload_n 0, 1) := db_X4_leastBehind_141.2.1
theorem dX4_leastBehind_25 : decode cX4_leastBehind 25 = .ok (.getfield 21, 3) := db_X4_leastBehind_141.2.2.1
theorem dX4_leastBehind_28 : decode cX4_leastBehind 28 = .ok (.iload 5, 2) := db_X4_leastBehind_141.2.2.2.1
theorem dX4_leastBehind_30 : decode cX4_leastBehind 30 = .ok (.iaload, 1) := db_X4_leastBehind_141.2.2.2.2.1
theorem dX4_leastBehind_31 : decode cX4_leastBehind 31 = .ok (.istore 6, 2) := db_X4_leastBehind_141.2.2.2.2.2.1
theorem dX4_leastBehind_33 : decode cX4_leastBehind 33 = .ok (.iload 6, 2) := db_X4_leastBehind_141.2.2.2.2.2.2.1
theorem dX4_leastBehind_35 : decode cX4_leastBehind 35 = .ok (.iload_n 1, 1) := db_X4_leastBehind_141.2.2.2.2.2.2.2
set_option maxRecDepth 20000 in
theorem db_X4_leastBehind_36 : (decode cX4_leastBehind 36 = .ok (.if_icmp .lt 98, 3)) ∧ (decode cX4_leastBehind 134 = .ok (.iinc 5 1, 3)) ∧ (decode cX4_leastBehind 137 = .ok (.goto (-122), 3)) ∧ (decode cX4_leastBehind 39 = .ok (.iload_n 3, 1)) ∧ (decode cX4_leastBehind 40 = .ok (.iconst 3, 1)) ∧ (decode cX4_leastBehind 41 = .ok (.if_icmp .ge 35, 3)) ∧ (decode cX4_leastBehind 76 = .ok (.iload_n 3, 1)) ∧ (decode cX4_leastBehind 77 = .ok (.iconst 3, 1)) := by decide +kernel
theorem dX4_leastBehind_36 : decode cX4_leastBehind 36 = .ok (.if_icmp .lt 98, 3) := db_X4_leastBehind_36.1
theorem dX4_leastBehind_134 : decode cX4_leastBehind 134 = .ok (.iinc 5 1, 3) := db_X4_leastBehind_36.2.1
theorem dX4_leastBehind_137 : decode cX4_leastBehind 137 = .ok (.goto (-122), 3) := db_X4_leastBehind_36.2.2.1
theorem dX4_leastBehind_39 : decode cX4_leastBehind 39 = .ok (.iload_n 3, 1) := db_X4_leastBehind_36.2.2.2.1
theorem dX4_leastBehind_40 : decode cX4_leastBehind 40 = .ok (.iconst 3, 1) := db_X4_leastBehind_36.2.2.2.2.1
theorem dX4_leastBehind_41 : decode cX4_leastBehind 41 = .ok (.if_icmp .ge 35, 3) := db_X4_leastBehind_36.2.2.2.2.2.1
theorem dX4_leastBehind_76 : decode cX4_leastBehind 76 = .ok (.iload_n 3, 1) := db_X4_leastBehind_36.2.2.2.2.2.2.1
theorem dX4_leastBehind_77 : decode cX4_leastBehind 77 = .ok (.iconst 3, 1) := db_X4_leastBehind_36.2.2.2.2.2.2.2
set_option maxRecDepth 20000 in
theorem db_X4_leastBehind_78 : (decode cX4_leastBehind 78 = .ok (.if_icmp .ge 17, 3)) ∧ (decode cX4_leastBehind 95 = .ok (.iconst 0, 1)) ∧ (decode cX4_leastBehind 96 = .ok (.istore 7, 2)) ∧ (decode cX4_leastBehind 98 = .ok (.iload_n 2, 1)) ∧ (decode cX4_leastBehind 99 = .ok (.aload_n 0, 1)) ∧ (decode cX4_leastBehind 100 = .ok (.getfield 15, 3)) ∧ (decode cX4_leastBehind 103 = .ok (.iload 6, 2)) ∧ (decode cX4_leastBehind 105 = .ok (.iaload, 1)) := by decide +kernel
theorem dX4_leastBehind_78 : decode cX4_leastBehind 78 = .ok (.if_icmp .ge 17, 3) := db_X4_leastBehind_78.1
theorem dX4_leastBehind_95 : decode cX4_leastBehind 95 = .ok (.iconst 0, 1) := db_X4_leastBehind_78.2.1
theorem dX4_leastBehind_96 : decode cX4_leastBehind 96 = .ok (.istore 7, 2) := db_X4_leastBehind_78.2.2.1
theorem dX4_leastBehind_98 : decode cX4_leastBehind 98 = .ok (.iload_n 2, 1) := db_X4_leastBehind_78.2.2.2.1
theorem dX4_leastBehind_99 : decode cX4_leastBehind 99 = .ok (.aload_n 0, 1) := db_X4_leastBehind_78.2.2.2.2.1
theorem dX4_leastBehind_100 : decode cX4_leastBehind 100 = .ok (.getfield 15, 3) := db_X4_leastBehind_78.2.2.2.2.2.1
theorem dX4_leastBehind_103 : decode cX4_leastBehind 103 = .ok (.iload 6, 2) := db_X4_leastBehind_78.2.2.2.2.2.2.1
theorem dX4_leastBehind_105 : decode cX4_leastBehind 105 = .ok (.iaload, 1) := db_X4_leastBehind_78.2.2.2.2.2.2.2
set_option maxRecDepth 20000 in
theorem db_X4_leastBehind_106 : (decode cX4_leastBehind 106 = .ok (.iload 7, 2)) ∧ (decode cX4_leastBehind 108 = .ok (.ifCond .eq 7, 3)) ∧ (decode cX4_leastBehind 115 = .ok (.iconst 4, 1)) ∧ (decode cX4_leastBehind 116 = .ok (.imul, 1)) ∧ (decode cX4_leastBehind 117 = .ok (.iadd, 1)) ∧ (decode cX4_leastBehind 118 = .ok (.istore_n 2, 1)) ∧ (decode cX4_leastBehind 119 = .ok (.iload 4, 2)) ∧ (decode cX4_leastBehind 121 = .ok (.iload 7, 2)) := by decide +kernel
theorem dX4_leastBehind_106 : decode cX4_leastBehind 106 = .ok (.iload 7, 2) := db_X4_leastBehind_106.1
theorem dX4_leastBehind_108 : decode cX4_leastBehind 108 = .ok (.ifCond .eq 7, 3) := db_X4_leastBehind_106.2.1
theorem dX4_leastBehind_115 : decode cX4_leastBehind 115 = .ok (.iconst 4, 1) := db_X4_leastBehind_106.2.2.1
theorem dX4_leastBehind_116 : decode cX4_leastBehind 116 = .ok (.imul, 1) := db_X4_leastBehind_106.2.2.2.1
theorem dX4_leastBehind_117 : decode cX4_leastBehind 117 = .ok (.iadd, 1) := db_X4_leastBehind_106.2.2.2.2.1
theorem dX4_leastBehind_118 : decode cX4_leastBehind 118 = .ok (.istore_n 2, 1) := db_X4_leastBehind_106.2.2.2.2.2.1
theorem dX4_leastBehind_119 : decode cX4_leastBehind 119 = .ok (.iload 4, 2) := db_X4_leastBehind_106.2.2.2.2.2.2.1
theorem dX4_leastBehind_121 : decode cX4_leastBehind 121 = .ok (.iload 7, 2) := db_X4_leastBehind_106.2.2.2.2.2.2.2
set_option maxRecDepth 20000 in
theorem db_X4_leastBehind_123 : (decode cX4_leastBehind 123 = .ok (.ifCond .eq 7, 3)) ∧ (decode cX4_leastBehind 130 = .ok (.iconst 0, 1)) ∧ (decode cX4_leastBehind 131 = .ok (.iadd, 1)) ∧ (decode cX4_leastBehind 132 = .ok (.istore 4, 2)) ∧ (decode cX4_leastBehind 81 = .ok (.aload_n 0, 1)) ∧ (decode cX4_leastBehind 82 = .ok (.getfield 18, 3)) ∧ (decode cX4_leastBehind 85 = .ok (.iload 6, 2)) ∧ (decode cX4_leastBehind 87 = .ok (.iaload, 1)) := by decide +kernel
theorem dX4_leastBehind_123 : decode cX4_leastBehind 123 = .ok (.ifCond .eq 7, 3) := db_X4_leastBehind_123.1
theorem dX4_leastBehind_130 : decode cX4_leastBehind 130 = .ok (.iconst 0, 1) := db_X4_leastBehind_123.2.1
theorem dX4_leastBehind_131 : decode cX4_leastBehind 131 = .ok (.iadd, 1) := db_X4_leastBehind_123.2.2.1
theorem dX4_leastBehind_132 : decode cX4_leastBehind 132 = .ok (.istore 4, 2) := db_X4_leastBehind_123.2.2.2.1
theorem dX4_leastBehind_81 : decode cX4_leastBehind 81 = .ok (.aload_n 0, 1) := db_X4_leastBehind_123.2.2.2.2.1
theorem dX4_leastBehind_82 : decode cX4_leastBehind 82 = .ok (.getfield 18, 3) := db_X4_leastBehind_123.2.2.2.2.2.1
theorem dX4_leastBehind_85 : decode cX4_leastBehind 85 = .ok (.iload 6, 2) := db_X4_leastBehind_123.2.2.2.2.2.2.1
theorem dX4_leastBehind_87 : decode cX4_leastBehind 87 = .ok (.iaload, 1) := db_X4_leastBehind_123.2.2.2.2.2.2.2
set_option maxRecDepth 20000 in
theorem db_X4_leastBehind_88 : (decode cX4_leastBehind 88 = .ok (.ifCond .eq 7, 3)) ∧ (decode cX4_leastBehind 91 = .ok (.iconst 1, 1)) ∧ (decode cX4_leastBehind 92 = .ok (.goto 4, 3)) ∧ (decode cX4_leastBehind 111 = .ok (.iload_n 3, 1)) ∧ (decode cX4_leastBehind 112 = .ok (.goto 4, 3)) ∧ (decode cX4_leastBehind 126 = .ok (.iconst 1, 1)) ∧ (decode cX4_leastBehind 127 = .ok (.goto 4, 3)) ∧ (decode cX4_leastBehind 44 = .ok (.iload 4, 2)) := by decide +kernel
theorem dX4_leastBehind_88 : decode cX4_leastBehind 88 = .ok (.ifCond .eq 7, 3) := db_X4_leastBehind_88.1
theorem dX4_leastBehind_91 : decode cX4_leastBehind 91 = .ok (.iconst 1, 1) := db_X4_leastBehind_88.2.1
theorem dX4_leastBehind_92 : decode cX4_leastBehind 92 = .ok (.goto 4, 3) := db_X4_leastBehind_88.2.2.1
theorem dX4_leastBehind_111 : decode cX4_leastBehind 111 = .ok (.iload_n 3, 1) := db_X4_leastBehind_88.2.2.2.1
theorem dX4_leastBehind_112 : decode cX4_leastBehind 112 = .ok (.goto 4, 3) := db_X4_leastBehind_88.2.2.2.2.1
theorem dX4_leastBehind_126 : decode cX4_leastBehind 126 = .ok (.iconst 1, 1) := db_X4_leastBehind_88.2.2.2.2.2.1
theorem dX4_leastBehind_127 : decode cX4_leastBehind 127 = .ok (.goto 4, 3) := db_X4_leastBehind_88.2.2.2.2.2.2.1
theorem dX4_leastBehind_44 : decode cX4_leastBehind 44 = .ok (.iload 4, 2) := db_X4_leastBehind_88.2.2.2.2.2.2.2
set_option maxRecDepth 20000 in
theorem db_X4_leastBehind_46 : (decode cX4_leastBehind 46 = .ok (.aload_n 0, 1)) ∧ (decode cX4_leastBehind 47 = .ok (.getfield 48, 3)) ∧ (decode cX4_leastBehind 50 = .ok (.if_icmp .lt 26, 3)) ∧ (decode cX4_leastBehind 53 = .ok (.iinc 3 1, 3)) ∧ (decode cX4_leastBehind 56 = .ok (.iload_n 3, 1)) ∧ (decode cX4_leastBehind 57 = .ok (.iconst 3, 1)) ∧ (decode cX4_leastBehind 58 = .ok (.if_icmp .ge 12, 3)) ∧ (decode cX4_leastBehind 70 = .ok (.iconst 0, 1)) := by decide +kernel
theorem dX4_leastBehind_46 : decode cX4_leastBehind 46 = .ok (.aload_n 0, 1) := db_X4_leastBehind_46.1
theorem dX4_leastBehind_47 : decode cX4_leastBehind 47 = .ok (.getfield 48, 3) := db_X4_leastBehind_46.2.1
theorem dX4_leastBehind_50 : decode cX4_leastBehind 50 = .ok (.if_icmp .lt 26, 3) := db_X4_leastBehind_46.2.2.1
theorem dX4_leastBehind_53 : decode cX4_leastBehind 53 = .ok (.iinc 3 1, 3) := db_X4_leastBehind_46.2.2.2.1
theorem dX4_leastBehind_56 : decode cX4_leastBehind 56 = .ok (.iload_n 3, 1) := db_X4_leastBehind_46.2.2.2.2.1
theorem dX4_leastBehind_57 : decode cX4_leastBehind 57 = .ok (.iconst 3, 1) := db_X4_leastBehind_46.2.2.2.2.2.1
theorem dX4_leastBehind_58 : decode cX4_leastBehind 58 = .ok (.if_icmp .ge 12, 3) := db_X4_leastBehind_46.2.2.2.2.2.2.1
theorem dX4_leastBehind_70 : decode cX4_leastBehind 70 = .ok (.iconst 0, 1) := db_X4_leastBehind_46.2.2.2.2.2.2.2
set_option maxRecDepth 20000 in
theorem db_X4_leastBehind_71 : (decode cX4_leastBehind 71 = .ok (.istore 4, 2)) ∧ (decode cX4_leastBehind 73 = .ok (.goto (-34), 3)) ∧ (decode cX4_leastBehind 61 = .ok (.aload_n 0, 1)) ∧ (decode cX4_leastBehind 62 = .ok (.getfield 33, 3)) ∧ (decode cX4_leastBehind 65 = .ok (.iload_n 3, 1)) ∧ (decode cX4_leastBehind 66 = .ok (.iaload, 1)) ∧ (decode cX4_leastBehind 67 = .ok (.goto 4, 3)) := by decide +kernel
theorem dX4_leastBehind_71 : decode cX4_leastBehind 71 = .ok (.istore 4, 2) := db_X4_leastBehind_71.1
theorem dX4_leastBehind_73 : decode cX4_leastBehind 73 = .ok (.goto (-34), 3) := db_X4_leastBehind_71.2.1
theorem dX4_leastBehind_61 : decode cX4_leastBehind 61 = .ok (.aload_n 0, 1) := db_X4_leastBehind_71.2.2.1
theorem dX4_leastBehind_62 : decode cX4_leastBehind 62 = .ok (.getfield 33, 3) := db_X4_leastBehind_71.2.2.2.1
theorem dX4_leastBehind_65 : decode cX4_leastBehind 65 = .ok (.iload_n 3, 1) := db_X4_leastBehind_71.2.2.2.2.1
theorem dX4_leastBehind_66 : decode cX4_leastBehind 66 = .ok (.iaload, 1) := db_X4_leastBehind_71.2.2.2.2.2.1
theorem dX4_leastBehind_67 : decode cX4_leastBehind 67 = .ok (.goto 4, 3) := db_X4_leastBehind_71.2.2.2.2.2.2
set_option maxRecDepth 20000 in
theorem db_X4_seatOf_0 : (decode cX4_seatOf 0 = .ok (.iconst 0, 1)) ∧ (decode cX4_seatOf 1 = .ok (.istore_n 2, 1)) ∧ (decode cX4_seatOf 2 = .ok (.iload_n 2, 1)) ∧ (decode cX4_seatOf 3 = .ok (.aload_n 0, 1)) ∧ (decode cX4_seatOf 4 = .ok (.getfield 61, 3)) ∧ (decode cX4_seatOf 7 = .ok (.if_icmp .ge 37, 3)) ∧ (decode cX4_seatOf 44 = .ok (.bipush (-5), 2)) ∧ (decode cX4_seatOf 46 = .ok (.ireturn, 1)) := by decide +kernel
theorem dX4_seatOf_0 : decode cX4_seatOf 0 = .ok (.iconst 0, 1) := db_X4_seatOf_0.1
theorem dX4_seatOf_1 : decode cX4_seatOf 1 = .ok (.istore_n 2, 1) := db_X4_seatOf_0.2.1
theorem dX4_seatOf_2 : decode cX4_seatOf 2 = .ok (.iload_n 2, 1) := db_X4_seatOf_0.2.2.1
theorem dX4_seatOf_3 : decode cX4_seatOf 3 = .ok (.aload_n 0, 1) := db_X4_seatOf_0.2.2.2.1
theorem dX4_seatOf_4 : decode cX4_seatOf 4 = .ok (.getfield 61, 3) := db_X4_seatOf_0.2.2.2.2.1
theorem dX4_seatOf_7 : decode cX4_seatOf 7 = .ok (.if_icmp .ge 37, 3) := db_X4_seatOf_0.2.2.2.2.2.1
theorem dX4_seatOf_44 : decode cX4_seatOf 44 = .ok (.bipush (-5), 2) := db_X4_seatOf_0.2.2.2.2.2.2.1
theorem dX4_seatOf_46 : decode cX4_seatOf 46 = .ok (.ireturn, 1) := db_X4_seatOf_0.2.2.2.2.2.2.2
set_option maxRecDepth 20000 in
theorem db_X4_seatOf_10 : (decode cX4_seatOf 10 = .ok (.aload_n 0, 1)) ∧ (decode cX4_seatOf 11 = .ok (.getfield 9, 3)) ∧ (decode cX4_seatOf 14 = .ok (.iload_n 2, 1)) ∧ (decode cX4_seatOf 15 = .ok (.iaload, 1)) ∧ (decode cX4_seatOf 16 = .ok (.iload_n 1, 1)) ∧ (decode cX4_seatOf 17 = .ok (.if_icmp .ne 21, 3)) ∧ (decode cX4_seatOf 38 = .ok (.iinc 2 1, 3)) ∧ (decode cX4_seatOf 41 = .ok (.goto (-39), 3)) := by decide +kernel
theorem dX4_seatOf_10 : decode cX4_seatOf 10 = .ok (.aload_n 0, 1) := db_X4_seatOf_10.1
theorem dX4_seatOf_11 : decode cX4_seatOf 11 = .ok (.getfield 9, 3) := db_X4_seatOf_10.2.1
theorem dX4_seatOf_14 : decode cX4_seatOf 14 = .ok (.iload_n 2, 1) := db_X4_seatOf_10.2.2.1
theorem dX4_seatOf_15 : decode cX4_seatOf 15 = .ok (.iaload, 1) := db_X4_seatOf_10.2.2.2.1
theorem dX4_seatOf_16 : decode cX4_seatOf 16 = .ok (.iload_n 1, 1) := db_X4_seatOf_10.2.2.2.2.1
theorem dX4_seatOf_17 : decode cX4_seatOf 17 = .ok (.if_icmp .ne 21, 3) := db_X4_seatOf_10.2.2.2.2.2.1
theorem dX4_seatOf_38 : decode cX4_seatOf 38 = .ok (.iinc 2 1, 3) := db_X4_seatOf_10.2.2.2.2.2.2.1
theorem dX4_seatOf_41 : decode cX4_seatOf 41 = .ok (.goto (-39), 3) := db_X4_seatOf_10.2.2.2.2.2.2.2
set_option maxRecDepth 20000 in
theorem db_X4_seatOf_20 : (decode cX4_seatOf 20 = .ok (.aload_n 0, 1)) ∧ (decode cX4_seatOf 21 = .ok (.getfield 27, 3)) ∧ (decode cX4_seatOf 24 = .ok (.iload_n 2, 1)) ∧ (decode cX4_seatOf 25 = .ok (.iaload, 1)) ∧ (decode cX4_seatOf 26 = .ok (.bipush 18, 2)) ∧ (decode cX4_seatOf 28 = .ok (.if_icmp .eq 10, 3)) ∧ (decode cX4_seatOf 31 = .ok (.aload_n 0, 1)) ∧ (decode cX4_seatOf 32 = .ok (.getfield 27, 3)) := by decide +kernel
theorem dX4_seatOf_20 : decode cX4_seatOf 20 = .ok (.aload_n 0, 1) := db_X4_seatOf_20.1
theorem dX4_seatOf_21 : decode cX4_seatOf 21 = .ok (.getfield 27, 3) := db_X4_seatOf_20.2.1
theorem dX4_seatOf_24 : decode cX4_seatOf 24 = .ok (.iload_n 2, 1) := db_X4_seatOf_20.2.2.1
theorem dX4_seatOf_25 : decode cX4_seatOf 25 = .ok (.iaload, 1) := db_X4_seatOf_20.2.2.2.1
theorem dX4_seatOf_26 : decode cX4_seatOf 26 = .ok (.bipush 18, 2) := db_X4_seatOf_20.2.2.2.2.1
theorem dX4_seatOf_28 : decode cX4_seatOf 28 = .ok (.if_icmp .eq 10, 3) := db_X4_seatOf_20.2.2.2.2.2.1
theorem dX4_seatOf_31 : decode cX4_seatOf 31 = .ok (.aload_n 0, 1) := db_X4_seatOf_20.2.2.2.2.2.2.1
theorem dX4_seatOf_32 : decode cX4_seatOf 32 = .ok (.getfield 27, 3) := db_X4_seatOf_20.2.2.2.2.2.2.2
set_option maxRecDepth 20000 in
theorem db_X4_seatOf_35 : (decode cX4_seatOf 35 = .ok (.iload_n 2, 1)) ∧ (decode cX4_seatOf 36 = .ok (.iaload, 1)) ∧ (decode cX4_seatOf 37 = .ok (.ireturn, 1)) := by decide +kernel
theorem dX4_seatOf_35 : decode cX4_seatOf 35 = .ok (.iload_n 2, 1) := db_X4_seatOf_35.1
theorem dX4_seatOf_36 : decode cX4_seatOf 36 = .ok (.iaload, 1) := db_X4_seatOf_35.2.1
theorem dX4_seatOf_37 : decode cX4_seatOf 37 = .ok (.ireturn, 1) := db_X4_seatOf_35.2.2
set_option maxHeartbeats 4000000 in
set_option maxRecDepth 100000 in
theorem g_X4_fittingPairs (l : Launch) (dC : Nat → ClassId) (dI : Nat → Nat → Nat) (cy : Nat → ClassId) (sz : Nat) (ad : Nat → Nat) (kv : Value) (N : Nat) (hN : 119 ≤ N) (v : Nat → Nat → Int32) (hv : Iv v) (i : Nat) (hi : i < 6) (t1 t2 : Nat) : Met l yX4_fittingPairs wsX4_fittingPairs ({ frames := 3, cells := 0, slots := 0, locals := 192 }) (va_Pc [.ref (ad 13), .ref (ad (29 + 15 * i))] (ex_PreT dC dI cy sz (wl ad kv cy N v) t1 t2)) (va_Qi (fun (r : Int32) (u : Nat → Nat → Int32) => Iv u ∧ Fe v u) (fun u t => ex_Pst dC dI (va_A (wl ad kv cy N v) sz) (wl ad kv cy N u) t) (va_A (wl ad kv cy N v) sz)) 0 0 (va_A (wl ad kv cy N v) sz) := by
  refine Met.ofW (cc := cX4_fittingPairs) (maxL := 4) (ret := (some .int)) (by decide) rfl ?_
  intro p e s m args below meth c s₁ B hml hv
  obtain ⟨rfl, ⟨hsz, hE, hP, hK, hD0⟩, hSt⟩ := hv
  have hx := B.exec
  have hb := B.bytes
  have hr := B.returns
  have hts := atoms_spec (ws := wsX4_fittingPairs) B.pre
  have hown : s.vm.findClass RX4 = some m.cls := findClass_of_methodNamed B.named
  have hlocks := B.notSynchronized
  subst hsz
  have hD := hD0.self (sz := s.heap.size)
  generalize hAe : va_A (wl ad kv cy N v) s.heap.size = A at hD hSt ⊢
  have hA : ∀ q : Nat, s.heap.size ≤ q → A q := fun q h => by rw [← hAe]; exact Or.inr h
  have hS : va_S A s.heap s.heap [] := va_S.rf
  have hP : va_P (dC, dI) vwCl (wl ad kv cy N v) s.heap := hP
  have hl := lv_entry ([.ref (ad 13), .ref (ad (29 + 15 * i))]) (n := 4) (Nat.le_of_ble_eq_true rfl)
  rw [lg_entry_eq]
  generalize (lg_sl ([.ref (ad 13), .ref (ad (29 + 15 * i))]) ++ List.replicate (4 - (lg_sl ([.ref (ad 13), .ref (ad (29 + 15 * i))])).length) Slot.unset).toArray = ls at hl ⊢
  have hl : lv_has ls 4 [(0, .ref (ad 13)), (1, .ref (ad (29 + 15 * i)))] := hl
  have hfr : Fe v v := Fe.rf
  refine lv_iconst (v := 0) hx hb dX4_fittingPairs_0 (by decide) ?_
  refine lv_istore_n (lv' := [(2, .int 0), (0, .ref (ad 13)), (1, .ref (ad (29 + 15 * i)))]) hx hb dX4_fittingPairs_1 rfl hl (by decide) rfl (fun ls hl => ?_)
  refine lv_iconst (v := 0) hx hb dX4_fittingPairs_2 (by decide) ?_
  refine lv_istore_n (lv' := [(3, .int 0), (2, .int 0), (0, .ref (ad 13)), (1, .ref (ad (29 + 15 * i)))]) hx hb dX4_fittingPairs_3 rfl hl (by decide) rfl (fun ls hl => ?_)
  have k_0 : (0 : Int32).toInt = 0 := by decide
  have hloop_1 : ∀ (n : Nat) (y1_3 y1_2 : Int32) (u1 : Nat → Nat → Int32) (H : Heap) (locs : List Loc), 0 ≤ y1_3.toInt → y1_3.toInt ≤ 6 → (6 - y1_3.toInt).toNat < n → Iv u1 → Fe v u1 → va_P (dC, dI) vwCl (wl ad kv cy N u1) H → va_D A (wl ad kv cy N u1) → va_S A s.heap H locs → ∀ ls : Array Slot, lv_has ls 4 [(3, .int y1_3), (2, .int y1_2), (0, .ref (ad 13)), (1, .ref (ad (29 + 15 * i)))] → W p l e (headSpec wsX4_fittingPairs ({ frames := 3, cells := 0, slots := 0, locals := 192 })).room s m [Value.ref (ad 13), Value.ref (ad (29 + 15 * i))].toArray below meth c H locs 0 0 (MQ below (va_Qi (fun (r : Int32) (u : Nat → Nat → Int32) => Iv u ∧ Fe v u) (fun u t => ex_Pst dC dI A (wl ad kv cy N u) t) A) [Value.ref (ad 13), Value.ref (ad (29 + 15 * i))].toArray s 0 0 A) (F0 m 4 ls []) := by
    intro n
    induction n with
    | zero =>
      intro y1_3 y1_2 u1 H locs ay1_3 by1_3 hm_1 hv hfr hP hD hS ls hl
      exact absurd hm_1 (by omega)
    | succ n ih_1 =>
      intro y1_3 y1_2 u1 H locs ay1_3 by1_3 hm_1 hv hfr hP hD hS ls hl
      refine lv_iload_n hx hb dX4_fittingPairs_4 rfl (lv_at hl 0 rfl) ?_
      refine lv_bipush (v := 6) hx hb dX4_fittingPairs_5 (by decide) ?_
      have k_6 : (6 : Int32).toInt = 6 := by decide
      refine lv_icmp_ge (tgt := 39) hx hb dX4_fittingPairs_7 (by decide) (fun c_2 => ?_) (fun c_2 => ?_)
      · have tc_2 : y1_3.toInt ≥ (6 : Int32).toInt := Int32.le_iff_toInt_le.mp c_2
        refine lv_iload_n hx hb dX4_fittingPairs_39 rfl (lv_at hl 1 rfl) ?_
        exact W.iret (v := y1_2) hx hb hr (fun t ht hW => ⟨⟨y1_2, u1, rfl, ⟨hv, hfr⟩, by rw [ht]; exact hP, hD⟩, hS.F ht⟩) hS.2.2 dX4_fittingPairs_40
      · have tc_2 : y1_3.toInt < (6 : Int32).toInt := Int32.lt_iff_toInt_lt.mp (Int32.not_le.mp c_2)
        refine lv_aload_n hx hb dX4_fittingPairs_10 rfl (lv_at hl 2 rfl) ?_
        refine lv_iload_n hx hb dX4_fittingPairs_11 rfl (lv_at hl 0 rfl) ?_
        refine yw_i (w1 := fun (u : Nat → Nat → Int32) => wl ad kv cy N u) hD hS hA (va_runV (As := [.int y1_3]) (rest := []) ⟨hx, hb, hml, hown, hts⟩ (g_X1_hasPair l dC dI cy _ ad kv N hN u1 hv y1_3 ⟨by omega, by omega⟩ t1 t2) (cwV 1 hts gX4_fittingPairs_X1_hasPair rfl rfl rfl hd_V_X1_hasPair_1 ⟨Nat.le_of_ble_eq_true rfl, Nat.le_of_ble_eq_true rfl⟩) ⟨ex_blindT, va_recv hK hP (ci := 1) (q := (RX1, TX1, 7)) (q0 := 13) rfl (wl_at (by omega) (ce_3 (by decide))), fun U hU hW => ⟨rfl, ((yw_preS (As := []) hE hK hP hD).2 U hU hW).2, hSt.go hS (yw_F hD hS hA) hU hW⟩⟩ rfl rfl hl.1 rfl (lv_room (Nat.le_of_ble_eq_true rfl)) dX4_fittingPairs_12 ⟨Nat.le_of_ble_eq_true rfl, Nat.le_of_ble_eq_true rfl⟩) (fun r_3 v_3 H locs hw_3 hP hD hS => ?_)
        obtain ⟨hv, hw_3⟩ := hw_3
        have hs_3 : v_3 = u1 := hw_3.1
        have hfr : Fe v v_3 := by rw [hs_3]; exact hfr
        refine lv_if_eq (tgt := 33) hx hb dX4_fittingPairs_15 (by decide) (fun c_4 => ?_) (fun c_4 => ?_)
        · have tc_4 : r_3.toInt = (0 : Int32).toInt := by rw [c_4]
          obtain ⟨x_5, ex_5⟩ : ∃ y : Int32, y = y1_3 + 1 := ⟨_, rfl⟩
          refine lv_iinc (v := x_5) (lv' := [(3, .int x_5), (2, .int y1_2), (0, .ref (ad 13)), (1, .ref (ad (29 + 15 * i)))]) hx hb dX4_fittingPairs_33 hl (k := 0) rfl (by rw [ex_5]; rfl) (by decide) rfl (fun ls hl => ?_)
          have k_1 : (1 : Int32).toInt = 1 := by decide
          have tx_5 : x_5.toInt = y1_3.toInt + (1 : Int32).toInt := by rw [ex_5]; exact t_add ⟨by omega, by omega⟩
          refine lv_goto (tgt := 4) hx hb dX4_fittingPairs_36 (by decide) ?_
          exact ih_1 x_5 y1_2 v_3 H locs (by omega) (by omega) (by omega) hv hfr hP hD hS ls (lv_sub hl [0, 1, 2, 3] rfl)
        · have tc_4 : r_3.toInt ≠ (0 : Int32).toInt := fun q => absurd (Int32.toInt_inj.mp q) c_4
          refine lv_aload_n hx hb dX4_fittingPairs_18 rfl (lv_at hl 2 rfl) ?_
          refine lv_iload_n hx hb dX4_fittingPairs_19 rfl (lv_at hl 0 rfl) ?_
          refine lv_aload_n hx hb dX4_fittingPairs_20 rfl (lv_at hl 3 rfl) ?_
          refine yw_i (w1 := fun (u : Nat → Nat → Int32) => wl ad kv cy N u) hD hS hA (va_runV (As := [.int y1_3, .ref (ad (29 + 15 * i))]) (rest := []) ⟨hx, hb, hml, hown, hts⟩ (g_X1_pairFits l dC dI cy _ ad kv N hN v_3 hv y1_3 ⟨by omega, by omega⟩ i hi t1 t2) (cwV 2 hts gX4_fittingPairs_X1_pairFits rfl rfl rfl hd_V_X1_pairFits_2 ⟨Nat.le_of_ble_eq_true rfl, Nat.le_of_ble_eq_true rfl⟩) ⟨ex_blindT, va_recv hK hP (ci := 1) (q := (RX1, TX1, 7)) (q0 := 13) rfl (wl_at (by omega) (ce_3 (by decide))), fun U hU hW => ⟨rfl, ((yw_preS (As := []) hE hK hP hD).2 U hU hW).2, hSt.go hS (yw_F hD hS hA) hU hW⟩⟩ rfl rfl hl.1 rfl (lv_room (Nat.le_of_ble_eq_true rfl)) dX4_fittingPairs_21 ⟨Nat.le_of_ble_eq_true rfl, Nat.le_of_ble_eq_true rfl⟩) (fun r_5 v_5 H locs hw_5 hP hD hS => ?_)
          obtain ⟨hv, hw_5⟩ := hw_5
          have hs_5 : v_5 = v_3 := hw_5.1
          have hfr : Fe v v_5 := by rw [hs_5]; exact hfr
          refine lv_if_eq (tgt := 33) hx hb dX4_fittingPairs_24 (by decide) (fun c_6 => ?_) (fun c_6 => ?_)
          · have tc_6 : r_5.toInt = (0 : Int32).toInt := by rw [c_6]
            obtain ⟨x_7, ex_7⟩ : ∃ y : Int32, y = y1_3 + 1 := ⟨_, rfl⟩
            refine lv_iinc (v := x_7) (lv' := [(3, .int x_7), (2, .int y1_2), (0, .ref (ad 13)), (1, .ref (ad (29 + 15 * i)))]) hx hb dX4_fittingPairs_33 hl (k := 0) rfl (by rw [ex_7]; rfl) (by decide) rfl (fun ls hl => ?_)
            have k_1 : (1 : Int32).toInt = 1 := by decide
            have tx_7 : x_7.toInt = y1_3.toInt + (1 : Int32).toInt := by rw [ex_7]; exact t_add ⟨by omega, by omega⟩
            refine lv_goto (tgt := 4) hx hb dX4_fittingPairs_36 (by decide) ?_
            exact ih_1 x_7 y1_2 v_5 H locs (by omega) (by omega) (by omega) hv hfr hP hD hS ls (lv_sub hl [0, 1, 2, 3] rfl)
          · have tc_6 : r_5.toInt ≠ (0 : Int32).toInt := fun q => absurd (Int32.toInt_inj.mp q) c_6
            refine lv_iload_n hx hb dX4_fittingPairs_27 rfl (lv_at hl 1 rfl) ?_
            refine lv_iconst (v := 1) hx hb dX4_fittingPairs_28 (by decide) ?_
            refine lv_iload_n hx hb dX4_fittingPairs_29 rfl (lv_at hl 0 rfl) ?_
            refine lv_ishl hx hb dX4_fittingPairs_30 ?_
            refine lv_topi (fun x_7 ex_7 => ?_)
            refine lv_ior hx hb dX4_fittingPairs_31 ?_
            refine lv_topi (fun x_8 ex_8 => ?_)
            refine lv_istore_n (lv' := [(2, .int x_8), (3, .int y1_3), (0, .ref (ad 13)), (1, .ref (ad (29 + 15 * i)))]) hx hb dX4_fittingPairs_32 rfl hl (by decide) rfl (fun ls hl => ?_)
            obtain ⟨x_9, ex_9⟩ : ∃ y : Int32, y = y1_3 + 1 := ⟨_, rfl⟩
            refine lv_iinc (v := x_9) (lv' := [(3, .int x_9), (2, .int x_8), (0, .ref (ad 13)), (1, .ref (ad (29 + 15 * i)))]) hx hb dX4_fittingPairs_33 hl (k := 1) rfl (by rw [ex_9]; rfl) (by decide) rfl (fun ls hl => ?_)
            have k_1 : (1 : Int32).toInt = 1 := by decide
            have tx_9 : x_9.toInt = y1_3.toInt + (1 : Int32).toInt := by rw [ex_9]; exact t_add ⟨by omega, by omega⟩
            refine lv_goto (tgt := 4) hx hb dX4_fittingPairs_36 (by decide) ?_
            exact ih_1 x_9 x_8 v_5 H locs (by omega) (by omega) (by omega) hv hfr hP hD hS ls (lv_sub hl [0, 1, 2, 3] rfl)
  exact hloop_1 ((6 - (0 : Int32).toInt).toNat + 1) 0 0 v _ _ (by omega) (by omega) (by omega) hv hfr hP hD hS ls hl

set_option maxHeartbeats 4000000 in
set_option maxRecDepth 100000 in
theorem g_X4_gather (l : Launch) (dC : Nat → ClassId) (dI : Nat → Nat → Nat) (cy : Nat → ClassId) (sz : Nat) (ad : Nat → Nat) (kv : Value) (N : Nat) (hN : 119 ≤ N) (v : Nat → Nat → Int32) (hv : Iv v)  (t1 t2 : Nat) : Met l yX4_gather wsX4_gather ({ frames := 4, cells := 0, slots := 0, locals := 256 }) (va_Pc [.ref (ad 1), .ref (ad 13)] (ex_PreT dC dI cy sz (wl ad kv cy N v) t1 t2)) (va_Qv (fun (u : Nat → Nat → Int32) => Iv u ∧ Fz v u) (fun u t => ex_Pst dC dI (va_A (wl ad kv cy N v) sz) (wl ad kv cy N u) t) (va_A (wl ad kv cy N v) sz)) 0 0 (va_A (wl ad kv cy N v) sz) := by
  refine Met.ofW (cc := cX4_gather) (maxL := 4) (ret := none) (by decide) rfl ?_
  intro p e s m args below meth c s₁ B hml hv
  obtain ⟨rfl, ⟨hsz, hE, hP, hK, hD0⟩, hSt⟩ := hv
  have hx := B.exec
  have hb := B.bytes
  have hr := B.returns
  have hts := atoms_spec (ws := wsX4_gather) B.pre
  have hown : s.vm.findClass RX4 = some m.cls := findClass_of_methodNamed B.named
  have hlocks := B.notSynchronized
  subst hsz
  have hD := hD0.self (sz := s.heap.size)
  generalize hAe : va_A (wl ad kv cy N v) s.heap.size = A at hD hSt ⊢
  have hA : ∀ q : Nat, s.heap.size ≤ q → A q := fun q h => by rw [← hAe]; exact Or.inr h
  have hS : va_S A s.heap s.heap [] := va_S.rf
  have hP : va_P (dC, dI) vwCl (wl ad kv cy N v) s.heap := hP
  have hl := lv_entry ([.ref (ad 1), .ref (ad 13)]) (n := 4) (Nat.le_of_ble_eq_true rfl)
  rw [lg_entry_eq]
  generalize (lg_sl ([.ref (ad 1), .ref (ad 13)]) ++ List.replicate (4 - (lg_sl ([.ref (ad 1), .ref (ad 13)])).length) Slot.unset).toArray = ls at hl ⊢
  have hl : lv_has ls 4 [(0, .ref (ad 1)), (1, .ref (ad 13))] := hl
  have hfr : Fz v v := Fz.rf
  refine lv_aload_n hx hb dX4_gather_0 rfl (lv_at hl 0 rfl) ?_
  refine lv_iconst (v := 0) hx hb dX4_gather_1 (by decide) ?_
  refine va_put (D := (dC, dI)) (ci := 4) (v := .int 0) (ty := .int) (C := RX4) (T := TX4) (N := 11) hx hb hts iwX4_gather_X4 tyX4 tyX4_ok nmX4 hown hK hP hD hS (1) (wl_at (by omega) (ce_1 (by decide))) rfl 1 (by decide) (hts (.fieldLink RX4 61 "QuietStairs$Planner" "count" "I") fwX4_gather_1) (fun _ h9 => h9) rfl (by decide +kernel) rfl rfl (Nat.le_of_ble_eq_true rfl) dX4_gather_2 (fun H locs hP hD hS => ?_)
  have k_0 : (0 : Int32).toInt = 0 := by decide
  obtain ⟨v_1, ev_1⟩ : ∃ u : Nat → Nat → Int32, u = upr v (1) (upd (v (1)) 1 0) := ⟨_, rfl⟩
  have hP : va_P (dC, dI) vwCl (wl ad kv cy N v_1) H := by rw [ev_1, ← wl_put (e := _) (ce_1 (by decide))]; exact hP
  have hD : va_D A (wl ad kv cy N v_1) := by rw [ev_1, ← wl_put (e := _) (ce_1 (by decide))]; exact hD
  have hv : Iv v_1 := by rw [ev_1]; exact hv.put (K := 1) (by decide) (fun h q => by cases q; exact ⟨by omega, by omega⟩)
  have hfr : Fz v v_1 := by rw [ev_1]; exact hfr.put (by omega) (by omega) (by omega)
  refine lv_iconst (v := 0) hx hb dX4_gather_5 (by decide) ?_
  refine lv_istore_n (lv' := [(2, .int 0), (0, .ref (ad 1)), (1, .ref (ad 13))]) hx hb dX4_gather_6 rfl hl (by decide) rfl (fun ls hl => ?_)
  have hloop_2 : ∀ (n : Nat) (y2_2 : Int32) (u2 : Nat → Nat → Int32) (H : Heap) (locs : List Loc), 0 ≤ y2_2.toInt → y2_2.toInt ≤ 6 → (6 - y2_2.toInt).toNat < n → Iv u2 → Fz v u2 → va_P (dC, dI) vwCl (wl ad kv cy N u2) H → va_D A (wl ad kv cy N u2) → va_S A s.heap H locs → ∀ ls : Array Slot, lv_has ls 4 [(2, .int y2_2), (0, .ref (ad 1)), (1, .ref (ad 13))] → W p l e (headSpec wsX4_gather ({ frames := 4, cells := 0, slots := 0, locals := 256 })).room s m [Value.ref (ad 1), Value.ref (ad 13)].toArray below meth c H locs 0 0 (MQ below (va_Qv (fun (u : Nat → Nat → Int32) => Iv u ∧ Fz v u) (fun u t => ex_Pst dC dI A (wl ad kv cy N u) t) A) [Value.ref (ad 1), Value.ref (ad 13)].toArray s 0 0 A) (F0 m 7 ls []) := by
    intro n
    induction n with
    | zero =>
      intro y2_2 u2 H locs ay2_2 by2_2 hm_2 hv hfr hP hD hS ls hl
      exact absurd hm_2 (by omega)
    | succ n ih_2 =>
      intro y2_2 u2 H locs ay2_2 by2_2 hm_2 hv hfr hP hD hS ls hl
      refine lv_iload_n hx hb dX4_gather_7 rfl (lv_at hl 0 rfl) ?_
      refine lv_aload_n hx hb dX4_gather_8 rfl (lv_at hl 2 rfl) ?_
      refine va_get (D := (dC, dI)) (ci := 1) (v := .int (u2 (13) 2)) (C := RX1) (T := TX1) (N := 7) hx hb hts iwX4_gather_X1 hown hK hP (13) (wl_at (by omega) (ce_3 (by decide))) rfl 2 (by decide) (hts (.fieldLink RX4 68 "QuietStairs$House" "caseCount" "I") fwX4_gather_2) (fun _ h9 => h9) rfl dX4_gather_9 ?_
      refine lv_topi (fun x_3 ex_3 => ?_)
      have bx_3 : 0 ≤ x_3.toInt ∧ x_3.toInt ≤ 6 := by rw [ex_3]; exact hv.at (K := 3) (by decide) rfl
      refine lv_icmp_ge (tgt := 90) hx hb dX4_gather_12 (by decide) (fun c_4 => ?_) (fun c_4 => ?_)
      · have tc_4 : y2_2.toInt ≥ x_3.toInt := Int32.le_iff_toInt_le.mp c_4
        exact W.vret hx hb hr (fun t ht hW => ⟨⟨u2, rfl, ⟨hv, hfr⟩, by rw [ht]; exact hP, hD⟩, hS.F ht⟩) hS.2.2 dX4_gather_90
      · have tc_4 : y2_2.toInt < x_3.toInt := Int32.lt_iff_toInt_lt.mp (Int32.not_le.mp c_4)
        refine lv_aload_n hx hb dX4_gather_15 rfl (lv_at hl 1 rfl) ?_
        refine va_get (D := (dC, dI)) (ci := 4) (v := .int (u2 (1) 1)) (C := RX4) (T := TX4) (N := 11) hx hb hts iwX4_gather_X4 hown hK hP (1) (wl_at (by omega) (ce_1 (by decide))) rfl 1 (by decide) (hts (.fieldLink RX4 61 "QuietStairs$Planner" "count" "I") fwX4_gather_1) (fun _ h9 => h9) rfl dX4_gather_16 ?_
        refine lv_topi (fun x_5 ex_5 => ?_)
        have bx_5 : 0 ≤ x_5.toInt ∧ x_5.toInt ≤ 4 := by rw [ex_5]; exact hv.at (K := 1) (by decide) rfl
        refine lv_iconst (v := 4) hx hb dX4_gather_19 (by decide) ?_
        have k_4 : (4 : Int32).toInt = 4 := by decide
        refine lv_icmp_ge (tgt := 90) hx hb dX4_gather_20 (by decide) (fun c_6 => ?_) (fun c_6 => ?_)
        · have tc_6 : x_5.toInt ≥ (4 : Int32).toInt := Int32.le_iff_toInt_le.mp c_6
          exact W.vret hx hb hr (fun t ht hW => ⟨⟨u2, rfl, ⟨hv, hfr⟩, by rw [ht]; exact hP, hD⟩, hS.F ht⟩) hS.2.2 dX4_gather_90
        · have tc_6 : x_5.toInt < (4 : Int32).toInt := Int32.lt_iff_toInt_lt.mp (Int32.not_le.mp c_6)
          refine lv_aload_n hx hb dX4_gather_23 rfl (lv_at hl 2 rfl) ?_
          refine va_get (D := (dC, dI)) (ci := 1) (v := .ref (ad 16)) (C := RX1) (T := TX1) (N := 7) hx hb hts iwX4_gather_X1 hown hK hP (13) (wl_at (by omega) (ce_3 (by decide))) rfl 6 (by decide) (hts (.fieldLink RX4 71 "QuietStairs$House" "cases" "[LQuietStairs$Case;") fwX4_gather_3) (fun _ h9 => h9) rfl dX4_gather_24 ?_
          refine lv_iload_n hx hb dX4_gather_27 rfl (lv_at hl 0 rfl) ?_
          obtain ⟨pi7, i7, hi7, ni7, mi7⟩ := t_in (x := y2_2) (n := 6) ⟨by omega, by omega⟩
          refine va_aldq hx hb hK hP (16) 3 (wl_at (by omega) (ce_6 (by decide))) rfl pi7 dX4_gather_28 ?_
          refine W.eq (g2 := F0 m 29 ls [.ref (ad (29 + 15 * i7))]) (by rw [ni7, if_pos hi7, show 16 + 13 + 15 * i7 = 29 + 15 * i7 from by omega]; rfl) ?_
          refine lv_astore_n (lv' := [(3, .ref (ad (29 + 15 * i7))), (2, .int y2_2), (0, .ref (ad 1)), (1, .ref (ad 13))]) hx hb dX4_gather_29 rfl hl (by decide) rfl (fun ls hl => ?_)
          refine lv_aload_n hx hb dX4_gather_30 rfl (lv_at hl 0 rfl) ?_
          refine va_get (D := (dC, dI)) (ci := 0) (v := .int (u2 (29 + 15 * i7) 0)) (C := RX0) (T := TX0) (N := 11) hx hb hts iwX4_gather_X0 hown hK hP (29 + 15 * i7) (wl_at (by omega) (ce_9 (kd_c i7 hi7).1.1)) rfl 0 (by decide) (hts (.fieldLink RX4 75 "QuietStairs$Case" "state" "I") fwX4_gather_4) (fun _ h9 => h9) rfl dX4_gather_31 ?_
          refine lv_topi (fun x_8 ex_8 => ?_)
          refine lv_if_ne (tgt := 84) hx hb dX4_gather_34 (by decide) (fun c_9 => ?_) (fun c_9 => ?_)
          · have tc_9 : x_8.toInt ≠ (0 : Int32).toInt := fun q => absurd (Int32.toInt_inj.mp q) c_9
            obtain ⟨x_10, ex_10⟩ : ∃ y : Int32, y = y2_2 + 1 := ⟨_, rfl⟩
            refine lv_iinc (v := x_10) (lv' := [(2, .int x_10), (3, .ref (ad (29 + 15 * i7))), (0, .ref (ad 1)), (1, .ref (ad 13))]) hx hb dX4_gather_84 hl (k := 1) rfl (by rw [ex_10]; rfl) (by decide) rfl (fun ls hl => ?_)
            have k_1 : (1 : Int32).toInt = 1 := by decide
            have tx_10 : x_10.toInt = y2_2.toInt + (1 : Int32).toInt := by rw [ex_10]; exact t_add ⟨by omega, by omega⟩
            refine lv_goto (tgt := 7) hx hb dX4_gather_87 (by decide) ?_
            exact ih_2 x_10 u2 H locs (by omega) (by omega) (by omega) hv hfr hP hD hS ls (lv_sub hl [0, 2, 3] rfl)
          · have tc_9 : x_8.toInt = (0 : Int32).toInt := by rw [c_9]
            refine lv_aload_n hx hb dX4_gather_37 rfl (lv_at hl 2 rfl) ?_
            refine va_get (D := (dC, dI)) (ci := 4) (v := .ref (ad 2)) (C := RX4) (T := TX4) (N := 11) hx hb hts iwX4_gather_X4 hown hK hP (1) (wl_at (by omega) (ce_1 (by decide))) rfl 3 (by decide) (hts (.fieldLink RX4 9 "QuietStairs$Planner" "numbers" "[I") fwX4_gather_5) (fun _ h9 => h9) rfl dX4_gather_38 ?_
            refine lv_aload_n hx hb dX4_gather_41 rfl (lv_at hl 2 rfl) ?_
            refine va_get (D := (dC, dI)) (ci := 4) (v := .int (u2 (1) 1)) (C := RX4) (T := TX4) (N := 11) hx hb hts iwX4_gather_X4 hown hK hP (1) (wl_at (by omega) (ce_1 (by decide))) rfl 1 (by decide) (hts (.fieldLink RX4 61 "QuietStairs$Planner" "count" "I") fwX4_gather_1) (fun _ h9 => h9) rfl dX4_gather_42 ?_
            refine lv_topi (fun x_10 ex_10 => ?_)
            rw [← ex_5] at ex_10; replace ex_10 := ex_10.symm; subst ex_10
            refine lv_iload_n hx hb dX4_gather_45 rfl (lv_at hl 1 rfl) ?_
            obtain ⟨pi11, i11, hi11, ni11, mi11⟩ := t_in (x := x_5) (n := 4) ⟨by omega, by omega⟩
            refine va_iast hx hb hK hP hD hS (2) 0 (wl_at (by omega) (ce_17 (by decide))) rfl pi11 dX4_gather_46 (fun H locs hP hD hS => ?_)
            obtain ⟨v_12, ev_12⟩ : ∃ u : Nat → Nat → Int32, u = upr u2 (2) (upd (u2 (2)) (x_5.toNatClampNeg) y2_2) := ⟨_, rfl⟩
            have hP : va_P (dC, dI) vwCl (wl ad kv cy N v_12) H := by rw [ev_12, ← wl_put (e := _) (ce_17 (by decide))]; exact hP
            have hD : va_D A (wl ad kv cy N v_12) := by rw [ev_12, ← wl_put (e := _) (ce_17 (by decide))]; exact hD
            have hv : Iv v_12 := by rw [ev_12]; exact hv.put (K := 17) (by decide) (fun h q => by simp [bd] at q)
            have hfr : Fz v v_12 := by rw [ev_12]; exact hfr.put (by omega) (by omega) (by omega)
            refine lv_aload_n hx hb dX4_gather_47 rfl (lv_at hl 2 rfl) ?_
            refine va_get (D := (dC, dI)) (ci := 4) (v := .ref (ad 3)) (C := RX4) (T := TX4) (N := 11) hx hb hts iwX4_gather_X4 hown hK hP (1) (wl_at (by omega) (ce_1 (by decide))) rfl 4 (by decide) (hts (.fieldLink RX4 15 "QuietStairs$Planner" "weights" "[I") fwX4_gather_6) (fun _ h9 => h9) rfl dX4_gather_48 ?_
            refine lv_aload_n hx hb dX4_gather_51 rfl (lv_at hl 2 rfl) ?_
            refine va_get (D := (dC, dI)) (ci := 4) (v := .int (v_12 (1) 1)) (C := RX4) (T := TX4) (N := 11) hx hb hts iwX4_gather_X4 hown hK hP (1) (wl_at (by omega) (ce_1 (by decide))) rfl 1 (by decide) (hts (.fieldLink RX4 61 "QuietStairs$Planner" "count" "I") fwX4_gather_1) (fun _ h9 => h9) rfl dX4_gather_52 ?_
            refine lv_topi (fun x_13 ex_13 => ?_)
            rw [ev_12, upr_n (by omega)] at ex_13
            rw [← ex_5] at ex_13; replace ex_13 := ex_13.symm; subst ex_13
            refine lv_aload_n hx hb dX4_gather_55 rfl (lv_at hl 0 rfl) ?_
            refine va_get (D := (dC, dI)) (ci := 0) (v := .int (v_12 (29 + 15 * i7) 3)) (C := RX0) (T := TX0) (N := 11) hx hb hts iwX4_gather_X0 hown hK hP (29 + 15 * i7) (wl_at (by omega) (ce_9 (kd_c i7 hi7).1.1)) rfl 3 (by decide) (hts (.fieldLink RX4 80 "QuietStairs$Case" "weight" "I") fwX4_gather_7) (fun _ h9 => h9) rfl dX4_gather_56 ?_
            refine lv_topi (fun x_14 ex_14 => ?_)
            refine va_iast hx hb hK hP hD hS (3) 0 (wl_at (by omega) (ce_17 (by decide))) rfl pi11 dX4_gather_59 (fun H locs hP hD hS => ?_)
            obtain ⟨v_15, ev_15⟩ : ∃ u : Nat → Nat → Int32, u = upr v_12 (3) (upd (v_12 (3)) (x_5.toNatClampNeg) x_14) := ⟨_, rfl⟩
            have hP : va_P (dC, dI) vwCl (wl ad kv cy N v_15) H := by rw [ev_15, ← wl_put (e := _) (ce_17 (by decide))]; exact hP
            have hD : va_D A (wl ad kv cy N v_15) := by rw [ev_15, ← wl_put (e := _) (ce_17 (by decide))]; exact hD
            have hv : Iv v_15 := by rw [ev_15]; exact hv.put (K := 17) (by decide) (fun h q => by simp [bd] at q)
            have hfr : Fz v v_15 := by rw [ev_15]; exact hfr.put (by omega) (by omega) (by omega)
            refine lv_aload_n hx hb dX4_gather_60 rfl (lv_at hl 2 rfl) ?_
            refine va_get (D := (dC, dI)) (ci := 4) (v := .ref (ad 4)) (C := RX4) (T := TX4) (N := 11) hx hb hts iwX4_gather_X4 hown hK hP (1) (wl_at (by omega) (ce_1 (by decide))) rfl 5 (by decide) (hts (.fieldLink RX4 18 "QuietStairs$Planner" "pairBits" "[I") fwX4_gather_8) (fun _ h9 => h9) rfl dX4_gather_61 ?_
            refine lv_aload_n hx hb dX4_gather_64 rfl (lv_at hl 2 rfl) ?_
            refine va_get (D := (dC, dI)) (ci := 4) (v := .int (v_15 (1) 1)) (C := RX4) (T := TX4) (N := 11) hx hb hts iwX4_gather_X4 hown hK hP (1) (wl_at (by omega) (ce_1 (by decide))) rfl 1 (by decide) (hts (.fieldLink RX4 61 "QuietStairs$Planner" "count" "I") fwX4_gather_1) (fun _ h9 => h9) rfl dX4_gather_65 ?_
            refine lv_topi (fun x_16 ex_16 => ?_)
            rw [ev_15, upr_n (by omega)] at ex_16
            rw [ev_12, upr_n (by omega)] at ex_16
            rw [← ex_5] at ex_16; replace ex_16 := ex_16.symm; subst ex_16
            refine lv_aload_n hx hb dX4_gather_68 rfl (lv_at hl 3 rfl) ?_
            refine lv_aload_n hx hb dX4_gather_69 rfl (lv_at hl 0 rfl) ?_
            refine yw_i (w1 := fun (u : Nat → Nat → Int32) => wl ad kv cy N u) hD hS hA (va_runS (As := [.ref (ad 13), .ref (ad (29 + 15 * i7))]) (rest := [.int x_5, .ref (ad 4)]) ⟨hx, hb, hml, hown, hts⟩ (g_X4_fittingPairs l dC dI cy _ ad kv N hN v_15 hv i7 hi7 t1 t2) (cwS 2 hts gX4_gather_X4_fittingPairs rfl rfl rfl hd_S_X4_fittingPairs_2 ⟨Nat.le_of_ble_eq_true rfl, Nat.le_of_ble_eq_true rfl⟩) ⟨ex_blindT, fun U hU hW => ⟨rfl, ((yw_preS (As := []) hE hK hP hD).2 U hU hW).2, hSt.go hS (yw_F hD hS hA) hU hW⟩⟩ rfl rfl hl.1 rfl (lv_room (Nat.le_of_ble_eq_true rfl)) dX4_gather_70 ⟨Nat.le_of_ble_eq_true rfl, Nat.le_of_ble_eq_true rfl⟩) (fun r_17 v_17 H locs hw_17 hP hD hS => ?_)
            obtain ⟨hv, hw_17⟩ := hw_17
            have hs_17 : v_17 = v_15 := hw_17
            have hfr : Fz v v_17 := by rw [hs_17]; exact hfr
            refine va_iast hx hb hK hP hD hS (4) 0 (wl_at (by omega) (ce_17 (by decide))) rfl pi11 dX4_gather_73 (fun H locs hP hD hS => ?_)
            obtain ⟨v_18, ev_18⟩ : ∃ u : Nat → Nat → Int32, u = upr v_17 (4) (upd (v_17 (4)) (x_5.toNatClampNeg) r_17) := ⟨_, rfl⟩
            have hP : va_P (dC, dI) vwCl (wl ad kv cy N v_18) H := by rw [ev_18, ← wl_put (e := _) (ce_17 (by decide))]; exact hP
            have hD : va_D A (wl ad kv cy N v_18) := by rw [ev_18, ← wl_put (e := _) (ce_17 (by decide))]; exact hD
            have hv : Iv v_18 := by rw [ev_18]; exact hv.put (K := 17) (by decide) (fun h q => by simp [bd] at q)
            have hfr : Fz v v_18 := by rw [ev_18]; exact hfr.put (by omega) (by omega) (by omega)
            refine lv_aload_n hx hb dX4_gather_74 rfl (lv_at hl 2 rfl) ?_
            refine lv_dup hx hb dX4_gather_75 rfl ?_
            refine va_get (D := (dC, dI)) (ci := 4) (v := .int (v_18 (1) 1)) (C := RX4) (T := TX4) (N := 11) hx hb hts iwX4_gather_X4 hown hK hP (1) (wl_at (by omega) (ce_1 (by decide))) rfl 1 (by decide) (hts (.fieldLink RX4 61 "QuietStairs$Planner" "count" "I") fwX4_gather_1) (fun _ h9 => h9) rfl dX4_gather_76 ?_
            refine lv_topi (fun x_19 ex_19 => ?_)
            rw [ev_18, upr_n (by omega)] at ex_19
            rw [hs_17] at ex_19
            rw [ev_15, upr_n (by omega)] at ex_19
            rw [ev_12, upr_n (by omega)] at ex_19
            rw [← ex_5] at ex_19; replace ex_19 := ex_19.symm; subst ex_19
            refine lv_iconst (v := 1) hx hb dX4_gather_79 (by decide) ?_
            have k_1 : (1 : Int32).toInt = 1 := by decide
            refine lv_iadd hx hb dX4_gather_80 ?_
            refine lv_topi (fun x_20 ex_20 => ?_)
            have tx_20 : x_20.toInt = x_5.toInt + (1 : Int32).toInt := by rw [ex_20]; exact t_add ⟨by omega, by omega⟩
            refine va_put (D := (dC, dI)) (ci := 4) (v := .int x_20) (ty := .int) (C := RX4) (T := TX4) (N := 11) hx hb hts iwX4_gather_X4 tyX4 tyX4_ok nmX4 hown hK hP hD hS (1) (wl_at (by omega) (ce_1 (by decide))) rfl 1 (by decide) (hts (.fieldLink RX4 61 "QuietStairs$Planner" "count" "I") fwX4_gather_1) (fun _ h9 => h9) rfl (by decide +kernel) rfl rfl (Nat.le_of_ble_eq_true rfl) dX4_gather_81 (fun H locs hP hD hS => ?_)
            obtain ⟨v_21, ev_21⟩ : ∃ u : Nat → Nat → Int32, u = upr v_18 (1) (upd (v_18 (1)) 1 x_20) := ⟨_, rfl⟩
            have hP : va_P (dC, dI) vwCl (wl ad kv cy N v_21) H := by rw [ev_21, ← wl_put (e := _) (ce_1 (by decide))]; exact hP
            have hD : va_D A (wl ad kv cy N v_21) := by rw [ev_21, ← wl_put (e := _) (ce_1 (by decide))]; exact hD
            have hv : Iv v_21 := by rw [ev_21]; exact hv.put (K := 1) (by decide) (fun h q => by cases q; exact ⟨by omega, by omega⟩)
            have hfr : Fz v v_21 := by rw [ev_21]; exact hfr.put (by omega) (by omega) (by omega)
            obtain ⟨x_22, ex_22⟩ : ∃ y : Int32, y = y2_2 + 1 := ⟨_, rfl⟩
            refine lv_iinc (v := x_22) (lv' := [(2, .int x_22), (3, .ref (ad (29 + 15 * i7))), (0, .ref (ad 1)), (1, .ref (ad 13))]) hx hb dX4_gather_84 hl (k := 1) rfl (by rw [ex_22]; rfl) (by decide) rfl (fun ls hl => ?_)
            have tx_22 : x_22.toInt = y2_2.toInt + (1 : Int32).toInt := by rw [ex_22]; exact t_add ⟨by omega, by omega⟩
            refine lv_goto (tgt := 7) hx hb dX4_gather_87 (by decide) ?_
            exact ih_2 x_22 v_21 H locs (by omega) (by omega) (by omega) hv hfr hP hD hS ls (lv_sub hl [0, 2, 3] rfl)
  exact hloop_2 ((6 - (0 : Int32).toInt).toNat + 1) 0 v_1 _ _ (by omega) (by omega) (by omega) hv hfr hP hD hS ls hl

set_option maxHeartbeats 4000000 in
set_option maxRecDepth 100000 in
theorem g_X4_sortByWeight (l : Launch) (dC : Nat → ClassId) (dI : Nat → Nat → Nat) (cy : Nat → ClassId) (sz : Nat) (ad : Nat → Nat) (kv : Value) (N : Nat) (hN : 119 ≤ N) (v : Nat → Nat → Int32) (hv : Iv v)  : Met l yX4_sortByWeight wsX4_sortByWeight ({ frames := 0, cells := 0, slots := 0, locals := 0 }) (va_Pc [.ref (ad 1)] (ex_Pre dC dI cy sz (wl ad kv cy N v))) (va_Qv (fun (u : Nat → Nat → Int32) => Iv u ∧ Fz v u) (fun u t => ex_Pst dC dI (va_A (wl ad kv cy N v) sz) (wl ad kv cy N u) t) (va_A (wl ad kv cy N v) sz)) 0 0 (va_A (wl ad kv cy N v) sz) := by
  refine Met.ofW (cc := cX4_sortByWeight) (maxL := 3) (ret := none) (by decide) rfl ?_
  intro p e s m args below meth c s₁ B hml hv
  obtain ⟨rfl, hsz, hE, hP, hK, hD0⟩ := hv
  have hx := B.exec
  have hb := B.bytes
  have hr := B.returns
  have hts := atoms_spec (ws := wsX4_sortByWeight) B.pre
  have hown : s.vm.findClass RX4 = some m.cls := findClass_of_methodNamed B.named
  have hlocks := B.notSynchronized
  subst hsz
  have hD := hD0.self (sz := s.heap.size)
  generalize hAe : va_A (wl ad kv cy N v) s.heap.size = A at hD ⊢
  have hA : ∀ q : Nat, s.heap.size ≤ q → A q := fun q h => by rw [← hAe]; exact Or.inr h
  have hS : va_S A s.heap s.heap [] := va_S.rf
  have hP : va_P (dC, dI) vwCl (wl ad kv cy N v) s.heap := hP
  have hl := lv_entry ([.ref (ad 1)]) (n := 3) (Nat.le_of_ble_eq_true rfl)
  rw [lg_entry_eq]
  generalize (lg_sl ([.ref (ad 1)]) ++ List.replicate (3 - (lg_sl ([.ref (ad 1)])).length) Slot.unset).toArray = ls at hl ⊢
  have hl : lv_has ls 3 [(0, .ref (ad 1))] := hl
  have hfr : Fz v v := Fz.rf
  refine lv_iconst (v := 0) hx hb dX4_sortByWeight_0 (by decide) ?_
  refine lv_istore_n (lv' := [(1, .int 0), (0, .ref (ad 1))]) hx hb dX4_sortByWeight_1 rfl hl (by decide) rfl (fun ls hl => ?_)
  have k_0 : (0 : Int32).toInt = 0 := by decide
  have hloop_1 : ∀ (n : Nat) (y1_1 : Int32) (u1 : Nat → Nat → Int32) (H : Heap) (locs : List Loc), 0 ≤ y1_1.toInt → y1_1.toInt ≤ 4 → (4 - y1_1.toInt).toNat < n → Iv u1 → Fz v u1 → va_P (dC, dI) vwCl (wl ad kv cy N u1) H → va_D A (wl ad kv cy N u1) → va_S A s.heap H locs → ∀ ls : Array Slot, lv_has ls 3 [(1, .int y1_1), (0, .ref (ad 1))] → W p l e (headSpec wsX4_sortByWeight ({ frames := 0, cells := 0, slots := 0, locals := 0 })).room s m [Value.ref (ad 1)].toArray below meth c H locs 0 0 (MQ below (va_Qv (fun (u : Nat → Nat → Int32) => Iv u ∧ Fz v u) (fun u t => ex_Pst dC dI A (wl ad kv cy N u) t) A) [Value.ref (ad 1)].toArray s 0 0 A) (F0 m 2 ls []) := by
    intro n
    induction n with
    | zero =>
      intro y1_1 u1 H locs ay1_1 by1_1 hm_1 hv hfr hP hD hS ls hl
      exact absurd hm_1 (by omega)
    | succ n ih_1 =>
      intro y1_1 u1 H locs ay1_1 by1_1 hm_1 hv hfr hP hD hS ls hl
      refine lv_iload_n hx hb dX4_sortByWeight_2 rfl (lv_at hl 0 rfl) ?_
      refine lv_aload_n hx hb dX4_sortByWeight_3 rfl (lv_at hl 1 rfl) ?_
      refine va_get (D := (dC, dI)) (ci := 4) (v := .int (u1 (1) 1)) (C := RX4) (T := TX4) (N := 11) hx hb hts iwX4_sortByWeight_X4 hown hK hP (1) (wl_at (by omega) (ce_1 (by decide))) rfl 1 (by decide) (hts (.fieldLink RX4 61 "QuietStairs$Planner" "count" "I") fwX4_sortByWeight_1) (fun _ h9 => h9) rfl dX4_sortByWeight_4 ?_
      refine lv_topi (fun x_2 ex_2 => ?_)
      have bx_2 : 0 ≤ x_2.toInt ∧ x_2.toInt ≤ 4 := by rw [ex_2]; exact hv.at (K := 1) (by decide) rfl
      refine lv_icmp_ge (tgt := 71) hx hb dX4_sortByWeight_7 (by decide) (fun c_3 => ?_) (fun c_3 => ?_)
      · have tc_3 : y1_1.toInt ≥ x_2.toInt := Int32.le_iff_toInt_le.mp c_3
        exact W.vret hx hb hr (fun t ht hW => ⟨⟨u1, rfl, ⟨hv, hfr⟩, by rw [ht]; exact hP, hD⟩, hS.F ht⟩) hS.2.2 dX4_sortByWeight_71
      · have tc_3 : y1_1.toInt < x_2.toInt := Int32.lt_iff_toInt_lt.mp (Int32.not_le.mp c_3)
        refine lv_iload_n hx hb dX4_sortByWeight_10 rfl (lv_at hl 0 rfl) ?_
        refine lv_istore_n (lv' := [(2, .int y1_1), (1, .int y1_1), (0, .ref (ad 1))]) hx hb dX4_sortByWeight_11 rfl hl (by decide) rfl (fun ls hl => ?_)
        have hloop_4 : ∀ (n : Nat) (y4_2 : Int32) (u4 : Nat → Nat → Int32) (H : Heap) (locs : List Loc), 0 ≤ y4_2.toInt → y4_2.toInt ≤ 3 → y4_2.toInt.toNat < n → Iv u4 → Fz v u4 → va_P (dC, dI) vwCl (wl ad kv cy N u4) H → va_D A (wl ad kv cy N u4) → va_S A s.heap H locs → ∀ ls : Array Slot, lv_has ls 3 [(2, .int y4_2), (1, .int y1_1), (0, .ref (ad 1))] → W p l e (headSpec wsX4_sortByWeight ({ frames := 0, cells := 0, slots := 0, locals := 0 })).room s m [Value.ref (ad 1)].toArray below meth c H locs 0 0 (MQ below (va_Qv (fun (u : Nat → Nat → Int32) => Iv u ∧ Fz v u) (fun u t => ex_Pst dC dI A (wl ad kv cy N u) t) A) [Value.ref (ad 1)].toArray s 0 0 A) (F0 m 12 ls []) := by
          intro n
          induction n with
          | zero =>
            intro y4_2 u4 H locs ay4_2 by4_2 hm_4 hv hfr hP hD hS ls hl
            exact absurd hm_4 (by omega)
          | succ n ih_4 =>
            intro y4_2 u4 H locs ay4_2 by4_2 hm_4 hv hfr hP hD hS ls hl
            refine lv_iload_n hx hb dX4_sortByWeight_12 rfl (lv_at hl 0 rfl) ?_
            refine lv_if_le (tgt := 58) hx hb dX4_sortByWeight_13 (by decide) (fun c_5 => ?_) (fun c_5 => ?_)
            · have tc_5 : y4_2.toInt ≤ (0 : Int32).toInt := Int32.le_iff_toInt_le.mp c_5
              refine lv_aload_n hx hb dX4_sortByWeight_58 rfl (lv_at hl 2 rfl) ?_
              refine va_get (D := (dC, dI)) (ci := 4) (v := .ref (ad 5)) (C := RX4) (T := TX4) (N := 11) hx hb hts iwX4_sortByWeight_X4 hown hK hP (1) (wl_at (by omega) (ce_1 (by decide))) rfl 6 (by decide) (hts (.fieldLink RX4 21 "QuietStairs$Planner" "heaviestFirst" "[I") fwX4_sortByWeight_3) (fun _ h9 => h9) rfl dX4_sortByWeight_59 ?_
              refine lv_iload_n hx hb dX4_sortByWeight_62 rfl (lv_at hl 0 rfl) ?_
              refine lv_iload_n hx hb dX4_sortByWeight_63 rfl (lv_at hl 1 rfl) ?_
              obtain ⟨pi6, i6, hi6, ni6, mi6⟩ := t_in (x := y4_2) (n := 4) ⟨by omega, by omega⟩
              refine va_iast hx hb hK hP hD hS (5) 0 (wl_at (by omega) (ce_21 (by decide))) rfl pi6 dX4_sortByWeight_64 (fun H locs hP hD hS => ?_)
              obtain ⟨v_7, ev_7⟩ : ∃ u : Nat → Nat → Int32, u = upr u4 (5) (upd (u4 (5)) (y4_2.toNatClampNeg) y1_1) := ⟨_, rfl⟩
              have hP : va_P (dC, dI) vwCl (wl ad kv cy N v_7) H := by rw [ev_7, ← wl_put (e := _) (ce_21 (by decide))]; exact hP
              have hD : va_D A (wl ad kv cy N v_7) := by rw [ev_7, ← wl_put (e := _) (ce_21 (by decide))]; exact hD
              have hv : Iv v_7 := by rw [ev_7]; exact hv.put (K := 21) (by decide) (fun h q => by cases q; exact ⟨by omega, by omega⟩)
              have hfr : Fz v v_7 := by rw [ev_7]; exact hfr.put (by omega) (by omega) (by omega)
              obtain ⟨x_8, ex_8⟩ : ∃ y : Int32, y = y1_1 + 1 := ⟨_, rfl⟩
              refine lv_iinc (v := x_8) (lv' := [(1, .int x_8), (2, .int y4_2), (0, .ref (ad 1))]) hx hb dX4_sortByWeight_65 hl (k := 1) rfl (by rw [ex_8]; rfl) (by decide) rfl (fun ls hl => ?_)
              have k_1 : (1 : Int32).toInt = 1 := by decide
              have tx_8 : x_8.toInt = y1_1.toInt + (1 : Int32).toInt := by rw [ex_8]; exact t_add ⟨by omega, by omega⟩
              refine lv_goto (tgt := 2) hx hb dX4_sortByWeight_68 (by decide) ?_
              exact ih_1 x_8 v_7 H locs (by omega) (by omega) (by omega) hv hfr hP hD hS ls (lv_sub hl [0, 2] rfl)
            · have tc_5 : y4_2.toInt > (0 : Int32).toInt := Int32.lt_iff_toInt_lt.mp (Int32.not_le.mp c_5)
              refine lv_aload_n hx hb dX4_sortByWeight_16 rfl (lv_at hl 2 rfl) ?_
              refine va_get (D := (dC, dI)) (ci := 4) (v := .ref (ad 3)) (C := RX4) (T := TX4) (N := 11) hx hb hts iwX4_sortByWeight_X4 hown hK hP (1) (wl_at (by omega) (ce_1 (by decide))) rfl 4 (by decide) (hts (.fieldLink RX4 15 "QuietStairs$Planner" "weights" "[I") fwX4_sortByWeight_2) (fun _ h9 => h9) rfl dX4_sortByWeight_17 ?_
              refine lv_aload_n hx hb dX4_sortByWeight_20 rfl (lv_at hl 2 rfl) ?_
              refine va_get (D := (dC, dI)) (ci := 4) (v := .ref (ad 5)) (C := RX4) (T := TX4) (N := 11) hx hb hts iwX4_sortByWeight_X4 hown hK hP (1) (wl_at (by omega) (ce_1 (by decide))) rfl 6 (by decide) (hts (.fieldLink RX4 21 "QuietStairs$Planner" "heaviestFirst" "[I") fwX4_sortByWeight_3) (fun _ h9 => h9) rfl dX4_sortByWeight_21 ?_
              refine lv_iload_n hx hb dX4_sortByWeight_24 rfl (lv_at hl 0 rfl) ?_
              refine lv_iconst (v := 1) hx hb dX4_sortByWeight_25 (by decide) ?_
              have k_1 : (1 : Int32).toInt = 1 := by decide
              refine lv_isub hx hb dX4_sortByWeight_26 ?_
              refine lv_topi (fun x_6 ex_6 => ?_)
              have tx_6 : x_6.toInt = y4_2.toInt - (1 : Int32).toInt := by rw [ex_6]; exact t_sub ⟨by omega, by omega⟩
              obtain ⟨pi7, i7, hi7, ni7, mi7⟩ := t_in (x := x_6) (n := 4) ⟨by omega, by omega⟩
              refine va_iald hx hb hK hP (5) 0 (wl_at (by omega) (ce_21 (by decide))) rfl pi7 dX4_sortByWeight_27 ?_
              refine lv_topi (fun x_8 ex_8 => ?_)
              have bx_8 : 0 ≤ x_8.toInt ∧ x_8.toInt ≤ 3 := by rw [ex_8]; exact hv.at (K := 21) (by decide) rfl
              obtain ⟨pi9, i9, hi9, ni9, mi9⟩ := t_in (x := x_8) (n := 4) ⟨by omega, by omega⟩
              refine va_iald hx hb hK hP (3) 0 (wl_at (by omega) (ce_17 (by decide))) rfl pi9 dX4_sortByWeight_28 ?_
              refine lv_topi (fun x_10 ex_10 => ?_)
              refine lv_aload_n hx hb dX4_sortByWeight_29 rfl (lv_at hl 2 rfl) ?_
              refine va_get (D := (dC, dI)) (ci := 4) (v := .ref (ad 3)) (C := RX4) (T := TX4) (N := 11) hx hb hts iwX4_sortByWeight_X4 hown hK hP (1) (wl_at (by omega) (ce_1 (by decide))) rfl 4 (by decide) (hts (.fieldLink RX4 15 "QuietStairs$Planner" "weights" "[I") fwX4_sortByWeight_2) (fun _ h9 => h9) rfl dX4_sortByWeight_30 ?_
              refine lv_iload_n hx hb dX4_sortByWeight_33 rfl (lv_at hl 1 rfl) ?_
              obtain ⟨pi11, i11, hi11, ni11, mi11⟩ := t_in (x := y1_1) (n := 4) ⟨by omega, by omega⟩
              refine va_iald hx hb hK hP (3) 0 (wl_at (by omega) (ce_17 (by decide))) rfl pi11 dX4_sortByWeight_34 ?_
              refine lv_topi (fun x_12 ex_12 => ?_)
              refine lv_icmp_ge (tgt := 58) hx hb dX4_sortByWeight_35 (by decide) (fun c_13 => ?_) (fun c_13 => ?_)
              · have tc_13 : x_10.toInt ≥ x_12.toInt := Int32.le_iff_toInt_le.mp c_13
                refine lv_aload_n hx hb dX4_sortByWeight_58 rfl (lv_at hl 2 rfl) ?_
                refine va_get (D := (dC, dI)) (ci := 4) (v := .ref (ad 5)) (C := RX4) (T := TX4) (N := 11) hx hb hts iwX4_sortByWeight_X4 hown hK hP (1) (wl_at (by omega) (ce_1 (by decide))) rfl 6 (by decide) (hts (.fieldLink RX4 21 "QuietStairs$Planner" "heaviestFirst" "[I") fwX4_sortByWeight_3) (fun _ h9 => h9) rfl dX4_sortByWeight_59 ?_
                refine lv_iload_n hx hb dX4_sortByWeight_62 rfl (lv_at hl 0 rfl) ?_
                refine lv_iload_n hx hb dX4_sortByWeight_63 rfl (lv_at hl 1 rfl) ?_
                obtain ⟨pi14, i14, hi14, ni14, mi14⟩ := t_in (x := y4_2) (n := 4) ⟨by omega, by omega⟩
                refine va_iast hx hb hK hP hD hS (5) 0 (wl_at (by omega) (ce_21 (by decide))) rfl pi14 dX4_sortByWeight_64 (fun H locs hP hD hS => ?_)
                obtain ⟨v_15, ev_15⟩ : ∃ u : Nat → Nat → Int32, u = upr u4 (5) (upd (u4 (5)) (y4_2.toNatClampNeg) y1_1) := ⟨_, rfl⟩
                have hP : va_P (dC, dI) vwCl (wl ad kv cy N v_15) H := by rw [ev_15, ← wl_put (e := _) (ce_21 (by decide))]; exact hP
                have hD : va_D A (wl ad kv cy N v_15) := by rw [ev_15, ← wl_put (e := _) (ce_21 (by decide))]; exact hD
                have hv : Iv v_15 := by rw [ev_15]; exact hv.put (K := 21) (by decide) (fun h q => by cases q; exact ⟨by omega, by omega⟩)
                have hfr : Fz v v_15 := by rw [ev_15]; exact hfr.put (by omega) (by omega) (by omega)
                obtain ⟨x_16, ex_16⟩ : ∃ y : Int32, y = y1_1 + 1 := ⟨_, rfl⟩
                refine lv_iinc (v := x_16) (lv' := [(1, .int x_16), (2, .int y4_2), (0, .ref (ad 1))]) hx hb dX4_sortByWeight_65 hl (k := 1) rfl (by rw [ex_16]; rfl) (by decide) rfl (fun ls hl => ?_)
                have tx_16 : x_16.toInt = y1_1.toInt + (1 : Int32).toInt := by rw [ex_16]; exact t_add ⟨by omega, by omega⟩
                refine lv_goto (tgt := 2) hx hb dX4_sortByWeight_68 (by decide) ?_
                exact ih_1 x_16 v_15 H locs (by omega) (by omega) (by omega) hv hfr hP hD hS ls (lv_sub hl [0, 2] rfl)
              · have tc_13 : x_10.toInt < x_12.toInt := Int32.lt_iff_toInt_lt.mp (Int32.not_le.mp c_13)
                refine lv_aload_n hx hb dX4_sortByWeight_38 rfl (lv_at hl 2 rfl) ?_
                refine va_get (D := (dC, dI)) (ci := 4) (v := .ref (ad 5)) (C := RX4) (T := TX4) (N := 11) hx hb hts iwX4_sortByWeight_X4 hown hK hP (1) (wl_at (by omega) (ce_1 (by decide))) rfl 6 (by decide) (hts (.fieldLink RX4 21 "QuietStairs$Planner" "heaviestFirst" "[I") fwX4_sortByWeight_3) (fun _ h9 => h9) rfl dX4_sortByWeight_39 ?_
                refine lv_iload_n hx hb dX4_sortByWeight_42 rfl (lv_at hl 0 rfl) ?_
                refine lv_aload_n hx hb dX4_sortByWeight_43 rfl (lv_at hl 2 rfl) ?_
                refine va_get (D := (dC, dI)) (ci := 4) (v := .ref (ad 5)) (C := RX4) (T := TX4) (N := 11) hx hb hts iwX4_sortByWeight_X4 hown hK hP (1) (wl_at (by omega) (ce_1 (by decide))) rfl 6 (by decide) (hts (.fieldLink RX4 21 "QuietStairs$Planner" "heaviestFirst" "[I") fwX4_sortByWeight_3) (fun _ h9 => h9) rfl dX4_sortByWeight_44 ?_
                refine lv_iload_n hx hb dX4_sortByWeight_47 rfl (lv_at hl 0 rfl) ?_
                refine lv_iconst (v := 1) hx hb dX4_sortByWeight_48 (by decide) ?_
                refine lv_isub hx hb dX4_sortByWeight_49 ?_
                refine lv_topi (fun x_14 ex_14 => ?_)
                have tx_14 : x_14.toInt = y4_2.toInt - (1 : Int32).toInt := by rw [ex_14]; exact t_sub ⟨by omega, by omega⟩
                obtain ⟨pi15, i15, hi15, ni15, mi15⟩ := t_in (x := x_14) (n := 4) ⟨by omega, by omega⟩
                refine va_iald hx hb hK hP (5) 0 (wl_at (by omega) (ce_21 (by decide))) rfl pi15 dX4_sortByWeight_50 ?_
                refine lv_topi (fun x_16 ex_16 => ?_)
                have bx_16 : 0 ≤ x_16.toInt ∧ x_16.toInt ≤ 3 := by rw [ex_16]; exact hv.at (K := 21) (by decide) rfl
                obtain ⟨pi17, i17, hi17, ni17, mi17⟩ := t_in (x := y4_2) (n := 4) ⟨by omega, by omega⟩
                refine va_iast hx hb hK hP hD hS (5) 0 (wl_at (by omega) (ce_21 (by decide))) rfl pi17 dX4_sortByWeight_51 (fun H locs hP hD hS => ?_)
                obtain ⟨v_18, ev_18⟩ : ∃ u : Nat → Nat → Int32, u = upr u4 (5) (upd (u4 (5)) (y4_2.toNatClampNeg) x_16) := ⟨_, rfl⟩
                have hP : va_P (dC, dI) vwCl (wl ad kv cy N v_18) H := by rw [ev_18, ← wl_put (e := _) (ce_21 (by decide))]; exact hP
                have hD : va_D A (wl ad kv cy N v_18) := by rw [ev_18, ← wl_put (e := _) (ce_21 (by decide))]; exact hD
                have hv : Iv v_18 := by rw [ev_18]; exact hv.put (K := 21) (by decide) (fun h q => by cases q; exact ⟨by omega, by omega⟩)
                have hfr : Fz v v_18 := by rw [ev_18]; exact hfr.put (by omega) (by omega) (by omega)
                obtain ⟨x_19, ex_19⟩ : ∃ y : Int32, y = y4_2 + (-1) := ⟨_, rfl⟩
                refine lv_iinc (v := x_19) (lv' := [(2, .int x_19), (1, .int y1_1), (0, .ref (ad 1))]) hx hb dX4_sortByWeight_52 hl (k := 0) rfl (by rw [ex_19]; rfl) (by decide) rfl (fun ls hl => ?_)
                have k_m1 : ((-1) : Int32).toInt = -1 := by decide
                have tx_19 : x_19.toInt = y4_2.toInt + ((-1) : Int32).toInt := by rw [ex_19]; exact t_add ⟨by omega, by omega⟩
                refine lv_goto (tgt := 12) hx hb dX4_sortByWeight_55 (by decide) ?_
                exact ih_4 x_19 v_18 H locs (by omega) (by omega) (by omega) hv hfr hP hD hS ls (lv_sub hl [0, 1, 2] rfl)
        exact hloop_4 ((y1_1 : Int32).toInt.toNat + 1) y1_1 u1 _ _ (by omega) (by omega) (by omega) hv hfr hP hD hS ls hl
  exact hloop_1 ((4 - (0 : Int32).toInt).toNat + 1) 0 v _ _ (by omega) (by omega) (by omega) hv hfr hP hD hS ls hl

set_option maxHeartbeats 4000000 in
set_option maxRecDepth 100000 in
theorem g_X4_leastBehind (l : Launch) (dC : Nat → ClassId) (dI : Nat → Nat → Nat) (cy : Nat → ClassId) (sz : Nat) (ad : Nat → Nat) (kv : Value) (N : Nat) (hN : 119 ≤ N) (v : Nat → Nat → Int32) (hv : Iv v) (x0 : Int32) : Met l yX4_leastBehind wsX4_leastBehind ({ frames := 0, cells := 0, slots := 0, locals := 0 }) (va_Pc [.ref (ad 1), .int x0] (ex_Pre dC dI cy sz (wl ad kv cy N v))) (va_Qi (fun (r : Int32) (u : Nat → Nat → Int32) => Iv u ∧ Fz v u) (fun u t => ex_Pst dC dI (va_A (wl ad kv cy N v) sz) (wl ad kv cy N u) t) (va_A (wl ad kv cy N v) sz)) 0 0 (va_A (wl ad kv cy N v) sz) := by
  refine Met.ofW (cc := cX4_leastBehind) (maxL := 8) (ret := (some .int)) (by decide) rfl ?_
  intro p e s m args below meth c s₁ B hml hv
  obtain ⟨rfl, hsz, hE, hP, hK, hD0⟩ := hv
  have hx := B.exec
  have hb := B.bytes
  have hr := B.returns
  have hts := atoms_spec (ws := wsX4_leastBehind) B.pre
  have hown : s.vm.findClass RX4 = some m.cls := findClass_of_methodNamed B.named
  have hlocks := B.notSynchronized
  subst hsz
  have hD := hD0.self (sz := s.heap.size)
  generalize hAe : va_A (wl ad kv cy N v) s.heap.size = A at hD ⊢
  have hA : ∀ q : Nat, s.heap.size ≤ q → A q := fun q h => by rw [← hAe]; exact Or.inr h
  have hS : va_S A s.heap s.heap [] := va_S.rf
  have hP : va_P (dC, dI) vwCl (wl ad kv cy N v) s.heap := hP
  have hl := lv_entry ([.ref (ad 1), .int x0]) (n := 8) (Nat.le_of_ble_eq_true rfl)
  rw [lg_entry_eq]
  generalize (lg_sl ([.ref (ad 1), .int x0]) ++ List.replicate (8 - (lg_sl ([.ref (ad 1), .int x0])).length) Slot.unset).toArray = ls at hl ⊢
  have hl : lv_has ls 8 [(0, .ref (ad 1)), (1, .int x0)] := hl
  have hfr : Fz v v := Fz.rf
  refine lv_iconst (v := 0) hx hb dX4_leastBehind_0 (by decide) ?_
  refine lv_istore_n (lv' := [(2, .int 0), (0, .ref (ad 1)), (1, .int x0)]) hx hb dX4_leastBehind_1 rfl hl (by decide) rfl (fun ls hl => ?_)
  refine lv_iconst (v := 0) hx hb dX4_leastBehind_2 (by decide) ?_
  refine lv_istore_n (lv' := [(3, .int 0), (2, .int 0), (0, .ref (ad 1)), (1, .int x0)]) hx hb dX4_leastBehind_3 rfl hl (by decide) rfl (fun ls hl => ?_)
  refine lv_aload_n hx hb dX4_leastBehind_4 rfl (lv_at hl 2 rfl) ?_
  refine va_get (D := (dC, dI)) (ci := 4) (v := .ref (ad 9)) (C := RX4) (T := TX4) (N := 11) hx hb hts iwX4_leastBehind_X4 hown hK hP (1) (wl_at (by omega) (ce_1 (by decide))) rfl 10 (by decide) (hts (.fieldLink RX4 33 "QuietStairs$Planner" "sittings" "[I") fwX4_leastBehind_1) (fun _ h9 => h9) rfl dX4_leastBehind_5 ?_
  refine lv_iconst (v := 0) hx hb dX4_leastBehind_8 (by decide) ?_
  refine va_iald hx hb hK hP (9) 0 (wl_at (by omega) (ce_18 (by decide))) rfl (by unfold vp_in; decide) dX4_leastBehind_9 ?_
  refine lv_topi (fun x_1 ex_1 => ?_)
  refine lv_istore (lv' := [(4, .int x_1), (3, .int 0), (2, .int 0), (0, .ref (ad 1)), (1, .int x0)]) hx hb dX4_leastBehind_10 hl (by decide) rfl (fun ls hl => ?_)
  refine lv_iconst (v := 0) hx hb dX4_leastBehind_12 (by decide) ?_
  refine lv_istore (lv' := [(5, .int 0), (4, .int x_1), (3, .int 0), (2, .int 0), (0, .ref (ad 1)), (1, .int x0)]) hx hb dX4_leastBehind_13 hl (by decide) rfl (fun ls hl => ?_)
  have k_0 : (0 : Int32).toInt = 0 := by decide
  have hloop_2 : ∀ (n : Nat) (y2_5 y2_2 y2_3 y2_4 : Int32) (u2 : Nat → Nat → Int32) (H : Heap) (locs : List Loc), 0 ≤ y2_5.toInt → y2_5.toInt ≤ 4 → 0 ≤ y2_3.toInt → y2_3.toInt ≤ 3 → (4 - y2_5.toInt).toNat < n → Iv u2 → Fz v u2 → va_P (dC, dI) vwCl (wl ad kv cy N u2) H → va_D A (wl ad kv cy N u2) → va_S A s.heap H locs → ∀ ls : Array Slot, lv_has ls 8 [(5, .int y2_5), (4, .int y2_4), (3, .int y2_3), (2, .int y2_2), (0, .ref (ad 1)), (1, .int x0)] → W p l e (headSpec wsX4_leastBehind ({ frames := 0, cells := 0, slots := 0, locals := 0 })).room s m [Value.ref (ad 1), Value.int x0].toArray below meth c H locs 0 0 (MQ below (va_Qi (fun (r : Int32) (u : Nat → Nat → Int32) => Iv u ∧ Fz v u) (fun u t => ex_Pst dC dI A (wl ad kv cy N u) t) A) [Value.ref (ad 1), Value.int x0].toArray s 0 0 A) (F0 m 15 ls []) := by
    intro n
    induction n with
    | zero =>
      intro y2_5 y2_2 y2_3 y2_4 u2 H locs ay2_5 by2_5 ay2_3 by2_3 hm_2 hv hfr hP hD hS ls hl
      exact absurd hm_2 (by omega)
    | succ n ih_2 =>
      intro y2_5 y2_2 y2_3 y2_4 u2 H locs ay2_5 by2_5 ay2_3 by2_3 hm_2 hv hfr hP hD hS ls hl
      refine lv_iload hx hb dX4_leastBehind_15 (lv_at hl 0 rfl) ?_
      refine lv_aload_n hx hb dX4_leastBehind_17 rfl (lv_at hl 4 rfl) ?_
      refine va_get (D := (dC, dI)) (ci := 4) (v := .int (u2 (1) 1)) (C := RX4) (T := TX4) (N := 11) hx hb hts iwX4_leastBehind_X4 hown hK hP (1) (wl_at (by omega) (ce_1 (by decide))) rfl 1 (by decide) (hts (.fieldLink RX4 61 "QuietStairs$Planner" "count" "I") fwX4_leastBehind_2) (fun _ h9 => h9) rfl dX4_leastBehind_18 ?_
      refine lv_topi (fun x_3 ex_3 => ?_)
      have bx_3 : 0 ≤ x_3.toInt ∧ x_3.toInt ≤ 4 := by rw [ex_3]; exact hv.at (K := 1) (by decide) rfl
      refine lv_icmp_ge (tgt := 140) hx hb dX4_leastBehind_21 (by decide) (fun c_4 => ?_) (fun c_4 => ?_)
      · have tc_4 : y2_5.toInt ≥ x_3.toInt := Int32.le_iff_toInt_le.mp c_4
        refine lv_iload_n hx hb dX4_leastBehind_140 rfl (lv_at hl 3 rfl) ?_
        exact W.iret (v := y2_2) hx hb hr (fun t ht hW => ⟨⟨y2_2, u2, rfl, ⟨hv, hfr⟩, by rw [ht]; exact hP, hD⟩, hS.F ht⟩) hS.2.2 dX4_leastBehind_141
      · have tc_4 : y2_5.toInt < x_3.toInt := Int32.lt_iff_toInt_lt.mp (Int32.not_le.mp c_4)
        refine lv_aload_n hx hb dX4_leastBehind_24 rfl (lv_at hl 4 rfl) ?_
        refine va_get (D := (dC, dI)) (ci := 4) (v := .ref (ad 5)) (C := RX4) (T := TX4) (N := 11) hx hb hts iwX4_leastBehind_X4 hown hK hP (1) (wl_at (by omega) (ce_1 (by decide))) rfl 6 (by decide) (hts (.fieldLink RX4 21 "QuietStairs$Planner" "heaviestFirst" "[I") fwX4_leastBehind_3) (fun _ h9 => h9) rfl dX4_leastBehind_25 ?_
        refine lv_iload hx hb dX4_leastBehind_28 (lv_at hl 0 rfl) ?_
        obtain ⟨pi5, i5, hi5, ni5, mi5⟩ := t_in (x := y2_5) (n := 4) ⟨by omega, by omega⟩
        refine va_iald hx hb hK hP (5) 0 (wl_at (by omega) (ce_21 (by decide))) rfl pi5 dX4_leastBehind_30 ?_
        refine lv_topi (fun x_6 ex_6 => ?_)
        have bx_6 : 0 ≤ x_6.toInt ∧ x_6.toInt ≤ 3 := by rw [ex_6]; exact hv.at (K := 21) (by decide) rfl
        refine lv_istore (lv' := [(6, .int x_6), (5, .int y2_5), (4, .int y2_4), (3, .int y2_3), (2, .int y2_2), (0, .ref (ad 1)), (1, .int x0)]) hx hb dX4_leastBehind_31 hl (by decide) rfl (fun ls hl => ?_)
        refine lv_iload hx hb dX4_leastBehind_33 (lv_at hl 0 rfl) ?_
        refine lv_iload_n hx hb dX4_leastBehind_35 rfl (lv_at hl 6 rfl) ?_
        refine lv_icmp_lt (tgt := 134) hx hb dX4_leastBehind_36 (by decide) (fun c_7 => ?_) (fun c_7 => ?_)
        · have tc_7 : x_6.toInt < x0.toInt := Int32.lt_iff_toInt_lt.mp c_7
          obtain ⟨x_8, ex_8⟩ : ∃ y : Int32, y = y2_5 + 1 := ⟨_, rfl⟩
          refine lv_iinc (v := x_8) (lv' := [(5, .int x_8), (6, .int x_6), (4, .int y2_4), (3, .int y2_3), (2, .int y2_2), (0, .ref (ad 1)), (1, .int x0)]) hx hb dX4_leastBehind_134 hl (k := 1) rfl (by rw [ex_8]; rfl) (by decide) rfl (fun ls hl => ?_)
          have k_1 : (1 : Int32).toInt = 1 := by decide
          have tx_8 : x_8.toInt = y2_5.toInt + (1 : Int32).toInt := by rw [ex_8]; exact t_add ⟨by omega, by omega⟩
          refine lv_goto (tgt := 15) hx hb dX4_leastBehind_137 (by decide) ?_
          exact ih_2 x_8 y2_2 y2_3 y2_4 u2 H locs (by omega) (by omega) (by omega) (by omega) (by omega) hv hfr hP hD hS ls (lv_sub hl [0, 2, 3, 4, 5, 6] rfl)
        · have tc_7 : x_6.toInt ≥ x0.toInt := Int32.le_iff_toInt_le.mp (Int32.not_lt.mp c_7)
          have hloop_8 : ∀ (n : Nat) (y8_3 y8_4 : Int32) (u8 : Nat → Nat → Int32) (H : Heap) (locs : List Loc), 0 ≤ y8_3.toInt → y8_3.toInt ≤ 3 → (3 - y8_3.toInt).toNat < n → Iv u8 → Fz v u8 → va_P (dC, dI) vwCl (wl ad kv cy N u8) H → va_D A (wl ad kv cy N u8) → va_S A s.heap H locs → ∀ ls : Array Slot, lv_has ls 8 [(6, .int x_6), (5, .int y2_5), (4, .int y8_4), (3, .int y8_3), (2, .int y2_2), (0, .ref (ad 1)), (1, .int x0)] → W p l e (headSpec wsX4_leastBehind ({ frames := 0, cells := 0, slots := 0, locals := 0 })).room s m [Value.ref (ad 1), Value.int x0].toArray below meth c H locs 0 0 (MQ below (va_Qi (fun (r : Int32) (u : Nat → Nat → Int32) => Iv u ∧ Fz v u) (fun u t => ex_Pst dC dI A (wl ad kv cy N u) t) A) [Value.ref (ad 1), Value.int x0].toArray s 0 0 A) (F0 m 39 ls []) := by
            intro n
            induction n with
            | zero =>
              intro y8_3 y8_4 u8 H locs ay8_3 by8_3 hm_8 hv hfr hP hD hS ls hl
              exact absurd hm_8 (by omega)
            | succ n ih_8 =>
              intro y8_3 y8_4 u8 H locs ay8_3 by8_3 hm_8 hv hfr hP hD hS ls hl
              refine lv_iload_n hx hb dX4_leastBehind_39 rfl (lv_at hl 3 rfl) ?_
              refine lv_iconst (v := 3) hx hb dX4_leastBehind_40 (by decide) ?_
              have k_3 : (3 : Int32).toInt = 3 := by decide
              refine lv_icmp_ge (tgt := 76) hx hb dX4_leastBehind_41 (by decide) (fun c_9 => ?_) (fun c_9 => ?_)
              · have tc_9 : y8_3.toInt ≥ (3 : Int32).toInt := Int32.le_iff_toInt_le.mp c_9
                refine lv_iload_n hx hb dX4_leastBehind_76 rfl (lv_at hl 3 rfl) ?_
                refine lv_iconst (v := 3) hx hb dX4_leastBehind_77 (by decide) ?_
                refine lv_icmp_ge (tgt := 95) hx hb dX4_leastBehind_78 (by decide) (fun c_10 => ?_) (fun c_10 => ?_)
                · have tc_10 : y8_3.toInt ≥ (3 : Int32).toInt := Int32.le_iff_toInt_le.mp c_10
                  refine lv_iconst (v := 0) hx hb dX4_leastBehind_95 (by decide) ?_
                  refine lv_istore (lv' := [(7, .int 0), (6, .int x_6), (5, .int y2_5), (4, .int y8_4), (3, .int y8_3), (2, .int y2_2), (0, .ref (ad 1)), (1, .int x0)]) hx hb dX4_leastBehind_96 hl (by decide) rfl (fun ls hl => ?_)
                  refine lv_iload_n hx hb dX4_leastBehind_98 rfl (lv_at hl 5 rfl) ?_
                  refine lv_aload_n hx hb dX4_leastBehind_99 rfl (lv_at hl 6 rfl) ?_
                  refine va_get (D := (dC, dI)) (ci := 4) (v := .ref (ad 3)) (C := RX4) (T := TX4) (N := 11) hx hb hts iwX4_leastBehind_X4 hown hK hP (1) (wl_at (by omega) (ce_1 (by decide))) rfl 4 (by decide) (hts (.fieldLink RX4 15 "QuietStairs$Planner" "weights" "[I") fwX4_leastBehind_6) (fun _ h9 => h9) rfl dX4_leastBehind_100 ?_
                  refine lv_iload hx hb dX4_leastBehind_103 (lv_at hl 1 rfl) ?_
                  obtain ⟨pi11, i11, hi11, ni11, mi11⟩ := t_in (x := x_6) (n := 4) ⟨by omega, by omega⟩
                  refine va_iald hx hb hK hP (3) 0 (wl_at (by omega) (ce_17 (by decide))) rfl pi11 dX4_leastBehind_105 ?_
                  refine lv_topi (fun x_12 ex_12 => ?_)
                  refine lv_iload hx hb dX4_leastBehind_106 (lv_at hl 0 rfl) ?_
                  refine lv_if_eq (tgt := 115) hx hb dX4_leastBehind_108 (by decide) (fun _ => ?_) (fun c9 => absurd c9 (by decide))
                  refine lv_iconst (v := 4) hx hb dX4_leastBehind_115 (by decide) ?_
                  refine lv_imul hx hb dX4_leastBehind_116 ?_
                  refine lv_topi (fun x_13 ex_13 => ?_)
                  refine lv_iadd hx hb dX4_leastBehind_117 ?_
                  refine lv_topi (fun x_14 ex_14 => ?_)
                  refine lv_istore_n (lv' := [(2, .int x_14), (7, .int 0), (6, .int x_6), (5, .int y2_5), (4, .int y8_4), (3, .int y8_3), (0, .ref (ad 1)), (1, .int x0)]) hx hb dX4_leastBehind_118 rfl hl (by decide) rfl (fun ls hl => ?_)
                  refine lv_iload hx hb dX4_leastBehind_119 (lv_at hl 4 rfl) ?_
                  refine lv_iload hx hb dX4_leastBehind_121 (lv_at hl 1 rfl) ?_
                  refine lv_if_eq (tgt := 130) hx hb dX4_leastBehind_123 (by decide) (fun _ => ?_) (fun c9 => absurd c9 (by decide))
                  refine lv_iconst (v := 0) hx hb dX4_leastBehind_130 (by decide) ?_
                  refine lv_iadd hx hb dX4_leastBehind_131 ?_
                  refine lv_topi (fun x_15 ex_15 => ?_)
                  refine lv_istore (lv' := [(4, .int x_15), (2, .int x_14), (7, .int 0), (6, .int x_6), (5, .int y2_5), (3, .int y8_3), (0, .ref (ad 1)), (1, .int x0)]) hx hb dX4_leastBehind_132 hl (by decide) rfl (fun ls hl => ?_)
                  obtain ⟨x_16, ex_16⟩ : ∃ y : Int32, y = y2_5 + 1 := ⟨_, rfl⟩
                  refine lv_iinc (v := x_16) (lv' := [(5, .int x_16), (4, .int x_15), (2, .int x_14), (7, .int 0), (6, .int x_6), (3, .int y8_3), (0, .ref (ad 1)), (1, .int x0)]) hx hb dX4_leastBehind_134 hl (k := 4) rfl (by rw [ex_16]; rfl) (by decide) rfl (fun ls hl => ?_)
                  have k_1 : (1 : Int32).toInt = 1 := by decide
                  have tx_16 : x_16.toInt = y2_5.toInt + (1 : Int32).toInt := by rw [ex_16]; exact t_add ⟨by omega, by omega⟩
                  refine lv_goto (tgt := 15) hx hb dX4_leastBehind_137 (by decide) ?_
                  exact ih_2 x_16 x_14 y8_3 x_15 u8 H locs (by omega) (by omega) (by omega) (by omega) (by omega) hv hfr hP hD hS ls (lv_sub hl [0, 1, 5, 2, 6, 7] rfl)
                · have tc_10 : y8_3.toInt < (3 : Int32).toInt := Int32.lt_iff_toInt_lt.mp (Int32.not_le.mp c_10)
                  refine lv_aload_n hx hb dX4_leastBehind_81 rfl (lv_at hl 5 rfl) ?_
                  refine va_get (D := (dC, dI)) (ci := 4) (v := .ref (ad 4)) (C := RX4) (T := TX4) (N := 11) hx hb hts iwX4_leastBehind_X4 hown hK hP (1) (wl_at (by omega) (ce_1 (by decide))) rfl 5 (by decide) (hts (.fieldLink RX4 18 "QuietStairs$Planner" "pairBits" "[I") fwX4_leastBehind_5) (fun _ h9 => h9) rfl dX4_leastBehind_82 ?_
                  refine lv_iload hx hb dX4_leastBehind_85 (lv_at hl 0 rfl) ?_
                  obtain ⟨pi11, i11, hi11, ni11, mi11⟩ := t_in (x := x_6) (n := 4) ⟨by omega, by omega⟩
                  refine va_iald hx hb hK hP (4) 0 (wl_at (by omega) (ce_17 (by decide))) rfl pi11 dX4_leastBehind_87 ?_
                  refine lv_topi (fun x_12 ex_12 => ?_)
                  refine lv_if_eq (tgt := 95) hx hb dX4_leastBehind_88 (by decide) (fun c_13 => ?_) (fun c_13 => ?_)
                  · have tc_13 : x_12.toInt = (0 : Int32).toInt := by rw [c_13]
                    refine lv_iconst (v := 0) hx hb dX4_leastBehind_95 (by decide) ?_
                    refine lv_istore (lv' := [(7, .int 0), (6, .int x_6), (5, .int y2_5), (4, .int y8_4), (3, .int y8_3), (2, .int y2_2), (0, .ref (ad 1)), (1, .int x0)]) hx hb dX4_leastBehind_96 hl (by decide) rfl (fun ls hl => ?_)
                    refine lv_iload_n hx hb dX4_leastBehind_98 rfl (lv_at hl 5 rfl) ?_
                    refine lv_aload_n hx hb dX4_leastBehind_99 rfl (lv_at hl 6 rfl) ?_
                    refine va_get (D := (dC, dI)) (ci := 4) (v := .ref (ad 3)) (C := RX4) (T := TX4) (N := 11) hx hb hts iwX4_leastBehind_X4 hown hK hP (1) (wl_at (by omega) (ce_1 (by decide))) rfl 4 (by decide) (hts (.fieldLink RX4 15 "QuietStairs$Planner" "weights" "[I") fwX4_leastBehind_6) (fun _ h9 => h9) rfl dX4_leastBehind_100 ?_
                    refine lv_iload hx hb dX4_leastBehind_103 (lv_at hl 1 rfl) ?_
                    refine va_iald hx hb hK hP (3) 0 (wl_at (by omega) (ce_17 (by decide))) rfl pi11 dX4_leastBehind_105 ?_
                    refine lv_topi (fun x_14 ex_14 => ?_)
                    refine lv_iload hx hb dX4_leastBehind_106 (lv_at hl 0 rfl) ?_
                    refine lv_if_eq (tgt := 115) hx hb dX4_leastBehind_108 (by decide) (fun _ => ?_) (fun c9 => absurd c9 (by decide))
                    refine lv_iconst (v := 4) hx hb dX4_leastBehind_115 (by decide) ?_
                    refine lv_imul hx hb dX4_leastBehind_116 ?_
                    refine lv_topi (fun x_15 ex_15 => ?_)
                    refine lv_iadd hx hb dX4_leastBehind_117 ?_
                    refine lv_topi (fun x_16 ex_16 => ?_)
                    refine lv_istore_n (lv' := [(2, .int x_16), (7, .int 0), (6, .int x_6), (5, .int y2_5), (4, .int y8_4), (3, .int y8_3), (0, .ref (ad 1)), (1, .int x0)]) hx hb dX4_leastBehind_118 rfl hl (by decide) rfl (fun ls hl => ?_)
                    refine lv_iload hx hb dX4_leastBehind_119 (lv_at hl 4 rfl) ?_
                    refine lv_iload hx hb dX4_leastBehind_121 (lv_at hl 1 rfl) ?_
                    refine lv_if_eq (tgt := 130) hx hb dX4_leastBehind_123 (by decide) (fun _ => ?_) (fun c9 => absurd c9 (by decide))
                    refine lv_iconst (v := 0) hx hb dX4_leastBehind_130 (by decide) ?_
                    refine lv_iadd hx hb dX4_leastBehind_131 ?_
                    refine lv_topi (fun x_17 ex_17 => ?_)
                    refine lv_istore (lv' := [(4, .int x_17), (2, .int x_16), (7, .int 0), (6, .int x_6), (5, .int y2_5), (3, .int y8_3), (0, .ref (ad 1)), (1, .int x0)]) hx hb dX4_leastBehind_132 hl (by decide) rfl (fun ls hl => ?_)
                    obtain ⟨x_18, ex_18⟩ : ∃ y : Int32, y = y2_5 + 1 := ⟨_, rfl⟩
                    refine lv_iinc (v := x_18) (lv' := [(5, .int x_18), (4, .int x_17), (2, .int x_16), (7, .int 0), (6, .int x_6), (3, .int y8_3), (0, .ref (ad 1)), (1, .int x0)]) hx hb dX4_leastBehind_134 hl (k := 4) rfl (by rw [ex_18]; rfl) (by decide) rfl (fun ls hl => ?_)
                    have k_1 : (1 : Int32).toInt = 1 := by decide
                    have tx_18 : x_18.toInt = y2_5.toInt + (1 : Int32).toInt := by rw [ex_18]; exact t_add ⟨by omega, by omega⟩
                    refine lv_goto (tgt := 15) hx hb dX4_leastBehind_137 (by decide) ?_
                    exact ih_2 x_18 x_16 y8_3 x_17 u8 H locs (by omega) (by omega) (by omega) (by omega) (by omega) hv hfr hP hD hS ls (lv_sub hl [0, 1, 5, 2, 6, 7] rfl)
                  · have tc_13 : x_12.toInt ≠ (0 : Int32).toInt := fun q => absurd (Int32.toInt_inj.mp q) c_13
                    refine lv_iconst (v := 1) hx hb dX4_leastBehind_91 (by decide) ?_
                    refine lv_goto (tgt := 96) hx hb dX4_leastBehind_92 (by decide) ?_
                    refine lv_istore (lv' := [(7, .int 1), (6, .int x_6), (5, .int y2_5), (4, .int y8_4), (3, .int y8_3), (2, .int y2_2), (0, .ref (ad 1)), (1, .int x0)]) hx hb dX4_leastBehind_96 hl (by decide) rfl (fun ls hl => ?_)
                    refine lv_iload_n hx hb dX4_leastBehind_98 rfl (lv_at hl 5 rfl) ?_
                    refine lv_aload_n hx hb dX4_leastBehind_99 rfl (lv_at hl 6 rfl) ?_
                    refine va_get (D := (dC, dI)) (ci := 4) (v := .ref (ad 3)) (C := RX4) (T := TX4) (N := 11) hx hb hts iwX4_leastBehind_X4 hown hK hP (1) (wl_at (by omega) (ce_1 (by decide))) rfl 4 (by decide) (hts (.fieldLink RX4 15 "QuietStairs$Planner" "weights" "[I") fwX4_leastBehind_6) (fun _ h9 => h9) rfl dX4_leastBehind_100 ?_
                    refine lv_iload hx hb dX4_leastBehind_103 (lv_at hl 1 rfl) ?_
                    refine va_iald hx hb hK hP (3) 0 (wl_at (by omega) (ce_17 (by decide))) rfl pi11 dX4_leastBehind_105 ?_
                    refine lv_topi (fun x_14 ex_14 => ?_)
                    refine lv_iload hx hb dX4_leastBehind_106 (lv_at hl 0 rfl) ?_
                    refine lv_if_eq (tgt := 115) hx hb dX4_leastBehind_108 (by decide) (fun c9 => absurd c9 (by decide)) (fun _ => ?_)
                    refine lv_iload_n hx hb dX4_leastBehind_111 rfl (lv_at hl 4 rfl) ?_
                    refine lv_goto (tgt := 116) hx hb dX4_leastBehind_112 (by decide) ?_
                    refine lv_imul hx hb dX4_leastBehind_116 ?_
                    refine lv_topi (fun x_15 ex_15 => ?_)
                    refine lv_iadd hx hb dX4_leastBehind_117 ?_
                    refine lv_topi (fun x_16 ex_16 => ?_)
                    refine lv_istore_n (lv' := [(2, .int x_16), (7, .int 1), (6, .int x_6), (5, .int y2_5), (4, .int y8_4), (3, .int y8_3), (0, .ref (ad 1)), (1, .int x0)]) hx hb dX4_leastBehind_118 rfl hl (by decide) rfl (fun ls hl => ?_)
                    refine lv_iload hx hb dX4_leastBehind_119 (lv_at hl 4 rfl) ?_
                    refine lv_iload hx hb dX4_leastBehind_121 (lv_at hl 1 rfl) ?_
                    refine lv_if_eq (tgt := 130) hx hb dX4_leastBehind_123 (by decide) (fun c9 => absurd c9 (by decide)) (fun _ => ?_)
                    refine lv_iconst (v := 1) hx hb dX4_leastBehind_126 (by decide) ?_
                    refine lv_goto (tgt := 131) hx hb dX4_leastBehind_127 (by decide) ?_
                    have k_1 : (1 : Int32).toInt = 1 := by decide
                    refine lv_iadd hx hb dX4_leastBehind_131 ?_
                    refine lv_topi (fun x_17 ex_17 => ?_)
                    refine lv_istore (lv' := [(4, .int x_17), (2, .int x_16), (7, .int 1), (6, .int x_6), (5, .int y2_5), (3, .int y8_3), (0, .ref (ad 1)), (1, .int x0)]) hx hb dX4_leastBehind_132 hl (by decide) rfl (fun ls hl => ?_)
                    obtain ⟨x_18, ex_18⟩ : ∃ y : Int32, y = y2_5 + 1 := ⟨_, rfl⟩
                    refine lv_iinc (v := x_18) (lv' := [(5, .int x_18), (4, .int x_17), (2, .int x_16), (7, .int 1), (6, .int x_6), (3, .int y8_3), (0, .ref (ad 1)), (1, .int x0)]) hx hb dX4_leastBehind_134 hl (k := 4) rfl (by rw [ex_18]; rfl) (by decide) rfl (fun ls hl => ?_)
                    have tx_18 : x_18.toInt = y2_5.toInt + (1 : Int32).toInt := by rw [ex_18]; exact t_add ⟨by omega, by omega⟩
                    refine lv_goto (tgt := 15) hx hb dX4_leastBehind_137 (by decide) ?_
                    exact ih_2 x_18 x_16 y8_3 x_17 u8 H locs (by omega) (by omega) (by omega) (by omega) (by omega) hv hfr hP hD hS ls (lv_sub hl [0, 1, 5, 2, 6, 7] rfl)
              · have tc_9 : y8_3.toInt < (3 : Int32).toInt := Int32.lt_iff_toInt_lt.mp (Int32.not_le.mp c_9)
                refine lv_iload hx hb dX4_leastBehind_44 (lv_at hl 2 rfl) ?_
                refine lv_aload_n hx hb dX4_leastBehind_46 rfl (lv_at hl 5 rfl) ?_
                refine va_get (D := (dC, dI)) (ci := 4) (v := .int (u8 (1) 2)) (C := RX4) (T := TX4) (N := 11) hx hb hts iwX4_leastBehind_X4 hown hK hP (1) (wl_at (by omega) (ce_1 (by decide))) rfl 2 (by decide) (hts (.fieldLink RX4 48 "QuietStairs$Planner" "seatsADay" "I") fwX4_leastBehind_4) (fun _ h9 => h9) rfl dX4_leastBehind_47 ?_
                refine lv_topi (fun x_10 ex_10 => ?_)
                refine lv_icmp_lt (tgt := 76) hx hb dX4_leastBehind_50 (by decide) (fun c_11 => ?_) (fun c_11 => ?_)
                · have tc_11 : y8_4.toInt < x_10.toInt := Int32.lt_iff_toInt_lt.mp c_11
                  refine lv_iload_n hx hb dX4_leastBehind_76 rfl (lv_at hl 3 rfl) ?_
                  refine lv_iconst (v := 3) hx hb dX4_leastBehind_77 (by decide) ?_
                  refine lv_icmp_ge (tgt := 95) hx hb dX4_leastBehind_78 (by decide) (fun c_12 => ?_) (fun c_12 => ?_)
                  · have tc_12 : y8_3.toInt ≥ (3 : Int32).toInt := Int32.le_iff_toInt_le.mp c_12
                    refine lv_iconst (v := 0) hx hb dX4_leastBehind_95 (by decide) ?_
                    refine lv_istore (lv' := [(7, .int 0), (6, .int x_6), (5, .int y2_5), (4, .int y8_4), (3, .int y8_3), (2, .int y2_2), (0, .ref (ad 1)), (1, .int x0)]) hx hb dX4_leastBehind_96 hl (by decide) rfl (fun ls hl => ?_)
                    refine lv_iload_n hx hb dX4_leastBehind_98 rfl (lv_at hl 5 rfl) ?_
                    refine lv_aload_n hx hb dX4_leastBehind_99 rfl (lv_at hl 6 rfl) ?_
                    refine va_get (D := (dC, dI)) (ci := 4) (v := .ref (ad 3)) (C := RX4) (T := TX4) (N := 11) hx hb hts iwX4_leastBehind_X4 hown hK hP (1) (wl_at (by omega) (ce_1 (by decide))) rfl 4 (by decide) (hts (.fieldLink RX4 15 "QuietStairs$Planner" "weights" "[I") fwX4_leastBehind_6) (fun _ h9 => h9) rfl dX4_leastBehind_100 ?_
                    refine lv_iload hx hb dX4_leastBehind_103 (lv_at hl 1 rfl) ?_
                    obtain ⟨pi13, i13, hi13, ni13, mi13⟩ := t_in (x := x_6) (n := 4) ⟨by omega, by omega⟩
                    refine va_iald hx hb hK hP (3) 0 (wl_at (by omega) (ce_17 (by decide))) rfl pi13 dX4_leastBehind_105 ?_
                    refine lv_topi (fun x_14 ex_14 => ?_)
                    refine lv_iload hx hb dX4_leastBehind_106 (lv_at hl 0 rfl) ?_
                    refine lv_if_eq (tgt := 115) hx hb dX4_leastBehind_108 (by decide) (fun _ => ?_) (fun c9 => absurd c9 (by decide))
                    refine lv_iconst (v := 4) hx hb dX4_leastBehind_115 (by decide) ?_
                    refine lv_imul hx hb dX4_leastBehind_116 ?_
                    refine lv_topi (fun x_15 ex_15 => ?_)
                    refine lv_iadd hx hb dX4_leastBehind_117 ?_
                    refine lv_topi (fun x_16 ex_16 => ?_)
                    refine lv_istore_n (lv' := [(2, .int x_16), (7, .int 0), (6, .int x_6), (5, .int y2_5), (4, .int y8_4), (3, .int y8_3), (0, .ref (ad 1)), (1, .int x0)]) hx hb dX4_leastBehind_118 rfl hl (by decide) rfl (fun ls hl => ?_)
                    refine lv_iload hx hb dX4_leastBehind_119 (lv_at hl 4 rfl) ?_
                    refine lv_iload hx hb dX4_leastBehind_121 (lv_at hl 1 rfl) ?_
                    refine lv_if_eq (tgt := 130) hx hb dX4_leastBehind_123 (by decide) (fun _ => ?_) (fun c9 => absurd c9 (by decide))
                    refine lv_iconst (v := 0) hx hb dX4_leastBehind_130 (by decide) ?_
                    refine lv_iadd hx hb dX4_leastBehind_131 ?_
                    refine lv_topi (fun x_17 ex_17 => ?_)
                    refine lv_istore (lv' := [(4, .int x_17), (2, .int x_16), (7, .int 0), (6, .int x_6), (5, .int y2_5), (3, .int y8_3), (0, .ref (ad 1)), (1, .int x0)]) hx hb dX4_leastBehind_132 hl (by decide) rfl (fun ls hl => ?_)
                    obtain ⟨x_18, ex_18⟩ : ∃ y : Int32, y = y2_5 + 1 := ⟨_, rfl⟩
                    refine lv_iinc (v := x_18) (lv' := [(5, .int x_18), (4, .int x_17), (2, .int x_16), (7, .int 0), (6, .int x_6), (3, .int y8_3), (0, .ref (ad 1)), (1, .int x0)]) hx hb dX4_leastBehind_134 hl (k := 4) rfl (by rw [ex_18]; rfl) (by decide) rfl (fun ls hl => ?_)
                    have k_1 : (1 : Int32).toInt = 1 := by decide
                    have tx_18 : x_18.toInt = y2_5.toInt + (1 : Int32).toInt := by rw [ex_18]; exact t_add ⟨by omega, by omega⟩
                    refine lv_goto (tgt := 15) hx hb dX4_leastBehind_137 (by decide) ?_
                    exact ih_2 x_18 x_16 y8_3 x_17 u8 H locs (by omega) (by omega) (by omega) (by omega) (by omega) hv hfr hP hD hS ls (lv_sub hl [0, 1, 5, 2, 6, 7] rfl)
                  · have tc_12 : y8_3.toInt < (3 : Int32).toInt := Int32.lt_iff_toInt_lt.mp (Int32.not_le.mp c_12)
                    refine lv_aload_n hx hb dX4_leastBehind_81 rfl (lv_at hl 5 rfl) ?_
                    refine va_get (D := (dC, dI)) (ci := 4) (v := .ref (ad 4)) (C := RX4) (T := TX4) (N := 11) hx hb hts iwX4_leastBehind_X4 hown hK hP (1) (wl_at (by omega) (ce_1 (by decide))) rfl 5 (by decide) (hts (.fieldLink RX4 18 "QuietStairs$Planner" "pairBits" "[I") fwX4_leastBehind_5) (fun _ h9 => h9) rfl dX4_leastBehind_82 ?_
                    refine lv_iload hx hb dX4_leastBehind_85 (lv_at hl 0 rfl) ?_
                    obtain ⟨pi13, i13, hi13, ni13, mi13⟩ := t_in (x := x_6) (n := 4) ⟨by omega, by omega⟩
                    refine va_iald hx hb hK hP (4) 0 (wl_at (by omega) (ce_17 (by decide))) rfl pi13 dX4_leastBehind_87 ?_
                    refine lv_topi (fun x_14 ex_14 => ?_)
                    refine lv_if_eq (tgt := 95) hx hb dX4_leastBehind_88 (by decide) (fun c_15 => ?_) (fun c_15 => ?_)
                    · have tc_15 : x_14.toInt = (0 : Int32).toInt := by rw [c_15]
                      refine lv_iconst (v := 0) hx hb dX4_leastBehind_95 (by decide) ?_
                      refine lv_istore (lv' := [(7, .int 0), (6, .int x_6), (5, .int y2_5), (4, .int y8_4), (3, .int y8_3), (2, .int y2_2), (0, .ref (ad 1)), (1, .int x0)]) hx hb dX4_leastBehind_96 hl (by decide) rfl (fun ls hl => ?_)
                      refine lv_iload_n hx hb dX4_leastBehind_98 rfl (lv_at hl 5 rfl) ?_
                      refine lv_aload_n hx hb dX4_leastBehind_99 rfl (lv_at hl 6 rfl) ?_
                      refine va_get (D := (dC, dI)) (ci := 4) (v := .ref (ad 3)) (C := RX4) (T := TX4) (N := 11) hx hb hts iwX4_leastBehind_X4 hown hK hP (1) (wl_at (by omega) (ce_1 (by decide))) rfl 4 (by decide) (hts (.fieldLink RX4 15 "QuietStairs$Planner" "weights" "[I") fwX4_leastBehind_6) (fun _ h9 => h9) rfl dX4_leastBehind_100 ?_
                      refine lv_iload hx hb dX4_leastBehind_103 (lv_at hl 1 rfl) ?_
                      refine va_iald hx hb hK hP (3) 0 (wl_at (by omega) (ce_17 (by decide))) rfl pi13 dX4_leastBehind_105 ?_
                      refine lv_topi (fun x_16 ex_16 => ?_)
                      refine lv_iload hx hb dX4_leastBehind_106 (lv_at hl 0 rfl) ?_
                      refine lv_if_eq (tgt := 115) hx hb dX4_leastBehind_108 (by decide) (fun _ => ?_) (fun c9 => absurd c9 (by decide))
                      refine lv_iconst (v := 4) hx hb dX4_leastBehind_115 (by decide) ?_
                      refine lv_imul hx hb dX4_leastBehind_116 ?_
                      refine lv_topi (fun x_17 ex_17 => ?_)
                      refine lv_iadd hx hb dX4_leastBehind_117 ?_
                      refine lv_topi (fun x_18 ex_18 => ?_)
                      refine lv_istore_n (lv' := [(2, .int x_18), (7, .int 0), (6, .int x_6), (5, .int y2_5), (4, .int y8_4), (3, .int y8_3), (0, .ref (ad 1)), (1, .int x0)]) hx hb dX4_leastBehind_118 rfl hl (by decide) rfl (fun ls hl => ?_)
                      refine lv_iload hx hb dX4_leastBehind_119 (lv_at hl 4 rfl) ?_
                      refine lv_iload hx hb dX4_leastBehind_121 (lv_at hl 1 rfl) ?_
                      refine lv_if_eq (tgt := 130) hx hb dX4_leastBehind_123 (by decide) (fun _ => ?_) (fun c9 => absurd c9 (by decide))
                      refine lv_iconst (v := 0) hx hb dX4_leastBehind_130 (by decide) ?_
                      refine lv_iadd hx hb dX4_leastBehind_131 ?_
                      refine lv_topi (fun x_19 ex_19 => ?_)
                      refine lv_istore (lv' := [(4, .int x_19), (2, .int x_18), (7, .int 0), (6, .int x_6), (5, .int y2_5), (3, .int y8_3), (0, .ref (ad 1)), (1, .int x0)]) hx hb dX4_leastBehind_132 hl (by decide) rfl (fun ls hl => ?_)
                      obtain ⟨x_20, ex_20⟩ : ∃ y : Int32, y = y2_5 + 1 := ⟨_, rfl⟩
                      refine lv_iinc (v := x_20) (lv' := [(5, .int x_20), (4, .int x_19), (2, .int x_18), (7, .int 0), (6, .int x_6), (3, .int y8_3), (0, .ref (ad 1)), (1, .int x0)]) hx hb dX4_leastBehind_134 hl (k := 4) rfl (by rw [ex_20]; rfl) (by decide) rfl (fun ls hl => ?_)
                      have k_1 : (1 : Int32).toInt = 1 := by decide
                      have tx_20 : x_20.toInt = y2_5.toInt + (1 : Int32).toInt := by rw [ex_20]; exact t_add ⟨by omega, by omega⟩
                      refine lv_goto (tgt := 15) hx hb dX4_leastBehind_137 (by decide) ?_
                      exact ih_2 x_20 x_18 y8_3 x_19 u8 H locs (by omega) (by omega) (by omega) (by omega) (by omega) hv hfr hP hD hS ls (lv_sub hl [0, 1, 5, 2, 6, 7] rfl)
                    · have tc_15 : x_14.toInt ≠ (0 : Int32).toInt := fun q => absurd (Int32.toInt_inj.mp q) c_15
                      refine lv_iconst (v := 1) hx hb dX4_leastBehind_91 (by decide) ?_
                      refine lv_goto (tgt := 96) hx hb dX4_leastBehind_92 (by decide) ?_
                      refine lv_istore (lv' := [(7, .int 1), (6, .int x_6), (5, .int y2_5), (4, .int y8_4), (3, .int y8_3), (2, .int y2_2), (0, .ref (ad 1)), (1, .int x0)]) hx hb dX4_leastBehind_96 hl (by decide) rfl (fun ls hl => ?_)
                      refine lv_iload_n hx hb dX4_leastBehind_98 rfl (lv_at hl 5 rfl) ?_
                      refine lv_aload_n hx hb dX4_leastBehind_99 rfl (lv_at hl 6 rfl) ?_
                      refine va_get (D := (dC, dI)) (ci := 4) (v := .ref (ad 3)) (C := RX4) (T := TX4) (N := 11) hx hb hts iwX4_leastBehind_X4 hown hK hP (1) (wl_at (by omega) (ce_1 (by decide))) rfl 4 (by decide) (hts (.fieldLink RX4 15 "QuietStairs$Planner" "weights" "[I") fwX4_leastBehind_6) (fun _ h9 => h9) rfl dX4_leastBehind_100 ?_
                      refine lv_iload hx hb dX4_leastBehind_103 (lv_at hl 1 rfl) ?_
                      refine va_iald hx hb hK hP (3) 0 (wl_at (by omega) (ce_17 (by decide))) rfl pi13 dX4_leastBehind_105 ?_
                      refine lv_topi (fun x_16 ex_16 => ?_)
                      refine lv_iload hx hb dX4_leastBehind_106 (lv_at hl 0 rfl) ?_
                      refine lv_if_eq (tgt := 115) hx hb dX4_leastBehind_108 (by decide) (fun c9 => absurd c9 (by decide)) (fun _ => ?_)
                      refine lv_iload_n hx hb dX4_leastBehind_111 rfl (lv_at hl 4 rfl) ?_
                      refine lv_goto (tgt := 116) hx hb dX4_leastBehind_112 (by decide) ?_
                      refine lv_imul hx hb dX4_leastBehind_116 ?_
                      refine lv_topi (fun x_17 ex_17 => ?_)
                      refine lv_iadd hx hb dX4_leastBehind_117 ?_
                      refine lv_topi (fun x_18 ex_18 => ?_)
                      refine lv_istore_n (lv' := [(2, .int x_18), (7, .int 1), (6, .int x_6), (5, .int y2_5), (4, .int y8_4), (3, .int y8_3), (0, .ref (ad 1)), (1, .int x0)]) hx hb dX4_leastBehind_118 rfl hl (by decide) rfl (fun ls hl => ?_)
                      refine lv_iload hx hb dX4_leastBehind_119 (lv_at hl 4 rfl) ?_
                      refine lv_iload hx hb dX4_leastBehind_121 (lv_at hl 1 rfl) ?_
                      refine lv_if_eq (tgt := 130) hx hb dX4_leastBehind_123 (by decide) (fun c9 => absurd c9 (by decide)) (fun _ => ?_)
                      refine lv_iconst (v := 1) hx hb dX4_leastBehind_126 (by decide) ?_
                      refine lv_goto (tgt := 131) hx hb dX4_leastBehind_127 (by decide) ?_
                      have k_1 : (1 : Int32).toInt = 1 := by decide
                      refine lv_iadd hx hb dX4_leastBehind_131 ?_
                      refine lv_topi (fun x_19 ex_19 => ?_)
                      refine lv_istore (lv' := [(4, .int x_19), (2, .int x_18), (7, .int 1), (6, .int x_6), (5, .int y2_5), (3, .int y8_3), (0, .ref (ad 1)), (1, .int x0)]) hx hb dX4_leastBehind_132 hl (by decide) rfl (fun ls hl => ?_)
                      obtain ⟨x_20, ex_20⟩ : ∃ y : Int32, y = y2_5 + 1 := ⟨_, rfl⟩
                      refine lv_iinc (v := x_20) (lv' := [(5, .int x_20), (4, .int x_19), (2, .int x_18), (7, .int 1), (6, .int x_6), (3, .int y8_3), (0, .ref (ad 1)), (1, .int x0)]) hx hb dX4_leastBehind_134 hl (k := 4) rfl (by rw [ex_20]; rfl) (by decide) rfl (fun ls hl => ?_)
                      have tx_20 : x_20.toInt = y2_5.toInt + (1 : Int32).toInt := by rw [ex_20]; exact t_add ⟨by omega, by omega⟩
                      refine lv_goto (tgt := 15) hx hb dX4_leastBehind_137 (by decide) ?_
                      exact ih_2 x_20 x_18 y8_3 x_19 u8 H locs (by omega) (by omega) (by omega) (by omega) (by omega) hv hfr hP hD hS ls (lv_sub hl [0, 1, 5, 2, 6, 7] rfl)
                · have tc_11 : y8_4.toInt ≥ x_10.toInt := Int32.le_iff_toInt_le.mp (Int32.not_lt.mp c_11)
                  obtain ⟨x_12, ex_12⟩ : ∃ y : Int32, y = y8_3 + 1 := ⟨_, rfl⟩
                  refine lv_iinc (v := x_12) (lv' := [(3, .int x_12), (6, .int x_6), (5, .int y2_5), (4, .int y8_4), (2, .int y2_2), (0, .ref (ad 1)), (1, .int x0)]) hx hb dX4_leastBehind_53 hl (k := 3) rfl (by rw [ex_12]; rfl) (by decide) rfl (fun ls hl => ?_)
                  have k_1 : (1 : Int32).toInt = 1 := by decide
                  have tx_12 : x_12.toInt = y8_3.toInt + (1 : Int32).toInt := by rw [ex_12]; exact t_add ⟨by omega, by omega⟩
                  refine lv_iload_n hx hb dX4_leastBehind_56 rfl (lv_at hl 0 rfl) ?_
                  refine lv_iconst (v := 3) hx hb dX4_leastBehind_57 (by decide) ?_
                  refine lv_icmp_ge (tgt := 70) hx hb dX4_leastBehind_58 (by decide) (fun c_13 => ?_) (fun c_13 => ?_)
                  · have tc_13 : x_12.toInt ≥ (3 : Int32).toInt := Int32.le_iff_toInt_le.mp c_13
                    refine lv_iconst (v := 0) hx hb dX4_leastBehind_70 (by decide) ?_
                    refine lv_istore (lv' := [(4, .int 0), (3, .int x_12), (6, .int x_6), (5, .int y2_5), (2, .int y2_2), (0, .ref (ad 1)), (1, .int x0)]) hx hb dX4_leastBehind_71 hl (by decide) rfl (fun ls hl => ?_)
                    refine lv_goto (tgt := 39) hx hb dX4_leastBehind_73 (by decide) ?_
                    exact ih_8 x_12 0 u8 H locs (by omega) (by omega) (by omega) hv hfr hP hD hS ls (lv_sub hl [2, 3, 0, 1, 4, 5, 6] rfl)
                  · have tc_13 : x_12.toInt < (3 : Int32).toInt := Int32.lt_iff_toInt_lt.mp (Int32.not_le.mp c_13)
                    refine lv_aload_n hx hb dX4_leastBehind_61 rfl (lv_at hl 5 rfl) ?_
                    refine va_get (D := (dC, dI)) (ci := 4) (v := .ref (ad 9)) (C := RX4) (T := TX4) (N := 11) hx hb hts iwX4_leastBehind_X4 hown hK hP (1) (wl_at (by omega) (ce_1 (by decide))) rfl 10 (by decide) (hts (.fieldLink RX4 33 "QuietStairs$Planner" "sittings" "[I") fwX4_leastBehind_1) (fun _ h9 => h9) rfl dX4_leastBehind_62 ?_
                    refine lv_iload_n hx hb dX4_leastBehind_65 rfl (lv_at hl 0 rfl) ?_
                    obtain ⟨pi14, i14, hi14, ni14, mi14⟩ := t_in (x := x_12) (n := 3) ⟨by omega, by omega⟩
                    refine va_iald hx hb hK hP (9) 0 (wl_at (by omega) (ce_18 (by decide))) rfl pi14 dX4_leastBehind_66 ?_
                    refine lv_topi (fun x_15 ex_15 => ?_)
                    refine lv_goto (tgt := 71) hx hb dX4_leastBehind_67 (by decide) ?_
                    refine lv_istore (lv' := [(4, .int x_15), (3, .int x_12), (6, .int x_6), (5, .int y2_5), (2, .int y2_2), (0, .ref (ad 1)), (1, .int x0)]) hx hb dX4_leastBehind_71 hl (by decide) rfl (fun ls hl => ?_)
                    refine lv_goto (tgt := 39) hx hb dX4_leastBehind_73 (by decide) ?_
                    exact ih_8 x_12 x_15 u8 H locs (by omega) (by omega) (by omega) hv hfr hP hD hS ls (lv_sub hl [2, 3, 0, 1, 4, 5, 6] rfl)
          exact hloop_8 ((3 - (y2_3 : Int32).toInt).toNat + 1) y2_3 y2_4 u2 _ _ (by omega) (by omega) (by omega) hv hfr hP hD hS ls hl
  exact hloop_2 ((4 - (0 : Int32).toInt).toNat + 1) 0 0 0 x_1 v _ _ (by omega) (by omega) (by omega) (by omega) (by omega) hv hfr hP hD hS ls hl

set_option maxHeartbeats 4000000 in
set_option maxRecDepth 100000 in
theorem g_X4_seatOf (l : Launch) (dC : Nat → ClassId) (dI : Nat → Nat → Nat) (cy : Nat → ClassId) (sz : Nat) (ad : Nat → Nat) (kv : Value) (N : Nat) (hN : 119 ≤ N) (v : Nat → Nat → Int32) (hv : Iv v) (x0 : Int32) : Met l yX4_seatOf wsX4_seatOf ({ frames := 0, cells := 0, slots := 0, locals := 0 }) (va_Pc [.ref (ad 1), .int x0] (ex_Pre dC dI cy sz (wl ad kv cy N v))) (va_Qi (fun (r : Int32) (u : Nat → Nat → Int32) => Iv u ∧ Fz v u) (fun u t => ex_Pst dC dI (va_A (wl ad kv cy N v) sz) (wl ad kv cy N u) t) (va_A (wl ad kv cy N v) sz)) 0 0 (va_A (wl ad kv cy N v) sz) := by
  refine Met.ofW (cc := cX4_seatOf) (maxL := 3) (ret := (some .int)) (by decide) rfl ?_
  intro p e s m args below meth c s₁ B hml hv
  obtain ⟨rfl, hsz, hE, hP, hK, hD0⟩ := hv
  have hx := B.exec
  have hb := B.bytes
  have hr := B.returns
  have hts := atoms_spec (ws := wsX4_seatOf) B.pre
  have hown : s.vm.findClass RX4 = some m.cls := findClass_of_methodNamed B.named
  have hlocks := B.notSynchronized
  subst hsz
  have hD := hD0.self (sz := s.heap.size)
  generalize hAe : va_A (wl ad kv cy N v) s.heap.size = A at hD ⊢
  have hA : ∀ q : Nat, s.heap.size ≤ q → A q := fun q h => by rw [← hAe]; exact Or.inr h
  have hS : va_S A s.heap s.heap [] := va_S.rf
  have hP : va_P (dC, dI) vwCl (wl ad kv cy N v) s.heap := hP
  have hl := lv_entry ([.ref (ad 1), .int x0]) (n := 3) (Nat.le_of_ble_eq_true rfl)
  rw [lg_entry_eq]
  generalize (lg_sl ([.ref (ad 1), .int x0]) ++ List.replicate (3 - (lg_sl ([.ref (ad 1), .int x0])).length) Slot.unset).toArray = ls at hl ⊢
  have hl : lv_has ls 3 [(0, .ref (ad 1)), (1, .int x0)] := hl
  have hfr : Fz v v := Fz.rf
  refine lv_iconst (v := 0) hx hb dX4_seatOf_0 (by decide) ?_
  refine lv_istore_n (lv' := [(2, .int 0), (0, .ref (ad 1)), (1, .int x0)]) hx hb dX4_seatOf_1 rfl hl (by decide) rfl (fun ls hl => ?_)
  have k_0 : (0 : Int32).toInt = 0 := by decide
  have hloop_1 : ∀ (n : Nat) (y1_2 : Int32) (u1 : Nat → Nat → Int32) (H : Heap) (locs : List Loc), 0 ≤ y1_2.toInt → y1_2.toInt ≤ 4 → (4 - y1_2.toInt).toNat < n → Iv u1 → Fz v u1 → va_P (dC, dI) vwCl (wl ad kv cy N u1) H → va_D A (wl ad kv cy N u1) → va_S A s.heap H locs → ∀ ls : Array Slot, lv_has ls 3 [(2, .int y1_2), (0, .ref (ad 1)), (1, .int x0)] → W p l e (headSpec wsX4_seatOf ({ frames := 0, cells := 0, slots := 0, locals := 0 })).room s m [Value.ref (ad 1), Value.int x0].toArray below meth c H locs 0 0 (MQ below (va_Qi (fun (r : Int32) (u : Nat → Nat → Int32) => Iv u ∧ Fz v u) (fun u t => ex_Pst dC dI A (wl ad kv cy N u) t) A) [Value.ref (ad 1), Value.int x0].toArray s 0 0 A) (F0 m 2 ls []) := by
    intro n
    induction n with
    | zero =>
      intro y1_2 u1 H locs ay1_2 by1_2 hm_1 hv hfr hP hD hS ls hl
      exact absurd hm_1 (by omega)
    | succ n ih_1 =>
      intro y1_2 u1 H locs ay1_2 by1_2 hm_1 hv hfr hP hD hS ls hl
      refine lv_iload_n hx hb dX4_seatOf_2 rfl (lv_at hl 0 rfl) ?_
      refine lv_aload_n hx hb dX4_seatOf_3 rfl (lv_at hl 1 rfl) ?_
      refine va_get (D := (dC, dI)) (ci := 4) (v := .int (u1 (1) 1)) (C := RX4) (T := TX4) (N := 11) hx hb hts iwX4_seatOf_X4 hown hK hP (1) (wl_at (by omega) (ce_1 (by decide))) rfl 1 (by decide) (hts (.fieldLink RX4 61 "QuietStairs$Planner" "count" "I") fwX4_seatOf_1) (fun _ h9 => h9) rfl dX4_seatOf_4 ?_
      refine lv_topi (fun x_2 ex_2 => ?_)
      have bx_2 : 0 ≤ x_2.toInt ∧ x_2.toInt ≤ 4 := by rw [ex_2]; exact hv.at (K := 1) (by decide) rfl
      refine lv_icmp_ge (tgt := 44) hx hb dX4_seatOf_7 (by decide) (fun c_3 => ?_) (fun c_3 => ?_)
      · have tc_3 : y1_2.toInt ≥ x_2.toInt := Int32.le_iff_toInt_le.mp c_3
        refine lv_bipush (v := (-5)) hx hb dX4_seatOf_44 (by decide) ?_
        exact W.iret (v := (-5)) hx hb hr (fun t ht hW => ⟨⟨(-5), u1, rfl, ⟨hv, hfr⟩, by rw [ht]; exact hP, hD⟩, hS.F ht⟩) hS.2.2 dX4_seatOf_46
      · have tc_3 : y1_2.toInt < x_2.toInt := Int32.lt_iff_toInt_lt.mp (Int32.not_le.mp c_3)
        refine lv_aload_n hx hb dX4_seatOf_10 rfl (lv_at hl 1 rfl) ?_
        refine va_get (D := (dC, dI)) (ci := 4) (v := .ref (ad 2)) (C := RX4) (T := TX4) (N := 11) hx hb hts iwX4_seatOf_X4 hown hK hP (1) (wl_at (by omega) (ce_1 (by decide))) rfl 3 (by decide) (hts (.fieldLink RX4 9 "QuietStairs$Planner" "numbers" "[I") fwX4_seatOf_2) (fun _ h9 => h9) rfl dX4_seatOf_11 ?_
        refine lv_iload_n hx hb dX4_seatOf_14 rfl (lv_at hl 0 rfl) ?_
        obtain ⟨pi4, i4, hi4, ni4, mi4⟩ := t_in (x := y1_2) (n := 4) ⟨by omega, by omega⟩
        refine va_iald hx hb hK hP (2) 0 (wl_at (by omega) (ce_17 (by decide))) rfl pi4 dX4_seatOf_15 ?_
        refine lv_topi (fun x_5 ex_5 => ?_)
        refine lv_iload_n hx hb dX4_seatOf_16 rfl (lv_at hl 2 rfl) ?_
        refine lv_icmp_ne (tgt := 38) hx hb dX4_seatOf_17 (by decide) (fun c_6 => ?_) (fun c_6 => ?_)
        · have tc_6 : x_5.toInt ≠ x0.toInt := fun q => absurd (Int32.toInt_inj.mp q) c_6
          obtain ⟨x_7, ex_7⟩ : ∃ y : Int32, y = y1_2 + 1 := ⟨_, rfl⟩
          refine lv_iinc (v := x_7) (lv' := [(2, .int x_7), (0, .ref (ad 1)), (1, .int x0)]) hx hb dX4_seatOf_38 hl (k := 0) rfl (by rw [ex_7]; rfl) (by decide) rfl (fun ls hl => ?_)
          have k_1 : (1 : Int32).toInt = 1 := by decide
          have tx_7 : x_7.toInt = y1_2.toInt + (1 : Int32).toInt := by rw [ex_7]; exact t_add ⟨by omega, by omega⟩
          refine lv_goto (tgt := 2) hx hb dX4_seatOf_41 (by decide) ?_
          exact ih_1 x_7 u1 H locs (by omega) (by omega) (by omega) hv hfr hP hD hS ls (lv_sub hl [0, 1, 2] rfl)
        · have tc_6 : x_5.toInt = x0.toInt := by rw [c_6]
          refine lv_aload_n hx hb dX4_seatOf_20 rfl (lv_at hl 1 rfl) ?_
          refine va_get (D := (dC, dI)) (ci := 4) (v := .ref (ad 7)) (C := RX4) (T := TX4) (N := 11) hx hb hts iwX4_seatOf_X4 hown hK hP (1) (wl_at (by omega) (ce_1 (by decide))) rfl 8 (by decide) (hts (.fieldLink RX4 27 "QuietStairs$Planner" "bestSeats" "[I") fwX4_seatOf_3) (fun _ h9 => h9) rfl dX4_seatOf_21 ?_
          refine lv_iload_n hx hb dX4_seatOf_24 rfl (lv_at hl 0 rfl) ?_
          refine va_iald hx hb hK hP (7) 0 (wl_at (by omega) (ce_17 (by decide))) rfl pi4 dX4_seatOf_25 ?_
          refine lv_topi (fun x_7 ex_7 => ?_)
          refine lv_bipush (v := 18) hx hb dX4_seatOf_26 (by decide) ?_
          have k_18 : (18 : Int32).toInt = 18 := by decide
          refine lv_icmp_eq (tgt := 38) hx hb dX4_seatOf_28 (by decide) (fun c_8 => ?_) (fun c_8 => ?_)
          · have tc_8 : x_7.toInt = (18 : Int32).toInt := by rw [c_8]
            obtain ⟨x_9, ex_9⟩ : ∃ y : Int32, y = y1_2 + 1 := ⟨_, rfl⟩
            refine lv_iinc (v := x_9) (lv' := [(2, .int x_9), (0, .ref (ad 1)), (1, .int x0)]) hx hb dX4_seatOf_38 hl (k := 0) rfl (by rw [ex_9]; rfl) (by decide) rfl (fun ls hl => ?_)
            have k_1 : (1 : Int32).toInt = 1 := by decide
            have tx_9 : x_9.toInt = y1_2.toInt + (1 : Int32).toInt := by rw [ex_9]; exact t_add ⟨by omega, by omega⟩
            refine lv_goto (tgt := 2) hx hb dX4_seatOf_41 (by decide) ?_
            exact ih_1 x_9 u1 H locs (by omega) (by omega) (by omega) hv hfr hP hD hS ls (lv_sub hl [0, 1, 2] rfl)
          · have tc_8 : x_7.toInt ≠ (18 : Int32).toInt := fun q => absurd (Int32.toInt_inj.mp q) c_8
            refine lv_aload_n hx hb dX4_seatOf_31 rfl (lv_at hl 1 rfl) ?_
            refine va_get (D := (dC, dI)) (ci := 4) (v := .ref (ad 7)) (C := RX4) (T := TX4) (N := 11) hx hb hts iwX4_seatOf_X4 hown hK hP (1) (wl_at (by omega) (ce_1 (by decide))) rfl 8 (by decide) (hts (.fieldLink RX4 27 "QuietStairs$Planner" "bestSeats" "[I") fwX4_seatOf_3) (fun _ h9 => h9) rfl dX4_seatOf_32 ?_
            refine lv_iload_n hx hb dX4_seatOf_35 rfl (lv_at hl 0 rfl) ?_
            refine va_iald hx hb hK hP (7) 0 (wl_at (by omega) (ce_17 (by decide))) rfl pi4 dX4_seatOf_36 ?_
            refine lv_topi (fun x_9 ex_9 => ?_)
            exact W.iret (v := x_9) hx hb hr (fun t ht hW => ⟨⟨x_9, u1, rfl, ⟨hv, hfr⟩, by rw [ht]; exact hP, hD⟩, hS.F ht⟩) hS.2.2 dX4_seatOf_37
  exact hloop_1 ((4 - (0 : Int32).toInt).toNat + 1) 0 v _ _ (by omega) (by omega) (by omega) hv hfr hP hD hS ls hl
