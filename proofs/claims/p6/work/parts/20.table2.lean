set_option maxRecDepth 20000 in
theorem db_X5_stands_0 : (decode cX5_stands 0 = .ok (.iconst 1, 1)) ∧ (decode cX5_stands 1 = .ok (.istore_n 1, 1)) ∧ (decode cX5_stands 2 = .ok (.iload_n 1, 1)) ∧ (decode cX5_stands 3 = .ok (.iconst 1, 1)) ∧ (decode cX5_stands 4 = .ok (.aload_n 0, 1)) ∧ (decode cX5_stands 5 = .ok (.getfield 18, 3)) ∧ (decode cX5_stands 8 = .ok (.ishl, 1)) ∧ (decode cX5_stands 9 = .ok (.if_icmp .ge 57, 3)) := by decide +kernel
theorem dX5_stands_0 : decode cX5_stands 0 = .ok (.iconst 1, 1) := db_X5_stands_0.1
theorem dX5_stands_1 : decode cX5_stands 1 = .ok (.istore_n 1, 1) := db_X5_stands_0.2.1
theorem dX5_stands_2 : decode cX5_stands 2 = .ok (.iload_n 1, 1) := db_X5_stands_0.2.2.1
theorem dX5_stands_3 : decode cX5_stands 3 = .ok (.iconst 1, 1) := db_X5_stands_0.2.2.2.1
theorem dX5_stands_4 : decode cX5_stands 4 = .ok (.aload_n 0, 1) := db_X5_stands_0.2.2.2.2.1
theorem dX5_stands_5 : decode cX5_stands 5 = .ok (.getfield 18, 3) := db_X5_stands_0.2.2.2.2.2.1
theorem dX5_stands_8 : decode cX5_stands 8 = .ok (.ishl, 1) := db_X5_stands_0.2.2.2.2.2.2.1
theorem dX5_stands_9 : decode cX5_stands 9 = .ok (.if_icmp .ge 57, 3) := db_X5_stands_0.2.2.2.2.2.2.2
set_option maxRecDepth 20000 in
theorem db_X5_stands_66 : (decode cX5_stands 66 = .ok (.iconst 1, 1)) ∧ (decode cX5_stands 67 = .ok (.ireturn, 1)) ∧ (decode cX5_stands 12 = .ok (.iconst 0, 1)) ∧ (decode cX5_stands 13 = .ok (.istore_n 2, 1)) ∧ (decode cX5_stands 14 = .ok (.iconst 0, 1)) ∧ (decode cX5_stands 15 = .ok (.istore_n 3, 1)) ∧ (decode cX5_stands 16 = .ok (.iload_n 3, 1)) ∧ (decode cX5_stands 17 = .ok (.aload_n 0, 1)) := by decide +kernel
theorem dX5_stands_66 : decode cX5_stands 66 = .ok (.iconst 1, 1) := db_X5_stands_66.1
theorem dX5_stands_67 : decode cX5_stands 67 = .ok (.ireturn, 1) := db_X5_stands_66.2.1
theorem dX5_stands_12 : decode cX5_stands 12 = .ok (.iconst 0, 1) := db_X5_stands_66.2.2.1
theorem dX5_stands_13 : decode cX5_stands 13 = .ok (.istore_n 2, 1) := db_X5_stands_66.2.2.2.1
theorem dX5_stands_14 : decode cX5_stands 14 = .ok (.iconst 0, 1) := db_X5_stands_66.2.2.2.2.1
theorem dX5_stands_15 : decode cX5_stands 15 = .ok (.istore_n 3, 1) := db_X5_stands_66.2.2.2.2.2.1
theorem dX5_stands_16 : decode cX5_stands 16 = .ok (.iload_n 3, 1) := db_X5_stands_66.2.2.2.2.2.2.1
theorem dX5_stands_17 : decode cX5_stands 17 = .ok (.aload_n 0, 1) := db_X5_stands_66.2.2.2.2.2.2.2
set_option maxRecDepth 20000 in
theorem db_X5_stands_18 : (decode cX5_stands 18 = .ok (.getfield 18, 3)) ∧ (decode cX5_stands 21 = .ok (.if_icmp .ge 26, 3)) ∧ (decode cX5_stands 47 = .ok (.iload_n 2, 1)) ∧ (decode cX5_stands 48 = .ok (.invokestatic 51, 3)) ∧ (decode cX5_stands 51 = .ok (.iload_n 1, 1)) ∧ (decode cX5_stands 52 = .ok (.invokestatic 51, 3)) ∧ (decode cX5_stands 55 = .ok (.if_icmp .ge 5, 3)) ∧ (decode cX5_stands 60 = .ok (.iinc 1 1, 3)) := by decide +kernel
theorem dX5_stands_18 : decode cX5_stands 18 = .ok (.getfield 18, 3) := db_X5_stands_18.1
theorem dX5_stands_21 : decode cX5_stands 21 = .ok (.if_icmp .ge 26, 3) := db_X5_stands_18.2.1
theorem dX5_stands_47 : decode cX5_stands 47 = .ok (.iload_n 2, 1) := db_X5_stands_18.2.2.1
set_option maxRecDepth 20000 in
theorem ggX5_stands_J6_bitCount_0f7a4 : GoodIn wsX5_stands wsJ6_bitCount_0f7a4 := goodIn_r _ [9, 10, 11, 12] rfl (by decide +kernel)
set_option maxRecDepth 20000 in
theorem gX5_stands_J6_bitCount_0f7a4 : GoodIn wsX5_stands (va_wsS RX5 51 yJ6_bitCount_0f7a4 wsJ6_bitCount_0f7a4) := goodIn_app (goodIn_r _ [6, 7, 8] rfl (by decide +kernel)) ggX5_stands_J6_bitCount_0f7a4
theorem dX5_stands_48 : decode cX5_stands 48 = .ok (.invokestatic 51, 3) := db_X5_stands_18.2.2.2.1
theorem dX5_stands_51 : decode cX5_stands 51 = .ok (.iload_n 1, 1) := db_X5_stands_18.2.2.2.2.1
theorem dX5_stands_52 : decode cX5_stands 52 = .ok (.invokestatic 51, 3) := db_X5_stands_18.2.2.2.2.2.1
theorem dX5_stands_55 : decode cX5_stands 55 = .ok (.if_icmp .ge 5, 3) := db_X5_stands_18.2.2.2.2.2.2.1
theorem dX5_stands_60 : decode cX5_stands 60 = .ok (.iinc 1 1, 3) := db_X5_stands_18.2.2.2.2.2.2.2
set_option maxRecDepth 20000 in
theorem db_X5_stands_63 : (decode cX5_stands 63 = .ok (.goto (-61), 3)) ∧ (decode cX5_stands 58 = .ok (.iconst 0, 1)) ∧ (decode cX5_stands 59 = .ok (.ireturn, 1)) ∧ (decode cX5_stands 24 = .ok (.iload_n 1, 1)) ∧ (decode cX5_stands 25 = .ok (.iload_n 3, 1)) ∧ (decode cX5_stands 26 = .ok (.invokestatic 47, 3)) ∧ (decode cX5_stands 29 = .ok (.ifCond .eq 12, 3)) ∧ (decode cX5_stands 41 = .ok (.iinc 3 1, 3)) := by decide +kernel
theorem dX5_stands_63 : decode cX5_stands 63 = .ok (.goto (-61), 3) := db_X5_stands_63.1
theorem dX5_stands_58 : decode cX5_stands 58 = .ok (.iconst 0, 1) := db_X5_stands_63.2.1
theorem dX5_stands_59 : decode cX5_stands 59 = .ok (.ireturn, 1) := db_X5_stands_63.2.2.1
theorem dX5_stands_24 : decode cX5_stands 24 = .ok (.iload_n 1, 1) := db_X5_stands_63.2.2.2.1
theorem dX5_stands_25 : decode cX5_stands 25 = .ok (.iload_n 3, 1) := db_X5_stands_63.2.2.2.2.1
set_option maxRecDepth 20000 in
theorem ggX5_stands_X7_hasBit : GoodIn wsX5_stands wsX7_hasBit := goodIn_r _ [5] rfl (by decide +kernel)
set_option maxRecDepth 20000 in
theorem gX5_stands_X7_hasBit_n47 : GoodIn wsX5_stands (wsX7_hasBit) := ggX5_stands_X7_hasBit
theorem dX5_stands_26 : decode cX5_stands 26 = .ok (.invokestatic 47, 3) := db_X5_stands_63.2.2.2.2.2.1
theorem dX5_stands_29 : decode cX5_stands 29 = .ok (.ifCond .eq 12, 3) := db_X5_stands_63.2.2.2.2.2.2.1
theorem dX5_stands_41 : decode cX5_stands 41 = .ok (.iinc 3 1, 3) := db_X5_stands_63.2.2.2.2.2.2.2
set_option maxRecDepth 20000 in
theorem db_X5_stands_44 : (decode cX5_stands 44 = .ok (.goto (-28), 3)) ∧ (decode cX5_stands 32 = .ok (.iload_n 2, 1)) ∧ (decode cX5_stands 33 = .ok (.aload_n 0, 1)) ∧ (decode cX5_stands 34 = .ok (.getfield 15, 3)) ∧ (decode cX5_stands 37 = .ok (.iload_n 3, 1)) ∧ (decode cX5_stands 38 = .ok (.iaload, 1)) ∧ (decode cX5_stands 39 = .ok (.ior, 1)) ∧ (decode cX5_stands 40 = .ok (.istore_n 2, 1)) := by decide +kernel
theorem dX5_stands_44 : decode cX5_stands 44 = .ok (.goto (-28), 3) := db_X5_stands_44.1
theorem dX5_stands_32 : decode cX5_stands 32 = .ok (.iload_n 2, 1) := db_X5_stands_44.2.1
theorem dX5_stands_33 : decode cX5_stands 33 = .ok (.aload_n 0, 1) := db_X5_stands_44.2.2.1
theorem dX5_stands_34 : decode cX5_stands 34 = .ok (.getfield 15, 3) := db_X5_stands_44.2.2.2.1
theorem dX5_stands_37 : decode cX5_stands 37 = .ok (.iload_n 3, 1) := db_X5_stands_44.2.2.2.2.1
theorem dX5_stands_38 : decode cX5_stands 38 = .ok (.iaload, 1) := db_X5_stands_44.2.2.2.2.2.1
theorem dX5_stands_39 : decode cX5_stands 39 = .ok (.ior, 1) := db_X5_stands_44.2.2.2.2.2.2.1
theorem dX5_stands_40 : decode cX5_stands 40 = .ok (.istore_n 2, 1) := db_X5_stands_44.2.2.2.2.2.2.2
set_option maxRecDepth 20000 in
theorem db_X5_pinLeastHour_0 : (decode cX5_pinLeastHour 0 = .ok (.aload_n 0, 1)) ∧ (decode cX5_pinLeastHour 1 = .ok (.getfield 15, 3)) ∧ (decode cX5_pinLeastHour 4 = .ok (.iload_n 1, 1)) ∧ (decode cX5_pinLeastHour 5 = .ok (.iaload, 1)) ∧ (decode cX5_pinLeastHour 6 = .ok (.istore_n 2, 1)) ∧ (decode cX5_pinLeastHour 7 = .ok (.iconst 0, 1)) ∧ (decode cX5_pinLeastHour 8 = .ok (.istore_n 3, 1)) ∧ (decode cX5_pinLeastHour 9 = .ok (.iload_n 3, 1)) := by decide +kernel
theorem dX5_pinLeastHour_0 : decode cX5_pinLeastHour 0 = .ok (.aload_n 0, 1) := db_X5_pinLeastHour_0.1
theorem dX5_pinLeastHour_1 : decode cX5_pinLeastHour 1 = .ok (.getfield 15, 3) := db_X5_pinLeastHour_0.2.1
theorem dX5_pinLeastHour_4 : decode cX5_pinLeastHour 4 = .ok (.iload_n 1, 1) := db_X5_pinLeastHour_0.2.2.1
theorem dX5_pinLeastHour_5 : decode cX5_pinLeastHour 5 = .ok (.iaload, 1) := db_X5_pinLeastHour_0.2.2.2.1
theorem dX5_pinLeastHour_6 : decode cX5_pinLeastHour 6 = .ok (.istore_n 2, 1) := db_X5_pinLeastHour_0.2.2.2.2.1
theorem dX5_pinLeastHour_7 : decode cX5_pinLeastHour 7 = .ok (.iconst 0, 1) := db_X5_pinLeastHour_0.2.2.2.2.2.1
theorem dX5_pinLeastHour_8 : decode cX5_pinLeastHour 8 = .ok (.istore_n 3, 1) := db_X5_pinLeastHour_0.2.2.2.2.2.2.1
theorem dX5_pinLeastHour_9 : decode cX5_pinLeastHour 9 = .ok (.iload_n 3, 1) := db_X5_pinLeastHour_0.2.2.2.2.2.2.2
set_option maxRecDepth 20000 in
theorem db_X5_pinLeastHour_10 : (decode cX5_pinLeastHour 10 = .ok (.bipush 24, 2)) ∧ (decode cX5_pinLeastHour 12 = .ok (.if_icmp .ge 35, 3)) ∧ (decode cX5_pinLeastHour 47 = .ok (.aload_n 0, 1)) ∧ (decode cX5_pinLeastHour 48 = .ok (.getfield 15, 3)) ∧ (decode cX5_pinLeastHour 51 = .ok (.iload_n 1, 1)) ∧ (decode cX5_pinLeastHour 52 = .ok (.iload_n 2, 1)) ∧ (decode cX5_pinLeastHour 53 = .ok (.iastore, 1)) ∧ (decode cX5_pinLeastHour 54 = .ok (.bipush (-5), 2)) := by decide +kernel
theorem dX5_pinLeastHour_10 : decode cX5_pinLeastHour 10 = .ok (.bipush 24, 2) := db_X5_pinLeastHour_10.1
theorem dX5_pinLeastHour_12 : decode cX5_pinLeastHour 12 = .ok (.if_icmp .ge 35, 3) := db_X5_pinLeastHour_10.2.1
theorem dX5_pinLeastHour_47 : decode cX5_pinLeastHour 47 = .ok (.aload_n 0, 1) := db_X5_pinLeastHour_10.2.2.1
theorem dX5_pinLeastHour_48 : decode cX5_pinLeastHour 48 = .ok (.getfield 15, 3) := db_X5_pinLeastHour_10.2.2.2.1
theorem dX5_pinLeastHour_51 : decode cX5_pinLeastHour 51 = .ok (.iload_n 1, 1) := db_X5_pinLeastHour_10.2.2.2.2.1
theorem dX5_pinLeastHour_52 : decode cX5_pinLeastHour 52 = .ok (.iload_n 2, 1) := db_X5_pinLeastHour_10.2.2.2.2.2.1
theorem dX5_pinLeastHour_53 : decode cX5_pinLeastHour 53 = .ok (.iastore, 1) := db_X5_pinLeastHour_10.2.2.2.2.2.2.1
theorem dX5_pinLeastHour_54 : decode cX5_pinLeastHour 54 = .ok (.bipush (-5), 2) := db_X5_pinLeastHour_10.2.2.2.2.2.2.2
set_option maxRecDepth 20000 in
theorem db_X5_pinLeastHour_56 : (decode cX5_pinLeastHour 56 = .ok (.ireturn, 1)) ∧ (decode cX5_pinLeastHour 15 = .ok (.iload_n 2, 1)) ∧ (decode cX5_pinLeastHour 16 = .ok (.iload_n 3, 1)) ∧ (decode cX5_pinLeastHour 17 = .ok (.invokestatic 47, 3)) ∧ (decode cX5_pinLeastHour 20 = .ok (.ifCond .eq 21, 3)) ∧ (decode cX5_pinLeastHour 41 = .ok (.iinc 3 1, 3)) ∧ (decode cX5_pinLeastHour 44 = .ok (.goto (-35), 3)) ∧ (decode cX5_pinLeastHour 23 = .ok (.aload_n 0, 1)) := by decide +kernel
theorem dX5_pinLeastHour_56 : decode cX5_pinLeastHour 56 = .ok (.ireturn, 1) := db_X5_pinLeastHour_56.1
theorem dX5_pinLeastHour_15 : decode cX5_pinLeastHour 15 = .ok (.iload_n 2, 1) := db_X5_pinLeastHour_56.2.1
theorem dX5_pinLeastHour_16 : decode cX5_pinLeastHour 16 = .ok (.iload_n 3, 1) := db_X5_pinLeastHour_56.2.2.1
set_option maxRecDepth 20000 in
theorem ggX5_pinLeastHour_X7_hasBit : GoodIn wsX5_pinLeastHour wsX7_hasBit := goodIn_r _ [4] rfl (by decide +kernel)
set_option maxRecDepth 20000 in
theorem gX5_pinLeastHour_X7_hasBit_n47 : GoodIn wsX5_pinLeastHour (wsX7_hasBit) := ggX5_pinLeastHour_X7_hasBit
theorem dX5_pinLeastHour_17 : decode cX5_pinLeastHour 17 = .ok (.invokestatic 47, 3) := db_X5_pinLeastHour_56.2.2.2.1
theorem dX5_pinLeastHour_20 : decode cX5_pinLeastHour 20 = .ok (.ifCond .eq 21, 3) := db_X5_pinLeastHour_56.2.2.2.2.1
theorem dX5_pinLeastHour_41 : decode cX5_pinLeastHour 41 = .ok (.iinc 3 1, 3) := db_X5_pinLeastHour_56.2.2.2.2.2.1
theorem dX5_pinLeastHour_44 : decode cX5_pinLeastHour 44 = .ok (.goto (-35), 3) := db_X5_pinLeastHour_56.2.2.2.2.2.2.1
theorem dX5_pinLeastHour_23 : decode cX5_pinLeastHour 23 = .ok (.aload_n 0, 1) := db_X5_pinLeastHour_56.2.2.2.2.2.2.2
set_option maxRecDepth 20000 in
theorem db_X5_pinLeastHour_24 : (decode cX5_pinLeastHour 24 = .ok (.getfield 15, 3)) ∧ (decode cX5_pinLeastHour 27 = .ok (.iload_n 1, 1)) ∧ (decode cX5_pinLeastHour 28 = .ok (.iconst 1, 1)) ∧ (decode cX5_pinLeastHour 29 = .ok (.iload_n 3, 1)) ∧ (decode cX5_pinLeastHour 30 = .ok (.ishl, 1)) ∧ (decode cX5_pinLeastHour 31 = .ok (.iastore, 1)) ∧ (decode cX5_pinLeastHour 32 = .ok (.aload_n 0, 1)) ∧ (decode cX5_pinLeastHour 33 = .ok (.invokevirtual 60, 3)) := by decide +kernel
theorem dX5_pinLeastHour_24 : decode cX5_pinLeastHour 24 = .ok (.getfield 15, 3) := db_X5_pinLeastHour_24.1
theorem dX5_pinLeastHour_27 : decode cX5_pinLeastHour 27 = .ok (.iload_n 1, 1) := db_X5_pinLeastHour_24.2.1
theorem dX5_pinLeastHour_28 : decode cX5_pinLeastHour 28 = .ok (.iconst 1, 1) := db_X5_pinLeastHour_24.2.2.1
theorem dX5_pinLeastHour_29 : decode cX5_pinLeastHour 29 = .ok (.iload_n 3, 1) := db_X5_pinLeastHour_24.2.2.2.1
theorem dX5_pinLeastHour_30 : decode cX5_pinLeastHour 30 = .ok (.ishl, 1) := db_X5_pinLeastHour_24.2.2.2.2.1
theorem dX5_pinLeastHour_31 : decode cX5_pinLeastHour 31 = .ok (.iastore, 1) := db_X5_pinLeastHour_24.2.2.2.2.2.1
theorem dX5_pinLeastHour_32 : decode cX5_pinLeastHour 32 = .ok (.aload_n 0, 1) := db_X5_pinLeastHour_24.2.2.2.2.2.2.1
set_option maxRecDepth 20000 in
theorem ggX5_pinLeastHour_X5_stands : GoodIn wsX5_pinLeastHour wsX5_stands := goodIn_r _ [9, 10, 1, 2, 3, 4, 11, 12, 13, 14, 15, 16, 17, 18, 19, 20] rfl (by decide +kernel)
set_option maxRecDepth 20000 in
theorem gX5_pinLeastHour_X5_stands : GoodIn wsX5_pinLeastHour (wsV RX5 60 RX5 yX5_stands wsX5_stands) := goodIn_app (goodIn_r _ [5, 6, 7, 8] rfl (by decide +kernel)) ggX5_pinLeastHour_X5_stands
theorem dX5_pinLeastHour_33 : decode cX5_pinLeastHour 33 = .ok (.invokevirtual 60, 3) := db_X5_pinLeastHour_24.2.2.2.2.2.2.2
set_option maxRecDepth 20000 in
theorem db_X5_pinLeastHour_36 : (decode cX5_pinLeastHour 36 = .ok (.ifCond .eq 5, 3)) ∧ (decode cX5_pinLeastHour 39 = .ok (.iload_n 3, 1)) ∧ (decode cX5_pinLeastHour 40 = .ok (.ireturn, 1)) := by decide +kernel
theorem dX5_pinLeastHour_36 : decode cX5_pinLeastHour 36 = .ok (.ifCond .eq 5, 3) := db_X5_pinLeastHour_36.1
theorem dX5_pinLeastHour_39 : decode cX5_pinLeastHour 39 = .ok (.iload_n 3, 1) := db_X5_pinLeastHour_36.2.1
theorem dX5_pinLeastHour_40 : decode cX5_pinLeastHour 40 = .ok (.ireturn, 1) := db_X5_pinLeastHour_36.2.2
set_option maxRecDepth 20000 in
theorem db_X5_hourOf_0 : (decode cX5_hourOf 0 = .ok (.iconst 0, 1)) ∧ (decode cX5_hourOf 1 = .ok (.istore_n 2, 1)) ∧ (decode cX5_hourOf 2 = .ok (.iload_n 2, 1)) ∧ (decode cX5_hourOf 3 = .ok (.aload_n 0, 1)) ∧ (decode cX5_hourOf 4 = .ok (.getfield 18, 3)) ∧ (decode cX5_hourOf 7 = .ok (.if_icmp .ge 27, 3)) ∧ (decode cX5_hourOf 34 = .ok (.bipush (-5), 2)) ∧ (decode cX5_hourOf 36 = .ok (.ireturn, 1)) := by decide +kernel
theorem dX5_hourOf_0 : decode cX5_hourOf 0 = .ok (.iconst 0, 1) := db_X5_hourOf_0.1
theorem dX5_hourOf_1 : decode cX5_hourOf 1 = .ok (.istore_n 2, 1) := db_X5_hourOf_0.2.1
theorem dX5_hourOf_2 : decode cX5_hourOf 2 = .ok (.iload_n 2, 1) := db_X5_hourOf_0.2.2.1
theorem dX5_hourOf_3 : decode cX5_hourOf 3 = .ok (.aload_n 0, 1) := db_X5_hourOf_0.2.2.2.1
theorem dX5_hourOf_4 : decode cX5_hourOf 4 = .ok (.getfield 18, 3) := db_X5_hourOf_0.2.2.2.2.1
theorem dX5_hourOf_7 : decode cX5_hourOf 7 = .ok (.if_icmp .ge 27, 3) := db_X5_hourOf_0.2.2.2.2.2.1
theorem dX5_hourOf_34 : decode cX5_hourOf 34 = .ok (.bipush (-5), 2) := db_X5_hourOf_0.2.2.2.2.2.2.1
theorem dX5_hourOf_36 : decode cX5_hourOf 36 = .ok (.ireturn, 1) := db_X5_hourOf_0.2.2.2.2.2.2.2
set_option maxRecDepth 20000 in
theorem db_X5_hourOf_10 : (decode cX5_hourOf 10 = .ok (.aload_n 0, 1)) ∧ (decode cX5_hourOf 11 = .ok (.iload_n 2, 1)) ∧ (decode cX5_hourOf 12 = .ok (.invokevirtual 57, 3)) ∧ (decode cX5_hourOf 15 = .ok (.istore_n 3, 1)) ∧ (decode cX5_hourOf 16 = .ok (.aload_n 0, 1)) ∧ (decode cX5_hourOf 17 = .ok (.getfield 9, 3)) ∧ (decode cX5_hourOf 20 = .ok (.iload_n 2, 1)) ∧ (decode cX5_hourOf 21 = .ok (.iaload, 1)) := by decide +kernel
theorem dX5_hourOf_10 : decode cX5_hourOf 10 = .ok (.aload_n 0, 1) := db_X5_hourOf_10.1
theorem dX5_hourOf_11 : decode cX5_hourOf 11 = .ok (.iload_n 2, 1) := db_X5_hourOf_10.2.1
set_option maxRecDepth 20000 in
theorem ggX5_hourOf_X5_pinLeastHour : GoodIn wsX5_hourOf wsX5_pinLeastHour := goodIn_r _ [7, 8, 9, 10, 11, 12, 13, 14, 6, 15, 1, 16, 17, 18, 19, 20, 21, 22, 23, 24, 25] rfl (by decide +kernel)
set_option maxRecDepth 20000 in
theorem gX5_hourOf_X5_pinLeastHour : GoodIn wsX5_hourOf (wsV RX5 57 RX5 yX5_pinLeastHour wsX5_pinLeastHour) := goodIn_app (goodIn_r _ [3, 4, 5, 6] rfl (by decide +kernel)) ggX5_hourOf_X5_pinLeastHour
theorem dX5_hourOf_12 : decode cX5_hourOf 12 = .ok (.invokevirtual 57, 3) := db_X5_hourOf_10.2.2.1
theorem dX5_hourOf_15 : decode cX5_hourOf 15 = .ok (.istore_n 3, 1) := db_X5_hourOf_10.2.2.2.1
theorem dX5_hourOf_16 : decode cX5_hourOf 16 = .ok (.aload_n 0, 1) := db_X5_hourOf_10.2.2.2.2.1
theorem dX5_hourOf_17 : decode cX5_hourOf 17 = .ok (.getfield 9, 3) := db_X5_hourOf_10.2.2.2.2.2.1
theorem dX5_hourOf_20 : decode cX5_hourOf 20 = .ok (.iload_n 2, 1) := db_X5_hourOf_10.2.2.2.2.2.2.1
theorem dX5_hourOf_21 : decode cX5_hourOf 21 = .ok (.iaload, 1) := db_X5_hourOf_10.2.2.2.2.2.2.2
set_option maxRecDepth 20000 in
theorem db_X5_hourOf_22 : (decode cX5_hourOf 22 = .ok (.iload_n 1, 1)) ∧ (decode cX5_hourOf 23 = .ok (.if_icmp .ne 5, 3)) ∧ (decode cX5_hourOf 28 = .ok (.iinc 2 1, 3)) ∧ (decode cX5_hourOf 31 = .ok (.goto (-29), 3)) ∧ (decode cX5_hourOf 26 = .ok (.iload_n 3, 1)) ∧ (decode cX5_hourOf 27 = .ok (.ireturn, 1)) := by decide +kernel
theorem dX5_hourOf_22 : decode cX5_hourOf 22 = .ok (.iload_n 1, 1) := db_X5_hourOf_22.1
theorem dX5_hourOf_23 : decode cX5_hourOf 23 = .ok (.if_icmp .ne 5, 3) := db_X5_hourOf_22.2.1
theorem dX5_hourOf_28 : decode cX5_hourOf 28 = .ok (.iinc 2 1, 3) := db_X5_hourOf_22.2.2.1
theorem dX5_hourOf_31 : decode cX5_hourOf 31 = .ok (.goto (-29), 3) := db_X5_hourOf_22.2.2.2.1
theorem dX5_hourOf_26 : decode cX5_hourOf 26 = .ok (.iload_n 3, 1) := db_X5_hourOf_22.2.2.2.2.1
theorem dX5_hourOf_27 : decode cX5_hourOf 27 = .ok (.ireturn, 1) := db_X5_hourOf_22.2.2.2.2.2
set_option maxRecDepth 20000 in
theorem db_X7_canHold_0 : (decode cX7_canHold 0 = .ok (.aload_n 0, 1)) ∧ (decode cX7_canHold 1 = .ok (.iload_n 1, 1)) ∧ (decode cX7_canHold 2 = .ok (.invokevirtual 96, 3)) ∧ (decode cX7_canHold 5 = .ok (.ifCond .eq 10, 3)) ∧ (decode cX7_canHold 8 = .ok (.iload_n 2, 1)) ∧ (decode cX7_canHold 9 = .ok (.invokestatic 132, 3)) ∧ (decode cX7_canHold 12 = .ok (.ifCond .ne 5, 3)) ∧ (decode cX7_canHold 17 = .ok (.aload_n 0, 1)) := by decide +kernel
theorem dX7_canHold_0 : decode cX7_canHold 0 = .ok (.aload_n 0, 1) := db_X7_canHold_0.1
theorem dX7_canHold_1 : decode cX7_canHold 1 = .ok (.iload_n 1, 1) := db_X7_canHold_0.2.1
set_option maxRecDepth 20000 in
theorem ggX7_canHold_X7_isCase : GoodIn wsX7_canHold wsX7_isCase := goodIn_r _ [9, 2, 10, 11, 12, 8, 13, 52, 53, 54, 55, 56, 57, 58, 59, 60, 61, 62, 63] rfl (by decide +kernel)
set_option maxRecDepth 20000 in
theorem gX7_canHold_X7_isCase : GoodIn wsX7_canHold (wsV RX7 96 RX7 yX7_isCase wsX7_isCase) := goodIn_app (goodIn_r _ [5, 6, 7, 8] rfl (by decide +kernel)) ggX7_canHold_X7_isCase
theorem dX7_canHold_2 : decode cX7_canHold 2 = .ok (.invokevirtual 96, 3) := db_X7_canHold_0.2.2.1
theorem dX7_canHold_5 : decode cX7_canHold 5 = .ok (.ifCond .eq 10, 3) := db_X7_canHold_0.2.2.2.1
theorem dX7_canHold_8 : decode cX7_canHold 8 = .ok (.iload_n 2, 1) := db_X7_canHold_0.2.2.2.2.1
set_option maxRecDepth 20000 in
theorem ggX7_canHold_X7_isSide : GoodIn wsX7_canHold wsX7_isSide := goodIn_r _ [16, 11, 12, 8, 13] rfl (by decide +kernel)
set_option maxRecDepth 20000 in
theorem gX7_canHold_X7_isSide : GoodIn wsX7_canHold (va_wsS RX7 132 yX7_isSide wsX7_isSide) := goodIn_app (goodIn_r _ [14, 15, 8] rfl (by decide +kernel)) ggX7_canHold_X7_isSide
theorem dX7_canHold_9 : decode cX7_canHold 9 = .ok (.invokestatic 132, 3) := db_X7_canHold_0.2.2.2.2.2.1
theorem dX7_canHold_12 : decode cX7_canHold 12 = .ok (.ifCond .ne 5, 3) := db_X7_canHold_0.2.2.2.2.2.2.1
theorem dX7_canHold_17 : decode cX7_canHold 17 = .ok (.aload_n 0, 1) := db_X7_canHold_0.2.2.2.2.2.2.2
set_option maxRecDepth 20000 in
theorem db_X7_canHold_18 : (decode cX7_canHold 18 = .ok (.getfield 26, 3)) ∧ (decode cX7_canHold 21 = .ok (.aload_n 0, 1)) ∧ (decode cX7_canHold 22 = .ok (.getfield 12, 3)) ∧ (decode cX7_canHold 25 = .ok (.getfield 86, 3)) ∧ (decode cX7_canHold 28 = .ok (.iload_n 1, 1)) ∧ (decode cX7_canHold 29 = .ok (.aaload, 1)) ∧ (decode cX7_canHold 30 = .ok (.iload_n 2, 1)) ∧ (decode cX7_canHold 31 = .ok (.aload_n 0, 1)) := by decide +kernel
theorem dX7_canHold_18 : decode cX7_canHold 18 = .ok (.getfield 26, 3) := db_X7_canHold_18.1
theorem dX7_canHold_21 : decode cX7_canHold 21 = .ok (.aload_n 0, 1) := db_X7_canHold_18.2.1
theorem dX7_canHold_22 : decode cX7_canHold 22 = .ok (.getfield 12, 3) := db_X7_canHold_18.2.2.1
theorem dX7_canHold_25 : decode cX7_canHold 25 = .ok (.getfield 86, 3) := db_X7_canHold_18.2.2.2.1
theorem dX7_canHold_28 : decode cX7_canHold 28 = .ok (.iload_n 1, 1) := db_X7_canHold_18.2.2.2.2.1
theorem dX7_canHold_29 : decode cX7_canHold 29 = .ok (.aaload, 1) := db_X7_canHold_18.2.2.2.2.2.1
theorem dX7_canHold_30 : decode cX7_canHold 30 = .ok (.iload_n 2, 1) := db_X7_canHold_18.2.2.2.2.2.2.1
theorem dX7_canHold_31 : decode cX7_canHold 31 = .ok (.aload_n 0, 1) := db_X7_canHold_18.2.2.2.2.2.2.2
set_option maxRecDepth 20000 in
theorem db_X7_canHold_32 : (decode cX7_canHold 32 = .ok (.getfield 12, 3)) ∧ (decode cX7_canHold 35 = .ok (.getfield 86, 3)) ∧ (decode cX7_canHold 38 = .ok (.iload_n 1, 1)) ∧ (decode cX7_canHold 39 = .ok (.aaload, 1)) ∧ (decode cX7_canHold 40 = .ok (.getfield 169, 3)) ∧ (decode cX7_canHold 43 = .ok (.invokevirtual 197, 3)) ∧ (decode cX7_canHold 46 = .ok (.aload_n 0, 1)) ∧ (decode cX7_canHold 47 = .ok (.getfield 26, 3)) := by decide +kernel
theorem dX7_canHold_32 : decode cX7_canHold 32 = .ok (.getfield 12, 3) := db_X7_canHold_32.1
theorem dX7_canHold_35 : decode cX7_canHold 35 = .ok (.getfield 86, 3) := db_X7_canHold_32.2.1
theorem dX7_canHold_38 : decode cX7_canHold 38 = .ok (.iload_n 1, 1) := db_X7_canHold_32.2.2.1
theorem dX7_canHold_39 : decode cX7_canHold 39 = .ok (.aaload, 1) := db_X7_canHold_32.2.2.2.1
theorem dX7_canHold_40 : decode cX7_canHold 40 = .ok (.getfield 169, 3) := db_X7_canHold_32.2.2.2.2.1
set_option maxRecDepth 20000 in
theorem ggX7_canHold_X5_read : GoodIn wsX7_canHold wsX5_read := goodIn_r _ [21, 22, 23, 24, 25, 26, 27, 28, 29, 20, 30, 31, 32, 33, 34, 35, 36, 37, 38, 75, 76, 77, 64, 65, 66, 67, 68, 69, 70, 71, 72, 73, 74, 78, 79, 80, 81, 82] rfl (by decide +kernel)
set_option maxRecDepth 20000 in
theorem gX7_canHold_X5_read : GoodIn wsX7_canHold (wsV RX7 197 RX5 yX5_read wsX5_read) := goodIn_app (goodIn_r _ [17, 18, 19, 20] rfl (by decide +kernel)) ggX7_canHold_X5_read
theorem dX7_canHold_43 : decode cX7_canHold 43 = .ok (.invokevirtual 197, 3) := db_X7_canHold_32.2.2.2.2.2.1
theorem dX7_canHold_46 : decode cX7_canHold 46 = .ok (.aload_n 0, 1) := db_X7_canHold_32.2.2.2.2.2.2.1
theorem dX7_canHold_47 : decode cX7_canHold 47 = .ok (.getfield 26, 3) := db_X7_canHold_32.2.2.2.2.2.2.2
set_option maxRecDepth 20000 in
theorem ggX7_canHold_X5_stands : GoodIn wsX7_canHold wsX5_stands := goodIn_r _ [42, 22, 27, 43, 8, 44, 45, 46, 47, 48, 49, 50, 51, 75, 76, 77] rfl (by decide +kernel)
set_option maxRecDepth 20000 in
theorem gX7_canHold_X5_stands : GoodIn wsX7_canHold (wsV RX7 201 RX5 yX5_stands wsX5_stands) := goodIn_app (goodIn_r _ [39, 40, 41, 20] rfl (by decide +kernel)) ggX7_canHold_X5_stands
set_option maxRecDepth 20000 in
theorem db_X7_canHold_50 : (decode cX7_canHold 50 = .ok (.invokevirtual 201, 3)) ∧ (decode cX7_canHold 53 = .ok (.ifCond .eq 7, 3)) ∧ (decode cX7_canHold 60 = .ok (.iconst 0, 1)) ∧ (decode cX7_canHold 61 = .ok (.ireturn, 1)) ∧ (decode cX7_canHold 56 = .ok (.iconst 1, 1)) ∧ (decode cX7_canHold 57 = .ok (.goto 4, 3)) ∧ (decode cX7_canHold 15 = .ok (.iconst (-1), 1)) ∧ (decode cX7_canHold 16 = .ok (.ireturn, 1)) := by decide +kernel
theorem dX7_canHold_50 : decode cX7_canHold 50 = .ok (.invokevirtual 201, 3) := db_X7_canHold_50.1
theorem dX7_canHold_53 : decode cX7_canHold 53 = .ok (.ifCond .eq 7, 3) := db_X7_canHold_50.2.1
theorem dX7_canHold_60 : decode cX7_canHold 60 = .ok (.iconst 0, 1) := db_X7_canHold_50.2.2.1
theorem dX7_canHold_61 : decode cX7_canHold 61 = .ok (.ireturn, 1) := db_X7_canHold_50.2.2.2.1
theorem dX7_canHold_56 : decode cX7_canHold 56 = .ok (.iconst 1, 1) := db_X7_canHold_50.2.2.2.2.1
theorem dX7_canHold_57 : decode cX7_canHold 57 = .ok (.goto 4, 3) := db_X7_canHold_50.2.2.2.2.2.1
theorem dX7_canHold_15 : decode cX7_canHold 15 = .ok (.iconst (-1), 1) := db_X7_canHold_50.2.2.2.2.2.2.1
theorem dX7_canHold_16 : decode cX7_canHold 16 = .ok (.ireturn, 1) := db_X7_canHold_50.2.2.2.2.2.2.2
set_option maxRecDepth 20000 in
theorem db_X7_hour_0 : (decode cX7_hour 0 = .ok (.aload_n 0, 1)) ∧ (decode cX7_hour 1 = .ok (.iload_n 1, 1)) ∧ (decode cX7_hour 2 = .ok (.iload_n 2, 1)) ∧ (decode cX7_hour 3 = .ok (.invokevirtual 194, 3)) ∧ (decode cX7_hour 6 = .ok (.ifCond .ne 5, 3)) ∧ (decode cX7_hour 11 = .ok (.aload_n 0, 1)) ∧ (decode cX7_hour 12 = .ok (.getfield 12, 3)) ∧ (decode cX7_hour 15 = .ok (.getfield 86, 3)) := by decide +kernel
theorem dX7_hour_0 : decode cX7_hour 0 = .ok (.aload_n 0, 1) := db_X7_hour_0.1
theorem dX7_hour_1 : decode cX7_hour 1 = .ok (.iload_n 1, 1) := db_X7_hour_0.2.1
theorem dX7_hour_2 : decode cX7_hour 2 = .ok (.iload_n 2, 1) := db_X7_hour_0.2.2.1
set_option maxRecDepth 20000 in
theorem ggX7_hour_X7_isTerm : GoodIn wsX7_hour wsX7_isTerm := goodIn_r _ [12, 1, 2, 7, 13, 14, 15, 11, 16, 17, 18, 19, 20, 65, 66, 67, 68, 69, 70, 71, 72, 73, 74, 75, 76, 77, 78, 79, 80, 81, 82, 83, 84, 85, 86, 87] rfl (by decide +kernel)
set_option maxRecDepth 20000 in
theorem gX7_hour_X7_isTerm : GoodIn wsX7_hour (wsV RX7 194 RX7 yX7_isTerm wsX7_isTerm) := goodIn_app (goodIn_r _ [8, 9, 10, 11] rfl (by decide +kernel)) ggX7_hour_X7_isTerm
theorem dX7_hour_3 : decode cX7_hour 3 = .ok (.invokevirtual 194, 3) := db_X7_hour_0.2.2.2.1
theorem dX7_hour_6 : decode cX7_hour 6 = .ok (.ifCond .ne 5, 3) := db_X7_hour_0.2.2.2.2.1
theorem dX7_hour_11 : decode cX7_hour 11 = .ok (.aload_n 0, 1) := db_X7_hour_0.2.2.2.2.2.1
theorem dX7_hour_12 : decode cX7_hour 12 = .ok (.getfield 12, 3) := db_X7_hour_0.2.2.2.2.2.2.1
theorem dX7_hour_15 : decode cX7_hour 15 = .ok (.getfield 86, 3) := db_X7_hour_0.2.2.2.2.2.2.2
set_option maxRecDepth 20000 in
theorem db_X7_hour_18 : (decode cX7_hour 18 = .ok (.iload_n 1, 1)) ∧ (decode cX7_hour 19 = .ok (.aaload, 1)) ∧ (decode cX7_hour 20 = .ok (.astore_n 3, 1)) ∧ (decode cX7_hour 21 = .ok (.aload_n 3, 1)) ∧ (decode cX7_hour 22 = .ok (.getfield 172, 3)) ∧ (decode cX7_hour 25 = .ok (.iload_n 2, 1)) ∧ (decode cX7_hour 26 = .ok (.aaload, 1)) ∧ (decode cX7_hour 27 = .ok (.getfield 181, 3)) := by decide +kernel
theorem dX7_hour_18 : decode cX7_hour 18 = .ok (.iload_n 1, 1) := db_X7_hour_18.1
theorem dX7_hour_19 : decode cX7_hour 19 = .ok (.aaload, 1) := db_X7_hour_18.2.1
theorem dX7_hour_20 : decode cX7_hour 20 = .ok (.astore_n 3, 1) := db_X7_hour_18.2.2.1
theorem dX7_hour_21 : decode cX7_hour 21 = .ok (.aload_n 3, 1) := db_X7_hour_18.2.2.2.1
theorem dX7_hour_22 : decode cX7_hour 22 = .ok (.getfield 172, 3) := db_X7_hour_18.2.2.2.2.1
theorem dX7_hour_25 : decode cX7_hour 25 = .ok (.iload_n 2, 1) := db_X7_hour_18.2.2.2.2.2.1
theorem dX7_hour_26 : decode cX7_hour 26 = .ok (.aaload, 1) := db_X7_hour_18.2.2.2.2.2.2.1
theorem dX7_hour_27 : decode cX7_hour 27 = .ok (.getfield 181, 3) := db_X7_hour_18.2.2.2.2.2.2.2
set_option maxRecDepth 20000 in
theorem db_X7_hour_30 : (decode cX7_hour 30 = .ok (.ifCond .ne 6, 3)) ∧ (decode cX7_hour 36 = .ok (.aload_n 0, 1)) ∧ (decode cX7_hour 37 = .ok (.getfield 26, 3)) ∧ (decode cX7_hour 40 = .ok (.aload_n 3, 1)) ∧ (decode cX7_hour 41 = .ok (.aload_n 3, 1)) ∧ (decode cX7_hour 42 = .ok (.getfield 172, 3)) ∧ (decode cX7_hour 45 = .ok (.iload_n 2, 1)) ∧ (decode cX7_hour 46 = .ok (.aaload, 1)) := by decide +kernel
theorem dX7_hour_30 : decode cX7_hour 30 = .ok (.ifCond .ne 6, 3) := db_X7_hour_30.1
theorem dX7_hour_36 : decode cX7_hour 36 = .ok (.aload_n 0, 1) := db_X7_hour_30.2.1
theorem dX7_hour_37 : decode cX7_hour 37 = .ok (.getfield 26, 3) := db_X7_hour_30.2.2.1
theorem dX7_hour_40 : decode cX7_hour 40 = .ok (.aload_n 3, 1) := db_X7_hour_30.2.2.2.1
theorem dX7_hour_41 : decode cX7_hour 41 = .ok (.aload_n 3, 1) := db_X7_hour_30.2.2.2.2.1
theorem dX7_hour_42 : decode cX7_hour 42 = .ok (.getfield 172, 3) := db_X7_hour_30.2.2.2.2.2.1
theorem dX7_hour_45 : decode cX7_hour 45 = .ok (.iload_n 2, 1) := db_X7_hour_30.2.2.2.2.2.2.1
theorem dX7_hour_46 : decode cX7_hour 46 = .ok (.aaload, 1) := db_X7_hour_30.2.2.2.2.2.2.2
set_option maxRecDepth 20000 in
theorem db_X7_hour_47 : (decode cX7_hour 47 = .ok (.getfield 176, 3)) ∧ (decode cX7_hour 50 = .ok (.aload_n 3, 1)) ∧ (decode cX7_hour 51 = .ok (.getfield 169, 3)) ∧ (decode cX7_hour 54 = .ok (.invokevirtual 197, 3)) ∧ (decode cX7_hour 57 = .ok (.aload_n 0, 1)) ∧ (decode cX7_hour 58 = .ok (.getfield 26, 3)) ∧ (decode cX7_hour 61 = .ok (.invokevirtual 201, 3)) ∧ (decode cX7_hour 64 = .ok (.ifCond .eq 14, 3)) := by decide +kernel
theorem dX7_hour_47 : decode cX7_hour 47 = .ok (.getfield 176, 3) := db_X7_hour_47.1
theorem dX7_hour_50 : decode cX7_hour 50 = .ok (.aload_n 3, 1) := db_X7_hour_47.2.1
theorem dX7_hour_51 : decode cX7_hour 51 = .ok (.getfield 169, 3) := db_X7_hour_47.2.2.1
set_option maxRecDepth 20000 in
theorem ggX7_hour_X5_read : GoodIn wsX7_hour wsX5_read := goodIn_r _ [25, 26, 27, 28, 29, 30, 31, 32, 33, 24, 34, 35, 36, 37, 38, 39, 40, 41, 42, 93, 94, 95, 77, 78, 79, 80, 81, 82, 83, 84, 85, 86, 87, 88, 89, 90, 91, 92] rfl (by decide +kernel)
set_option maxRecDepth 20000 in
theorem gX7_hour_X5_read : GoodIn wsX7_hour (wsV RX7 197 RX5 yX5_read wsX5_read) := goodIn_app (goodIn_r _ [21, 22, 23, 24] rfl (by decide +kernel)) ggX7_hour_X5_read
theorem dX7_hour_54 : decode cX7_hour 54 = .ok (.invokevirtual 197, 3) := db_X7_hour_47.2.2.2.1
theorem dX7_hour_57 : decode cX7_hour 57 = .ok (.aload_n 0, 1) := db_X7_hour_47.2.2.2.2.1
theorem dX7_hour_58 : decode cX7_hour 58 = .ok (.getfield 26, 3) := db_X7_hour_47.2.2.2.2.2.1
set_option maxRecDepth 20000 in
theorem ggX7_hour_X5_stands : GoodIn wsX7_hour wsX5_stands := goodIn_r _ [46, 26, 31, 47, 11, 48, 49, 50, 51, 52, 53, 54, 55, 93, 94, 95] rfl (by decide +kernel)
set_option maxRecDepth 20000 in
theorem gX7_hour_X5_stands : GoodIn wsX7_hour (wsV RX7 201 RX5 yX5_stands wsX5_stands) := goodIn_app (goodIn_r _ [43, 44, 45, 24] rfl (by decide +kernel)) ggX7_hour_X5_stands
theorem dX7_hour_61 : decode cX7_hour 61 = .ok (.invokevirtual 201, 3) := db_X7_hour_47.2.2.2.2.2.2.1
theorem dX7_hour_64 : decode cX7_hour 64 = .ok (.ifCond .eq 14, 3) := db_X7_hour_47.2.2.2.2.2.2.2
set_option maxRecDepth 20000 in
theorem db_X7_hour_78 : (decode cX7_hour 78 = .ok (.bipush (-5), 2)) ∧ (decode cX7_hour 80 = .ok (.ireturn, 1)) ∧ (decode cX7_hour 67 = .ok (.aload_n 0, 1)) ∧ (decode cX7_hour 68 = .ok (.getfield 26, 3)) ∧ (decode cX7_hour 71 = .ok (.iload_n 2, 1)) ∧ (decode cX7_hour 72 = .ok (.invokevirtual 204, 3)) ∧ (decode cX7_hour 75 = .ok (.goto 5, 3)) ∧ (decode cX7_hour 33 = .ok (.bipush (-4), 2)) := by decide +kernel
theorem dX7_hour_78 : decode cX7_hour 78 = .ok (.bipush (-5), 2) := db_X7_hour_78.1
theorem dX7_hour_80 : decode cX7_hour 80 = .ok (.ireturn, 1) := db_X7_hour_78.2.1
theorem dX7_hour_67 : decode cX7_hour 67 = .ok (.aload_n 0, 1) := db_X7_hour_78.2.2.1
theorem dX7_hour_68 : decode cX7_hour 68 = .ok (.getfield 26, 3) := db_X7_hour_78.2.2.2.1
theorem dX7_hour_71 : decode cX7_hour 71 = .ok (.iload_n 2, 1) := db_X7_hour_78.2.2.2.2.1
set_option maxRecDepth 20000 in
theorem ggX7_hour_X5_hourOf : GoodIn wsX7_hour wsX5_hourOf := goodIn_r _ [59, 26, 30, 60, 61, 62, 24, 63, 31, 47, 11, 48, 64, 44, 45, 46, 49, 50, 51, 52, 53, 54, 55, 93, 94, 95] rfl (by decide +kernel)
set_option maxRecDepth 20000 in
theorem gX7_hour_X5_hourOf : GoodIn wsX7_hour (wsV RX7 204 RX5 yX5_hourOf wsX5_hourOf) := goodIn_app (goodIn_r _ [56, 57, 58, 24] rfl (by decide +kernel)) ggX7_hour_X5_hourOf
theorem dX7_hour_72 : decode cX7_hour 72 = .ok (.invokevirtual 204, 3) := db_X7_hour_78.2.2.2.2.2.1
theorem dX7_hour_75 : decode cX7_hour 75 = .ok (.goto 5, 3) := db_X7_hour_78.2.2.2.2.2.2.1
theorem dX7_hour_33 : decode cX7_hour 33 = .ok (.bipush (-4), 2) := db_X7_hour_78.2.2.2.2.2.2.2
set_option maxRecDepth 20000 in
theorem db_X7_hour_35 : (decode cX7_hour 35 = .ok (.ireturn, 1)) ∧ (decode cX7_hour 9 = .ok (.iconst (-1), 1)) ∧ (decode cX7_hour 10 = .ok (.ireturn, 1)) := by decide +kernel
theorem dX7_hour_35 : decode cX7_hour 35 = .ok (.ireturn, 1) := db_X7_hour_35.1
theorem dX7_hour_9 : decode cX7_hour 9 = .ok (.iconst (-1), 1) := db_X7_hour_35.2.1
theorem dX7_hour_10 : decode cX7_hour 10 = .ok (.ireturn, 1) := db_X7_hour_35.2.2
set_option maxRecDepth 20000 in
theorem db_X7_breaks_0 : (decode cX7_breaks 0 = .ok (.aload_n 0, 1)) ∧ (decode cX7_breaks 1 = .ok (.iload_n 1, 1)) ∧ (decode cX7_breaks 2 = .ok (.invokevirtual 96, 3)) ∧ (decode cX7_breaks 5 = .ok (.ifCond .eq 10, 3)) ∧ (decode cX7_breaks 8 = .ok (.iload_n 2, 1)) ∧ (decode cX7_breaks 9 = .ok (.invokestatic 132, 3)) ∧ (decode cX7_breaks 12 = .ok (.ifCond .ne 5, 3)) ∧ (decode cX7_breaks 17 = .ok (.aload_n 0, 1)) := by decide +kernel
theorem dX7_breaks_0 : decode cX7_breaks 0 = .ok (.aload_n 0, 1) := db_X7_breaks_0.1
theorem dX7_breaks_1 : decode cX7_breaks 1 = .ok (.iload_n 1, 1) := db_X7_breaks_0.2.1
set_option maxRecDepth 20000 in
theorem ggX7_breaks_X7_isCase : GoodIn wsX7_breaks wsX7_isCase := goodIn_r _ [11, 1, 12, 13, 14, 10, 15, 54, 55, 56, 57, 58, 59, 60, 61, 62, 63, 64, 65] rfl (by decide +kernel)
set_option maxRecDepth 20000 in
theorem gX7_breaks_X7_isCase : GoodIn wsX7_breaks (wsV RX7 96 RX7 yX7_isCase wsX7_isCase) := goodIn_app (goodIn_r _ [7, 8, 9, 10] rfl (by decide +kernel)) ggX7_breaks_X7_isCase
theorem dX7_breaks_2 : decode cX7_breaks 2 = .ok (.invokevirtual 96, 3) := db_X7_breaks_0.2.2.1
theorem dX7_breaks_5 : decode cX7_breaks 5 = .ok (.ifCond .eq 10, 3) := db_X7_breaks_0.2.2.2.1
theorem dX7_breaks_8 : decode cX7_breaks 8 = .ok (.iload_n 2, 1) := db_X7_breaks_0.2.2.2.2.1
set_option maxRecDepth 20000 in
theorem ggX7_breaks_X7_isSide : GoodIn wsX7_breaks wsX7_isSide := goodIn_r _ [18, 13, 14, 10, 15] rfl (by decide +kernel)
set_option maxRecDepth 20000 in
theorem gX7_breaks_X7_isSide : GoodIn wsX7_breaks (va_wsS RX7 132 yX7_isSide wsX7_isSide) := goodIn_app (goodIn_r _ [16, 17, 10] rfl (by decide +kernel)) ggX7_breaks_X7_isSide
theorem dX7_breaks_9 : decode cX7_breaks 9 = .ok (.invokestatic 132, 3) := db_X7_breaks_0.2.2.2.2.2.1
theorem dX7_breaks_12 : decode cX7_breaks 12 = .ok (.ifCond .ne 5, 3) := db_X7_breaks_0.2.2.2.2.2.2.1
theorem dX7_breaks_17 : decode cX7_breaks 17 = .ok (.aload_n 0, 1) := db_X7_breaks_0.2.2.2.2.2.2.2
set_option maxRecDepth 20000 in
theorem db_X7_breaks_18 : (decode cX7_breaks 18 = .ok (.getfield 12, 3)) ∧ (decode cX7_breaks 21 = .ok (.getfield 86, 3)) ∧ (decode cX7_breaks 24 = .ok (.iload_n 1, 1)) ∧ (decode cX7_breaks 25 = .ok (.aaload, 1)) ∧ (decode cX7_breaks 26 = .ok (.astore_n 3, 1)) ∧ (decode cX7_breaks 27 = .ok (.iconst 0, 1)) ∧ (decode cX7_breaks 28 = .ok (.istore 4, 2)) ∧ (decode cX7_breaks 30 = .ok (.iload 4, 2)) := by decide +kernel
theorem dX7_breaks_18 : decode cX7_breaks 18 = .ok (.getfield 12, 3) := db_X7_breaks_18.1
theorem dX7_breaks_21 : decode cX7_breaks 21 = .ok (.getfield 86, 3) := db_X7_breaks_18.2.1
theorem dX7_breaks_24 : decode cX7_breaks 24 = .ok (.iload_n 1, 1) := db_X7_breaks_18.2.2.1
theorem dX7_breaks_25 : decode cX7_breaks 25 = .ok (.aaload, 1) := db_X7_breaks_18.2.2.2.1
theorem dX7_breaks_26 : decode cX7_breaks 26 = .ok (.astore_n 3, 1) := db_X7_breaks_18.2.2.2.2.1
theorem dX7_breaks_27 : decode cX7_breaks 27 = .ok (.iconst 0, 1) := db_X7_breaks_18.2.2.2.2.2.1
theorem dX7_breaks_28 : decode cX7_breaks 28 = .ok (.istore 4, 2) := db_X7_breaks_18.2.2.2.2.2.2.1
theorem dX7_breaks_30 : decode cX7_breaks 30 = .ok (.iload 4, 2) := db_X7_breaks_18.2.2.2.2.2.2.2
set_option maxRecDepth 20000 in
theorem db_X7_breaks_32 : (decode cX7_breaks 32 = .ok (.aload_n 3, 1)) ∧ (decode cX7_breaks 33 = .ok (.getfield 169, 3)) ∧ (decode cX7_breaks 36 = .ok (.if_icmp .ge 49, 3)) ∧ (decode cX7_breaks 85 = .ok (.bipush (-5), 2)) ∧ (decode cX7_breaks 87 = .ok (.ireturn, 1)) ∧ (decode cX7_breaks 39 = .ok (.aload_n 3, 1)) ∧ (decode cX7_breaks 40 = .ok (.getfield 172, 3)) ∧ (decode cX7_breaks 43 = .ok (.iload 4, 2)) := by decide +kernel
theorem dX7_breaks_32 : decode cX7_breaks 32 = .ok (.aload_n 3, 1) := db_X7_breaks_32.1
theorem dX7_breaks_33 : decode cX7_breaks 33 = .ok (.getfield 169, 3) := db_X7_breaks_32.2.1
theorem dX7_breaks_36 : decode cX7_breaks 36 = .ok (.if_icmp .ge 49, 3) := db_X7_breaks_32.2.2.1
theorem dX7_breaks_85 : decode cX7_breaks 85 = .ok (.bipush (-5), 2) := db_X7_breaks_32.2.2.2.1
theorem dX7_breaks_87 : decode cX7_breaks 87 = .ok (.ireturn, 1) := db_X7_breaks_32.2.2.2.2.1
theorem dX7_breaks_39 : decode cX7_breaks 39 = .ok (.aload_n 3, 1) := db_X7_breaks_32.2.2.2.2.2.1
theorem dX7_breaks_40 : decode cX7_breaks 40 = .ok (.getfield 172, 3) := db_X7_breaks_32.2.2.2.2.2.2.1
theorem dX7_breaks_43 : decode cX7_breaks 43 = .ok (.iload 4, 2) := db_X7_breaks_32.2.2.2.2.2.2.2
set_option maxRecDepth 20000 in
theorem db_X7_breaks_45 : (decode cX7_breaks 45 = .ok (.aaload, 1)) ∧ (decode cX7_breaks 46 = .ok (.getfield 176, 3)) ∧ (decode cX7_breaks 49 = .ok (.iload_n 2, 1)) ∧ (decode cX7_breaks 50 = .ok (.if_icmp .ne 29, 3)) ∧ (decode cX7_breaks 79 = .ok (.iinc 4 1, 3)) ∧ (decode cX7_breaks 82 = .ok (.goto (-52), 3)) ∧ (decode cX7_breaks 53 = .ok (.aload_n 0, 1)) ∧ (decode cX7_breaks 54 = .ok (.getfield 26, 3)) := by decide +kernel
theorem dX7_breaks_45 : decode cX7_breaks 45 = .ok (.aaload, 1) := db_X7_breaks_45.1
theorem dX7_breaks_46 : decode cX7_breaks 46 = .ok (.getfield 176, 3) := db_X7_breaks_45.2.1
theorem dX7_breaks_49 : decode cX7_breaks 49 = .ok (.iload_n 2, 1) := db_X7_breaks_45.2.2.1
theorem dX7_breaks_50 : decode cX7_breaks 50 = .ok (.if_icmp .ne 29, 3) := db_X7_breaks_45.2.2.2.1
theorem dX7_breaks_79 : decode cX7_breaks 79 = .ok (.iinc 4 1, 3) := db_X7_breaks_45.2.2.2.2.1
theorem dX7_breaks_82 : decode cX7_breaks 82 = .ok (.goto (-52), 3) := db_X7_breaks_45.2.2.2.2.2.1
theorem dX7_breaks_53 : decode cX7_breaks 53 = .ok (.aload_n 0, 1) := db_X7_breaks_45.2.2.2.2.2.2.1
theorem dX7_breaks_54 : decode cX7_breaks 54 = .ok (.getfield 26, 3) := db_X7_breaks_45.2.2.2.2.2.2.2
set_option maxRecDepth 20000 in
theorem db_X7_breaks_57 : (decode cX7_breaks 57 = .ok (.aload_n 3, 1)) ∧ (decode cX7_breaks 58 = .ok (.iload_n 2, 1)) ∧ (decode cX7_breaks 59 = .ok (.iload 4, 2)) ∧ (decode cX7_breaks 61 = .ok (.iconst 1, 1)) ∧ (decode cX7_breaks 62 = .ok (.iadd, 1)) ∧ (decode cX7_breaks 63 = .ok (.invokevirtual 197, 3)) ∧ (decode cX7_breaks 66 = .ok (.aload_n 0, 1)) ∧ (decode cX7_breaks 67 = .ok (.getfield 26, 3)) := by decide +kernel
theorem dX7_breaks_57 : decode cX7_breaks 57 = .ok (.aload_n 3, 1) := db_X7_breaks_57.1
theorem dX7_breaks_58 : decode cX7_breaks 58 = .ok (.iload_n 2, 1) := db_X7_breaks_57.2.1
theorem dX7_breaks_59 : decode cX7_breaks 59 = .ok (.iload 4, 2) := db_X7_breaks_57.2.2.1
theorem dX7_breaks_61 : decode cX7_breaks 61 = .ok (.iconst 1, 1) := db_X7_breaks_57.2.2.2.1
theorem dX7_breaks_62 : decode cX7_breaks 62 = .ok (.iadd, 1) := db_X7_breaks_57.2.2.2.2.1
set_option maxRecDepth 20000 in
theorem ggX7_breaks_X5_read : GoodIn wsX7_breaks wsX5_read := goodIn_r _ [23, 24, 25, 26, 27, 28, 29, 30, 31, 22, 32, 33, 34, 35, 36, 37, 38, 39, 40, 82, 83, 84, 66, 67, 68, 69, 70, 71, 72, 73, 74, 75, 76, 77, 78, 79, 80, 81] rfl (by decide +kernel)
set_option maxRecDepth 20000 in
theorem gX7_breaks_X5_read : GoodIn wsX7_breaks (wsV RX7 197 RX5 yX5_read wsX5_read) := goodIn_app (goodIn_r _ [19, 20, 21, 22] rfl (by decide +kernel)) ggX7_breaks_X5_read
theorem dX7_breaks_63 : decode cX7_breaks 63 = .ok (.invokevirtual 197, 3) := db_X7_breaks_57.2.2.2.2.2.1
theorem dX7_breaks_66 : decode cX7_breaks 66 = .ok (.aload_n 0, 1) := db_X7_breaks_57.2.2.2.2.2.2.1
theorem dX7_breaks_67 : decode cX7_breaks 67 = .ok (.getfield 26, 3) := db_X7_breaks_57.2.2.2.2.2.2.2
set_option maxRecDepth 20000 in
theorem ggX7_breaks_X5_stands : GoodIn wsX7_breaks wsX5_stands := goodIn_r _ [44, 24, 29, 45, 10, 46, 47, 48, 49, 50, 51, 52, 53, 82, 83, 84] rfl (by decide +kernel)
set_option maxRecDepth 20000 in
theorem gX7_breaks_X5_stands : GoodIn wsX7_breaks (wsV RX7 201 RX5 yX5_stands wsX5_stands) := goodIn_app (goodIn_r _ [41, 42, 43, 22] rfl (by decide +kernel)) ggX7_breaks_X5_stands
set_option maxRecDepth 20000 in
theorem db_X7_breaks_70 : (decode cX7_breaks 70 = .ok (.invokevirtual 201, 3)) ∧ (decode cX7_breaks 73 = .ok (.ifCond .ne 6, 3)) ∧ (decode cX7_breaks 76 = .ok (.iload 4, 2)) ∧ (decode cX7_breaks 78 = .ok (.ireturn, 1)) ∧ (decode cX7_breaks 15 = .ok (.iconst (-1), 1)) ∧ (decode cX7_breaks 16 = .ok (.ireturn, 1)) := by decide +kernel
theorem dX7_breaks_70 : decode cX7_breaks 70 = .ok (.invokevirtual 201, 3) := db_X7_breaks_70.1
theorem dX7_breaks_73 : decode cX7_breaks 73 = .ok (.ifCond .ne 6, 3) := db_X7_breaks_70.2.1
theorem dX7_breaks_76 : decode cX7_breaks 76 = .ok (.iload 4, 2) := db_X7_breaks_70.2.2.1
theorem dX7_breaks_78 : decode cX7_breaks 78 = .ok (.ireturn, 1) := db_X7_breaks_70.2.2.2.1
theorem dX7_breaks_15 : decode cX7_breaks 15 = .ok (.iconst (-1), 1) := db_X7_breaks_70.2.2.2.2.1
theorem dX7_breaks_16 : decode cX7_breaks 16 = .ok (.ireturn, 1) := db_X7_breaks_70.2.2.2.2.2
set_option maxHeartbeats 4000000 in
set_option maxRecDepth 100000 in
theorem g_X5_stands (l : Launch) (dC : Nat → ClassId) (dI : Nat → Nat → Nat) (cy : Nat → ClassId) (sz : Nat) (ad : Nat → Nat) (kv : Value) (N : Nat) (hN : 119 ≤ N) (v : Nat → Nat → Int32) (hv : Iv v)  : Met l yX5_stands wsX5_stands ({ frames := 1, cells := 0, slots := 0, locals := 64 }) (va_Pc [.ref (ad 10)] (ex_Pre dC dI cy sz (wl ad kv cy N v))) (va_Qi (fun (r : Int32) (u : Nat → Nat → Int32) => Iv u ∧ Fz v u ∧ (r = 0 ∨ r = 1)) (fun u t => ex_Pst dC dI (va_A (wl ad kv cy N v) sz) (wl ad kv cy N u) t) (va_A (wl ad kv cy N v) sz)) 0 0 (va_A (wl ad kv cy N v) sz) := by
  refine Met.ofW (cc := cX5_stands) (maxL := 4) (ret := (some .boolean)) (by decide) rfl ?_
  intro p e s m args below meth c s₁ B hml hv
  obtain ⟨rfl, hsz, hE, hP, hK, hD0⟩ := hv
  have hx := B.exec
  have hb := B.bytes
  have hr := B.returns
  have hts := atoms_spec (ws := wsX5_stands) B.pre
  have hown : s.vm.findClass RX5 = some m.cls := findClass_of_methodNamed B.named
  have hlocks := B.notSynchronized
  subst hsz
  have hD := hD0.self (sz := s.heap.size)
  generalize hAe : va_A (wl ad kv cy N v) s.heap.size = A at hD ⊢
  have hA : ∀ q : Nat, s.heap.size ≤ q → A q := fun q h => by rw [← hAe]; exact Or.inr h
  have hS : va_S A s.heap s.heap [] := va_S.rf
  have hP : va_P (dC, dI) vwCl (wl ad kv cy N v) s.heap := hP
  have hl := lv_entry ([.ref (ad 10)]) (n := 4) (Nat.le_of_ble_eq_true rfl)
  rw [lg_entry_eq]
  generalize (lg_sl ([.ref (ad 10)]) ++ List.replicate (4 - (lg_sl ([.ref (ad 10)])).length) Slot.unset).toArray = ls at hl ⊢
  have hl : lv_has ls 4 [(0, .ref (ad 10))] := hl
  have hfr : Fz v v := Fz.rf
  refine lv_iconst (v := 1) hx hb dX5_stands_0 (by decide) ?_
  refine lv_istore_n (lv' := [(1, .int 1), (0, .ref (ad 10))]) hx hb dX5_stands_1 rfl hl (by decide) rfl (fun ls hl => ?_)
  have k_1 : (1 : Int32).toInt = 1 := by decide
  have hloop_1 : ∀ (n : Nat) (y1_1 : Int32) (u1 : Nat → Nat → Int32) (H : Heap) (locs : List Loc), 1 ≤ y1_1.toInt → y1_1.toInt ≤ 33 → (33 - y1_1.toInt).toNat < n → Iv u1 → Fz v u1 → va_P (dC, dI) vwCl (wl ad kv cy N u1) H → va_D A (wl ad kv cy N u1) → va_S A s.heap H locs → ∀ ls : Array Slot, lv_has ls 4 [(1, .int y1_1), (0, .ref (ad 10))] → W p l e (headSpec wsX5_stands ({ frames := 1, cells := 0, slots := 0, locals := 64 })).room s m [Value.ref (ad 10)].toArray below meth c H locs 0 0 (MQ below (va_Qi (fun (r : Int32) (u : Nat → Nat → Int32) => Iv u ∧ Fz v u ∧ (r = 0 ∨ r = 1)) (fun u t => ex_Pst dC dI A (wl ad kv cy N u) t) A) [Value.ref (ad 10)].toArray s 0 0 A) (F0 m 2 ls []) := by
    intro n
    induction n with
    | zero =>
      intro y1_1 u1 H locs ay1_1 by1_1 hm_1 hv hfr hP hD hS ls hl
      exact absurd hm_1 (by omega)
    | succ n ih_1 =>
      intro y1_1 u1 H locs ay1_1 by1_1 hm_1 hv hfr hP hD hS ls hl
      refine lv_iload_n hx hb dX5_stands_2 rfl (lv_at hl 0 rfl) ?_
      refine lv_iconst (v := 1) hx hb dX5_stands_3 (by decide) ?_
      refine lv_aload_n hx hb dX5_stands_4 rfl (lv_at hl 1 rfl) ?_
      refine va_get (D := (dC, dI)) (ci := 5) (v := .int (u1 (10) 0)) (C := RX5) (T := TX5) (N := 3) hx hb hts iwX5_stands_X5 hown hK hP (10) (wl_at (by omega) (ce_2 (by decide))) rfl 0 (by decide) (hts (.fieldLink RX5 18 "QuietStairs$Table" "count" "I") fwX5_stands_1) (fun _ h9 => h9) rfl dX5_stands_5 ?_
      refine lv_topi (fun x_2 ex_2 => ?_)
      have bx_2 : 0 ≤ x_2.toInt ∧ x_2.toInt ≤ 5 := by rw [ex_2]; exact hv.at (K := 2) (by decide) rfl
      refine lv_ishl hx hb dX5_stands_8 ?_
      refine lv_topi (fun x_3 ex_3 => ?_)
      have tx_3 : 1 ≤ x_3.toInt ∧ x_3.toInt ≤ 32 := by rw [ex_3]; exact t_shl ⟨by omega, by omega⟩
      refine lv_icmp_ge (tgt := 66) hx hb dX5_stands_9 (by decide) (fun c_4 => ?_) (fun c_4 => ?_)
      · have tc_4 : y1_1.toInt ≥ x_3.toInt := Int32.le_iff_toInt_le.mp c_4
        refine lv_iconst (v := 1) hx hb dX5_stands_66 (by decide) ?_
        exact W.zret (ty := .boolean) (v := 1) hx hb hr rfl (fun t ht hW => ⟨⟨1, u1, rfl, ⟨hv, hfr, by decide⟩, by rw [ht]; exact hP, hD⟩, hS.F ht⟩) hS.2.2 dX5_stands_67
      · have tc_4 : y1_1.toInt < x_3.toInt := Int32.lt_iff_toInt_lt.mp (Int32.not_le.mp c_4)
        refine lv_iconst (v := 0) hx hb dX5_stands_12 (by decide) ?_
        refine lv_istore_n (lv' := [(2, .int 0), (1, .int y1_1), (0, .ref (ad 10))]) hx hb dX5_stands_13 rfl hl (by decide) rfl (fun ls hl => ?_)
        refine lv_iconst (v := 0) hx hb dX5_stands_14 (by decide) ?_
        refine lv_istore_n (lv' := [(3, .int 0), (2, .int 0), (1, .int y1_1), (0, .ref (ad 10))]) hx hb dX5_stands_15 rfl hl (by decide) rfl (fun ls hl => ?_)
        have k_0 : (0 : Int32).toInt = 0 := by decide
        have hloop_5 : ∀ (n : Nat) (y5_3 y5_2 : Int32) (u5 : Nat → Nat → Int32) (H : Heap) (locs : List Loc), 0 ≤ y5_3.toInt → y5_3.toInt ≤ 5 → (5 - y5_3.toInt).toNat < n → Iv u5 → Fz v u5 → va_P (dC, dI) vwCl (wl ad kv cy N u5) H → va_D A (wl ad kv cy N u5) → va_S A s.heap H locs → ∀ ls : Array Slot, lv_has ls 4 [(3, .int y5_3), (2, .int y5_2), (1, .int y1_1), (0, .ref (ad 10))] → W p l e (headSpec wsX5_stands ({ frames := 1, cells := 0, slots := 0, locals := 64 })).room s m [Value.ref (ad 10)].toArray below meth c H locs 0 0 (MQ below (va_Qi (fun (r : Int32) (u : Nat → Nat → Int32) => Iv u ∧ Fz v u ∧ (r = 0 ∨ r = 1)) (fun u t => ex_Pst dC dI A (wl ad kv cy N u) t) A) [Value.ref (ad 10)].toArray s 0 0 A) (F0 m 16 ls []) := by
          intro n
          induction n with
          | zero =>
            intro y5_3 y5_2 u5 H locs ay5_3 by5_3 hm_5 hv hfr hP hD hS ls hl
            exact absurd hm_5 (by omega)
          | succ n ih_5 =>
            intro y5_3 y5_2 u5 H locs ay5_3 by5_3 hm_5 hv hfr hP hD hS ls hl
            refine lv_iload_n hx hb dX5_stands_16 rfl (lv_at hl 0 rfl) ?_
            refine lv_aload_n hx hb dX5_stands_17 rfl (lv_at hl 3 rfl) ?_
            refine va_get (D := (dC, dI)) (ci := 5) (v := .int (u5 (10) 0)) (C := RX5) (T := TX5) (N := 3) hx hb hts iwX5_stands_X5 hown hK hP (10) (wl_at (by omega) (ce_2 (by decide))) rfl 0 (by decide) (hts (.fieldLink RX5 18 "QuietStairs$Table" "count" "I") fwX5_stands_1) (fun _ h9 => h9) rfl dX5_stands_18 ?_
            refine lv_topi (fun x_6 ex_6 => ?_)
            have bx_6 : 0 ≤ x_6.toInt ∧ x_6.toInt ≤ 5 := by rw [ex_6]; exact hv.at (K := 2) (by decide) rfl
            refine lv_icmp_ge (tgt := 47) hx hb dX5_stands_21 (by decide) (fun c_7 => ?_) (fun c_7 => ?_)
            · have tc_7 : y5_3.toInt ≥ x_6.toInt := Int32.le_iff_toInt_le.mp c_7
              refine lv_iload_n hx hb dX5_stands_47 rfl (lv_at hl 1 rfl) ?_
              refine yc_p hP hS (va_runS (As := [.int y5_2]) (rest := []) ⟨hx, hb, hml, hown, hts⟩ (c_bitCount l y5_2) (va_cwS 1 hts gX5_stands_J6_bitCount_0f7a4 rfl rfl rfl hd_w_J6_bitCount_0f7a4_1 ⟨Nat.le_of_ble_eq_true rfl, Nat.le_of_ble_eq_true rfl⟩) ex_preP rfl rfl hl.1 rfl (lv_room (Nat.le_of_ble_eq_true rfl)) dX5_stands_48 ⟨Nat.le_of_ble_eq_true rfl, Nat.le_of_ble_eq_true rfl⟩) (fun r_8 H locs hw_8 hP hS => ?_)
              refine lv_iload_n hx hb dX5_stands_51 rfl (lv_at hl 2 rfl) ?_
              refine yc_p hP hS (va_runS (As := [.int y1_1]) (rest := [.int r_8]) ⟨hx, hb, hml, hown, hts⟩ (c_bitCount l y1_1) (va_cwS 1 hts gX5_stands_J6_bitCount_0f7a4 rfl rfl rfl hd_w_J6_bitCount_0f7a4_1 ⟨Nat.le_of_ble_eq_true rfl, Nat.le_of_ble_eq_true rfl⟩) ex_preP rfl rfl hl.1 rfl (lv_room (Nat.le_of_ble_eq_true rfl)) dX5_stands_52 ⟨Nat.le_of_ble_eq_true rfl, Nat.le_of_ble_eq_true rfl⟩) (fun r_9 H locs hw_9 hP hS => ?_)
              refine lv_icmp_ge (tgt := 60) hx hb dX5_stands_55 (by decide) (fun c_10 => ?_) (fun c_10 => ?_)
              · have tc_10 : r_8.toInt ≥ r_9.toInt := Int32.le_iff_toInt_le.mp c_10
                obtain ⟨x_11, ex_11⟩ : ∃ y : Int32, y = y1_1 + 1 := ⟨_, rfl⟩
                refine lv_iinc (v := x_11) (lv' := [(1, .int x_11), (3, .int y5_3), (2, .int y5_2), (0, .ref (ad 10))]) hx hb dX5_stands_60 hl (k := 2) rfl (by rw [ex_11]; rfl) (by decide) rfl (fun ls hl => ?_)
                have tx_11 : x_11.toInt = y1_1.toInt + (1 : Int32).toInt := by rw [ex_11]; exact t_add ⟨by omega, by omega⟩
                refine lv_goto (tgt := 2) hx hb dX5_stands_63 (by decide) ?_
                exact ih_1 x_11 u5 H locs (by omega) (by omega) (by omega) hv hfr hP hD hS ls (lv_sub hl [0, 3] rfl)
              · have tc_10 : r_8.toInt < r_9.toInt := Int32.lt_iff_toInt_lt.mp (Int32.not_le.mp c_10)
                refine lv_iconst (v := 0) hx hb dX5_stands_58 (by decide) ?_
                exact W.zret (ty := .boolean) (v := 0) hx hb hr rfl (fun t ht hW => ⟨⟨0, u5, rfl, ⟨hv, hfr, by decide⟩, by rw [ht]; exact hP, hD⟩, hS.F ht⟩) hS.2.2 dX5_stands_59
            · have tc_7 : y5_3.toInt < x_6.toInt := Int32.lt_iff_toInt_lt.mp (Int32.not_le.mp c_7)
              refine lv_iload_n hx hb dX5_stands_24 rfl (lv_at hl 2 rfl) ?_
              refine lv_iload_n hx hb dX5_stands_25 rfl (lv_at hl 0 rfl) ?_
              refine yc_p hP hS (va_runSN (As := [.int y1_1, .int y5_3]) (rest := []) ⟨hx, hb, hml, hown, hts⟩ (c_X7_hasBit l y1_1 y5_3) ⟨va_cnB 2 hts gX5_stands_X7_hasBit_n47 rfl rfl rfl hE.2.2.2.2.2.2.2.2.2.2.2.2.1 (hts (.initialized RX7) fwX5_stands_4) (by decide +kernel) ⟨Nat.le_of_ble_eq_true rfl, Nat.le_of_ble_eq_true rfl⟩, (hts (.static yX7_hasBit) fwX5_stands_3), trivial⟩ ex_preP rfl rfl hl.1 rfl (lv_room (Nat.le_of_ble_eq_true rfl)) dX5_stands_26 ⟨Nat.le_of_ble_eq_true rfl, Nat.le_of_ble_eq_true rfl⟩) (fun r_8 H locs hw_8 hP hS => ?_)
              rcases hw_8 with rfl | rfl
              · refine lv_if_eq (tgt := 41) hx hb dX5_stands_29 (by decide) (fun _ => ?_) (fun c9 => absurd c9 (by decide))
                obtain ⟨x_9, ex_9⟩ : ∃ y : Int32, y = y5_3 + 1 := ⟨_, rfl⟩
                refine lv_iinc (v := x_9) (lv' := [(3, .int x_9), (2, .int y5_2), (1, .int y1_1), (0, .ref (ad 10))]) hx hb dX5_stands_41 hl (k := 0) rfl (by rw [ex_9]; rfl) (by decide) rfl (fun ls hl => ?_)
                have tx_9 : x_9.toInt = y5_3.toInt + (1 : Int32).toInt := by rw [ex_9]; exact t_add ⟨by omega, by omega⟩
                refine lv_goto (tgt := 16) hx hb dX5_stands_44 (by decide) ?_
                exact ih_5 x_9 y5_2 u5 H locs (by omega) (by omega) (by omega) hv hfr hP hD hS ls (lv_sub hl [0, 1, 2, 3] rfl)
              · refine lv_if_eq (tgt := 41) hx hb dX5_stands_29 (by decide) (fun c9 => absurd c9 (by decide)) (fun _ => ?_)
                refine lv_iload_n hx hb dX5_stands_32 rfl (lv_at hl 1 rfl) ?_
                refine lv_aload_n hx hb dX5_stands_33 rfl (lv_at hl 3 rfl) ?_
                refine va_get (D := (dC, dI)) (ci := 5) (v := .ref (ad 12)) (C := RX5) (T := TX5) (N := 3) hx hb hts iwX5_stands_X5 hown hK hP (10) (wl_at (by omega) (ce_2 (by decide))) rfl 2 (by decide) (hts (.fieldLink RX5 15 "QuietStairs$Table" "hourBits" "[I") fwX5_stands_2) (fun _ h9 => h9) rfl dX5_stands_34 ?_
                refine lv_iload_n hx hb dX5_stands_37 rfl (lv_at hl 0 rfl) ?_
                obtain ⟨pi9, i9, hi9, ni9, mi9⟩ := t_in (x := y5_3) (n := 5) ⟨by omega, by omega⟩
                refine va_iald hx hb hK hP (12) 0 (wl_at (by omega) (ce_19 (by decide))) rfl pi9 dX5_stands_38 ?_
                refine lv_topi (fun x_10 ex_10 => ?_)
                refine lv_ior hx hb dX5_stands_39 ?_
                refine lv_topi (fun x_11 ex_11 => ?_)
                refine lv_istore_n (lv' := [(2, .int x_11), (3, .int y5_3), (1, .int y1_1), (0, .ref (ad 10))]) hx hb dX5_stands_40 rfl hl (by decide) rfl (fun ls hl => ?_)
                obtain ⟨x_12, ex_12⟩ : ∃ y : Int32, y = y5_3 + 1 := ⟨_, rfl⟩
                refine lv_iinc (v := x_12) (lv' := [(3, .int x_12), (2, .int x_11), (1, .int y1_1), (0, .ref (ad 10))]) hx hb dX5_stands_41 hl (k := 1) rfl (by rw [ex_12]; rfl) (by decide) rfl (fun ls hl => ?_)
                have tx_12 : x_12.toInt = y5_3.toInt + (1 : Int32).toInt := by rw [ex_12]; exact t_add ⟨by omega, by omega⟩
                refine lv_goto (tgt := 16) hx hb dX5_stands_44 (by decide) ?_
                exact ih_5 x_12 x_11 u5 H locs (by omega) (by omega) (by omega) hv hfr hP hD hS ls (lv_sub hl [0, 1, 2, 3] rfl)
        exact hloop_5 ((5 - (0 : Int32).toInt).toNat + 1) 0 0 u1 _ _ (by omega) (by omega) (by omega) hv hfr hP hD hS ls hl
  exact hloop_1 ((33 - (1 : Int32).toInt).toNat + 1) 1 v _ _ (by omega) (by omega) (by omega) hv hfr hP hD hS ls hl

set_option maxHeartbeats 4000000 in
set_option maxRecDepth 100000 in
theorem g_X5_pinLeastHour (l : Launch) (dC : Nat → ClassId) (dI : Nat → Nat → Nat) (cy : Nat → ClassId) (sz : Nat) (ad : Nat → Nat) (kv : Value) (N : Nat) (hN : 119 ≤ N) (v : Nat → Nat → Int32) (hv : Iv v) (x0 : Int32) (hs : 0 ≤ x0.toInt ∧ x0.toInt ≤ 4) : Met l yX5_pinLeastHour wsX5_pinLeastHour ({ frames := 2, cells := 0, slots := 0, locals := 128 }) (va_Pc [.ref (ad 10), .int x0] (ex_Pre dC dI cy sz (wl ad kv cy N v))) (va_Qi (fun (r : Int32) (u : Nat → Nat → Int32) => Iv u ∧ Fz v u) (fun u t => ex_Pst dC dI (va_A (wl ad kv cy N v) sz) (wl ad kv cy N u) t) (va_A (wl ad kv cy N v) sz)) 0 0 (va_A (wl ad kv cy N v) sz) := by
  refine Met.ofW (cc := cX5_pinLeastHour) (maxL := 4) (ret := (some .int)) (by decide) rfl ?_
  intro p e s m args below meth c s₁ B hml hv
  obtain ⟨rfl, hsz, hE, hP, hK, hD0⟩ := hv
  have hx := B.exec
  have hb := B.bytes
  have hr := B.returns
  have hts := atoms_spec (ws := wsX5_pinLeastHour) B.pre
  have hown : s.vm.findClass RX5 = some m.cls := findClass_of_methodNamed B.named
  have hlocks := B.notSynchronized
  subst hsz
  have hD := hD0.self (sz := s.heap.size)
  generalize hAe : va_A (wl ad kv cy N v) s.heap.size = A at hD ⊢
  have hA : ∀ q : Nat, s.heap.size ≤ q → A q := fun q h => by rw [← hAe]; exact Or.inr h
  have hS : va_S A s.heap s.heap [] := va_S.rf
  have hP : va_P (dC, dI) vwCl (wl ad kv cy N v) s.heap := hP
  have hl := lv_entry ([.ref (ad 10), .int x0]) (n := 4) (Nat.le_of_ble_eq_true rfl)
  rw [lg_entry_eq]
  generalize (lg_sl ([.ref (ad 10), .int x0]) ++ List.replicate (4 - (lg_sl ([.ref (ad 10), .int x0])).length) Slot.unset).toArray = ls at hl ⊢
  have hl : lv_has ls 4 [(0, .ref (ad 10)), (1, .int x0)] := hl
  have hfr : Fz v v := Fz.rf
  refine lv_aload_n hx hb dX5_pinLeastHour_0 rfl (lv_at hl 0 rfl) ?_
  refine va_get (D := (dC, dI)) (ci := 5) (v := .ref (ad 12)) (C := RX5) (T := TX5) (N := 3) hx hb hts iwX5_pinLeastHour_X5 hown hK hP (10) (wl_at (by omega) (ce_2 (by decide))) rfl 2 (by decide) (hts (.fieldLink RX5 15 "QuietStairs$Table" "hourBits" "[I") fwX5_pinLeastHour_1) (fun _ h9 => h9) rfl dX5_pinLeastHour_1 ?_
  refine lv_iload_n hx hb dX5_pinLeastHour_4 rfl (lv_at hl 1 rfl) ?_
  obtain ⟨pi1, i1, hi1, ni1, mi1⟩ := t_in (x := x0) (n := 5) ⟨by omega, by omega⟩
  refine va_iald hx hb hK hP (12) 0 (wl_at (by omega) (ce_19 (by decide))) rfl pi1 dX5_pinLeastHour_5 ?_
  refine lv_topi (fun x_2 ex_2 => ?_)
  refine lv_istore_n (lv' := [(2, .int x_2), (0, .ref (ad 10)), (1, .int x0)]) hx hb dX5_pinLeastHour_6 rfl hl (by decide) rfl (fun ls hl => ?_)
  refine lv_iconst (v := 0) hx hb dX5_pinLeastHour_7 (by decide) ?_
  refine lv_istore_n (lv' := [(3, .int 0), (2, .int x_2), (0, .ref (ad 10)), (1, .int x0)]) hx hb dX5_pinLeastHour_8 rfl hl (by decide) rfl (fun ls hl => ?_)
  have k_0 : (0 : Int32).toInt = 0 := by decide
  have hloop_3 : ∀ (n : Nat) (y3_3 : Int32) (u3 : Nat → Nat → Int32) (H : Heap) (locs : List Loc), 0 ≤ y3_3.toInt → y3_3.toInt ≤ 24 → (24 - y3_3.toInt).toNat < n → Iv u3 → Fz v u3 → va_P (dC, dI) vwCl (wl ad kv cy N u3) H → va_D A (wl ad kv cy N u3) → va_S A s.heap H locs → ∀ ls : Array Slot, lv_has ls 4 [(3, .int y3_3), (2, .int x_2), (0, .ref (ad 10)), (1, .int x0)] → W p l e (headSpec wsX5_pinLeastHour ({ frames := 2, cells := 0, slots := 0, locals := 128 })).room s m [Value.ref (ad 10), Value.int x0].toArray below meth c H locs 0 0 (MQ below (va_Qi (fun (r : Int32) (u : Nat → Nat → Int32) => Iv u ∧ Fz v u) (fun u t => ex_Pst dC dI A (wl ad kv cy N u) t) A) [Value.ref (ad 10), Value.int x0].toArray s 0 0 A) (F0 m 9 ls []) := by
    intro n
    induction n with
    | zero =>
      intro y3_3 u3 H locs ay3_3 by3_3 hm_3 hv hfr hP hD hS ls hl
      exact absurd hm_3 (by omega)
    | succ n ih_3 =>
      intro y3_3 u3 H locs ay3_3 by3_3 hm_3 hv hfr hP hD hS ls hl
      refine lv_iload_n hx hb dX5_pinLeastHour_9 rfl (lv_at hl 0 rfl) ?_
      refine lv_bipush (v := 24) hx hb dX5_pinLeastHour_10 (by decide) ?_
      have k_24 : (24 : Int32).toInt = 24 := by decide
      refine lv_icmp_ge (tgt := 47) hx hb dX5_pinLeastHour_12 (by decide) (fun c_4 => ?_) (fun c_4 => ?_)
      · have tc_4 : y3_3.toInt ≥ (24 : Int32).toInt := Int32.le_iff_toInt_le.mp c_4
        refine lv_aload_n hx hb dX5_pinLeastHour_47 rfl (lv_at hl 2 rfl) ?_
        refine va_get (D := (dC, dI)) (ci := 5) (v := .ref (ad 12)) (C := RX5) (T := TX5) (N := 3) hx hb hts iwX5_pinLeastHour_X5 hown hK hP (10) (wl_at (by omega) (ce_2 (by decide))) rfl 2 (by decide) (hts (.fieldLink RX5 15 "QuietStairs$Table" "hourBits" "[I") fwX5_pinLeastHour_1) (fun _ h9 => h9) rfl dX5_pinLeastHour_48 ?_
        refine lv_iload_n hx hb dX5_pinLeastHour_51 rfl (lv_at hl 3 rfl) ?_
        refine lv_iload_n hx hb dX5_pinLeastHour_52 rfl (lv_at hl 1 rfl) ?_
        refine va_iast hx hb hK hP hD hS (12) 0 (wl_at (by omega) (ce_19 (by decide))) rfl pi1 dX5_pinLeastHour_53 (fun H locs hP hD hS => ?_)
        obtain ⟨v_5, ev_5⟩ : ∃ u : Nat → Nat → Int32, u = upr u3 (12) (upd (u3 (12)) (x0.toNatClampNeg) x_2) := ⟨_, rfl⟩
        have hP : va_P (dC, dI) vwCl (wl ad kv cy N v_5) H := by rw [ev_5, ← wl_put (e := _) (ce_19 (by decide))]; exact hP
        have hD : va_D A (wl ad kv cy N v_5) := by rw [ev_5, ← wl_put (e := _) (ce_19 (by decide))]; exact hD
        have hv : Iv v_5 := by rw [ev_5]; exact hv.put (K := 19) (by decide) (fun h q => by simp [bd] at q)
        have hfr : Fz v v_5 := by rw [ev_5]; exact hfr.put (by omega) (by omega) (by omega)
        refine lv_bipush (v := (-5)) hx hb dX5_pinLeastHour_54 (by decide) ?_
        exact W.iret (v := (-5)) hx hb hr (fun t ht hW => ⟨⟨(-5), v_5, rfl, ⟨hv, hfr⟩, by rw [ht]; exact hP, hD⟩, hS.F ht⟩) hS.2.2 dX5_pinLeastHour_56
      · have tc_4 : y3_3.toInt < (24 : Int32).toInt := Int32.lt_iff_toInt_lt.mp (Int32.not_le.mp c_4)
        refine lv_iload_n hx hb dX5_pinLeastHour_15 rfl (lv_at hl 1 rfl) ?_
        refine lv_iload_n hx hb dX5_pinLeastHour_16 rfl (lv_at hl 0 rfl) ?_
        refine yc_p hP hS (va_runSN (As := [.int x_2, .int y3_3]) (rest := []) ⟨hx, hb, hml, hown, hts⟩ (c_X7_hasBit l x_2 y3_3) ⟨va_cnB 2 hts gX5_pinLeastHour_X7_hasBit_n47 rfl rfl rfl hE.2.2.2.2.2.2.2.2.2.2.2.2.1 (hts (.initialized RX7) fwX5_pinLeastHour_3) (by decide +kernel) ⟨Nat.le_of_ble_eq_true rfl, Nat.le_of_ble_eq_true rfl⟩, (hts (.static yX7_hasBit) fwX5_pinLeastHour_2), trivial⟩ ex_preP rfl rfl hl.1 rfl (lv_room (Nat.le_of_ble_eq_true rfl)) dX5_pinLeastHour_17 ⟨Nat.le_of_ble_eq_true rfl, Nat.le_of_ble_eq_true rfl⟩) (fun r_5 H locs hw_5 hP hS => ?_)
        rcases hw_5 with rfl | rfl
        · refine lv_if_eq (tgt := 41) hx hb dX5_pinLeastHour_20 (by decide) (fun _ => ?_) (fun c9 => absurd c9 (by decide))
          obtain ⟨x_6, ex_6⟩ : ∃ y : Int32, y = y3_3 + 1 := ⟨_, rfl⟩
          refine lv_iinc (v := x_6) (lv' := [(3, .int x_6), (2, .int x_2), (0, .ref (ad 10)), (1, .int x0)]) hx hb dX5_pinLeastHour_41 hl (k := 0) rfl (by rw [ex_6]; rfl) (by decide) rfl (fun ls hl => ?_)
          have k_1 : (1 : Int32).toInt = 1 := by decide
          have tx_6 : x_6.toInt = y3_3.toInt + (1 : Int32).toInt := by rw [ex_6]; exact t_add ⟨by omega, by omega⟩
          refine lv_goto (tgt := 9) hx hb dX5_pinLeastHour_44 (by decide) ?_
          exact ih_3 x_6 u3 H locs (by omega) (by omega) (by omega) hv hfr hP hD hS ls (lv_sub hl [0, 1, 2, 3] rfl)
        · refine lv_if_eq (tgt := 41) hx hb dX5_pinLeastHour_20 (by decide) (fun c9 => absurd c9 (by decide)) (fun _ => ?_)
          refine lv_aload_n hx hb dX5_pinLeastHour_23 rfl (lv_at hl 2 rfl) ?_
          refine va_get (D := (dC, dI)) (ci := 5) (v := .ref (ad 12)) (C := RX5) (T := TX5) (N := 3) hx hb hts iwX5_pinLeastHour_X5 hown hK hP (10) (wl_at (by omega) (ce_2 (by decide))) rfl 2 (by decide) (hts (.fieldLink RX5 15 "QuietStairs$Table" "hourBits" "[I") fwX5_pinLeastHour_1) (fun _ h9 => h9) rfl dX5_pinLeastHour_24 ?_
          refine lv_iload_n hx hb dX5_pinLeastHour_27 rfl (lv_at hl 3 rfl) ?_
          refine lv_iconst (v := 1) hx hb dX5_pinLeastHour_28 (by decide) ?_
          refine lv_iload_n hx hb dX5_pinLeastHour_29 rfl (lv_at hl 0 rfl) ?_
          refine lv_ishl hx hb dX5_pinLeastHour_30 ?_
          refine lv_topi (fun x_6 ex_6 => ?_)
          refine va_iast hx hb hK hP hD hS (12) 0 (wl_at (by omega) (ce_19 (by decide))) rfl pi1 dX5_pinLeastHour_31 (fun H locs hP hD hS => ?_)
          obtain ⟨v_7, ev_7⟩ : ∃ u : Nat → Nat → Int32, u = upr u3 (12) (upd (u3 (12)) (x0.toNatClampNeg) x_6) := ⟨_, rfl⟩
          have hP : va_P (dC, dI) vwCl (wl ad kv cy N v_7) H := by rw [ev_7, ← wl_put (e := _) (ce_19 (by decide))]; exact hP
          have hD : va_D A (wl ad kv cy N v_7) := by rw [ev_7, ← wl_put (e := _) (ce_19 (by decide))]; exact hD
          have hv : Iv v_7 := by rw [ev_7]; exact hv.put (K := 19) (by decide) (fun h q => by simp [bd] at q)
          have hfr : Fz v v_7 := by rw [ev_7]; exact hfr.put (by omega) (by omega) (by omega)
          refine lv_aload_n hx hb dX5_pinLeastHour_32 rfl (lv_at hl 2 rfl) ?_
          refine yw_i (w1 := fun (u : Nat → Nat → Int32) => wl ad kv cy N u) hD hS hA (va_runV (As := []) (rest := []) ⟨hx, hb, hml, hown, hts⟩ (g_X5_stands l dC dI cy _ ad kv N hN v_7 hv ) (cwV 0 hts gX5_pinLeastHour_X5_stands rfl rfl rfl hd_V_X5_stands_0 ⟨Nat.le_of_ble_eq_true rfl, Nat.le_of_ble_eq_true rfl⟩) (yw_preV hE hK hP hD (ci := 5) (q0 := 10) rfl (wl_at (by omega) (ce_2 (by decide)))) rfl rfl hl.1 rfl (lv_room (Nat.le_of_ble_eq_true rfl)) dX5_pinLeastHour_33 ⟨Nat.le_of_ble_eq_true rfl, Nat.le_of_ble_eq_true rfl⟩) (fun r_8 v_8 H locs hw_8 hP hD hS => ?_)
          obtain ⟨hv, hw_8⟩ := hw_8
          have hfr : Fz v v_8 := hfr.trans hw_8.1
          refine lv_if_eq (tgt := 41) hx hb dX5_pinLeastHour_36 (by decide) (fun c_9 => ?_) (fun c_9 => ?_)
          · have tc_9 : r_8.toInt = (0 : Int32).toInt := by rw [c_9]
            obtain ⟨x_10, ex_10⟩ : ∃ y : Int32, y = y3_3 + 1 := ⟨_, rfl⟩
            refine lv_iinc (v := x_10) (lv' := [(3, .int x_10), (2, .int x_2), (0, .ref (ad 10)), (1, .int x0)]) hx hb dX5_pinLeastHour_41 hl (k := 0) rfl (by rw [ex_10]; rfl) (by decide) rfl (fun ls hl => ?_)
            have k_1 : (1 : Int32).toInt = 1 := by decide
            have tx_10 : x_10.toInt = y3_3.toInt + (1 : Int32).toInt := by rw [ex_10]; exact t_add ⟨by omega, by omega⟩
            refine lv_goto (tgt := 9) hx hb dX5_pinLeastHour_44 (by decide) ?_
            exact ih_3 x_10 v_8 H locs (by omega) (by omega) (by omega) hv hfr hP hD hS ls (lv_sub hl [0, 1, 2, 3] rfl)
          · have tc_9 : r_8.toInt ≠ (0 : Int32).toInt := fun q => absurd (Int32.toInt_inj.mp q) c_9
            refine lv_iload_n hx hb dX5_pinLeastHour_39 rfl (lv_at hl 0 rfl) ?_
            exact W.iret (v := y3_3) hx hb hr (fun t ht hW => ⟨⟨y3_3, v_8, rfl, ⟨hv, hfr⟩, by rw [ht]; exact hP, hD⟩, hS.F ht⟩) hS.2.2 dX5_pinLeastHour_40
  exact hloop_3 ((24 - (0 : Int32).toInt).toNat + 1) 0 v _ _ (by omega) (by omega) (by omega) hv hfr hP hD hS ls hl

set_option maxHeartbeats 4000000 in
set_option maxRecDepth 100000 in
theorem g_X5_hourOf (l : Launch) (dC : Nat → ClassId) (dI : Nat → Nat → Nat) (cy : Nat → ClassId) (sz : Nat) (ad : Nat → Nat) (kv : Value) (N : Nat) (hN : 119 ≤ N) (v : Nat → Nat → Int32) (hv : Iv v) (x0 : Int32) : Met l yX5_hourOf wsX5_hourOf ({ frames := 3, cells := 0, slots := 0, locals := 192 }) (va_Pc [.ref (ad 10), .int x0] (ex_Pre dC dI cy sz (wl ad kv cy N v))) (va_Qi (fun (r : Int32) (u : Nat → Nat → Int32) => Iv u ∧ Fz v u) (fun u t => ex_Pst dC dI (va_A (wl ad kv cy N v) sz) (wl ad kv cy N u) t) (va_A (wl ad kv cy N v) sz)) 0 0 (va_A (wl ad kv cy N v) sz) := by
  refine Met.ofW (cc := cX5_hourOf) (maxL := 4) (ret := (some .int)) (by decide) rfl ?_
  intro p e s m args below meth c s₁ B hml hv
  obtain ⟨rfl, hsz, hE, hP, hK, hD0⟩ := hv
  have hx := B.exec
  have hb := B.bytes
  have hr := B.returns
  have hts := atoms_spec (ws := wsX5_hourOf) B.pre
  have hown : s.vm.findClass RX5 = some m.cls := findClass_of_methodNamed B.named
  have hlocks := B.notSynchronized
  subst hsz
  have hD := hD0.self (sz := s.heap.size)
  generalize hAe : va_A (wl ad kv cy N v) s.heap.size = A at hD ⊢
  have hA : ∀ q : Nat, s.heap.size ≤ q → A q := fun q h => by rw [← hAe]; exact Or.inr h
  have hS : va_S A s.heap s.heap [] := va_S.rf
  have hP : va_P (dC, dI) vwCl (wl ad kv cy N v) s.heap := hP
  have hl := lv_entry ([.ref (ad 10), .int x0]) (n := 4) (Nat.le_of_ble_eq_true rfl)
  rw [lg_entry_eq]
  generalize (lg_sl ([.ref (ad 10), .int x0]) ++ List.replicate (4 - (lg_sl ([.ref (ad 10), .int x0])).length) Slot.unset).toArray = ls at hl ⊢
  have hl : lv_has ls 4 [(0, .ref (ad 10)), (1, .int x0)] := hl
  have hfr : Fz v v := Fz.rf
  refine lv_iconst (v := 0) hx hb dX5_hourOf_0 (by decide) ?_
  refine lv_istore_n (lv' := [(2, .int 0), (0, .ref (ad 10)), (1, .int x0)]) hx hb dX5_hourOf_1 rfl hl (by decide) rfl (fun ls hl => ?_)
  have k_0 : (0 : Int32).toInt = 0 := by decide
  have hloop_1 : ∀ (n : Nat) (y1_2 : Int32) (u1 : Nat → Nat → Int32) (H : Heap) (locs : List Loc), 0 ≤ y1_2.toInt → y1_2.toInt ≤ 5 → (5 - y1_2.toInt).toNat < n → Iv u1 → Fz v u1 → va_P (dC, dI) vwCl (wl ad kv cy N u1) H → va_D A (wl ad kv cy N u1) → va_S A s.heap H locs → ∀ ls : Array Slot, lv_has ls 4 [(2, .int y1_2), (0, .ref (ad 10)), (1, .int x0)] → W p l e (headSpec wsX5_hourOf ({ frames := 3, cells := 0, slots := 0, locals := 192 })).room s m [Value.ref (ad 10), Value.int x0].toArray below meth c H locs 0 0 (MQ below (va_Qi (fun (r : Int32) (u : Nat → Nat → Int32) => Iv u ∧ Fz v u) (fun u t => ex_Pst dC dI A (wl ad kv cy N u) t) A) [Value.ref (ad 10), Value.int x0].toArray s 0 0 A) (F0 m 2 ls []) := by
    intro n
    induction n with
    | zero =>
      intro y1_2 u1 H locs ay1_2 by1_2 hm_1 hv hfr hP hD hS ls hl
      exact absurd hm_1 (by omega)
    | succ n ih_1 =>
      intro y1_2 u1 H locs ay1_2 by1_2 hm_1 hv hfr hP hD hS ls hl
      refine lv_iload_n hx hb dX5_hourOf_2 rfl (lv_at hl 0 rfl) ?_
      refine lv_aload_n hx hb dX5_hourOf_3 rfl (lv_at hl 1 rfl) ?_
      refine va_get (D := (dC, dI)) (ci := 5) (v := .int (u1 (10) 0)) (C := RX5) (T := TX5) (N := 3) hx hb hts iwX5_hourOf_X5 hown hK hP (10) (wl_at (by omega) (ce_2 (by decide))) rfl 0 (by decide) (hts (.fieldLink RX5 18 "QuietStairs$Table" "count" "I") fwX5_hourOf_1) (fun _ h9 => h9) rfl dX5_hourOf_4 ?_
      refine lv_topi (fun x_2 ex_2 => ?_)
      have bx_2 : 0 ≤ x_2.toInt ∧ x_2.toInt ≤ 5 := by rw [ex_2]; exact hv.at (K := 2) (by decide) rfl
      refine lv_icmp_ge (tgt := 34) hx hb dX5_hourOf_7 (by decide) (fun c_3 => ?_) (fun c_3 => ?_)
      · have tc_3 : y1_2.toInt ≥ x_2.toInt := Int32.le_iff_toInt_le.mp c_3
        refine lv_bipush (v := (-5)) hx hb dX5_hourOf_34 (by decide) ?_
        exact W.iret (v := (-5)) hx hb hr (fun t ht hW => ⟨⟨(-5), u1, rfl, ⟨hv, hfr⟩, by rw [ht]; exact hP, hD⟩, hS.F ht⟩) hS.2.2 dX5_hourOf_36
      · have tc_3 : y1_2.toInt < x_2.toInt := Int32.lt_iff_toInt_lt.mp (Int32.not_le.mp c_3)
        refine lv_aload_n hx hb dX5_hourOf_10 rfl (lv_at hl 1 rfl) ?_
        refine lv_iload_n hx hb dX5_hourOf_11 rfl (lv_at hl 0 rfl) ?_
        refine yw_i (w1 := fun (u : Nat → Nat → Int32) => wl ad kv cy N u) hD hS hA (va_runV (As := [.int y1_2]) (rest := []) ⟨hx, hb, hml, hown, hts⟩ (g_X5_pinLeastHour l dC dI cy _ ad kv N hN u1 hv y1_2 ⟨by omega, by omega⟩) (cwV 1 hts gX5_hourOf_X5_pinLeastHour rfl rfl rfl hd_V_X5_pinLeastHour_1 ⟨Nat.le_of_ble_eq_true rfl, Nat.le_of_ble_eq_true rfl⟩) (yw_preV hE hK hP hD (ci := 5) (q0 := 10) rfl (wl_at (by omega) (ce_2 (by decide)))) rfl rfl hl.1 rfl (lv_room (Nat.le_of_ble_eq_true rfl)) dX5_hourOf_12 ⟨Nat.le_of_ble_eq_true rfl, Nat.le_of_ble_eq_true rfl⟩) (fun r_4 v_4 H locs hw_4 hP hD hS => ?_)
        obtain ⟨hv, hw_4⟩ := hw_4
        have hfr : Fz v v_4 := hfr.trans hw_4
        refine lv_istore_n (lv' := [(3, .int r_4), (2, .int y1_2), (0, .ref (ad 10)), (1, .int x0)]) hx hb dX5_hourOf_15 rfl hl (by decide) rfl (fun ls hl => ?_)
        refine lv_aload_n hx hb dX5_hourOf_16 rfl (lv_at hl 2 rfl) ?_
        refine va_get (D := (dC, dI)) (ci := 5) (v := .ref (ad 11)) (C := RX5) (T := TX5) (N := 3) hx hb hts iwX5_hourOf_X5 hown hK hP (10) (wl_at (by omega) (ce_2 (by decide))) rfl 1 (by decide) (hts (.fieldLink RX5 9 "QuietStairs$Table" "musts" "[I") fwX5_hourOf_2) (fun _ h9 => h9) rfl dX5_hourOf_17 ?_
        refine lv_iload_n hx hb dX5_hourOf_20 rfl (lv_at hl 1 rfl) ?_
        obtain ⟨pi5, i5, hi5, ni5, mi5⟩ := t_in (x := y1_2) (n := 5) ⟨by omega, by omega⟩
        refine va_iald hx hb hK hP (11) 0 (wl_at (by omega) (ce_19 (by decide))) rfl pi5 dX5_hourOf_21 ?_
        refine lv_topi (fun x_6 ex_6 => ?_)
        refine lv_iload_n hx hb dX5_hourOf_22 rfl (lv_at hl 3 rfl) ?_
        refine lv_icmp_ne (tgt := 28) hx hb dX5_hourOf_23 (by decide) (fun c_7 => ?_) (fun c_7 => ?_)
        · have tc_7 : x_6.toInt ≠ x0.toInt := fun q => absurd (Int32.toInt_inj.mp q) c_7
          obtain ⟨x_8, ex_8⟩ : ∃ y : Int32, y = y1_2 + 1 := ⟨_, rfl⟩
          refine lv_iinc (v := x_8) (lv' := [(2, .int x_8), (3, .int r_4), (0, .ref (ad 10)), (1, .int x0)]) hx hb dX5_hourOf_28 hl (k := 1) rfl (by rw [ex_8]; rfl) (by decide) rfl (fun ls hl => ?_)
          have k_1 : (1 : Int32).toInt = 1 := by decide
          have tx_8 : x_8.toInt = y1_2.toInt + (1 : Int32).toInt := by rw [ex_8]; exact t_add ⟨by omega, by omega⟩
          refine lv_goto (tgt := 2) hx hb dX5_hourOf_31 (by decide) ?_
          exact ih_1 x_8 v_4 H locs (by omega) (by omega) (by omega) hv hfr hP hD hS ls (lv_sub hl [0, 2, 3] rfl)
        · have tc_7 : x_6.toInt = x0.toInt := by rw [c_7]
          refine lv_iload_n hx hb dX5_hourOf_26 rfl (lv_at hl 0 rfl) ?_
          exact W.iret (v := r_4) hx hb hr (fun t ht hW => ⟨⟨r_4, v_4, rfl, ⟨hv, hfr⟩, by rw [ht]; exact hP, hD⟩, hS.F ht⟩) hS.2.2 dX5_hourOf_27
  exact hloop_1 ((5 - (0 : Int32).toInt).toNat + 1) 0 v _ _ (by omega) (by omega) (by omega) hv hfr hP hD hS ls hl

set_option maxHeartbeats 4000000 in
set_option maxRecDepth 100000 in
theorem g_X7_canHold (l : Launch) (dC : Nat → ClassId) (dI : Nat → Nat → Nat) (cy : Nat → ClassId) (sz : Nat) (ad : Nat → Nat) (kv : Value) (N : Nat) (hN : 119 ≤ N) (v : Nat → Nat → Int32) (hv : Iv v)  (x0 x1 : Int32) : Met l yX7_canHold wsX7_canHold ({ frames := 3, cells := 0, slots := 0, locals := 192 }) (va_Pc [.ref (ad 0), .int x0, .int x1] (ex_Pre dC dI cy sz (wl ad kv cy N v))) (va_Qi (fun (r : Int32) (u : Nat → Nat → Int32) => Iv u ∧ Fz v u) (fun u t => ex_Pst dC dI (va_A (wl ad kv cy N v) sz) (wl ad kv cy N u) t) (va_A (wl ad kv cy N v) sz)) 0 0 (va_A (wl ad kv cy N v) sz) := by
  refine Met.ofW (cc := cX7_canHold) (maxL := 3) (ret := (some .int)) (by decide) rfl ?_
  intro p e s m args below meth c s₁ B hml hv
  obtain ⟨rfl, hsz, hE, hP, hK, hD0⟩ := hv
  have hx := B.exec
  have hb := B.bytes
  have hr := B.returns
  have hts := atoms_spec (ws := wsX7_canHold) B.pre
  have hown : s.vm.findClass RX7 = some m.cls := findClass_of_methodNamed B.named
  have hlocks := B.notSynchronized
  subst hsz
  have hD := hD0.self (sz := s.heap.size)
  generalize hAe : va_A (wl ad kv cy N v) s.heap.size = A at hD ⊢
  have hA : ∀ q : Nat, s.heap.size ≤ q → A q := fun q h => by rw [← hAe]; exact Or.inr h
  have hS : va_S A s.heap s.heap [] := va_S.rf
  have hP : va_P (dC, dI) vwCl (wl ad kv cy N v) s.heap := hP
  have hl := lv_entry ([.ref (ad 0), .int x0, .int x1]) (n := 3) (Nat.le_of_ble_eq_true rfl)
  rw [lg_entry_eq]
  generalize (lg_sl ([.ref (ad 0), .int x0, .int x1]) ++ List.replicate (3 - (lg_sl ([.ref (ad 0), .int x0, .int x1])).length) Slot.unset).toArray = ls at hl ⊢
  have hl : lv_has ls 3 [(0, .ref (ad 0)), (1, .int x0), (2, .int x1)] := hl
  have hfr : Fz v v := Fz.rf
  refine lv_aload_n hx hb dX7_canHold_0 rfl (lv_at hl 0 rfl) ?_
  refine lv_iload_n hx hb dX7_canHold_1 rfl (lv_at hl 1 rfl) ?_
  refine yw_i (w1 := fun (u : Nat → Nat → Int32) => wl ad kv cy N u) hD hS hA (va_runV (As := [.int x0]) (rest := []) ⟨hx, hb, hml, hown, hts⟩ (g_X7_isCase l dC dI cy _ ad kv N hN v hv x0) (cwV 1 hts gX7_canHold_X7_isCase rfl rfl rfl hd_V_X7_isCase_1 ⟨Nat.le_of_ble_eq_true rfl, Nat.le_of_ble_eq_true rfl⟩) (yw_preV hE hK hP hD (ci := 7) (q0 := 0) rfl (wl_at (by omega) (ce_0 (by decide)))) rfl rfl hl.1 rfl (lv_room (Nat.le_of_ble_eq_true rfl)) dX7_canHold_2 ⟨Nat.le_of_ble_eq_true rfl, Nat.le_of_ble_eq_true rfl⟩) (fun r_1 v_1 H locs hw_1 hP hD hS => ?_)
  obtain ⟨hv, hw_1⟩ := hw_1
  obtain ⟨hu_1, hw_1⟩ := hw_1
  have hfr : Fz v v_1 := by rw [hu_1]; exact hfr
  rcases hw_1 with ⟨rfl, ha_2⟩ | ⟨rfl, -⟩
  · have hb_2 := hv.at (k := 13) (j := 2) (K := 3) (by decide) rfl
    have hb_2 : 0 ≤ x0.toInt ∧ x0.toInt < 6 := by omega
    refine lv_if_eq (tgt := 15) hx hb dX7_canHold_5 (by decide) (fun c9 => absurd c9 (by decide)) (fun _ => ?_)
    refine lv_iload_n hx hb dX7_canHold_8 rfl (lv_at hl 2 rfl) ?_
    refine yc_p hP hS (va_runS (As := [.int x1]) (rest := []) ⟨hx, hb, hml, hown, hts⟩ (c_X7_isSide l x1) (cwS 1 hts gX7_canHold_X7_isSide rfl rfl rfl hd_S_X7_isSide_1 ⟨Nat.le_of_ble_eq_true rfl, Nat.le_of_ble_eq_true rfl⟩) ex_preP rfl rfl hl.1 rfl (lv_room (Nat.le_of_ble_eq_true rfl)) dX7_canHold_9 ⟨Nat.le_of_ble_eq_true rfl, Nat.le_of_ble_eq_true rfl⟩) (fun r_3 H locs hw_3 hP hS => ?_)
    rcases wi_ca hw_3 with ⟨rfl, hc_4⟩ | ⟨rfl, hc_4⟩
    · have k_0 : (0 : Int32).toInt = 0 := by decide
      have k_1 : (1 : Int32).toInt = 1 := by decide
      have tc_4 := wi_tl hc_4
      refine lv_if_ne (tgt := 17) hx hb dX7_canHold_12 (by decide) (fun _ => ?_) (fun c9 => absurd c9 (by decide))
      refine lv_aload_n hx hb dX7_canHold_17 rfl (lv_at hl 0 rfl) ?_
      refine va_get (D := (dC, dI)) (ci := 7) (v := .ref (ad 10)) (C := RX7) (T := TX7) (N := 5) hx hb hts iwX7_canHold_X7 hown hK hP (0) (wl_at (by omega) (ce_0 (by decide))) rfl 2 (by decide) (hts (.fieldLink RX7 26 "QuietStairs" "table" "LQuietStairs$Table;") fwX7_canHold_1) (fun _ h9 => h9) rfl dX7_canHold_18 ?_
      refine lv_aload_n hx hb dX7_canHold_21 rfl (lv_at hl 0 rfl) ?_
      refine va_get (D := (dC, dI)) (ci := 7) (v := .ref (ad 13)) (C := RX7) (T := TX7) (N := 5) hx hb hts iwX7_canHold_X7 hown hK hP (0) (wl_at (by omega) (ce_0 (by decide))) rfl 0 (by decide) (hts (.fieldLink RX7 12 "QuietStairs" "now" "LQuietStairs$House;") fwX7_canHold_2) (fun _ h9 => h9) rfl dX7_canHold_22 ?_
      refine va_get (D := (dC, dI)) (ci := 1) (v := .ref (ad 16)) (C := RX1) (T := TX1) (N := 7) hx hb hts iwX7_canHold_X1 hown hK hP (13) (wl_at (by omega) (ce_3 (by decide))) rfl 6 (by decide) (hts (.fieldLink RX7 86 "QuietStairs$House" "cases" "[LQuietStairs$Case;") fwX7_canHold_3) (fun _ h9 => h9) rfl dX7_canHold_25 ?_
      refine lv_iload_n hx hb dX7_canHold_28 rfl (lv_at hl 1 rfl) ?_
      obtain ⟨pi5, i5, hi5, ni5, mi5⟩ := t_in (x := x0) (n := 6) ⟨by omega, by omega⟩
      refine va_aldq hx hb hK hP (16) 3 (wl_at (by omega) (ce_6 (by decide))) rfl pi5 dX7_canHold_29 ?_
      refine W.eq (g2 := F0 m 30 ls [.ref (ad (29 + 15 * i5)), .ref (ad 10)]) (by rw [ni5, if_pos hi5, show 16 + 13 + 15 * i5 = 29 + 15 * i5 from by omega]; rfl) ?_
      refine lv_iload_n hx hb dX7_canHold_30 rfl (lv_at hl 2 rfl) ?_
      refine lv_aload_n hx hb dX7_canHold_31 rfl (lv_at hl 0 rfl) ?_
      refine va_get (D := (dC, dI)) (ci := 7) (v := .ref (ad 13)) (C := RX7) (T := TX7) (N := 5) hx hb hts iwX7_canHold_X7 hown hK hP (0) (wl_at (by omega) (ce_0 (by decide))) rfl 0 (by decide) (hts (.fieldLink RX7 12 "QuietStairs" "now" "LQuietStairs$House;") fwX7_canHold_2) (fun _ h9 => h9) rfl dX7_canHold_32 ?_
      refine va_get (D := (dC, dI)) (ci := 1) (v := .ref (ad 16)) (C := RX1) (T := TX1) (N := 7) hx hb hts iwX7_canHold_X1 hown hK hP (13) (wl_at (by omega) (ce_3 (by decide))) rfl 6 (by decide) (hts (.fieldLink RX7 86 "QuietStairs$House" "cases" "[LQuietStairs$Case;") fwX7_canHold_3) (fun _ h9 => h9) rfl dX7_canHold_35 ?_
      refine lv_iload_n hx hb dX7_canHold_38 rfl (lv_at hl 1 rfl) ?_
      refine va_aldq hx hb hK hP (16) 3 (wl_at (by omega) (ce_6 (by decide))) rfl pi5 dX7_canHold_39 ?_
      refine W.eq (g2 := F0 m 40 ls [.ref (ad (29 + 15 * i5)), .int x1, .ref (ad (29 + 15 * i5)), .ref (ad 10)]) (by rw [ni5, if_pos hi5, show 16 + 13 + 15 * i5 = 29 + 15 * i5 from by omega]; rfl) ?_
      refine va_get (D := (dC, dI)) (ci := 0) (v := .int (v_1 (29 + 15 * i5) 5)) (C := RX0) (T := TX0) (N := 11) hx hb hts iwX7_canHold_X0 hown hK hP (29 + 15 * i5) (wl_at (by omega) (ce_9 (kd_c i5 hi5).1.1)) rfl 5 (by decide) (hts (.fieldLink RX7 169 "QuietStairs$Case" "termCount" "I") fwX7_canHold_4) (fun _ h9 => h9) rfl dX7_canHold_40 ?_
      refine lv_topi (fun x_6 ex_6 => ?_)
      have bx_6 : 0 ≤ x_6.toInt ∧ x_6.toInt ≤ 5 := by rw [ex_6]; exact hv.at (K := 9) (kd_c i5 hi5).1.1 rfl
      refine yw_v (w1 := fun (u : Nat → Nat → Int32) => wl ad kv cy N u) hD hS hA (va_runV (As := [.ref (ad (29 + 15 * i5)), .int x1, .int x_6]) (rest := []) ⟨hx, hb, hml, hown, hts⟩ (g_X5_read l dC dI cy _ ad kv N hN v_1 hv i5 hi5 x1 x_6 ⟨by omega, by omega⟩) (cwV 3 hts gX7_canHold_X5_read rfl rfl rfl hd_V_X5_read_3 ⟨Nat.le_of_ble_eq_true rfl, Nat.le_of_ble_eq_true rfl⟩) (yw_preV hE hK hP hD (ci := 5) (q0 := 10) rfl (wl_at (by omega) (ce_2 (by decide)))) rfl rfl hl.1 rfl (lv_room (Nat.le_of_ble_eq_true rfl)) dX7_canHold_43 ⟨Nat.le_of_ble_eq_true rfl, Nat.le_of_ble_eq_true rfl⟩) (fun v_7 H locs hw_7 hP hD hS => ?_)
      obtain ⟨hv, hw_7⟩ := hw_7
      have hfr : Fz v v_7 := hfr.trans hw_7
      refine lv_aload_n hx hb dX7_canHold_46 rfl (lv_at hl 0 rfl) ?_
      refine va_get (D := (dC, dI)) (ci := 7) (v := .ref (ad 10)) (C := RX7) (T := TX7) (N := 5) hx hb hts iwX7_canHold_X7 hown hK hP (0) (wl_at (by omega) (ce_0 (by decide))) rfl 2 (by decide) (hts (.fieldLink RX7 26 "QuietStairs" "table" "LQuietStairs$Table;") fwX7_canHold_1) (fun _ h9 => h9) rfl dX7_canHold_47 ?_
      refine yw_i (w1 := fun (u : Nat → Nat → Int32) => wl ad kv cy N u) hD hS hA (va_runV (As := []) (rest := []) ⟨hx, hb, hml, hown, hts⟩ (g_X5_stands l dC dI cy _ ad kv N hN v_7 hv ) (cwV 0 hts gX7_canHold_X5_stands rfl rfl rfl hd_V_X5_stands_0 ⟨Nat.le_of_ble_eq_true rfl, Nat.le_of_ble_eq_true rfl⟩) (yw_preV hE hK hP hD (ci := 5) (q0 := 10) rfl (wl_at (by omega) (ce_2 (by decide)))) rfl rfl hl.1 rfl (lv_room (Nat.le_of_ble_eq_true rfl)) dX7_canHold_50 ⟨Nat.le_of_ble_eq_true rfl, Nat.le_of_ble_eq_true rfl⟩) (fun r_8 v_8 H locs hw_8 hP hD hS => ?_)
      obtain ⟨hv, hw_8⟩ := hw_8
      have hfr : Fz v v_8 := hfr.trans hw_8.1
      refine lv_if_eq (tgt := 60) hx hb dX7_canHold_53 (by decide) (fun c_9 => ?_) (fun c_9 => ?_)
      · have tc_9 : r_8.toInt = (0 : Int32).toInt := by rw [c_9]
        refine lv_iconst (v := 0) hx hb dX7_canHold_60 (by decide) ?_
        exact W.iret (v := 0) hx hb hr (fun t ht hW => ⟨⟨0, v_8, rfl, ⟨hv, hfr⟩, by rw [ht]; exact hP, hD⟩, hS.F ht⟩) hS.2.2 dX7_canHold_61
      · have tc_9 : r_8.toInt ≠ (0 : Int32).toInt := fun q => absurd (Int32.toInt_inj.mp q) c_9
        refine lv_iconst (v := 1) hx hb dX7_canHold_56 (by decide) ?_
        refine lv_goto (tgt := 61) hx hb dX7_canHold_57 (by decide) ?_
        exact W.iret (v := 1) hx hb hr (fun t ht hW => ⟨⟨1, v_8, rfl, ⟨hv, hfr⟩, by rw [ht]; exact hP, hD⟩, hS.F ht⟩) hS.2.2 dX7_canHold_61
    · refine lv_if_ne (tgt := 17) hx hb dX7_canHold_12 (by decide) (fun c9 => absurd c9 (by decide)) (fun _ => ?_)
      refine lv_iconst (v := (-1)) hx hb dX7_canHold_15 (by decide) ?_
      exact W.iret (v := (-1)) hx hb hr (fun t ht hW => ⟨⟨(-1), v_1, rfl, ⟨hv, hfr⟩, by rw [ht]; exact hP, hD⟩, hS.F ht⟩) hS.2.2 dX7_canHold_16
  · refine lv_if_eq (tgt := 15) hx hb dX7_canHold_5 (by decide) (fun _ => ?_) (fun c9 => absurd c9 (by decide))
    refine lv_iconst (v := (-1)) hx hb dX7_canHold_15 (by decide) ?_
    exact W.iret (v := (-1)) hx hb hr (fun t ht hW => ⟨⟨(-1), v_1, rfl, ⟨hv, hfr⟩, by rw [ht]; exact hP, hD⟩, hS.F ht⟩) hS.2.2 dX7_canHold_16

set_option maxHeartbeats 4000000 in
set_option maxRecDepth 100000 in
theorem g_X7_hour (l : Launch) (dC : Nat → ClassId) (dI : Nat → Nat → Nat) (cy : Nat → ClassId) (sz : Nat) (ad : Nat → Nat) (kv : Value) (N : Nat) (hN : 119 ≤ N) (v : Nat → Nat → Int32) (hv : Iv v)  (x0 x1 : Int32) : Met l yX7_hour wsX7_hour ({ frames := 4, cells := 0, slots := 0, locals := 256 }) (va_Pc [.ref (ad 0), .int x0, .int x1] (ex_Pre dC dI cy sz (wl ad kv cy N v))) (va_Qi (fun (r : Int32) (u : Nat → Nat → Int32) => Iv u ∧ Fz v u) (fun u t => ex_Pst dC dI (va_A (wl ad kv cy N v) sz) (wl ad kv cy N u) t) (va_A (wl ad kv cy N v) sz)) 0 0 (va_A (wl ad kv cy N v) sz) := by
  refine Met.ofW (cc := cX7_hour) (maxL := 4) (ret := (some .int)) (by decide) rfl ?_
  intro p e s m args below meth c s₁ B hml hv
  obtain ⟨rfl, hsz, hE, hP, hK, hD0⟩ := hv
  have hx := B.exec
  have hb := B.bytes
  have hr := B.returns
  have hts := atoms_spec (ws := wsX7_hour) B.pre
  have hown : s.vm.findClass RX7 = some m.cls := findClass_of_methodNamed B.named
  have hlocks := B.notSynchronized
  subst hsz
  have hD := hD0.self (sz := s.heap.size)
  generalize hAe : va_A (wl ad kv cy N v) s.heap.size = A at hD ⊢
  have hA : ∀ q : Nat, s.heap.size ≤ q → A q := fun q h => by rw [← hAe]; exact Or.inr h
  have hS : va_S A s.heap s.heap [] := va_S.rf
  have hP : va_P (dC, dI) vwCl (wl ad kv cy N v) s.heap := hP
  have hl := lv_entry ([.ref (ad 0), .int x0, .int x1]) (n := 4) (Nat.le_of_ble_eq_true rfl)
  rw [lg_entry_eq]
  generalize (lg_sl ([.ref (ad 0), .int x0, .int x1]) ++ List.replicate (4 - (lg_sl ([.ref (ad 0), .int x0, .int x1])).length) Slot.unset).toArray = ls at hl ⊢
  have hl : lv_has ls 4 [(0, .ref (ad 0)), (1, .int x0), (2, .int x1)] := hl
  have hfr : Fz v v := Fz.rf
  refine lv_aload_n hx hb dX7_hour_0 rfl (lv_at hl 0 rfl) ?_
  refine lv_iload_n hx hb dX7_hour_1 rfl (lv_at hl 1 rfl) ?_
  refine lv_iload_n hx hb dX7_hour_2 rfl (lv_at hl 2 rfl) ?_
  refine yw_i (w1 := fun (u : Nat → Nat → Int32) => wl ad kv cy N u) hD hS hA (va_runV (As := [.int x0, .int x1]) (rest := []) ⟨hx, hb, hml, hown, hts⟩ (g_X7_isTerm l dC dI cy _ ad kv N hN v hv x0 x1) (cwV 2 hts gX7_hour_X7_isTerm rfl rfl rfl hd_V_X7_isTerm_2 ⟨Nat.le_of_ble_eq_true rfl, Nat.le_of_ble_eq_true rfl⟩) (yw_preV hE hK hP hD (ci := 7) (q0 := 0) rfl (wl_at (by omega) (ce_0 (by decide)))) rfl rfl hl.1 rfl (lv_room (Nat.le_of_ble_eq_true rfl)) dX7_hour_3 ⟨Nat.le_of_ble_eq_true rfl, Nat.le_of_ble_eq_true rfl⟩) (fun r_1 v_1 H locs hw_1 hP hD hS => ?_)
  obtain ⟨hv, hw_1⟩ := hw_1
  have hfr : Fz v v_1 := hfr.trans hw_1.1
  rcases hw_1.2 with ⟨rfl, ha_2, hb_2⟩ | rfl
  · refine lv_if_ne (tgt := 11) hx hb dX7_hour_6 (by decide) (fun _ => ?_) (fun c9 => absurd c9 (by decide))
    refine lv_aload_n hx hb dX7_hour_11 rfl (lv_at hl 0 rfl) ?_
    refine va_get (D := (dC, dI)) (ci := 7) (v := .ref (ad 13)) (C := RX7) (T := TX7) (N := 5) hx hb hts iwX7_hour_X7 hown hK hP (0) (wl_at (by omega) (ce_0 (by decide))) rfl 0 (by decide) (hts (.fieldLink RX7 12 "QuietStairs" "now" "LQuietStairs$House;") fwX7_hour_1) (fun _ h9 => h9) rfl dX7_hour_12 ?_
    refine va_get (D := (dC, dI)) (ci := 1) (v := .ref (ad 16)) (C := RX1) (T := TX1) (N := 7) hx hb hts iwX7_hour_X1 hown hK hP (13) (wl_at (by omega) (ce_3 (by decide))) rfl 6 (by decide) (hts (.fieldLink RX7 86 "QuietStairs$House" "cases" "[LQuietStairs$Case;") fwX7_hour_2) (fun _ h9 => h9) rfl dX7_hour_15 ?_
    refine lv_iload_n hx hb dX7_hour_18 rfl (lv_at hl 1 rfl) ?_
    obtain ⟨pi3, i3, hi3, ni3, mi3⟩ := t_in (x := x0) (n := 6) ⟨by omega, by omega⟩
    refine va_aldq hx hb hK hP (16) 3 (wl_at (by omega) (ce_6 (by decide))) rfl pi3 dX7_hour_19 ?_
    refine W.eq (g2 := F0 m 20 ls [.ref (ad (29 + 15 * i3))]) (by rw [ni3, if_pos hi3, show 16 + 13 + 15 * i3 = 29 + 15 * i3 from by omega]; rfl) ?_
    refine lv_astore_n (lv' := [(3, .ref (ad (29 + 15 * i3))), (0, .ref (ad 0)), (1, .int x0), (2, .int x1)]) hx hb dX7_hour_20 rfl hl (by decide) rfl (fun ls hl => ?_)
    refine lv_aload_n hx hb dX7_hour_21 rfl (lv_at hl 0 rfl) ?_
    refine va_get (D := (dC, dI)) (ci := 0) (v := .ref (ad (29 + 15 * i3 + 9))) (C := RX0) (T := TX0) (N := 11) hx hb hts iwX7_hour_X0 hown hK hP (29 + 15 * i3) (wl_at (by omega) (ce_9 (kd_c i3 hi3).1.1)) rfl 10 (by decide) (hts (.fieldLink RX7 172 "QuietStairs$Case" "terms" "[LQuietStairs$Term;") fwX7_hour_3) (fun _ h9 => h9) rfl dX7_hour_22 ?_
    refine W.eq (g2 := F0 m 25 ls [.ref (ad (38 + 15 * i3))]) (by rw [show 29 + 15 * i3 + 9 = 38 + 15 * i3 from by omega]) ?_
    refine lv_iload_n hx hb dX7_hour_25 rfl (lv_at hl 3 rfl) ?_
    obtain ⟨pi4, i4, hi4, ni4, mi4⟩ := t_in (x := x1) (n := 5) ⟨by omega, by omega⟩
    refine va_aldq hx hb hK hP (38 + 15 * i3) 4 (wl_at (by omega) (ce_15 (kd_c i3 hi3).1.2.2.2.2.2)) rfl pi4 dX7_hour_26 ?_
    refine W.eq (g2 := F0 m 27 ls [.ref (ad (39 + 15 * i3 + i4))]) (by rw [ni4, if_pos hi4, show 38 + 15 * i3 + 1 + i4 = 39 + 15 * i3 + i4 from by omega]; rfl) ?_
    refine va_get (D := (dC, dI)) (ci := 6) (v := .int (v_1 (39 + 15 * i3 + i4) 1)) (C := RX6) (T := TX6) (N := 5) hx hb hts iwX7_hour_X6 hown hK hP (39 + 15 * i3 + i4) (wl_at (by omega) (ce_16 (kd_t i3 hi3 i4 hi4).1)) rfl 1 (by decide) (hts (.fieldLink RX7 181 "QuietStairs$Term" "must" "Z") fwX7_hour_4) (fun _ h9 => h9) rfl dX7_hour_27 ?_
    refine lv_topi (fun x_5 ex_5 => ?_)
    have bx_5 : 0 ≤ x_5.toInt ∧ x_5.toInt ≤ 1 := by rw [ex_5]; exact hv.at (K := 16) (kd_t i3 hi3 i4 hi4).1 rfl
    have k_0 : (0 : Int32).toInt = 0 := by decide
    refine lv_if_ne (tgt := 36) hx hb dX7_hour_30 (by decide) (fun c_6 => ?_) (fun c_6 => ?_)
    · have tc_6 : x_5.toInt ≠ (0 : Int32).toInt := fun q => absurd (Int32.toInt_inj.mp q) c_6
      refine lv_aload_n hx hb dX7_hour_36 rfl (lv_at hl 1 rfl) ?_
      refine va_get (D := (dC, dI)) (ci := 7) (v := .ref (ad 10)) (C := RX7) (T := TX7) (N := 5) hx hb hts iwX7_hour_X7 hown hK hP (0) (wl_at (by omega) (ce_0 (by decide))) rfl 2 (by decide) (hts (.fieldLink RX7 26 "QuietStairs" "table" "LQuietStairs$Table;") fwX7_hour_5) (fun _ h9 => h9) rfl dX7_hour_37 ?_
      refine lv_aload_n hx hb dX7_hour_40 rfl (lv_at hl 0 rfl) ?_
      refine lv_aload_n hx hb dX7_hour_41 rfl (lv_at hl 0 rfl) ?_
      refine va_get (D := (dC, dI)) (ci := 0) (v := .ref (ad (29 + 15 * i3 + 9))) (C := RX0) (T := TX0) (N := 11) hx hb hts iwX7_hour_X0 hown hK hP (29 + 15 * i3) (wl_at (by omega) (ce_9 (kd_c i3 hi3).1.1)) rfl 10 (by decide) (hts (.fieldLink RX7 172 "QuietStairs$Case" "terms" "[LQuietStairs$Term;") fwX7_hour_3) (fun _ h9 => h9) rfl dX7_hour_42 ?_
      refine W.eq (g2 := F0 m 45 ls [.ref (ad (38 + 15 * i3)), .ref (ad (29 + 15 * i3)), .ref (ad 10)]) (by rw [show 29 + 15 * i3 + 9 = 38 + 15 * i3 from by omega]) ?_
      refine lv_iload_n hx hb dX7_hour_45 rfl (lv_at hl 3 rfl) ?_
      refine va_aldq hx hb hK hP (38 + 15 * i3) 4 (wl_at (by omega) (ce_15 (kd_c i3 hi3).1.2.2.2.2.2)) rfl pi4 dX7_hour_46 ?_
      refine W.eq (g2 := F0 m 47 ls [.ref (ad (39 + 15 * i3 + i4)), .ref (ad (29 + 15 * i3)), .ref (ad 10)]) (by rw [ni4, if_pos hi4, show 38 + 15 * i3 + 1 + i4 = 39 + 15 * i3 + i4 from by omega]; rfl) ?_
      refine va_get (D := (dC, dI)) (ci := 6) (v := .int (v_1 (39 + 15 * i3 + i4) 0)) (C := RX6) (T := TX6) (N := 5) hx hb hts iwX7_hour_X6 hown hK hP (39 + 15 * i3 + i4) (wl_at (by omega) (ce_16 (kd_t i3 hi3 i4 hi4).1)) rfl 0 (by decide) (hts (.fieldLink RX7 176 "QuietStairs$Term" "side" "I") fwX7_hour_6) (fun _ h9 => h9) rfl dX7_hour_47 ?_
      refine lv_topi (fun x_7 ex_7 => ?_)
      have bx_7 : 0 ≤ x_7.toInt ∧ x_7.toInt ≤ 1 := by rw [ex_7]; exact hv.at (K := 16) (kd_t i3 hi3 i4 hi4).1 rfl
      refine lv_aload_n hx hb dX7_hour_50 rfl (lv_at hl 0 rfl) ?_
      refine va_get (D := (dC, dI)) (ci := 0) (v := .int (v_1 (29 + 15 * i3) 5)) (C := RX0) (T := TX0) (N := 11) hx hb hts iwX7_hour_X0 hown hK hP (29 + 15 * i3) (wl_at (by omega) (ce_9 (kd_c i3 hi3).1.1)) rfl 5 (by decide) (hts (.fieldLink RX7 169 "QuietStairs$Case" "termCount" "I") fwX7_hour_7) (fun _ h9 => h9) rfl dX7_hour_51 ?_
      refine lv_topi (fun x_8 ex_8 => ?_)
      have bx_8 : 0 ≤ x_8.toInt ∧ x_8.toInt ≤ 5 := by rw [ex_8]; exact hv.at (K := 9) (kd_c i3 hi3).1.1 rfl
      refine yw_v (w1 := fun (u : Nat → Nat → Int32) => wl ad kv cy N u) hD hS hA (va_runV (As := [.ref (ad (29 + 15 * i3)), .int x_7, .int x_8]) (rest := []) ⟨hx, hb, hml, hown, hts⟩ (g_X5_read l dC dI cy _ ad kv N hN v_1 hv i3 hi3 x_7 x_8 ⟨by omega, by omega⟩) (cwV 3 hts gX7_hour_X5_read rfl rfl rfl hd_V_X5_read_3 ⟨Nat.le_of_ble_eq_true rfl, Nat.le_of_ble_eq_true rfl⟩) (yw_preV hE hK hP hD (ci := 5) (q0 := 10) rfl (wl_at (by omega) (ce_2 (by decide)))) rfl rfl hl.1 rfl (lv_room (Nat.le_of_ble_eq_true rfl)) dX7_hour_54 ⟨Nat.le_of_ble_eq_true rfl, Nat.le_of_ble_eq_true rfl⟩) (fun v_9 H locs hw_9 hP hD hS => ?_)
      obtain ⟨hv, hw_9⟩ := hw_9
      have hfr : Fz v v_9 := hfr.trans hw_9
      refine lv_aload_n hx hb dX7_hour_57 rfl (lv_at hl 1 rfl) ?_
      refine va_get (D := (dC, dI)) (ci := 7) (v := .ref (ad 10)) (C := RX7) (T := TX7) (N := 5) hx hb hts iwX7_hour_X7 hown hK hP (0) (wl_at (by omega) (ce_0 (by decide))) rfl 2 (by decide) (hts (.fieldLink RX7 26 "QuietStairs" "table" "LQuietStairs$Table;") fwX7_hour_5) (fun _ h9 => h9) rfl dX7_hour_58 ?_
      refine yw_i (w1 := fun (u : Nat → Nat → Int32) => wl ad kv cy N u) hD hS hA (va_runV (As := []) (rest := []) ⟨hx, hb, hml, hown, hts⟩ (g_X5_stands l dC dI cy _ ad kv N hN v_9 hv ) (cwV 0 hts gX7_hour_X5_stands rfl rfl rfl hd_V_X5_stands_0 ⟨Nat.le_of_ble_eq_true rfl, Nat.le_of_ble_eq_true rfl⟩) (yw_preV hE hK hP hD (ci := 5) (q0 := 10) rfl (wl_at (by omega) (ce_2 (by decide)))) rfl rfl hl.1 rfl (lv_room (Nat.le_of_ble_eq_true rfl)) dX7_hour_61 ⟨Nat.le_of_ble_eq_true rfl, Nat.le_of_ble_eq_true rfl⟩) (fun r_10 v_10 H locs hw_10 hP hD hS => ?_)
      obtain ⟨hv, hw_10⟩ := hw_10
      have hfr : Fz v v_10 := hfr.trans hw_10.1
      refine lv_if_eq (tgt := 78) hx hb dX7_hour_64 (by decide) (fun c_11 => ?_) (fun c_11 => ?_)
      · have tc_11 : r_10.toInt = (0 : Int32).toInt := by rw [c_11]
        refine lv_bipush (v := (-5)) hx hb dX7_hour_78 (by decide) ?_
        exact W.iret (v := (-5)) hx hb hr (fun t ht hW => ⟨⟨(-5), v_10, rfl, ⟨hv, hfr⟩, by rw [ht]; exact hP, hD⟩, hS.F ht⟩) hS.2.2 dX7_hour_80
      · have tc_11 : r_10.toInt ≠ (0 : Int32).toInt := fun q => absurd (Int32.toInt_inj.mp q) c_11
        refine lv_aload_n hx hb dX7_hour_67 rfl (lv_at hl 1 rfl) ?_
        refine va_get (D := (dC, dI)) (ci := 7) (v := .ref (ad 10)) (C := RX7) (T := TX7) (N := 5) hx hb hts iwX7_hour_X7 hown hK hP (0) (wl_at (by omega) (ce_0 (by decide))) rfl 2 (by decide) (hts (.fieldLink RX7 26 "QuietStairs" "table" "LQuietStairs$Table;") fwX7_hour_5) (fun _ h9 => h9) rfl dX7_hour_68 ?_
        refine lv_iload_n hx hb dX7_hour_71 rfl (lv_at hl 3 rfl) ?_
        refine yw_i (w1 := fun (u : Nat → Nat → Int32) => wl ad kv cy N u) hD hS hA (va_runV (As := [.int x1]) (rest := []) ⟨hx, hb, hml, hown, hts⟩ (g_X5_hourOf l dC dI cy _ ad kv N hN v_10 hv x1) (cwV 1 hts gX7_hour_X5_hourOf rfl rfl rfl hd_V_X5_hourOf_1 ⟨Nat.le_of_ble_eq_true rfl, Nat.le_of_ble_eq_true rfl⟩) (yw_preV hE hK hP hD (ci := 5) (q0 := 10) rfl (wl_at (by omega) (ce_2 (by decide)))) rfl rfl hl.1 rfl (lv_room (Nat.le_of_ble_eq_true rfl)) dX7_hour_72 ⟨Nat.le_of_ble_eq_true rfl, Nat.le_of_ble_eq_true rfl⟩) (fun r_12 v_12 H locs hw_12 hP hD hS => ?_)
        obtain ⟨hv, hw_12⟩ := hw_12
        have hfr : Fz v v_12 := hfr.trans hw_12
        refine lv_goto (tgt := 80) hx hb dX7_hour_75 (by decide) ?_
        exact W.iret (v := r_12) hx hb hr (fun t ht hW => ⟨⟨r_12, v_12, rfl, ⟨hv, hfr⟩, by rw [ht]; exact hP, hD⟩, hS.F ht⟩) hS.2.2 dX7_hour_80
    · have tc_6 : x_5.toInt = (0 : Int32).toInt := by rw [c_6]
      refine lv_bipush (v := (-4)) hx hb dX7_hour_33 (by decide) ?_
      exact W.iret (v := (-4)) hx hb hr (fun t ht hW => ⟨⟨(-4), v_1, rfl, ⟨hv, hfr⟩, by rw [ht]; exact hP, hD⟩, hS.F ht⟩) hS.2.2 dX7_hour_35
  · refine lv_if_ne (tgt := 11) hx hb dX7_hour_6 (by decide) (fun c9 => absurd c9 (by decide)) (fun _ => ?_)
    refine lv_iconst (v := (-1)) hx hb dX7_hour_9 (by decide) ?_
    exact W.iret (v := (-1)) hx hb hr (fun t ht hW => ⟨⟨(-1), v_1, rfl, ⟨hv, hfr⟩, by rw [ht]; exact hP, hD⟩, hS.F ht⟩) hS.2.2 dX7_hour_10

set_option maxHeartbeats 4000000 in
set_option maxRecDepth 100000 in
theorem g_X7_breaks (l : Launch) (dC : Nat → ClassId) (dI : Nat → Nat → Nat) (cy : Nat → ClassId) (sz : Nat) (ad : Nat → Nat) (kv : Value) (N : Nat) (hN : 119 ≤ N) (v : Nat → Nat → Int32) (hv : Iv v)  (x0 x1 : Int32) : Met l yX7_breaks wsX7_breaks ({ frames := 3, cells := 0, slots := 0, locals := 192 }) (va_Pc [.ref (ad 0), .int x0, .int x1] (ex_Pre dC dI cy sz (wl ad kv cy N v))) (va_Qi (fun (r : Int32) (u : Nat → Nat → Int32) => Iv u ∧ Fz v u) (fun u t => ex_Pst dC dI (va_A (wl ad kv cy N v) sz) (wl ad kv cy N u) t) (va_A (wl ad kv cy N v) sz)) 0 0 (va_A (wl ad kv cy N v) sz) := by
  refine Met.ofW (cc := cX7_breaks) (maxL := 5) (ret := (some .int)) (by decide) rfl ?_
  intro p e s m args below meth c s₁ B hml hv
  obtain ⟨rfl, hsz, hE, hP, hK, hD0⟩ := hv
  have hx := B.exec
  have hb := B.bytes
  have hr := B.returns
  have hts := atoms_spec (ws := wsX7_breaks) B.pre
  have hown : s.vm.findClass RX7 = some m.cls := findClass_of_methodNamed B.named
  have hlocks := B.notSynchronized
  subst hsz
  have hD := hD0.self (sz := s.heap.size)
  generalize hAe : va_A (wl ad kv cy N v) s.heap.size = A at hD ⊢
  have hA : ∀ q : Nat, s.heap.size ≤ q → A q := fun q h => by rw [← hAe]; exact Or.inr h
  have hS : va_S A s.heap s.heap [] := va_S.rf
  have hP : va_P (dC, dI) vwCl (wl ad kv cy N v) s.heap := hP
  have hl := lv_entry ([.ref (ad 0), .int x0, .int x1]) (n := 5) (Nat.le_of_ble_eq_true rfl)
  rw [lg_entry_eq]
  generalize (lg_sl ([.ref (ad 0), .int x0, .int x1]) ++ List.replicate (5 - (lg_sl ([.ref (ad 0), .int x0, .int x1])).length) Slot.unset).toArray = ls at hl ⊢
  have hl : lv_has ls 5 [(0, .ref (ad 0)), (1, .int x0), (2, .int x1)] := hl
  have hfr : Fz v v := Fz.rf
  refine lv_aload_n hx hb dX7_breaks_0 rfl (lv_at hl 0 rfl) ?_
  refine lv_iload_n hx hb dX7_breaks_1 rfl (lv_at hl 1 rfl) ?_
  refine yw_i (w1 := fun (u : Nat → Nat → Int32) => wl ad kv cy N u) hD hS hA (va_runV (As := [.int x0]) (rest := []) ⟨hx, hb, hml, hown, hts⟩ (g_X7_isCase l dC dI cy _ ad kv N hN v hv x0) (cwV 1 hts gX7_breaks_X7_isCase rfl rfl rfl hd_V_X7_isCase_1 ⟨Nat.le_of_ble_eq_true rfl, Nat.le_of_ble_eq_true rfl⟩) (yw_preV hE hK hP hD (ci := 7) (q0 := 0) rfl (wl_at (by omega) (ce_0 (by decide)))) rfl rfl hl.1 rfl (lv_room (Nat.le_of_ble_eq_true rfl)) dX7_breaks_2 ⟨Nat.le_of_ble_eq_true rfl, Nat.le_of_ble_eq_true rfl⟩) (fun r_1 v_1 H locs hw_1 hP hD hS => ?_)
  obtain ⟨hv, hw_1⟩ := hw_1
  obtain ⟨hu_1, hw_1⟩ := hw_1
  have hfr : Fz v v_1 := by rw [hu_1]; exact hfr
  rcases hw_1 with ⟨rfl, ha_2⟩ | ⟨rfl, -⟩
  · have hb_2 := hv.at (k := 13) (j := 2) (K := 3) (by decide) rfl
    have hb_2 : 0 ≤ x0.toInt ∧ x0.toInt < 6 := by omega
    refine lv_if_eq (tgt := 15) hx hb dX7_breaks_5 (by decide) (fun c9 => absurd c9 (by decide)) (fun _ => ?_)
    refine lv_iload_n hx hb dX7_breaks_8 rfl (lv_at hl 2 rfl) ?_
    refine yc_p hP hS (va_runS (As := [.int x1]) (rest := []) ⟨hx, hb, hml, hown, hts⟩ (c_X7_isSide l x1) (cwS 1 hts gX7_breaks_X7_isSide rfl rfl rfl hd_S_X7_isSide_1 ⟨Nat.le_of_ble_eq_true rfl, Nat.le_of_ble_eq_true rfl⟩) ex_preP rfl rfl hl.1 rfl (lv_room (Nat.le_of_ble_eq_true rfl)) dX7_breaks_9 ⟨Nat.le_of_ble_eq_true rfl, Nat.le_of_ble_eq_true rfl⟩) (fun r_3 H locs hw_3 hP hS => ?_)
    rcases wi_ca hw_3 with ⟨rfl, hc_4⟩ | ⟨rfl, hc_4⟩
    · have k_0 : (0 : Int32).toInt = 0 := by decide
      have k_1 : (1 : Int32).toInt = 1 := by decide
      have tc_4 := wi_tl hc_4
      refine lv_if_ne (tgt := 17) hx hb dX7_breaks_12 (by decide) (fun _ => ?_) (fun c9 => absurd c9 (by decide))
      refine lv_aload_n hx hb dX7_breaks_17 rfl (lv_at hl 0 rfl) ?_
      refine va_get (D := (dC, dI)) (ci := 7) (v := .ref (ad 13)) (C := RX7) (T := TX7) (N := 5) hx hb hts iwX7_breaks_X7 hown hK hP (0) (wl_at (by omega) (ce_0 (by decide))) rfl 0 (by decide) (hts (.fieldLink RX7 12 "QuietStairs" "now" "LQuietStairs$House;") fwX7_breaks_1) (fun _ h9 => h9) rfl dX7_breaks_18 ?_
      refine va_get (D := (dC, dI)) (ci := 1) (v := .ref (ad 16)) (C := RX1) (T := TX1) (N := 7) hx hb hts iwX7_breaks_X1 hown hK hP (13) (wl_at (by omega) (ce_3 (by decide))) rfl 6 (by decide) (hts (.fieldLink RX7 86 "QuietStairs$House" "cases" "[LQuietStairs$Case;") fwX7_breaks_2) (fun _ h9 => h9) rfl dX7_breaks_21 ?_
      refine lv_iload_n hx hb dX7_breaks_24 rfl (lv_at hl 1 rfl) ?_
      obtain ⟨pi5, i5, hi5, ni5, mi5⟩ := t_in (x := x0) (n := 6) ⟨by omega, by omega⟩
      refine va_aldq hx hb hK hP (16) 3 (wl_at (by omega) (ce_6 (by decide))) rfl pi5 dX7_breaks_25 ?_
      refine W.eq (g2 := F0 m 26 ls [.ref (ad (29 + 15 * i5))]) (by rw [ni5, if_pos hi5, show 16 + 13 + 15 * i5 = 29 + 15 * i5 from by omega]; rfl) ?_
      refine lv_astore_n (lv' := [(3, .ref (ad (29 + 15 * i5))), (0, .ref (ad 0)), (1, .int x0), (2, .int x1)]) hx hb dX7_breaks_26 rfl hl (by decide) rfl (fun ls hl => ?_)
      refine lv_iconst (v := 0) hx hb dX7_breaks_27 (by decide) ?_
      refine lv_istore (lv' := [(4, .int 0), (3, .ref (ad (29 + 15 * i5))), (0, .ref (ad 0)), (1, .int x0), (2, .int x1)]) hx hb dX7_breaks_28 hl (by decide) rfl (fun ls hl => ?_)
      have hloop_6 : ∀ (n : Nat) (y6_4 : Int32) (u6 : Nat → Nat → Int32) (H : Heap) (locs : List Loc), 0 ≤ y6_4.toInt → y6_4.toInt ≤ 5 → (5 - y6_4.toInt).toNat < n → Iv u6 → Fz v u6 → va_P (dC, dI) vwCl (wl ad kv cy N u6) H → va_D A (wl ad kv cy N u6) → va_S A s.heap H locs → ∀ ls : Array Slot, lv_has ls 5 [(4, .int y6_4), (3, .ref (ad (29 + 15 * i5))), (0, .ref (ad 0)), (1, .int x0), (2, .int x1)] → W p l e (headSpec wsX7_breaks ({ frames := 3, cells := 0, slots := 0, locals := 192 })).room s m [Value.ref (ad 0), Value.int x0, Value.int x1].toArray below meth c H locs 0 0 (MQ below (va_Qi (fun (r : Int32) (u : Nat → Nat → Int32) => Iv u ∧ Fz v u) (fun u t => ex_Pst dC dI A (wl ad kv cy N u) t) A) [Value.ref (ad 0), Value.int x0, Value.int x1].toArray s 0 0 A) (F0 m 30 ls []) := by
        intro n
        induction n with
        | zero =>
          intro y6_4 u6 H locs ay6_4 by6_4 hm_6 hv hfr hP hD hS ls hl
          exact absurd hm_6 (by omega)
        | succ n ih_6 =>
          intro y6_4 u6 H locs ay6_4 by6_4 hm_6 hv hfr hP hD hS ls hl
          refine lv_iload hx hb dX7_breaks_30 (lv_at hl 0 rfl) ?_
          refine lv_aload_n hx hb dX7_breaks_32 rfl (lv_at hl 1 rfl) ?_
          refine va_get (D := (dC, dI)) (ci := 0) (v := .int (u6 (29 + 15 * i5) 5)) (C := RX0) (T := TX0) (N := 11) hx hb hts iwX7_breaks_X0 hown hK hP (29 + 15 * i5) (wl_at (by omega) (ce_9 (kd_c i5 hi5).1.1)) rfl 5 (by decide) (hts (.fieldLink RX7 169 "QuietStairs$Case" "termCount" "I") fwX7_breaks_3) (fun _ h9 => h9) rfl dX7_breaks_33 ?_
          refine lv_topi (fun x_7 ex_7 => ?_)
          have bx_7 : 0 ≤ x_7.toInt ∧ x_7.toInt ≤ 5 := by rw [ex_7]; exact hv.at (K := 9) (kd_c i5 hi5).1.1 rfl
          refine lv_icmp_ge (tgt := 85) hx hb dX7_breaks_36 (by decide) (fun c_8 => ?_) (fun c_8 => ?_)
          · have tc_8 : y6_4.toInt ≥ x_7.toInt := Int32.le_iff_toInt_le.mp c_8
            refine lv_bipush (v := (-5)) hx hb dX7_breaks_85 (by decide) ?_
            exact W.iret (v := (-5)) hx hb hr (fun t ht hW => ⟨⟨(-5), u6, rfl, ⟨hv, hfr⟩, by rw [ht]; exact hP, hD⟩, hS.F ht⟩) hS.2.2 dX7_breaks_87
          · have tc_8 : y6_4.toInt < x_7.toInt := Int32.lt_iff_toInt_lt.mp (Int32.not_le.mp c_8)
            refine lv_aload_n hx hb dX7_breaks_39 rfl (lv_at hl 1 rfl) ?_
            refine va_get (D := (dC, dI)) (ci := 0) (v := .ref (ad (29 + 15 * i5 + 9))) (C := RX0) (T := TX0) (N := 11) hx hb hts iwX7_breaks_X0 hown hK hP (29 + 15 * i5) (wl_at (by omega) (ce_9 (kd_c i5 hi5).1.1)) rfl 10 (by decide) (hts (.fieldLink RX7 172 "QuietStairs$Case" "terms" "[LQuietStairs$Term;") fwX7_breaks_4) (fun _ h9 => h9) rfl dX7_breaks_40 ?_
            refine W.eq (g2 := F0 m 43 ls [.ref (ad (38 + 15 * i5))]) (by rw [show 29 + 15 * i5 + 9 = 38 + 15 * i5 from by omega]) ?_
            refine lv_iload hx hb dX7_breaks_43 (lv_at hl 0 rfl) ?_
            obtain ⟨pi9, i9, hi9, ni9, mi9⟩ := t_in (x := y6_4) (n := 5) ⟨by omega, by omega⟩
            refine va_aldq hx hb hK hP (38 + 15 * i5) 4 (wl_at (by omega) (ce_15 (kd_c i5 hi5).1.2.2.2.2.2)) rfl pi9 dX7_breaks_45 ?_
            refine W.eq (g2 := F0 m 46 ls [.ref (ad (39 + 15 * i5 + i9))]) (by rw [ni9, if_pos hi9, show 38 + 15 * i5 + 1 + i9 = 39 + 15 * i5 + i9 from by omega]; rfl) ?_
            refine va_get (D := (dC, dI)) (ci := 6) (v := .int (u6 (39 + 15 * i5 + i9) 0)) (C := RX6) (T := TX6) (N := 5) hx hb hts iwX7_breaks_X6 hown hK hP (39 + 15 * i5 + i9) (wl_at (by omega) (ce_16 (kd_t i5 hi5 i9 hi9).1)) rfl 0 (by decide) (hts (.fieldLink RX7 176 "QuietStairs$Term" "side" "I") fwX7_breaks_5) (fun _ h9 => h9) rfl dX7_breaks_46 ?_
            refine lv_topi (fun x_10 ex_10 => ?_)
            have bx_10 : 0 ≤ x_10.toInt ∧ x_10.toInt ≤ 1 := by rw [ex_10]; exact hv.at (K := 16) (kd_t i5 hi5 i9 hi9).1 rfl
            refine lv_iload_n hx hb dX7_breaks_49 rfl (lv_at hl 4 rfl) ?_
            refine lv_icmp_ne (tgt := 79) hx hb dX7_breaks_50 (by decide) (fun c_11 => ?_) (fun c_11 => ?_)
            · have tc_11 : x_10.toInt ≠ x1.toInt := fun q => absurd (Int32.toInt_inj.mp q) c_11
              obtain ⟨x_12, ex_12⟩ : ∃ y : Int32, y = y6_4 + 1 := ⟨_, rfl⟩
              refine lv_iinc (v := x_12) (lv' := [(4, .int x_12), (3, .ref (ad (29 + 15 * i5))), (0, .ref (ad 0)), (1, .int x0), (2, .int x1)]) hx hb dX7_breaks_79 hl (k := 0) rfl (by rw [ex_12]; rfl) (by decide) rfl (fun ls hl => ?_)
              have tx_12 : x_12.toInt = y6_4.toInt + (1 : Int32).toInt := by rw [ex_12]; exact t_add ⟨by omega, by omega⟩
              refine lv_goto (tgt := 30) hx hb dX7_breaks_82 (by decide) ?_
              exact ih_6 x_12 u6 H locs (by omega) (by omega) (by omega) hv hfr hP hD hS ls (lv_sub hl [0, 1, 2, 3, 4] rfl)
            · have tc_11 : x_10.toInt = x1.toInt := by rw [c_11]
              refine lv_aload_n hx hb dX7_breaks_53 rfl (lv_at hl 2 rfl) ?_
              refine va_get (D := (dC, dI)) (ci := 7) (v := .ref (ad 10)) (C := RX7) (T := TX7) (N := 5) hx hb hts iwX7_breaks_X7 hown hK hP (0) (wl_at (by omega) (ce_0 (by decide))) rfl 2 (by decide) (hts (.fieldLink RX7 26 "QuietStairs" "table" "LQuietStairs$Table;") fwX7_breaks_6) (fun _ h9 => h9) rfl dX7_breaks_54 ?_
              refine lv_aload_n hx hb dX7_breaks_57 rfl (lv_at hl 1 rfl) ?_
              refine lv_iload_n hx hb dX7_breaks_58 rfl (lv_at hl 4 rfl) ?_
              refine lv_iload hx hb dX7_breaks_59 (lv_at hl 0 rfl) ?_
              refine lv_iconst (v := 1) hx hb dX7_breaks_61 (by decide) ?_
              refine lv_iadd hx hb dX7_breaks_62 ?_
              refine lv_topi (fun x_12 ex_12 => ?_)
              have tx_12 : x_12.toInt = y6_4.toInt + (1 : Int32).toInt := by rw [ex_12]; exact t_add ⟨by omega, by omega⟩
              refine yw_v (w1 := fun (u : Nat → Nat → Int32) => wl ad kv cy N u) hD hS hA (va_runV (As := [.ref (ad (29 + 15 * i5)), .int x1, .int x_12]) (rest := []) ⟨hx, hb, hml, hown, hts⟩ (g_X5_read l dC dI cy _ ad kv N hN u6 hv i5 hi5 x1 x_12 ⟨by omega, by omega⟩) (cwV 3 hts gX7_breaks_X5_read rfl rfl rfl hd_V_X5_read_3 ⟨Nat.le_of_ble_eq_true rfl, Nat.le_of_ble_eq_true rfl⟩) (yw_preV hE hK hP hD (ci := 5) (q0 := 10) rfl (wl_at (by omega) (ce_2 (by decide)))) rfl rfl hl.1 rfl (lv_room (Nat.le_of_ble_eq_true rfl)) dX7_breaks_63 ⟨Nat.le_of_ble_eq_true rfl, Nat.le_of_ble_eq_true rfl⟩) (fun v_13 H locs hw_13 hP hD hS => ?_)
              obtain ⟨hv, hw_13⟩ := hw_13
              have hfr : Fz v v_13 := hfr.trans hw_13
              refine lv_aload_n hx hb dX7_breaks_66 rfl (lv_at hl 2 rfl) ?_
              refine va_get (D := (dC, dI)) (ci := 7) (v := .ref (ad 10)) (C := RX7) (T := TX7) (N := 5) hx hb hts iwX7_breaks_X7 hown hK hP (0) (wl_at (by omega) (ce_0 (by decide))) rfl 2 (by decide) (hts (.fieldLink RX7 26 "QuietStairs" "table" "LQuietStairs$Table;") fwX7_breaks_6) (fun _ h9 => h9) rfl dX7_breaks_67 ?_
              refine yw_i (w1 := fun (u : Nat → Nat → Int32) => wl ad kv cy N u) hD hS hA (va_runV (As := []) (rest := []) ⟨hx, hb, hml, hown, hts⟩ (g_X5_stands l dC dI cy _ ad kv N hN v_13 hv ) (cwV 0 hts gX7_breaks_X5_stands rfl rfl rfl hd_V_X5_stands_0 ⟨Nat.le_of_ble_eq_true rfl, Nat.le_of_ble_eq_true rfl⟩) (yw_preV hE hK hP hD (ci := 5) (q0 := 10) rfl (wl_at (by omega) (ce_2 (by decide)))) rfl rfl hl.1 rfl (lv_room (Nat.le_of_ble_eq_true rfl)) dX7_breaks_70 ⟨Nat.le_of_ble_eq_true rfl, Nat.le_of_ble_eq_true rfl⟩) (fun r_14 v_14 H locs hw_14 hP hD hS => ?_)
              obtain ⟨hv, hw_14⟩ := hw_14
              have hfr : Fz v v_14 := hfr.trans hw_14.1
              refine lv_if_ne (tgt := 79) hx hb dX7_breaks_73 (by decide) (fun c_15 => ?_) (fun c_15 => ?_)
              · have tc_15 : r_14.toInt ≠ (0 : Int32).toInt := fun q => absurd (Int32.toInt_inj.mp q) c_15
                obtain ⟨x_16, ex_16⟩ : ∃ y : Int32, y = y6_4 + 1 := ⟨_, rfl⟩
                refine lv_iinc (v := x_16) (lv' := [(4, .int x_16), (3, .ref (ad (29 + 15 * i5))), (0, .ref (ad 0)), (1, .int x0), (2, .int x1)]) hx hb dX7_breaks_79 hl (k := 0) rfl (by rw [ex_16]; rfl) (by decide) rfl (fun ls hl => ?_)
                have tx_16 : x_16.toInt = y6_4.toInt + (1 : Int32).toInt := by rw [ex_16]; exact t_add ⟨by omega, by omega⟩
                refine lv_goto (tgt := 30) hx hb dX7_breaks_82 (by decide) ?_
                exact ih_6 x_16 v_14 H locs (by omega) (by omega) (by omega) hv hfr hP hD hS ls (lv_sub hl [0, 1, 2, 3, 4] rfl)
              · have tc_15 : r_14.toInt = (0 : Int32).toInt := by rw [c_15]
                refine lv_iload hx hb dX7_breaks_76 (lv_at hl 0 rfl) ?_
                exact W.iret (v := y6_4) hx hb hr (fun t ht hW => ⟨⟨y6_4, v_14, rfl, ⟨hv, hfr⟩, by rw [ht]; exact hP, hD⟩, hS.F ht⟩) hS.2.2 dX7_breaks_78
      exact hloop_6 ((5 - (0 : Int32).toInt).toNat + 1) 0 v_1 _ _ (by omega) (by omega) (by omega) hv hfr hP hD hS ls hl
    · refine lv_if_ne (tgt := 17) hx hb dX7_breaks_12 (by decide) (fun c9 => absurd c9 (by decide)) (fun _ => ?_)
      refine lv_iconst (v := (-1)) hx hb dX7_breaks_15 (by decide) ?_
      exact W.iret (v := (-1)) hx hb hr (fun t ht hW => ⟨⟨(-1), v_1, rfl, ⟨hv, hfr⟩, by rw [ht]; exact hP, hD⟩, hS.F ht⟩) hS.2.2 dX7_breaks_16
  · refine lv_if_eq (tgt := 15) hx hb dX7_breaks_5 (by decide) (fun _ => ?_) (fun c9 => absurd c9 (by decide))
    refine lv_iconst (v := (-1)) hx hb dX7_breaks_15 (by decide) ?_
    exact W.iret (v := (-1)) hx hb hr (fun t ht hW => ⟨⟨(-1), v_1, rfl, ⟨hv, hfr⟩, by rw [ht]; exact hP, hD⟩, hS.F ht⟩) hS.2.2 dX7_breaks_16
