set_option maxRecDepth 20000 in
theorem db_X6_hourBits_0 : (decode cX6_hourBits 0 = .ok (.iconst 1, 1)) ∧ (decode cX6_hourBits 1 = .ok (.aload_n 0, 1)) ∧ (decode cX6_hourBits 2 = .ok (.getfield 7, 3)) ∧ (decode cX6_hourBits 5 = .ok (.iconst 1, 1)) ∧ (decode cX6_hourBits 6 = .ok (.iadd, 1)) ∧ (decode cX6_hourBits 7 = .ok (.ishl, 1)) ∧ (decode cX6_hourBits 8 = .ok (.iconst 1, 1)) ∧ (decode cX6_hourBits 9 = .ok (.aload_n 0, 1)) := by decide +kernel
theorem dX6_hourBits_0 : decode cX6_hourBits 0 = .ok (.iconst 1, 1) := db_X6_hourBits_0.1
theorem dX6_hourBits_1 : decode cX6_hourBits 1 = .ok (.aload_n 0, 1) := db_X6_hourBits_0.2.1
theorem dX6_hourBits_2 : decode cX6_hourBits 2 = .ok (.getfield 7, 3) := db_X6_hourBits_0.2.2.1
theorem dX6_hourBits_5 : decode cX6_hourBits 5 = .ok (.iconst 1, 1) := db_X6_hourBits_0.2.2.2.1
theorem dX6_hourBits_6 : decode cX6_hourBits 6 = .ok (.iadd, 1) := db_X6_hourBits_0.2.2.2.2.1
theorem dX6_hourBits_7 : decode cX6_hourBits 7 = .ok (.ishl, 1) := db_X6_hourBits_0.2.2.2.2.2.1
theorem dX6_hourBits_8 : decode cX6_hourBits 8 = .ok (.iconst 1, 1) := db_X6_hourBits_0.2.2.2.2.2.2.1
theorem dX6_hourBits_9 : decode cX6_hourBits 9 = .ok (.aload_n 0, 1) := db_X6_hourBits_0.2.2.2.2.2.2.2
set_option maxRecDepth 20000 in
theorem db_X6_hourBits_10 : (decode cX6_hourBits 10 = .ok (.getfield 13, 3)) ∧ (decode cX6_hourBits 13 = .ok (.ishl, 1)) ∧ (decode cX6_hourBits 14 = .ok (.isub, 1)) ∧ (decode cX6_hourBits 15 = .ok (.ireturn, 1)) := by decide +kernel
theorem dX6_hourBits_10 : decode cX6_hourBits 10 = .ok (.getfield 13, 3) := db_X6_hourBits_10.1
theorem dX6_hourBits_13 : decode cX6_hourBits 13 = .ok (.ishl, 1) := db_X6_hourBits_10.2.1
theorem dX6_hourBits_14 : decode cX6_hourBits 14 = .ok (.isub, 1) := db_X6_hourBits_10.2.2.1
theorem dX6_hourBits_15 : decode cX6_hourBits 15 = .ok (.ireturn, 1) := db_X6_hourBits_10.2.2.2
set_option maxRecDepth 20000 in
theorem db_X5_allowedHours_0 : (decode cX5_allowedHours 0 = .ok (.aload_n 1, 1)) ∧ (decode cX5_allowedHours 1 = .ok (.invokevirtual 41, 3)) ∧ (decode cX5_allowedHours 4 = .ok (.istore_n 3, 1)) ∧ (decode cX5_allowedHours 5 = .ok (.iconst 0, 1)) ∧ (decode cX5_allowedHours 6 = .ok (.istore 4, 2)) ∧ (decode cX5_allowedHours 8 = .ok (.iload 4, 2)) ∧ (decode cX5_allowedHours 10 = .ok (.iload_n 2, 1)) ∧ (decode cX5_allowedHours 11 = .ok (.if_icmp .ge 60, 3)) := by decide +kernel
theorem dX5_allowedHours_0 : decode cX5_allowedHours 0 = .ok (.aload_n 1, 1) := db_X5_allowedHours_0.1
set_option maxRecDepth 20000 in
theorem ggX5_allowedHours_X6_hourBits : GoodIn wsX5_allowedHours wsX6_hourBits := goodIn_r _ [9, 10, 11, 23, 24, 25, 26, 27] rfl (by decide +kernel)
set_option maxRecDepth 20000 in
theorem gX5_allowedHours_X6_hourBits : GoodIn wsX5_allowedHours (wsV RX5 41 RX6 yX6_hourBits wsX6_hourBits) := goodIn_app (goodIn_r _ [5, 6, 7, 8] rfl (by decide +kernel)) ggX5_allowedHours_X6_hourBits
theorem dX5_allowedHours_1 : decode cX5_allowedHours 1 = .ok (.invokevirtual 41, 3) := db_X5_allowedHours_0.2.1
theorem dX5_allowedHours_4 : decode cX5_allowedHours 4 = .ok (.istore_n 3, 1) := db_X5_allowedHours_0.2.2.1
theorem dX5_allowedHours_5 : decode cX5_allowedHours 5 = .ok (.iconst 0, 1) := db_X5_allowedHours_0.2.2.2.1
theorem dX5_allowedHours_6 : decode cX5_allowedHours 6 = .ok (.istore 4, 2) := db_X5_allowedHours_0.2.2.2.2.1
theorem dX5_allowedHours_8 : decode cX5_allowedHours 8 = .ok (.iload 4, 2) := db_X5_allowedHours_0.2.2.2.2.2.1
theorem dX5_allowedHours_10 : decode cX5_allowedHours 10 = .ok (.iload_n 2, 1) := db_X5_allowedHours_0.2.2.2.2.2.2.1
theorem dX5_allowedHours_11 : decode cX5_allowedHours 11 = .ok (.if_icmp .ge 60, 3) := db_X5_allowedHours_0.2.2.2.2.2.2.2
set_option maxRecDepth 20000 in
theorem db_X5_allowedHours_71 : (decode cX5_allowedHours 71 = .ok (.iload_n 3, 1)) ∧ (decode cX5_allowedHours 72 = .ok (.ireturn, 1)) ∧ (decode cX5_allowedHours 14 = .ok (.aload_n 0, 1)) ∧ (decode cX5_allowedHours 15 = .ok (.getfield 22, 3)) ∧ (decode cX5_allowedHours 18 = .ok (.iload 4, 2)) ∧ (decode cX5_allowedHours 20 = .ok (.aaload, 1)) ∧ (decode cX5_allowedHours 21 = .ok (.astore 5, 2)) ∧ (decode cX5_allowedHours 23 = .ok (.aload 5, 2)) := by decide +kernel
theorem dX5_allowedHours_71 : decode cX5_allowedHours 71 = .ok (.iload_n 3, 1) := db_X5_allowedHours_71.1
theorem dX5_allowedHours_72 : decode cX5_allowedHours 72 = .ok (.ireturn, 1) := db_X5_allowedHours_71.2.1
theorem dX5_allowedHours_14 : decode cX5_allowedHours 14 = .ok (.aload_n 0, 1) := db_X5_allowedHours_71.2.2.1
theorem dX5_allowedHours_15 : decode cX5_allowedHours 15 = .ok (.getfield 22, 3) := db_X5_allowedHours_71.2.2.2.1
theorem dX5_allowedHours_18 : decode cX5_allowedHours 18 = .ok (.iload 4, 2) := db_X5_allowedHours_71.2.2.2.2.1
theorem dX5_allowedHours_20 : decode cX5_allowedHours 20 = .ok (.aaload, 1) := db_X5_allowedHours_71.2.2.2.2.2.1
theorem dX5_allowedHours_21 : decode cX5_allowedHours 21 = .ok (.astore 5, 2) := db_X5_allowedHours_71.2.2.2.2.2.2.1
theorem dX5_allowedHours_23 : decode cX5_allowedHours 23 = .ok (.aload 5, 2) := db_X5_allowedHours_71.2.2.2.2.2.2.2
set_option maxRecDepth 20000 in
theorem db_X5_allowedHours_25 : (decode cX5_allowedHours 25 = .ok (.getfield 28, 3)) ∧ (decode cX5_allowedHours 28 = .ok (.aload_n 1, 1)) ∧ (decode cX5_allowedHours 29 = .ok (.getfield 28, 3)) ∧ (decode cX5_allowedHours 32 = .ok (.if_icmp .ne 33, 3)) ∧ (decode cX5_allowedHours 65 = .ok (.iinc 4 1, 3)) ∧ (decode cX5_allowedHours 68 = .ok (.goto (-60), 3)) ∧ (decode cX5_allowedHours 35 = .ok (.aload 5, 2)) ∧ (decode cX5_allowedHours 37 = .ok (.getfield 33, 3)) := by decide +kernel
theorem dX5_allowedHours_25 : decode cX5_allowedHours 25 = .ok (.getfield 28, 3) := db_X5_allowedHours_25.1
theorem dX5_allowedHours_28 : decode cX5_allowedHours 28 = .ok (.aload_n 1, 1) := db_X5_allowedHours_25.2.1
theorem dX5_allowedHours_29 : decode cX5_allowedHours 29 = .ok (.getfield 28, 3) := db_X5_allowedHours_25.2.2.1
theorem dX5_allowedHours_32 : decode cX5_allowedHours 32 = .ok (.if_icmp .ne 33, 3) := db_X5_allowedHours_25.2.2.2.1
theorem dX5_allowedHours_65 : decode cX5_allowedHours 65 = .ok (.iinc 4 1, 3) := db_X5_allowedHours_25.2.2.2.2.1
theorem dX5_allowedHours_68 : decode cX5_allowedHours 68 = .ok (.goto (-60), 3) := db_X5_allowedHours_25.2.2.2.2.2.1
theorem dX5_allowedHours_35 : decode cX5_allowedHours 35 = .ok (.aload 5, 2) := db_X5_allowedHours_25.2.2.2.2.2.2.1
theorem dX5_allowedHours_37 : decode cX5_allowedHours 37 = .ok (.getfield 33, 3) := db_X5_allowedHours_25.2.2.2.2.2.2.2
set_option maxRecDepth 20000 in
theorem db_X5_allowedHours_40 : (decode cX5_allowedHours 40 = .ok (.ifCond .ne 25, 3)) ∧ (decode cX5_allowedHours 43 = .ok (.aload 5, 2)) ∧ (decode cX5_allowedHours 45 = .ok (.getfield 44, 3)) ∧ (decode cX5_allowedHours 48 = .ok (.aload_n 1, 1)) ∧ (decode cX5_allowedHours 49 = .ok (.getfield 44, 3)) ∧ (decode cX5_allowedHours 52 = .ok (.if_icmp .ne 13, 3)) ∧ (decode cX5_allowedHours 55 = .ok (.iload_n 3, 1)) ∧ (decode cX5_allowedHours 56 = .ok (.aload 5, 2)) := by decide +kernel
theorem dX5_allowedHours_40 : decode cX5_allowedHours 40 = .ok (.ifCond .ne 25, 3) := db_X5_allowedHours_40.1
theorem dX5_allowedHours_43 : decode cX5_allowedHours 43 = .ok (.aload 5, 2) := db_X5_allowedHours_40.2.1
theorem dX5_allowedHours_45 : decode cX5_allowedHours 45 = .ok (.getfield 44, 3) := db_X5_allowedHours_40.2.2.1
theorem dX5_allowedHours_48 : decode cX5_allowedHours 48 = .ok (.aload_n 1, 1) := db_X5_allowedHours_40.2.2.2.1
theorem dX5_allowedHours_49 : decode cX5_allowedHours 49 = .ok (.getfield 44, 3) := db_X5_allowedHours_40.2.2.2.2.1
theorem dX5_allowedHours_52 : decode cX5_allowedHours 52 = .ok (.if_icmp .ne 13, 3) := db_X5_allowedHours_40.2.2.2.2.2.1
theorem dX5_allowedHours_55 : decode cX5_allowedHours 55 = .ok (.iload_n 3, 1) := db_X5_allowedHours_40.2.2.2.2.2.2.1
theorem dX5_allowedHours_56 : decode cX5_allowedHours 56 = .ok (.aload 5, 2) := db_X5_allowedHours_40.2.2.2.2.2.2.2
set_option maxRecDepth 20000 in
theorem db_X5_allowedHours_58 : (decode cX5_allowedHours 58 = .ok (.invokevirtual 41, 3)) ∧ (decode cX5_allowedHours 61 = .ok (.iconst (-1), 1)) ∧ (decode cX5_allowedHours 62 = .ok (.ixor, 1)) ∧ (decode cX5_allowedHours 63 = .ok (.iand, 1)) ∧ (decode cX5_allowedHours 64 = .ok (.istore_n 3, 1)) := by decide +kernel
theorem dX5_allowedHours_58 : decode cX5_allowedHours 58 = .ok (.invokevirtual 41, 3) := db_X5_allowedHours_58.1
theorem dX5_allowedHours_61 : decode cX5_allowedHours 61 = .ok (.iconst (-1), 1) := db_X5_allowedHours_58.2.1
theorem dX5_allowedHours_62 : decode cX5_allowedHours 62 = .ok (.ixor, 1) := db_X5_allowedHours_58.2.2.1
theorem dX5_allowedHours_63 : decode cX5_allowedHours 63 = .ok (.iand, 1) := db_X5_allowedHours_58.2.2.2.1
theorem dX5_allowedHours_64 : decode cX5_allowedHours 64 = .ok (.istore_n 3, 1) := db_X5_allowedHours_58.2.2.2.2
set_option maxRecDepth 20000 in
theorem db_X5_read_0 : (decode cX5_read 0 = .ok (.aload_n 0, 1)) ∧ (decode cX5_read 1 = .ok (.iconst 0, 1)) ∧ (decode cX5_read 2 = .ok (.putfield 18, 3)) ∧ (decode cX5_read 5 = .ok (.iconst 0, 1)) ∧ (decode cX5_read 6 = .ok (.istore 4, 2)) ∧ (decode cX5_read 8 = .ok (.iload 4, 2)) ∧ (decode cX5_read 10 = .ok (.iload_n 3, 1)) ∧ (decode cX5_read 11 = .ok (.if_icmp .ge 72, 3)) := by decide +kernel
theorem dX5_read_0 : decode cX5_read 0 = .ok (.aload_n 0, 1) := db_X5_read_0.1
theorem dX5_read_1 : decode cX5_read 1 = .ok (.iconst 0, 1) := db_X5_read_0.2.1
theorem dX5_read_2 : decode cX5_read 2 = .ok (.putfield 18, 3) := db_X5_read_0.2.2.1
theorem dX5_read_5 : decode cX5_read 5 = .ok (.iconst 0, 1) := db_X5_read_0.2.2.2.1
theorem dX5_read_6 : decode cX5_read 6 = .ok (.istore 4, 2) := db_X5_read_0.2.2.2.2.1
theorem dX5_read_8 : decode cX5_read 8 = .ok (.iload 4, 2) := db_X5_read_0.2.2.2.2.2.1
theorem dX5_read_10 : decode cX5_read 10 = .ok (.iload_n 3, 1) := db_X5_read_0.2.2.2.2.2.2.1
theorem dX5_read_11 : decode cX5_read 11 = .ok (.if_icmp .ge 72, 3) := db_X5_read_0.2.2.2.2.2.2.2
set_option maxRecDepth 20000 in
theorem db_X5_read_83 : (decode cX5_read 83 = .ok (.return_, 1)) ∧ (decode cX5_read 14 = .ok (.aload_n 1, 1)) ∧ (decode cX5_read 15 = .ok (.getfield 22, 3)) ∧ (decode cX5_read 18 = .ok (.iload 4, 2)) ∧ (decode cX5_read 20 = .ok (.aaload, 1)) ∧ (decode cX5_read 21 = .ok (.astore 5, 2)) ∧ (decode cX5_read 23 = .ok (.aload 5, 2)) ∧ (decode cX5_read 25 = .ok (.getfield 28, 3)) := by decide +kernel
theorem dX5_read_83 : decode cX5_read 83 = .ok (.return_, 1) := db_X5_read_83.1
theorem dX5_read_14 : decode cX5_read 14 = .ok (.aload_n 1, 1) := db_X5_read_83.2.1
theorem dX5_read_15 : decode cX5_read 15 = .ok (.getfield 22, 3) := db_X5_read_83.2.2.1
theorem dX5_read_18 : decode cX5_read 18 = .ok (.iload 4, 2) := db_X5_read_83.2.2.2.1
theorem dX5_read_20 : decode cX5_read 20 = .ok (.aaload, 1) := db_X5_read_83.2.2.2.2.1
theorem dX5_read_21 : decode cX5_read 21 = .ok (.astore 5, 2) := db_X5_read_83.2.2.2.2.2.1
theorem dX5_read_23 : decode cX5_read 23 = .ok (.aload 5, 2) := db_X5_read_83.2.2.2.2.2.2.1
theorem dX5_read_25 : decode cX5_read 25 = .ok (.getfield 28, 3) := db_X5_read_83.2.2.2.2.2.2.2
set_option maxRecDepth 20000 in
theorem db_X5_read_28 : (decode cX5_read 28 = .ok (.iload_n 2, 1)) ∧ (decode cX5_read 29 = .ok (.if_icmp .ne 48, 3)) ∧ (decode cX5_read 77 = .ok (.iinc 4 1, 3)) ∧ (decode cX5_read 80 = .ok (.goto (-72), 3)) ∧ (decode cX5_read 32 = .ok (.aload 5, 2)) ∧ (decode cX5_read 34 = .ok (.getfield 33, 3)) ∧ (decode cX5_read 37 = .ok (.ifCond .eq 40, 3)) ∧ (decode cX5_read 40 = .ok (.aload_n 0, 1)) := by decide +kernel
theorem dX5_read_28 : decode cX5_read 28 = .ok (.iload_n 2, 1) := db_X5_read_28.1
theorem dX5_read_29 : decode cX5_read 29 = .ok (.if_icmp .ne 48, 3) := db_X5_read_28.2.1
theorem dX5_read_77 : decode cX5_read 77 = .ok (.iinc 4 1, 3) := db_X5_read_28.2.2.1
theorem dX5_read_80 : decode cX5_read 80 = .ok (.goto (-72), 3) := db_X5_read_28.2.2.2.1
theorem dX5_read_32 : decode cX5_read 32 = .ok (.aload 5, 2) := db_X5_read_28.2.2.2.2.1
theorem dX5_read_34 : decode cX5_read 34 = .ok (.getfield 33, 3) := db_X5_read_28.2.2.2.2.2.1
theorem dX5_read_37 : decode cX5_read 37 = .ok (.ifCond .eq 40, 3) := db_X5_read_28.2.2.2.2.2.2.1
theorem dX5_read_40 : decode cX5_read 40 = .ok (.aload_n 0, 1) := db_X5_read_28.2.2.2.2.2.2.2
set_option maxRecDepth 20000 in
theorem db_X5_read_41 : (decode cX5_read 41 = .ok (.getfield 9, 3)) ∧ (decode cX5_read 44 = .ok (.aload_n 0, 1)) ∧ (decode cX5_read 45 = .ok (.getfield 18, 3)) ∧ (decode cX5_read 48 = .ok (.iload 4, 2)) ∧ (decode cX5_read 50 = .ok (.iastore, 1)) ∧ (decode cX5_read 51 = .ok (.aload_n 0, 1)) ∧ (decode cX5_read 52 = .ok (.getfield 15, 3)) ∧ (decode cX5_read 55 = .ok (.aload_n 0, 1)) := by decide +kernel
theorem dX5_read_41 : decode cX5_read 41 = .ok (.getfield 9, 3) := db_X5_read_41.1
theorem dX5_read_44 : decode cX5_read 44 = .ok (.aload_n 0, 1) := db_X5_read_41.2.1
theorem dX5_read_45 : decode cX5_read 45 = .ok (.getfield 18, 3) := db_X5_read_41.2.2.1
theorem dX5_read_48 : decode cX5_read 48 = .ok (.iload 4, 2) := db_X5_read_41.2.2.2.1
theorem dX5_read_50 : decode cX5_read 50 = .ok (.iastore, 1) := db_X5_read_41.2.2.2.2.1
theorem dX5_read_51 : decode cX5_read 51 = .ok (.aload_n 0, 1) := db_X5_read_41.2.2.2.2.2.1
theorem dX5_read_52 : decode cX5_read 52 = .ok (.getfield 15, 3) := db_X5_read_41.2.2.2.2.2.2.1
theorem dX5_read_55 : decode cX5_read 55 = .ok (.aload_n 0, 1) := db_X5_read_41.2.2.2.2.2.2.2
set_option maxRecDepth 20000 in
theorem db_X5_read_56 : (decode cX5_read 56 = .ok (.getfield 18, 3)) ∧ (decode cX5_read 59 = .ok (.aload_n 1, 1)) ∧ (decode cX5_read 60 = .ok (.aload 5, 2)) ∧ (decode cX5_read 62 = .ok (.iload_n 3, 1)) ∧ (decode cX5_read 63 = .ok (.invokestatic 37, 3)) ∧ (decode cX5_read 66 = .ok (.iastore, 1)) ∧ (decode cX5_read 67 = .ok (.aload_n 0, 1)) ∧ (decode cX5_read 68 = .ok (.dup, 1)) := by decide +kernel
theorem dX5_read_56 : decode cX5_read 56 = .ok (.getfield 18, 3) := db_X5_read_56.1
theorem dX5_read_59 : decode cX5_read 59 = .ok (.aload_n 1, 1) := db_X5_read_56.2.1
theorem dX5_read_60 : decode cX5_read 60 = .ok (.aload 5, 2) := db_X5_read_56.2.2.1
theorem dX5_read_62 : decode cX5_read 62 = .ok (.iload_n 3, 1) := db_X5_read_56.2.2.2.1
set_option maxRecDepth 20000 in
theorem ggX5_read_X5_allowedHours : GoodIn wsX5_read wsX5_allowedHours := goodIn_r _ [10, 2, 3, 4, 11, 12, 13, 14, 15, 16, 17, 18, 22, 23, 24, 25, 26, 27, 28, 29, 30, 31, 32, 33, 34, 35, 36, 37] rfl (by decide +kernel)
set_option maxRecDepth 20000 in
theorem gX5_read_X5_allowedHours : GoodIn wsX5_read (va_wsS RX5 37 yX5_allowedHours wsX5_allowedHours) := goodIn_app (goodIn_r _ [7, 8, 9] rfl (by decide +kernel)) ggX5_read_X5_allowedHours
theorem dX5_read_63 : decode cX5_read 63 = .ok (.invokestatic 37, 3) := db_X5_read_56.2.2.2.2.1
theorem dX5_read_66 : decode cX5_read 66 = .ok (.iastore, 1) := db_X5_read_56.2.2.2.2.2.1
theorem dX5_read_67 : decode cX5_read 67 = .ok (.aload_n 0, 1) := db_X5_read_56.2.2.2.2.2.2.1
theorem dX5_read_68 : decode cX5_read 68 = .ok (.dup, 1) := db_X5_read_56.2.2.2.2.2.2.2
set_option maxRecDepth 20000 in
theorem db_X5_read_69 : (decode cX5_read 69 = .ok (.getfield 18, 3)) ∧ (decode cX5_read 72 = .ok (.iconst 1, 1)) ∧ (decode cX5_read 73 = .ok (.iadd, 1)) ∧ (decode cX5_read 74 = .ok (.putfield 18, 3)) := by decide +kernel
theorem dX5_read_69 : decode cX5_read 69 = .ok (.getfield 18, 3) := db_X5_read_69.1
theorem dX5_read_72 : decode cX5_read 72 = .ok (.iconst 1, 1) := db_X5_read_69.2.1
theorem dX5_read_73 : decode cX5_read 73 = .ok (.iadd, 1) := db_X5_read_69.2.2.1
theorem dX5_read_74 : decode cX5_read 74 = .ok (.putfield 18, 3) := db_X5_read_69.2.2.2
set_option maxHeartbeats 4000000 in
set_option maxRecDepth 100000 in
theorem g_X6_hourBits (l : Launch) (dC : Nat → ClassId) (dI : Nat → Nat → Nat) (cy : Nat → ClassId) (sz : Nat) (ad : Nat → Nat) (kv : Value) (N : Nat) (hN : 119 ≤ N) (v : Nat → Nat → Int32) (hv : Iv v) (i : Nat) (hi : i < 6) (j : Nat) (hj : j < 5) : Met l yX6_hourBits wsX6_hourBits ({ frames := 0, cells := 0, slots := 0, locals := 0 }) (va_Pc [.ref (ad (39 + 15 * i + j))] (ex_Pre dC dI cy sz (wl ad kv cy N v))) (va_Qi (fun (r : Int32) (u : Nat → Nat → Int32) => Iv u ∧ Fe v u) (fun u t => ex_Pst dC dI (va_A (wl ad kv cy N v) sz) (wl ad kv cy N u) t) (va_A (wl ad kv cy N v) sz)) 0 0 (va_A (wl ad kv cy N v) sz) := by
  refine Met.ofW (cc := cX6_hourBits) (maxL := 1) (ret := (some .int)) (by decide) rfl ?_
  intro p e s m args below meth c s₁ B hml hv
  obtain ⟨rfl, hsz, hE, hP, hK, hD0⟩ := hv
  have hx := B.exec
  have hb := B.bytes
  have hr := B.returns
  have hts := atoms_spec (ws := wsX6_hourBits) B.pre
  have hown : s.vm.findClass RX6 = some m.cls := findClass_of_methodNamed B.named
  have hlocks := B.notSynchronized
  subst hsz
  have hD := hD0.self (sz := s.heap.size)
  generalize hAe : va_A (wl ad kv cy N v) s.heap.size = A at hD ⊢
  have hA : ∀ q : Nat, s.heap.size ≤ q → A q := fun q h => by rw [← hAe]; exact Or.inr h
  have hS : va_S A s.heap s.heap [] := va_S.rf
  have hP : va_P (dC, dI) vwCl (wl ad kv cy N v) s.heap := hP
  have hl := lv_entry ([.ref (ad (39 + 15 * i + j))]) (n := 1) (Nat.le_of_ble_eq_true rfl)
  rw [lg_entry_eq]
  generalize (lg_sl ([.ref (ad (39 + 15 * i + j))]) ++ List.replicate (1 - (lg_sl ([.ref (ad (39 + 15 * i + j))])).length) Slot.unset).toArray = ls at hl ⊢
  have hl : lv_has ls 1 [(0, .ref (ad (39 + 15 * i + j)))] := hl
  have hfr : Fe v v := Fe.rf
  refine lv_iconst (v := 1) hx hb dX6_hourBits_0 (by decide) ?_
  refine lv_aload_n hx hb dX6_hourBits_1 rfl (lv_at hl 0 rfl) ?_
  refine va_get (D := (dC, dI)) (ci := 6) (v := .int (v (39 + 15 * i + j) 4)) (C := RX6) (T := TX6) (N := 5) hx hb hts iwX6_hourBits_X6 hown hK hP (39 + 15 * i + j) (wl_at (by omega) (ce_16 (kd_t i hi j hj).1)) rfl 4 (by decide) (hts (.fieldLink RX6 7 "QuietStairs$Term" "last" "I") fwX6_hourBits_1) (fun _ h9 => h9) rfl dX6_hourBits_2 ?_
  refine lv_topi (fun x_1 ex_1 => ?_)
  have bx_1 : 0 ≤ x_1.toInt ∧ x_1.toInt ≤ 23 := by rw [ex_1]; exact hv.at (K := 16) (kd_t i hi j hj).1 rfl
  refine lv_iconst (v := 1) hx hb dX6_hourBits_5 (by decide) ?_
  have k_1 : (1 : Int32).toInt = 1 := by decide
  refine lv_iadd hx hb dX6_hourBits_6 ?_
  refine lv_topi (fun x_2 ex_2 => ?_)
  have tx_2 : x_2.toInt = x_1.toInt + (1 : Int32).toInt := by rw [ex_2]; exact t_add ⟨by omega, by omega⟩
  refine lv_ishl hx hb dX6_hourBits_7 ?_
  refine lv_topi (fun x_3 ex_3 => ?_)
  refine lv_iconst (v := 1) hx hb dX6_hourBits_8 (by decide) ?_
  refine lv_aload_n hx hb dX6_hourBits_9 rfl (lv_at hl 0 rfl) ?_
  refine va_get (D := (dC, dI)) (ci := 6) (v := .int (v (39 + 15 * i + j) 3)) (C := RX6) (T := TX6) (N := 5) hx hb hts iwX6_hourBits_X6 hown hK hP (39 + 15 * i + j) (wl_at (by omega) (ce_16 (kd_t i hi j hj).1)) rfl 3 (by decide) (hts (.fieldLink RX6 13 "QuietStairs$Term" "first" "I") fwX6_hourBits_2) (fun _ h9 => h9) rfl dX6_hourBits_10 ?_
  refine lv_topi (fun x_4 ex_4 => ?_)
  have bx_4 : 0 ≤ x_4.toInt ∧ x_4.toInt ≤ 23 := by rw [ex_4]; exact hv.at (K := 16) (kd_t i hi j hj).1 rfl
  refine lv_ishl hx hb dX6_hourBits_13 ?_
  refine lv_topi (fun x_5 ex_5 => ?_)
  refine lv_isub hx hb dX6_hourBits_14 ?_
  refine lv_topi (fun x_6 ex_6 => ?_)
  exact W.iret (v := x_6) hx hb hr (fun t ht hW => ⟨⟨x_6, v, rfl, ⟨hv, hfr⟩, by rw [ht]; exact hP, hD⟩, hS.F ht⟩) hS.2.2 dX6_hourBits_15

set_option maxHeartbeats 4000000 in
set_option maxRecDepth 100000 in
theorem g_X5_allowedHours (l : Launch) (dC : Nat → ClassId) (dI : Nat → Nat → Nat) (cy : Nat → ClassId) (sz : Nat) (ad : Nat → Nat) (kv : Value) (N : Nat) (hN : 119 ≤ N) (v : Nat → Nat → Int32) (hv : Iv v) (i : Nat) (hi : i < 6) (j : Nat) (hj : j < 5) (x0 : Int32) (hs : 0 ≤ x0.toInt ∧ x0.toInt ≤ 5) : Met l yX5_allowedHours wsX5_allowedHours ({ frames := 1, cells := 0, slots := 0, locals := 64 }) (va_Pc [.ref (ad (29 + 15 * i)), .ref (ad (39 + 15 * i + j)), .int x0] (ex_Pre dC dI cy sz (wl ad kv cy N v))) (va_Qi (fun (r : Int32) (u : Nat → Nat → Int32) => Iv u ∧ Fe v u) (fun u t => ex_Pst dC dI (va_A (wl ad kv cy N v) sz) (wl ad kv cy N u) t) (va_A (wl ad kv cy N v) sz)) 0 0 (va_A (wl ad kv cy N v) sz) := by
  refine Met.ofW (cc := cX5_allowedHours) (maxL := 6) (ret := (some .int)) (by decide) rfl ?_
  intro p e s m args below meth c s₁ B hml hv
  obtain ⟨rfl, hsz, hE, hP, hK, hD0⟩ := hv
  have hx := B.exec
  have hb := B.bytes
  have hr := B.returns
  have hts := atoms_spec (ws := wsX5_allowedHours) B.pre
  have hown : s.vm.findClass RX5 = some m.cls := findClass_of_methodNamed B.named
  have hlocks := B.notSynchronized
  subst hsz
  have hD := hD0.self (sz := s.heap.size)
  generalize hAe : va_A (wl ad kv cy N v) s.heap.size = A at hD ⊢
  have hA : ∀ q : Nat, s.heap.size ≤ q → A q := fun q h => by rw [← hAe]; exact Or.inr h
  have hS : va_S A s.heap s.heap [] := va_S.rf
  have hP : va_P (dC, dI) vwCl (wl ad kv cy N v) s.heap := hP
  have hl := lv_entry ([.ref (ad (29 + 15 * i)), .ref (ad (39 + 15 * i + j)), .int x0]) (n := 6) (Nat.le_of_ble_eq_true rfl)
  rw [lg_entry_eq]
  generalize (lg_sl ([.ref (ad (29 + 15 * i)), .ref (ad (39 + 15 * i + j)), .int x0]) ++ List.replicate (6 - (lg_sl ([.ref (ad (29 + 15 * i)), .ref (ad (39 + 15 * i + j)), .int x0])).length) Slot.unset).toArray = ls at hl ⊢
  have hl : lv_has ls 6 [(0, .ref (ad (29 + 15 * i))), (1, .ref (ad (39 + 15 * i + j))), (2, .int x0)] := hl
  have hfr : Fe v v := Fe.rf
  refine lv_aload_n hx hb dX5_allowedHours_0 rfl (lv_at hl 1 rfl) ?_
  refine yw_i (w1 := fun (u : Nat → Nat → Int32) => wl ad kv cy N u) hD hS hA (va_runV (As := []) (rest := []) ⟨hx, hb, hml, hown, hts⟩ (g_X6_hourBits l dC dI cy _ ad kv N hN v hv i hi j hj) (cwV 0 hts gX5_allowedHours_X6_hourBits rfl rfl rfl hd_V_X6_hourBits_0 ⟨Nat.le_of_ble_eq_true rfl, Nat.le_of_ble_eq_true rfl⟩) (yw_preV hE hK hP hD (ci := 6) (q0 := (39 + 15 * i + j)) rfl (wl_at (by omega) (ce_16 (kd_t i hi j hj).1))) rfl rfl hl.1 rfl (lv_room (Nat.le_of_ble_eq_true rfl)) dX5_allowedHours_1 ⟨Nat.le_of_ble_eq_true rfl, Nat.le_of_ble_eq_true rfl⟩) (fun r_1 v_1 H locs hw_1 hP hD hS => ?_)
  obtain ⟨hv, hw_1⟩ := hw_1
  have hs_1 : v_1 = v := hw_1
  have hfr : Fe v v_1 := by rw [hs_1]; exact hfr
  refine lv_istore_n (lv' := [(3, .int r_1), (0, .ref (ad (29 + 15 * i))), (1, .ref (ad (39 + 15 * i + j))), (2, .int x0)]) hx hb dX5_allowedHours_4 rfl hl (by decide) rfl (fun ls hl => ?_)
  refine lv_iconst (v := 0) hx hb dX5_allowedHours_5 (by decide) ?_
  refine lv_istore (lv' := [(4, .int 0), (3, .int r_1), (0, .ref (ad (29 + 15 * i))), (1, .ref (ad (39 + 15 * i + j))), (2, .int x0)]) hx hb dX5_allowedHours_6 hl (by decide) rfl (fun ls hl => ?_)
  have k_0 : (0 : Int32).toInt = 0 := by decide
  have hloop_2 : ∀ (n : Nat) (y2_4 y2_3 : Int32) (u2 : Nat → Nat → Int32) (H : Heap) (locs : List Loc), 0 ≤ y2_4.toInt → y2_4.toInt ≤ 5 → (5 - y2_4.toInt).toNat < n → Iv u2 → Fe v u2 → va_P (dC, dI) vwCl (wl ad kv cy N u2) H → va_D A (wl ad kv cy N u2) → va_S A s.heap H locs → ∀ ls : Array Slot, lv_has ls 6 [(4, .int y2_4), (3, .int y2_3), (0, .ref (ad (29 + 15 * i))), (1, .ref (ad (39 + 15 * i + j))), (2, .int x0)] → W p l e (headSpec wsX5_allowedHours ({ frames := 1, cells := 0, slots := 0, locals := 64 })).room s m [Value.ref (ad (29 + 15 * i)), Value.ref (ad (39 + 15 * i + j)), Value.int x0].toArray below meth c H locs 0 0 (MQ below (va_Qi (fun (r : Int32) (u : Nat → Nat → Int32) => Iv u ∧ Fe v u) (fun u t => ex_Pst dC dI A (wl ad kv cy N u) t) A) [Value.ref (ad (29 + 15 * i)), Value.ref (ad (39 + 15 * i + j)), Value.int x0].toArray s 0 0 A) (F0 m 8 ls []) := by
    intro n
    induction n with
    | zero =>
      intro y2_4 y2_3 u2 H locs ay2_4 by2_4 hm_2 hv hfr hP hD hS ls hl
      exact absurd hm_2 (by omega)
    | succ n ih_2 =>
      intro y2_4 y2_3 u2 H locs ay2_4 by2_4 hm_2 hv hfr hP hD hS ls hl
      refine lv_iload hx hb dX5_allowedHours_8 (lv_at hl 0 rfl) ?_
      refine lv_iload_n hx hb dX5_allowedHours_10 rfl (lv_at hl 4 rfl) ?_
      refine lv_icmp_ge (tgt := 71) hx hb dX5_allowedHours_11 (by decide) (fun c_3 => ?_) (fun c_3 => ?_)
      · have tc_3 : y2_4.toInt ≥ x0.toInt := Int32.le_iff_toInt_le.mp c_3
        refine lv_iload_n hx hb dX5_allowedHours_71 rfl (lv_at hl 1 rfl) ?_
        exact W.iret (v := y2_3) hx hb hr (fun t ht hW => ⟨⟨y2_3, u2, rfl, ⟨hv, hfr⟩, by rw [ht]; exact hP, hD⟩, hS.F ht⟩) hS.2.2 dX5_allowedHours_72
      · have tc_3 : y2_4.toInt < x0.toInt := Int32.lt_iff_toInt_lt.mp (Int32.not_le.mp c_3)
        refine lv_aload_n hx hb dX5_allowedHours_14 rfl (lv_at hl 2 rfl) ?_
        refine va_get (D := (dC, dI)) (ci := 0) (v := .ref (ad (29 + 15 * i + 9))) (C := RX0) (T := TX0) (N := 11) hx hb hts iwX5_allowedHours_X0 hown hK hP (29 + 15 * i) (wl_at (by omega) (ce_9 (kd_c i hi).1.1)) rfl 10 (by decide) (hts (.fieldLink RX5 22 "QuietStairs$Case" "terms" "[LQuietStairs$Term;") fwX5_allowedHours_1) (fun _ h9 => h9) rfl dX5_allowedHours_15 ?_
        refine W.eq (g2 := F0 m 18 ls [.ref (ad (38 + 15 * i))]) (by rw [show 29 + 15 * i + 9 = 38 + 15 * i from by omega]) ?_
        refine lv_iload hx hb dX5_allowedHours_18 (lv_at hl 0 rfl) ?_
        obtain ⟨pi4, i4, hi4, ni4, mi4⟩ := t_in (x := y2_4) (n := 5) ⟨by omega, by omega⟩
        refine va_aldq hx hb hK hP (38 + 15 * i) 4 (wl_at (by omega) (ce_15 (kd_c i hi).1.2.2.2.2.2)) rfl pi4 dX5_allowedHours_20 ?_
        refine W.eq (g2 := F0 m 21 ls [.ref (ad (39 + 15 * i + i4))]) (by rw [ni4, if_pos hi4, show 38 + 15 * i + 1 + i4 = 39 + 15 * i + i4 from by omega]; rfl) ?_
        refine lv_astore (lv' := [(5, .ref (ad (39 + 15 * i + i4))), (4, .int y2_4), (3, .int y2_3), (0, .ref (ad (29 + 15 * i))), (1, .ref (ad (39 + 15 * i + j))), (2, .int x0)]) hx hb dX5_allowedHours_21 hl (by decide) rfl (fun ls hl => ?_)
        refine lv_aload hx hb dX5_allowedHours_23 (lv_at hl 0 rfl) ?_
        refine va_get (D := (dC, dI)) (ci := 6) (v := .int (u2 (39 + 15 * i + i4) 0)) (C := RX6) (T := TX6) (N := 5) hx hb hts iwX5_allowedHours_X6 hown hK hP (39 + 15 * i + i4) (wl_at (by omega) (ce_16 (kd_t i hi i4 hi4).1)) rfl 0 (by decide) (hts (.fieldLink RX5 28 "QuietStairs$Term" "side" "I") fwX5_allowedHours_2) (fun _ h9 => h9) rfl dX5_allowedHours_25 ?_
        refine lv_topi (fun x_5 ex_5 => ?_)
        have bx_5 : 0 ≤ x_5.toInt ∧ x_5.toInt ≤ 1 := by rw [ex_5]; exact hv.at (K := 16) (kd_t i hi i4 hi4).1 rfl
        refine lv_aload_n hx hb dX5_allowedHours_28 rfl (lv_at hl 4 rfl) ?_
        refine va_get (D := (dC, dI)) (ci := 6) (v := .int (u2 (39 + 15 * i + j) 0)) (C := RX6) (T := TX6) (N := 5) hx hb hts iwX5_allowedHours_X6 hown hK hP (39 + 15 * i + j) (wl_at (by omega) (ce_16 (kd_t i hi j hj).1)) rfl 0 (by decide) (hts (.fieldLink RX5 28 "QuietStairs$Term" "side" "I") fwX5_allowedHours_2) (fun _ h9 => h9) rfl dX5_allowedHours_29 ?_
        refine lv_topi (fun x_6 ex_6 => ?_)
        have bx_6 : 0 ≤ x_6.toInt ∧ x_6.toInt ≤ 1 := by rw [ex_6]; exact hv.at (K := 16) (kd_t i hi j hj).1 rfl
        refine lv_icmp_ne (tgt := 65) hx hb dX5_allowedHours_32 (by decide) (fun c_7 => ?_) (fun c_7 => ?_)
        · have tc_7 : x_5.toInt ≠ x_6.toInt := fun q => absurd (Int32.toInt_inj.mp q) c_7
          obtain ⟨x_8, ex_8⟩ : ∃ y : Int32, y = y2_4 + 1 := ⟨_, rfl⟩
          refine lv_iinc (v := x_8) (lv' := [(4, .int x_8), (5, .ref (ad (39 + 15 * i + i4))), (3, .int y2_3), (0, .ref (ad (29 + 15 * i))), (1, .ref (ad (39 + 15 * i + j))), (2, .int x0)]) hx hb dX5_allowedHours_65 hl (k := 1) rfl (by rw [ex_8]; rfl) (by decide) rfl (fun ls hl => ?_)
          have k_1 : (1 : Int32).toInt = 1 := by decide
          have tx_8 : x_8.toInt = y2_4.toInt + (1 : Int32).toInt := by rw [ex_8]; exact t_add ⟨by omega, by omega⟩
          refine lv_goto (tgt := 8) hx hb dX5_allowedHours_68 (by decide) ?_
          exact ih_2 x_8 y2_3 u2 H locs (by omega) (by omega) (by omega) hv hfr hP hD hS ls (lv_sub hl [0, 2, 3, 4, 5] rfl)
        · have tc_7 : x_5.toInt = x_6.toInt := by rw [c_7]
          refine lv_aload hx hb dX5_allowedHours_35 (lv_at hl 0 rfl) ?_
          refine va_get (D := (dC, dI)) (ci := 6) (v := .int (u2 (39 + 15 * i + i4) 1)) (C := RX6) (T := TX6) (N := 5) hx hb hts iwX5_allowedHours_X6 hown hK hP (39 + 15 * i + i4) (wl_at (by omega) (ce_16 (kd_t i hi i4 hi4).1)) rfl 1 (by decide) (hts (.fieldLink RX5 33 "QuietStairs$Term" "must" "Z") fwX5_allowedHours_3) (fun _ h9 => h9) rfl dX5_allowedHours_37 ?_
          refine lv_topi (fun x_8 ex_8 => ?_)
          have bx_8 : 0 ≤ x_8.toInt ∧ x_8.toInt ≤ 1 := by rw [ex_8]; exact hv.at (K := 16) (kd_t i hi i4 hi4).1 rfl
          refine lv_if_ne (tgt := 65) hx hb dX5_allowedHours_40 (by decide) (fun c_9 => ?_) (fun c_9 => ?_)
          · have tc_9 : x_8.toInt ≠ (0 : Int32).toInt := fun q => absurd (Int32.toInt_inj.mp q) c_9
            obtain ⟨x_10, ex_10⟩ : ∃ y : Int32, y = y2_4 + 1 := ⟨_, rfl⟩
            refine lv_iinc (v := x_10) (lv' := [(4, .int x_10), (5, .ref (ad (39 + 15 * i + i4))), (3, .int y2_3), (0, .ref (ad (29 + 15 * i))), (1, .ref (ad (39 + 15 * i + j))), (2, .int x0)]) hx hb dX5_allowedHours_65 hl (k := 1) rfl (by rw [ex_10]; rfl) (by decide) rfl (fun ls hl => ?_)
            have k_1 : (1 : Int32).toInt = 1 := by decide
            have tx_10 : x_10.toInt = y2_4.toInt + (1 : Int32).toInt := by rw [ex_10]; exact t_add ⟨by omega, by omega⟩
            refine lv_goto (tgt := 8) hx hb dX5_allowedHours_68 (by decide) ?_
            exact ih_2 x_10 y2_3 u2 H locs (by omega) (by omega) (by omega) hv hfr hP hD hS ls (lv_sub hl [0, 2, 3, 4, 5] rfl)
          · have tc_9 : x_8.toInt = (0 : Int32).toInt := by rw [c_9]
            refine lv_aload hx hb dX5_allowedHours_43 (lv_at hl 0 rfl) ?_
            refine va_get (D := (dC, dI)) (ci := 6) (v := .int (u2 (39 + 15 * i + i4) 2)) (C := RX6) (T := TX6) (N := 5) hx hb hts iwX5_allowedHours_X6 hown hK hP (39 + 15 * i + i4) (wl_at (by omega) (ce_16 (kd_t i hi i4 hi4).1)) rfl 2 (by decide) (hts (.fieldLink RX5 44 "QuietStairs$Term" "act" "I") fwX5_allowedHours_4) (fun _ h9 => h9) rfl dX5_allowedHours_45 ?_
            refine lv_topi (fun x_10 ex_10 => ?_)
            refine lv_aload_n hx hb dX5_allowedHours_48 rfl (lv_at hl 4 rfl) ?_
            refine va_get (D := (dC, dI)) (ci := 6) (v := .int (u2 (39 + 15 * i + j) 2)) (C := RX6) (T := TX6) (N := 5) hx hb hts iwX5_allowedHours_X6 hown hK hP (39 + 15 * i + j) (wl_at (by omega) (ce_16 (kd_t i hi j hj).1)) rfl 2 (by decide) (hts (.fieldLink RX5 44 "QuietStairs$Term" "act" "I") fwX5_allowedHours_4) (fun _ h9 => h9) rfl dX5_allowedHours_49 ?_
            refine lv_topi (fun x_11 ex_11 => ?_)
            refine lv_icmp_ne (tgt := 65) hx hb dX5_allowedHours_52 (by decide) (fun c_12 => ?_) (fun c_12 => ?_)
            · have tc_12 : x_10.toInt ≠ x_11.toInt := fun q => absurd (Int32.toInt_inj.mp q) c_12
              obtain ⟨x_13, ex_13⟩ : ∃ y : Int32, y = y2_4 + 1 := ⟨_, rfl⟩
              refine lv_iinc (v := x_13) (lv' := [(4, .int x_13), (5, .ref (ad (39 + 15 * i + i4))), (3, .int y2_3), (0, .ref (ad (29 + 15 * i))), (1, .ref (ad (39 + 15 * i + j))), (2, .int x0)]) hx hb dX5_allowedHours_65 hl (k := 1) rfl (by rw [ex_13]; rfl) (by decide) rfl (fun ls hl => ?_)
              have k_1 : (1 : Int32).toInt = 1 := by decide
              have tx_13 : x_13.toInt = y2_4.toInt + (1 : Int32).toInt := by rw [ex_13]; exact t_add ⟨by omega, by omega⟩
              refine lv_goto (tgt := 8) hx hb dX5_allowedHours_68 (by decide) ?_
              exact ih_2 x_13 y2_3 u2 H locs (by omega) (by omega) (by omega) hv hfr hP hD hS ls (lv_sub hl [0, 2, 3, 4, 5] rfl)
            · have tc_12 : x_10.toInt = x_11.toInt := by rw [c_12]
              refine lv_iload_n hx hb dX5_allowedHours_55 rfl (lv_at hl 2 rfl) ?_
              refine lv_aload hx hb dX5_allowedHours_56 (lv_at hl 0 rfl) ?_
              refine yw_i (w1 := fun (u : Nat → Nat → Int32) => wl ad kv cy N u) hD hS hA (va_runV (As := []) (rest := [.int y2_3]) ⟨hx, hb, hml, hown, hts⟩ (g_X6_hourBits l dC dI cy _ ad kv N hN u2 hv i hi i4 hi4) (cwV 0 hts gX5_allowedHours_X6_hourBits rfl rfl rfl hd_V_X6_hourBits_0 ⟨Nat.le_of_ble_eq_true rfl, Nat.le_of_ble_eq_true rfl⟩) (yw_preV hE hK hP hD (ci := 6) (q0 := (39 + 15 * i + i4)) rfl (wl_at (by omega) (ce_16 (kd_t i hi i4 hi4).1))) rfl rfl hl.1 rfl (lv_room (Nat.le_of_ble_eq_true rfl)) dX5_allowedHours_58 ⟨Nat.le_of_ble_eq_true rfl, Nat.le_of_ble_eq_true rfl⟩) (fun r_13 v_13 H locs hw_13 hP hD hS => ?_)
              obtain ⟨hv, hw_13⟩ := hw_13
              have hs_13 : v_13 = u2 := hw_13
              have hfr : Fe v v_13 := by rw [hs_13]; exact hfr
              refine lv_iconst (v := (-1)) hx hb dX5_allowedHours_61 (by decide) ?_
              refine lv_ixor hx hb dX5_allowedHours_62 ?_
              refine lv_topi (fun x_14 ex_14 => ?_)
              refine lv_iand hx hb dX5_allowedHours_63 ?_
              refine lv_topi (fun x_15 ex_15 => ?_)
              refine lv_istore_n (lv' := [(3, .int x_15), (5, .ref (ad (39 + 15 * i + i4))), (4, .int y2_4), (0, .ref (ad (29 + 15 * i))), (1, .ref (ad (39 + 15 * i + j))), (2, .int x0)]) hx hb dX5_allowedHours_64 rfl hl (by decide) rfl (fun ls hl => ?_)
              obtain ⟨x_16, ex_16⟩ : ∃ y : Int32, y = y2_4 + 1 := ⟨_, rfl⟩
              refine lv_iinc (v := x_16) (lv' := [(4, .int x_16), (3, .int x_15), (5, .ref (ad (39 + 15 * i + i4))), (0, .ref (ad (29 + 15 * i))), (1, .ref (ad (39 + 15 * i + j))), (2, .int x0)]) hx hb dX5_allowedHours_65 hl (k := 2) rfl (by rw [ex_16]; rfl) (by decide) rfl (fun ls hl => ?_)
              have k_1 : (1 : Int32).toInt = 1 := by decide
              have tx_16 : x_16.toInt = y2_4.toInt + (1 : Int32).toInt := by rw [ex_16]; exact t_add ⟨by omega, by omega⟩
              refine lv_goto (tgt := 8) hx hb dX5_allowedHours_68 (by decide) ?_
              exact ih_2 x_16 x_15 v_13 H locs (by omega) (by omega) (by omega) hv hfr hP hD hS ls (lv_sub hl [0, 1, 3, 4, 5] rfl)
  exact hloop_2 ((5 - (0 : Int32).toInt).toNat + 1) 0 r_1 v_1 _ _ (by omega) (by omega) (by omega) hv hfr hP hD hS ls hl

set_option maxHeartbeats 4000000 in
set_option maxRecDepth 100000 in
theorem g_X5_read (l : Launch) (dC : Nat → ClassId) (dI : Nat → Nat → Nat) (cy : Nat → ClassId) (sz : Nat) (ad : Nat → Nat) (kv : Value) (N : Nat) (hN : 119 ≤ N) (v : Nat → Nat → Int32) (hv : Iv v) (i : Nat) (hi : i < 6) (x0 x1 : Int32) (hs : 0 ≤ x1.toInt ∧ x1.toInt ≤ 5) : Met l yX5_read wsX5_read ({ frames := 2, cells := 0, slots := 0, locals := 128 }) (va_Pc [.ref (ad 10), .ref (ad (29 + 15 * i)), .int x0, .int x1] (ex_Pre dC dI cy sz (wl ad kv cy N v))) (va_Qv (fun (u : Nat → Nat → Int32) => Iv u ∧ Fz v u) (fun u t => ex_Pst dC dI (va_A (wl ad kv cy N v) sz) (wl ad kv cy N u) t) (va_A (wl ad kv cy N v) sz)) 0 0 (va_A (wl ad kv cy N v) sz) := by
  refine Met.ofW (cc := cX5_read) (maxL := 6) (ret := none) (by decide) rfl ?_
  intro p e s m args below meth c s₁ B hml hv
  obtain ⟨rfl, hsz, hE, hP, hK, hD0⟩ := hv
  have hx := B.exec
  have hb := B.bytes
  have hr := B.returns
  have hts := atoms_spec (ws := wsX5_read) B.pre
  have hown : s.vm.findClass RX5 = some m.cls := findClass_of_methodNamed B.named
  have hlocks := B.notSynchronized
  subst hsz
  have hD := hD0.self (sz := s.heap.size)
  generalize hAe : va_A (wl ad kv cy N v) s.heap.size = A at hD ⊢
  have hA : ∀ q : Nat, s.heap.size ≤ q → A q := fun q h => by rw [← hAe]; exact Or.inr h
  have hS : va_S A s.heap s.heap [] := va_S.rf
  have hP : va_P (dC, dI) vwCl (wl ad kv cy N v) s.heap := hP
  have hl := lv_entry ([.ref (ad 10), .ref (ad (29 + 15 * i)), .int x0, .int x1]) (n := 6) (Nat.le_of_ble_eq_true rfl)
  rw [lg_entry_eq]
  generalize (lg_sl ([.ref (ad 10), .ref (ad (29 + 15 * i)), .int x0, .int x1]) ++ List.replicate (6 - (lg_sl ([.ref (ad 10), .ref (ad (29 + 15 * i)), .int x0, .int x1])).length) Slot.unset).toArray = ls at hl ⊢
  have hl : lv_has ls 6 [(0, .ref (ad 10)), (1, .ref (ad (29 + 15 * i))), (2, .int x0), (3, .int x1)] := hl
  have hfr : Fz v v := Fz.rf
  refine lv_aload_n hx hb dX5_read_0 rfl (lv_at hl 0 rfl) ?_
  refine lv_iconst (v := 0) hx hb dX5_read_1 (by decide) ?_
  refine va_put (D := (dC, dI)) (ci := 5) (v := .int 0) (ty := .int) (C := RX5) (T := TX5) (N := 3) hx hb hts iwX5_read_X5 tyX5 tyX5_ok nmX5 hown hK hP hD hS (10) (wl_at (by omega) (ce_2 (by decide))) rfl 0 (by decide) (hts (.fieldLink RX5 18 "QuietStairs$Table" "count" "I") fwX5_read_1) (fun _ h9 => h9) rfl (by decide +kernel) rfl rfl (Nat.le_of_ble_eq_true rfl) dX5_read_2 (fun H locs hP hD hS => ?_)
  have k_0 : (0 : Int32).toInt = 0 := by decide
  obtain ⟨v_1, ev_1⟩ : ∃ u : Nat → Nat → Int32, u = upr v (10) (upd (v (10)) 0 0) := ⟨_, rfl⟩
  have hP : va_P (dC, dI) vwCl (wl ad kv cy N v_1) H := by rw [ev_1, ← wl_put (e := _) (ce_2 (by decide))]; exact hP
  have hD : va_D A (wl ad kv cy N v_1) := by rw [ev_1, ← wl_put (e := _) (ce_2 (by decide))]; exact hD
  have hv : Iv v_1 := by rw [ev_1]; exact hv.put (K := 2) (by decide) (fun h q => by cases q; exact ⟨by omega, by omega⟩)
  have hfr : Fz v v_1 := by rw [ev_1]; exact hfr.put (by omega) (by omega) (by omega)
  refine lv_iconst (v := 0) hx hb dX5_read_5 (by decide) ?_
  refine lv_istore (lv' := [(4, .int 0), (0, .ref (ad 10)), (1, .ref (ad (29 + 15 * i))), (2, .int x0), (3, .int x1)]) hx hb dX5_read_6 hl (by decide) rfl (fun ls hl => ?_)
  have hz_3 : (v_1 10 0).toInt = (0 : Int32).toInt := by rw [ev_1, upr_s, pk_us]
  have hloop_2 : ∀ (n : Nat) (y2_4 : Int32) (u2 : Nat → Nat → Int32) (H : Heap) (locs : List Loc), 0 ≤ y2_4.toInt → y2_4.toInt ≤ 5 → (u2 10 0).toInt ≤ y2_4.toInt → (5 - y2_4.toInt).toNat < n → Iv u2 → Fz v u2 → va_P (dC, dI) vwCl (wl ad kv cy N u2) H → va_D A (wl ad kv cy N u2) → va_S A s.heap H locs → ∀ ls : Array Slot, lv_has ls 6 [(4, .int y2_4), (0, .ref (ad 10)), (1, .ref (ad (29 + 15 * i))), (2, .int x0), (3, .int x1)] → W p l e (headSpec wsX5_read ({ frames := 2, cells := 0, slots := 0, locals := 128 })).room s m [Value.ref (ad 10), Value.ref (ad (29 + 15 * i)), Value.int x0, Value.int x1].toArray below meth c H locs 0 0 (MQ below (va_Qv (fun (u : Nat → Nat → Int32) => Iv u ∧ Fz v u) (fun u t => ex_Pst dC dI A (wl ad kv cy N u) t) A) [Value.ref (ad 10), Value.ref (ad (29 + 15 * i)), Value.int x0, Value.int x1].toArray s 0 0 A) (F0 m 8 ls []) := by
    intro n
    induction n with
    | zero =>
      intro y2_4 u2 H locs ay2_4 by2_4 hx_2 hm_2 hv hfr hP hD hS ls hl
      exact absurd hm_2 (by omega)
    | succ n ih_2 =>
      intro y2_4 u2 H locs ay2_4 by2_4 hx_2 hm_2 hv hfr hP hD hS ls hl
      refine lv_iload hx hb dX5_read_8 (lv_at hl 0 rfl) ?_
      refine lv_iload_n hx hb dX5_read_10 rfl (lv_at hl 4 rfl) ?_
      refine lv_icmp_ge (tgt := 83) hx hb dX5_read_11 (by decide) (fun c_4 => ?_) (fun c_4 => ?_)
      · have tc_4 : y2_4.toInt ≥ x1.toInt := Int32.le_iff_toInt_le.mp c_4
        exact W.vret hx hb hr (fun t ht hW => ⟨⟨u2, rfl, ⟨hv, hfr⟩, by rw [ht]; exact hP, hD⟩, hS.F ht⟩) hS.2.2 dX5_read_83
      · have tc_4 : y2_4.toInt < x1.toInt := Int32.lt_iff_toInt_lt.mp (Int32.not_le.mp c_4)
        refine lv_aload_n hx hb dX5_read_14 rfl (lv_at hl 2 rfl) ?_
        refine va_get (D := (dC, dI)) (ci := 0) (v := .ref (ad (29 + 15 * i + 9))) (C := RX0) (T := TX0) (N := 11) hx hb hts iwX5_read_X0 hown hK hP (29 + 15 * i) (wl_at (by omega) (ce_9 (kd_c i hi).1.1)) rfl 10 (by decide) (hts (.fieldLink RX5 22 "QuietStairs$Case" "terms" "[LQuietStairs$Term;") fwX5_read_2) (fun _ h9 => h9) rfl dX5_read_15 ?_
        refine W.eq (g2 := F0 m 18 ls [.ref (ad (38 + 15 * i))]) (by rw [show 29 + 15 * i + 9 = 38 + 15 * i from by omega]) ?_
        refine lv_iload hx hb dX5_read_18 (lv_at hl 0 rfl) ?_
        obtain ⟨pi5, i5, hi5, ni5, mi5⟩ := t_in (x := y2_4) (n := 5) ⟨by omega, by omega⟩
        refine va_aldq hx hb hK hP (38 + 15 * i) 4 (wl_at (by omega) (ce_15 (kd_c i hi).1.2.2.2.2.2)) rfl pi5 dX5_read_20 ?_
        refine W.eq (g2 := F0 m 21 ls [.ref (ad (39 + 15 * i + i5))]) (by rw [ni5, if_pos hi5, show 38 + 15 * i + 1 + i5 = 39 + 15 * i + i5 from by omega]; rfl) ?_
        refine lv_astore (lv' := [(5, .ref (ad (39 + 15 * i + i5))), (4, .int y2_4), (0, .ref (ad 10)), (1, .ref (ad (29 + 15 * i))), (2, .int x0), (3, .int x1)]) hx hb dX5_read_21 hl (by decide) rfl (fun ls hl => ?_)
        refine lv_aload hx hb dX5_read_23 (lv_at hl 0 rfl) ?_
        refine va_get (D := (dC, dI)) (ci := 6) (v := .int (u2 (39 + 15 * i + i5) 0)) (C := RX6) (T := TX6) (N := 5) hx hb hts iwX5_read_X6 hown hK hP (39 + 15 * i + i5) (wl_at (by omega) (ce_16 (kd_t i hi i5 hi5).1)) rfl 0 (by decide) (hts (.fieldLink RX5 28 "QuietStairs$Term" "side" "I") fwX5_read_3) (fun _ h9 => h9) rfl dX5_read_25 ?_
        refine lv_topi (fun x_6 ex_6 => ?_)
        have bx_6 : 0 ≤ x_6.toInt ∧ x_6.toInt ≤ 1 := by rw [ex_6]; exact hv.at (K := 16) (kd_t i hi i5 hi5).1 rfl
        refine lv_iload_n hx hb dX5_read_28 rfl (lv_at hl 4 rfl) ?_
        refine lv_icmp_ne (tgt := 77) hx hb dX5_read_29 (by decide) (fun c_7 => ?_) (fun c_7 => ?_)
        · have tc_7 : x_6.toInt ≠ x0.toInt := fun q => absurd (Int32.toInt_inj.mp q) c_7
          obtain ⟨x_8, ex_8⟩ : ∃ y : Int32, y = y2_4 + 1 := ⟨_, rfl⟩
          refine lv_iinc (v := x_8) (lv' := [(4, .int x_8), (5, .ref (ad (39 + 15 * i + i5))), (0, .ref (ad 10)), (1, .ref (ad (29 + 15 * i))), (2, .int x0), (3, .int x1)]) hx hb dX5_read_77 hl (k := 1) rfl (by rw [ex_8]; rfl) (by decide) rfl (fun ls hl => ?_)
          have k_1 : (1 : Int32).toInt = 1 := by decide
          have tx_8 : x_8.toInt = y2_4.toInt + (1 : Int32).toInt := by rw [ex_8]; exact t_add ⟨by omega, by omega⟩
          refine lv_goto (tgt := 8) hx hb dX5_read_80 (by decide) ?_
          have hz_9 : (u2 10 0).toInt = (u2 10 0).toInt := rfl
          exact ih_2 x_8 u2 H locs (by omega) (by omega) (by omega) (by omega) hv hfr hP hD hS ls (lv_sub hl [0, 2, 3, 4, 5] rfl)
        · have tc_7 : x_6.toInt = x0.toInt := by rw [c_7]
          refine lv_aload hx hb dX5_read_32 (lv_at hl 0 rfl) ?_
          refine va_get (D := (dC, dI)) (ci := 6) (v := .int (u2 (39 + 15 * i + i5) 1)) (C := RX6) (T := TX6) (N := 5) hx hb hts iwX5_read_X6 hown hK hP (39 + 15 * i + i5) (wl_at (by omega) (ce_16 (kd_t i hi i5 hi5).1)) rfl 1 (by decide) (hts (.fieldLink RX5 33 "QuietStairs$Term" "must" "Z") fwX5_read_4) (fun _ h9 => h9) rfl dX5_read_34 ?_
          refine lv_topi (fun x_8 ex_8 => ?_)
          have bx_8 : 0 ≤ x_8.toInt ∧ x_8.toInt ≤ 1 := by rw [ex_8]; exact hv.at (K := 16) (kd_t i hi i5 hi5).1 rfl
          refine lv_if_eq (tgt := 77) hx hb dX5_read_37 (by decide) (fun c_9 => ?_) (fun c_9 => ?_)
          · have tc_9 : x_8.toInt = (0 : Int32).toInt := by rw [c_9]
            obtain ⟨x_10, ex_10⟩ : ∃ y : Int32, y = y2_4 + 1 := ⟨_, rfl⟩
            refine lv_iinc (v := x_10) (lv' := [(4, .int x_10), (5, .ref (ad (39 + 15 * i + i5))), (0, .ref (ad 10)), (1, .ref (ad (29 + 15 * i))), (2, .int x0), (3, .int x1)]) hx hb dX5_read_77 hl (k := 1) rfl (by rw [ex_10]; rfl) (by decide) rfl (fun ls hl => ?_)
            have k_1 : (1 : Int32).toInt = 1 := by decide
            have tx_10 : x_10.toInt = y2_4.toInt + (1 : Int32).toInt := by rw [ex_10]; exact t_add ⟨by omega, by omega⟩
            refine lv_goto (tgt := 8) hx hb dX5_read_80 (by decide) ?_
            have hz_11 : (u2 10 0).toInt = (u2 10 0).toInt := rfl
            exact ih_2 x_10 u2 H locs (by omega) (by omega) (by omega) (by omega) hv hfr hP hD hS ls (lv_sub hl [0, 2, 3, 4, 5] rfl)
          · have tc_9 : x_8.toInt ≠ (0 : Int32).toInt := fun q => absurd (Int32.toInt_inj.mp q) c_9
            refine lv_aload_n hx hb dX5_read_40 rfl (lv_at hl 2 rfl) ?_
            refine va_get (D := (dC, dI)) (ci := 5) (v := .ref (ad 11)) (C := RX5) (T := TX5) (N := 3) hx hb hts iwX5_read_X5 hown hK hP (10) (wl_at (by omega) (ce_2 (by decide))) rfl 1 (by decide) (hts (.fieldLink RX5 9 "QuietStairs$Table" "musts" "[I") fwX5_read_5) (fun _ h9 => h9) rfl dX5_read_41 ?_
            refine lv_aload_n hx hb dX5_read_44 rfl (lv_at hl 2 rfl) ?_
            refine va_get (D := (dC, dI)) (ci := 5) (v := .int (u2 (10) 0)) (C := RX5) (T := TX5) (N := 3) hx hb hts iwX5_read_X5 hown hK hP (10) (wl_at (by omega) (ce_2 (by decide))) rfl 0 (by decide) (hts (.fieldLink RX5 18 "QuietStairs$Table" "count" "I") fwX5_read_1) (fun _ h9 => h9) rfl dX5_read_45 ?_
            refine lv_topi (fun x_10 ex_10 => ?_)
            have qx_10 : x_10.toInt ≤ y2_4.toInt := by rw [ex_10]; exact hx_2
            have bx_10 : 0 ≤ x_10.toInt ∧ x_10.toInt ≤ 5 := by rw [ex_10]; exact hv.at (K := 2) (by decide) rfl
            refine lv_iload hx hb dX5_read_48 (lv_at hl 1 rfl) ?_
            obtain ⟨pi11, i11, hi11, ni11, mi11⟩ := t_in (x := x_10) (n := 5) ⟨by omega, by omega⟩
            refine va_iast hx hb hK hP hD hS (11) 0 (wl_at (by omega) (ce_19 (by decide))) rfl pi11 dX5_read_50 (fun H locs hP hD hS => ?_)
            obtain ⟨v_12, ev_12⟩ : ∃ u : Nat → Nat → Int32, u = upr u2 (11) (upd (u2 (11)) (x_10.toNatClampNeg) y2_4) := ⟨_, rfl⟩
            have hP : va_P (dC, dI) vwCl (wl ad kv cy N v_12) H := by rw [ev_12, ← wl_put (e := _) (ce_19 (by decide))]; exact hP
            have hD : va_D A (wl ad kv cy N v_12) := by rw [ev_12, ← wl_put (e := _) (ce_19 (by decide))]; exact hD
            have hv : Iv v_12 := by rw [ev_12]; exact hv.put (K := 19) (by decide) (fun h q => by simp [bd] at q)
            have hfr : Fz v v_12 := by rw [ev_12]; exact hfr.put (by omega) (by omega) (by omega)
            refine lv_aload_n hx hb dX5_read_51 rfl (lv_at hl 2 rfl) ?_
            refine va_get (D := (dC, dI)) (ci := 5) (v := .ref (ad 12)) (C := RX5) (T := TX5) (N := 3) hx hb hts iwX5_read_X5 hown hK hP (10) (wl_at (by omega) (ce_2 (by decide))) rfl 2 (by decide) (hts (.fieldLink RX5 15 "QuietStairs$Table" "hourBits" "[I") fwX5_read_6) (fun _ h9 => h9) rfl dX5_read_52 ?_
            refine lv_aload_n hx hb dX5_read_55 rfl (lv_at hl 2 rfl) ?_
            refine va_get (D := (dC, dI)) (ci := 5) (v := .int (v_12 (10) 0)) (C := RX5) (T := TX5) (N := 3) hx hb hts iwX5_read_X5 hown hK hP (10) (wl_at (by omega) (ce_2 (by decide))) rfl 0 (by decide) (hts (.fieldLink RX5 18 "QuietStairs$Table" "count" "I") fwX5_read_1) (fun _ h9 => h9) rfl dX5_read_56 ?_
            refine lv_topi (fun x_13 ex_13 => ?_)
            rw [ev_12, upr_n (by omega)] at ex_13
            rw [← ex_10] at ex_13; replace ex_13 := ex_13.symm; subst ex_13
            refine lv_aload_n hx hb dX5_read_59 rfl (lv_at hl 3 rfl) ?_
            refine lv_aload hx hb dX5_read_60 (lv_at hl 0 rfl) ?_
            refine lv_iload_n hx hb dX5_read_62 rfl (lv_at hl 5 rfl) ?_
            refine yw_i (w1 := fun (u : Nat → Nat → Int32) => wl ad kv cy N u) hD hS hA (va_runS (As := [.ref (ad (29 + 15 * i)), .ref (ad (39 + 15 * i + i5)), .int x1]) (rest := [.int x_10, .ref (ad 12)]) ⟨hx, hb, hml, hown, hts⟩ (g_X5_allowedHours l dC dI cy _ ad kv N hN v_12 hv i hi i5 hi5 x1 ⟨by omega, by omega⟩) (cwS 3 hts gX5_read_X5_allowedHours rfl rfl rfl hd_S_X5_allowedHours_3 ⟨Nat.le_of_ble_eq_true rfl, Nat.le_of_ble_eq_true rfl⟩) (yw_preS hE hK hP hD) rfl rfl hl.1 rfl (lv_room (Nat.le_of_ble_eq_true rfl)) dX5_read_63 ⟨Nat.le_of_ble_eq_true rfl, Nat.le_of_ble_eq_true rfl⟩) (fun r_14 v_14 H locs hw_14 hP hD hS => ?_)
            obtain ⟨hv, hw_14⟩ := hw_14
            have hs_14 : v_14 = v_12 := hw_14
            have hfr : Fz v v_14 := by rw [hs_14]; exact hfr
            refine va_iast hx hb hK hP hD hS (12) 0 (wl_at (by omega) (ce_19 (by decide))) rfl pi11 dX5_read_66 (fun H locs hP hD hS => ?_)
            obtain ⟨v_15, ev_15⟩ : ∃ u : Nat → Nat → Int32, u = upr v_14 (12) (upd (v_14 (12)) (x_10.toNatClampNeg) r_14) := ⟨_, rfl⟩
            have hP : va_P (dC, dI) vwCl (wl ad kv cy N v_15) H := by rw [ev_15, ← wl_put (e := _) (ce_19 (by decide))]; exact hP
            have hD : va_D A (wl ad kv cy N v_15) := by rw [ev_15, ← wl_put (e := _) (ce_19 (by decide))]; exact hD
            have hv : Iv v_15 := by rw [ev_15]; exact hv.put (K := 19) (by decide) (fun h q => by simp [bd] at q)
            have hfr : Fz v v_15 := by rw [ev_15]; exact hfr.put (by omega) (by omega) (by omega)
            refine lv_aload_n hx hb dX5_read_67 rfl (lv_at hl 2 rfl) ?_
            refine lv_dup hx hb dX5_read_68 rfl ?_
            refine va_get (D := (dC, dI)) (ci := 5) (v := .int (v_15 (10) 0)) (C := RX5) (T := TX5) (N := 3) hx hb hts iwX5_read_X5 hown hK hP (10) (wl_at (by omega) (ce_2 (by decide))) rfl 0 (by decide) (hts (.fieldLink RX5 18 "QuietStairs$Table" "count" "I") fwX5_read_1) (fun _ h9 => h9) rfl dX5_read_69 ?_
            refine lv_topi (fun x_16 ex_16 => ?_)
            rw [ev_15, upr_n (by omega)] at ex_16
            rw [hs_14] at ex_16
            rw [ev_12, upr_n (by omega)] at ex_16
            rw [← ex_10] at ex_16; replace ex_16 := ex_16.symm; subst ex_16
            refine lv_iconst (v := 1) hx hb dX5_read_72 (by decide) ?_
            have k_1 : (1 : Int32).toInt = 1 := by decide
            refine lv_iadd hx hb dX5_read_73 ?_
            refine lv_topi (fun x_17 ex_17 => ?_)
            have tx_17 : x_17.toInt = x_10.toInt + (1 : Int32).toInt := by rw [ex_17]; exact t_add ⟨by omega, by omega⟩
            refine va_put (D := (dC, dI)) (ci := 5) (v := .int x_17) (ty := .int) (C := RX5) (T := TX5) (N := 3) hx hb hts iwX5_read_X5 tyX5 tyX5_ok nmX5 hown hK hP hD hS (10) (wl_at (by omega) (ce_2 (by decide))) rfl 0 (by decide) (hts (.fieldLink RX5 18 "QuietStairs$Table" "count" "I") fwX5_read_1) (fun _ h9 => h9) rfl (by decide +kernel) rfl rfl (Nat.le_of_ble_eq_true rfl) dX5_read_74 (fun H locs hP hD hS => ?_)
            obtain ⟨v_18, ev_18⟩ : ∃ u : Nat → Nat → Int32, u = upr v_15 (10) (upd (v_15 (10)) 0 x_17) := ⟨_, rfl⟩
            have hP : va_P (dC, dI) vwCl (wl ad kv cy N v_18) H := by rw [ev_18, ← wl_put (e := _) (ce_2 (by decide))]; exact hP
            have hD : va_D A (wl ad kv cy N v_18) := by rw [ev_18, ← wl_put (e := _) (ce_2 (by decide))]; exact hD
            have hv : Iv v_18 := by rw [ev_18]; exact hv.put (K := 2) (by decide) (fun h q => by cases q; exact ⟨by omega, by omega⟩)
            have hfr : Fz v v_18 := by rw [ev_18]; exact hfr.put (by omega) (by omega) (by omega)
            obtain ⟨x_19, ex_19⟩ : ∃ y : Int32, y = y2_4 + 1 := ⟨_, rfl⟩
            refine lv_iinc (v := x_19) (lv' := [(4, .int x_19), (5, .ref (ad (39 + 15 * i + i5))), (0, .ref (ad 10)), (1, .ref (ad (29 + 15 * i))), (2, .int x0), (3, .int x1)]) hx hb dX5_read_77 hl (k := 1) rfl (by rw [ex_19]; rfl) (by decide) rfl (fun ls hl => ?_)
            have tx_19 : x_19.toInt = y2_4.toInt + (1 : Int32).toInt := by rw [ex_19]; exact t_add ⟨by omega, by omega⟩
            refine lv_goto (tgt := 8) hx hb dX5_read_80 (by decide) ?_
            have hz_20 : (v_18 10 0).toInt = (x_17 : Int32).toInt := by rw [ev_18, upr_s, pk_us]
            exact ih_2 x_19 v_18 H locs (by omega) (by omega) (by omega) (by omega) hv hfr hP hD hS ls (lv_sub hl [0, 2, 3, 4, 5] rfl)
  exact hloop_2 ((5 - (0 : Int32).toInt).toNat + 1) 0 v_1 _ _ (by omega) (by omega) (by omega) (by omega) hv hfr hP hD hS ls hl
