theorem dX6_init_0 : decode cX6_init 0 = .ok (.aload_n 0, 1) := by decide +kernel
theorem dX6_init_1 : decode cX6_init 1 = .ok (.invokespecial 1, 3) := by decide +kernel
theorem dX6_init_4 : decode cX6_init 4 = .ok (.return_, 1) := by decide +kernel
theorem dX3_init_0 : decode cX3_init 0 = .ok (.aload_n 0, 1) := by decide +kernel
theorem dX3_init_1 : decode cX3_init 1 = .ok (.invokespecial 1, 3) := by decide +kernel
theorem dX3_init_4 : decode cX3_init 4 = .ok (.return_, 1) := by decide +kernel
theorem dX2_init_0 : decode cX2_init 0 = .ok (.aload_n 0, 1) := by decide +kernel
theorem dX2_init_1 : decode cX2_init 1 = .ok (.invokespecial 1, 3) := by decide +kernel
theorem dX2_init_4 : decode cX2_init 4 = .ok (.return_, 1) := by decide +kernel
theorem dX0_init_0 : decode cX0_init 0 = .ok (.aload_n 0, 1) := by decide +kernel
theorem dX0_init_1 : decode cX0_init 1 = .ok (.invokespecial 3, 3) := by decide +kernel
theorem dX0_init_4 : decode cX0_init 4 = .ok (.aload_n 0, 1) := by decide +kernel
theorem dX0_init_5 : decode cX0_init 5 = .ok (.iconst 2, 1) := by decide +kernel
theorem dX0_init_6 : decode cX0_init 6 = .ok (.newarray .int, 2) := by decide +kernel
theorem dX0_init_8 : decode cX0_init 8 = .ok (.putfield 9, 3) := by decide +kernel
theorem dX0_init_11 : decode cX0_init 11 = .ok (.aload_n 0, 1) := by decide +kernel
theorem dX0_init_12 : decode cX0_init 12 = .ok (.iconst 2, 1) := by decide +kernel
theorem dX0_init_13 : decode cX0_init 13 = .ok (.newarray .int, 2) := by decide +kernel
theorem dX0_init_15 : decode cX0_init 15 = .ok (.putfield 15, 3) := by decide +kernel
theorem dX0_init_18 : decode cX0_init 18 = .ok (.aload_n 0, 1) := by decide +kernel
theorem dX0_init_19 : decode cX0_init 19 = .ok (.iconst 2, 1) := by decide +kernel
theorem dX0_init_20 : decode cX0_init 20 = .ok (.iconst 5, 1) := by decide +kernel
theorem dX0_init_21 : decode cX0_init 21 = .ok (.multianewarray 18 2, 4) := by decide +kernel
theorem dX0_init_25 : decode cX0_init 25 = .ok (.putfield 20, 3) := by decide +kernel
theorem dX0_init_28 : decode cX0_init 28 = .ok (.aload_n 0, 1) := by decide +kernel
theorem dX0_init_29 : decode cX0_init 29 = .ok (.iconst 2, 1) := by decide +kernel
theorem dX0_init_30 : decode cX0_init 30 = .ok (.bipush 24, 2) := by decide +kernel
theorem dX0_init_32 : decode cX0_init 32 = .ok (.multianewarray 18 2, 4) := by decide +kernel
theorem dX0_init_36 : decode cX0_init 36 = .ok (.putfield 23, 3) := by decide +kernel
theorem dX0_init_39 : decode cX0_init 39 = .ok (.aload_n 0, 1) := by decide +kernel
theorem dX0_init_40 : decode cX0_init 40 = .ok (.iconst 5, 1) := by decide +kernel
theorem dX0_init_41 : decode cX0_init 41 = .ok (.anewarray 26, 3) := by decide +kernel
theorem dX0_init_44 : decode cX0_init 44 = .ok (.putfield 28, 3) := by decide +kernel
theorem dX0_init_47 : decode cX0_init 47 = .ok (.iconst 0, 1) := by decide +kernel
theorem dX0_init_48 : decode cX0_init 48 = .ok (.istore_n 1, 1) := by decide +kernel
theorem dX0_init_49 : decode cX0_init 49 = .ok (.iload_n 1, 1) := by decide +kernel
theorem dX0_init_50 : decode cX0_init 50 = .ok (.iconst 5, 1) := by decide +kernel
theorem dX0_init_51 : decode cX0_init 51 = .ok (.if_icmp .ge 22, 3) := by decide +kernel
theorem dX0_init_54 : decode cX0_init 54 = .ok (.aload_n 0, 1) := by decide +kernel
theorem dX0_init_55 : decode cX0_init 55 = .ok (.getfield 28, 3) := by decide +kernel
theorem dX0_init_58 : decode cX0_init 58 = .ok (.iload_n 1, 1) := by decide +kernel
theorem dX0_init_59 : decode cX0_init 59 = .ok (.new 26, 3) := by decide +kernel
theorem dX0_init_62 : decode cX0_init 62 = .ok (.dup, 1) := by decide +kernel
set_option maxRecDepth 20000 in
theorem ggX0_init_X6_init : GoodIn wsX0_init wsX6_init := goodIn_r _ [15, 16, 2, 3] (by decide +kernel) (by decide +kernel)
set_option maxRecDepth 20000 in
theorem gX0_init_X6_init_n32 : GoodIn wsX0_init (wsX6_init) := ggX0_init_X6_init
theorem dX0_init_63 : decode cX0_init 63 = .ok (.invokespecial 32, 3) := by decide +kernel
theorem dX0_init_66 : decode cX0_init 66 = .ok (.aastore, 1) := by decide +kernel
theorem dX0_init_67 : decode cX0_init 67 = .ok (.iinc 1 1, 3) := by decide +kernel
theorem dX0_init_70 : decode cX0_init 70 = .ok (.goto (-21), 3) := by decide +kernel
theorem dX0_init_73 : decode cX0_init 73 = .ok (.return_, 1) := by decide +kernel
theorem dX1_init_0 : decode cX1_init 0 = .ok (.aload_n 0, 1) := by decide +kernel
theorem dX1_init_1 : decode cX1_init 1 = .ok (.invokespecial 3, 3) := by decide +kernel
theorem dX1_init_4 : decode cX1_init 4 = .ok (.aload_n 0, 1) := by decide +kernel
theorem dX1_init_5 : decode cX1_init 5 = .ok (.bipush 8, 2) := by decide +kernel
theorem dX1_init_7 : decode cX1_init 7 = .ok (.anewarray 9, 3) := by decide +kernel
theorem dX1_init_10 : decode cX1_init 10 = .ok (.putfield 11, 3) := by decide +kernel
theorem dX1_init_13 : decode cX1_init 13 = .ok (.aload_n 0, 1) := by decide +kernel
theorem dX1_init_14 : decode cX1_init 14 = .ok (.iconst 4, 1) := by decide +kernel
theorem dX1_init_15 : decode cX1_init 15 = .ok (.anewarray 17, 3) := by decide +kernel
theorem dX1_init_18 : decode cX1_init 18 = .ok (.putfield 19, 3) := by decide +kernel
theorem dX1_init_21 : decode cX1_init 21 = .ok (.aload_n 0, 1) := by decide +kernel
theorem dX1_init_22 : decode cX1_init 22 = .ok (.bipush 6, 2) := by decide +kernel
theorem dX1_init_24 : decode cX1_init 24 = .ok (.anewarray 23, 3) := by decide +kernel
theorem dX1_init_27 : decode cX1_init 27 = .ok (.putfield 25, 3) := by decide +kernel
theorem dX1_init_30 : decode cX1_init 30 = .ok (.iconst 0, 1) := by decide +kernel
theorem dX1_init_31 : decode cX1_init 31 = .ok (.istore_n 1, 1) := by decide +kernel
theorem dX1_init_32 : decode cX1_init 32 = .ok (.iload_n 1, 1) := by decide +kernel
theorem dX1_init_33 : decode cX1_init 33 = .ok (.bipush 8, 2) := by decide +kernel
theorem dX1_init_35 : decode cX1_init 35 = .ok (.if_icmp .ge 22, 3) := by decide +kernel
theorem dX1_init_38 : decode cX1_init 38 = .ok (.aload_n 0, 1) := by decide +kernel
theorem dX1_init_39 : decode cX1_init 39 = .ok (.getfield 11, 3) := by decide +kernel
theorem dX1_init_42 : decode cX1_init 42 = .ok (.iload_n 1, 1) := by decide +kernel
theorem dX1_init_43 : decode cX1_init 43 = .ok (.new 9, 3) := by decide +kernel
theorem dX1_init_46 : decode cX1_init 46 = .ok (.dup, 1) := by decide +kernel
set_option maxRecDepth 20000 in
theorem ggX1_init_X3_init : GoodIn wsX1_init wsX3_init := goodIn_r _ [17, 18, 2, 3] (by decide +kernel) (by decide +kernel)
set_option maxRecDepth 20000 in
theorem gX1_init_X3_init_n29 : GoodIn wsX1_init (wsX3_init) := ggX1_init_X3_init
theorem dX1_init_47 : decode cX1_init 47 = .ok (.invokespecial 29, 3) := by decide +kernel
theorem dX1_init_50 : decode cX1_init 50 = .ok (.aastore, 1) := by decide +kernel
theorem dX1_init_51 : decode cX1_init 51 = .ok (.iinc 1 1, 3) := by decide +kernel
theorem dX1_init_54 : decode cX1_init 54 = .ok (.goto (-22), 3) := by decide +kernel
theorem dX1_init_57 : decode cX1_init 57 = .ok (.iconst 0, 1) := by decide +kernel
theorem dX1_init_58 : decode cX1_init 58 = .ok (.istore_n 1, 1) := by decide +kernel
theorem dX1_init_59 : decode cX1_init 59 = .ok (.iload_n 1, 1) := by decide +kernel
theorem dX1_init_60 : decode cX1_init 60 = .ok (.iconst 4, 1) := by decide +kernel
theorem dX1_init_61 : decode cX1_init 61 = .ok (.if_icmp .ge 22, 3) := by decide +kernel
theorem dX1_init_64 : decode cX1_init 64 = .ok (.aload_n 0, 1) := by decide +kernel
theorem dX1_init_65 : decode cX1_init 65 = .ok (.getfield 19, 3) := by decide +kernel
theorem dX1_init_68 : decode cX1_init 68 = .ok (.iload_n 1, 1) := by decide +kernel
theorem dX1_init_69 : decode cX1_init 69 = .ok (.new 17, 3) := by decide +kernel
theorem dX1_init_72 : decode cX1_init 72 = .ok (.dup, 1) := by decide +kernel
set_option maxRecDepth 20000 in
theorem ggX1_init_X2_init : GoodIn wsX1_init wsX2_init := goodIn_r _ [20, 21, 2, 3] (by decide +kernel) (by decide +kernel)
set_option maxRecDepth 20000 in
theorem gX1_init_X2_init_n30 : GoodIn wsX1_init (wsX2_init) := ggX1_init_X2_init
theorem dX1_init_73 : decode cX1_init 73 = .ok (.invokespecial 30, 3) := by decide +kernel
theorem dX1_init_76 : decode cX1_init 76 = .ok (.aastore, 1) := by decide +kernel
theorem dX1_init_77 : decode cX1_init 77 = .ok (.iinc 1 1, 3) := by decide +kernel
theorem dX1_init_80 : decode cX1_init 80 = .ok (.goto (-21), 3) := by decide +kernel
theorem dX1_init_83 : decode cX1_init 83 = .ok (.iconst 0, 1) := by decide +kernel
theorem dX1_init_84 : decode cX1_init 84 = .ok (.istore_n 1, 1) := by decide +kernel
theorem dX1_init_85 : decode cX1_init 85 = .ok (.iload_n 1, 1) := by decide +kernel
theorem dX1_init_86 : decode cX1_init 86 = .ok (.bipush 6, 2) := by decide +kernel
theorem dX1_init_88 : decode cX1_init 88 = .ok (.if_icmp .ge 22, 3) := by decide +kernel
theorem dX1_init_91 : decode cX1_init 91 = .ok (.aload_n 0, 1) := by decide +kernel
theorem dX1_init_92 : decode cX1_init 92 = .ok (.getfield 25, 3) := by decide +kernel
theorem dX1_init_95 : decode cX1_init 95 = .ok (.iload_n 1, 1) := by decide +kernel
theorem dX1_init_96 : decode cX1_init 96 = .ok (.new 23, 3) := by decide +kernel
theorem dX1_init_99 : decode cX1_init 99 = .ok (.dup, 1) := by decide +kernel
set_option maxRecDepth 20000 in
theorem ggX1_init_X0_init : GoodIn wsX1_init wsX0_init := goodIn_r _ [24, 25, 2, 3, 26, 27, 28, 29, 30, 31, 32, 33, 34, 35, 36, 37, 38, 51, 52, 53, 54, 55, 56, 57, 58, 59, 60, 61, 62, 63, 64, 65, 66] (by decide +kernel) (by decide +kernel)
set_option maxRecDepth 20000 in
theorem gX1_init_X0_init : GoodIn wsX1_init (wsX0_init) := ggX1_init_X0_init
theorem dX1_init_100 : decode cX1_init 100 = .ok (.invokespecial 31, 3) := by decide +kernel
theorem dX1_init_103 : decode cX1_init 103 = .ok (.aastore, 1) := by decide +kernel
theorem dX1_init_104 : decode cX1_init 104 = .ok (.iinc 1 1, 3) := by decide +kernel
theorem dX1_init_107 : decode cX1_init 107 = .ok (.goto (-22), 3) := by decide +kernel
theorem dX1_init_110 : decode cX1_init 110 = .ok (.return_, 1) := by decide +kernel
theorem dX4_init_0 : decode cX4_init 0 = .ok (.aload_n 0, 1) := by decide +kernel
theorem dX4_init_1 : decode cX4_init 1 = .ok (.invokespecial 3, 3) := by decide +kernel
theorem dX4_init_4 : decode cX4_init 4 = .ok (.aload_n 0, 1) := by decide +kernel
theorem dX4_init_5 : decode cX4_init 5 = .ok (.iconst 4, 1) := by decide +kernel
theorem dX4_init_6 : decode cX4_init 6 = .ok (.newarray .int, 2) := by decide +kernel
theorem dX4_init_8 : decode cX4_init 8 = .ok (.putfield 9, 3) := by decide +kernel
theorem dX4_init_11 : decode cX4_init 11 = .ok (.aload_n 0, 1) := by decide +kernel
theorem dX4_init_12 : decode cX4_init 12 = .ok (.iconst 4, 1) := by decide +kernel
theorem dX4_init_13 : decode cX4_init 13 = .ok (.newarray .int, 2) := by decide +kernel
theorem dX4_init_15 : decode cX4_init 15 = .ok (.putfield 15, 3) := by decide +kernel
theorem dX4_init_18 : decode cX4_init 18 = .ok (.aload_n 0, 1) := by decide +kernel
theorem dX4_init_19 : decode cX4_init 19 = .ok (.iconst 4, 1) := by decide +kernel
theorem dX4_init_20 : decode cX4_init 20 = .ok (.newarray .int, 2) := by decide +kernel
theorem dX4_init_22 : decode cX4_init 22 = .ok (.putfield 18, 3) := by decide +kernel
theorem dX4_init_25 : decode cX4_init 25 = .ok (.aload_n 0, 1) := by decide +kernel
theorem dX4_init_26 : decode cX4_init 26 = .ok (.iconst 4, 1) := by decide +kernel
theorem dX4_init_27 : decode cX4_init 27 = .ok (.newarray .int, 2) := by decide +kernel
theorem dX4_init_29 : decode cX4_init 29 = .ok (.putfield 21, 3) := by decide +kernel
theorem dX4_init_32 : decode cX4_init 32 = .ok (.aload_n 0, 1) := by decide +kernel
theorem dX4_init_33 : decode cX4_init 33 = .ok (.iconst 4, 1) := by decide +kernel
theorem dX4_init_34 : decode cX4_init 34 = .ok (.newarray .int, 2) := by decide +kernel
theorem dX4_init_36 : decode cX4_init 36 = .ok (.putfield 24, 3) := by decide +kernel
theorem dX4_init_39 : decode cX4_init 39 = .ok (.aload_n 0, 1) := by decide +kernel
theorem dX4_init_40 : decode cX4_init 40 = .ok (.iconst 4, 1) := by decide +kernel
theorem dX4_init_41 : decode cX4_init 41 = .ok (.newarray .int, 2) := by decide +kernel
theorem dX4_init_43 : decode cX4_init 43 = .ok (.putfield 27, 3) := by decide +kernel
theorem dX4_init_46 : decode cX4_init 46 = .ok (.aload_n 0, 1) := by decide +kernel
theorem dX4_init_47 : decode cX4_init 47 = .ok (.iconst 3, 1) := by decide +kernel
theorem dX4_init_48 : decode cX4_init 48 = .ok (.newarray .int, 2) := by decide +kernel
theorem dX4_init_50 : decode cX4_init 50 = .ok (.putfield 30, 3) := by decide +kernel
theorem dX4_init_53 : decode cX4_init 53 = .ok (.aload_n 0, 1) := by decide +kernel
theorem dX4_init_54 : decode cX4_init 54 = .ok (.iconst 3, 1) := by decide +kernel
theorem dX4_init_55 : decode cX4_init 55 = .ok (.newarray .int, 2) := by decide +kernel
theorem dX4_init_57 : decode cX4_init 57 = .ok (.putfield 33, 3) := by decide +kernel
theorem dX4_init_60 : decode cX4_init 60 = .ok (.return_, 1) := by decide +kernel
theorem dX5_init_0 : decode cX5_init 0 = .ok (.aload_n 0, 1) := by decide +kernel
theorem dX5_init_1 : decode cX5_init 1 = .ok (.invokespecial 3, 3) := by decide +kernel
theorem dX5_init_4 : decode cX5_init 4 = .ok (.aload_n 0, 1) := by decide +kernel
theorem dX5_init_5 : decode cX5_init 5 = .ok (.iconst 5, 1) := by decide +kernel
theorem dX5_init_6 : decode cX5_init 6 = .ok (.newarray .int, 2) := by decide +kernel
theorem dX5_init_8 : decode cX5_init 8 = .ok (.putfield 9, 3) := by decide +kernel
theorem dX5_init_11 : decode cX5_init 11 = .ok (.aload_n 0, 1) := by decide +kernel
theorem dX5_init_12 : decode cX5_init 12 = .ok (.iconst 5, 1) := by decide +kernel
theorem dX5_init_13 : decode cX5_init 13 = .ok (.newarray .int, 2) := by decide +kernel
theorem dX5_init_15 : decode cX5_init 15 = .ok (.putfield 15, 3) := by decide +kernel
theorem dX5_init_18 : decode cX5_init 18 = .ok (.return_, 1) := by decide +kernel
theorem dX7_init_0 : decode cX7_init 0 = .ok (.aload_n 0, 1) := by decide +kernel
theorem dX7_init_1 : decode cX7_init 1 = .ok (.invokespecial 3, 3) := by decide +kernel
theorem dX7_init_4 : decode cX7_init 4 = .ok (.aload_n 0, 1) := by decide +kernel
theorem dX7_init_5 : decode cX7_init 5 = .ok (.new 9, 3) := by decide +kernel
theorem dX7_init_8 : decode cX7_init 8 = .ok (.dup, 1) := by decide +kernel
set_option maxRecDepth 20000 in
theorem ggX7_init_X1_init : GoodIn wsX7_init wsX1_init := goodIn_r _ [20, 21, 2, 3, 22, 23, 24, 25, 26, 27, 28, 29, 30, 31, 32, 33, 34, 35, 36, 37, 38, 39, 40, 41, 42, 43, 44, 45, 46, 47, 48, 49, 50, 51, 52, 53, 54, 55, 56, 73, 74, 75, 76, 77, 78, 79, 99, 100, 101, 102, 103, 104, 105, 106, 107, 108, 109, 110, 111, 112, 113, 114, 115, 116, 117, 118, 119] (by decide +kernel) (by decide +kernel)
set_option maxRecDepth 20000 in
theorem gX7_init_X1_init : GoodIn wsX7_init (wsX1_init) := ggX7_init_X1_init
theorem dX7_init_9 : decode cX7_init 9 = .ok (.invokespecial 11, 3) := by decide +kernel
theorem dX7_init_12 : decode cX7_init 12 = .ok (.putfield 12, 3) := by decide +kernel
theorem dX7_init_15 : decode cX7_init 15 = .ok (.aload_n 0, 1) := by decide +kernel
theorem dX7_init_16 : decode cX7_init 16 = .ok (.new 16, 3) := by decide +kernel
theorem dX7_init_19 : decode cX7_init 19 = .ok (.dup, 1) := by decide +kernel
set_option maxRecDepth 20000 in
theorem ggX7_init_X4_init : GoodIn wsX7_init wsX4_init := goodIn_r _ [58, 59, 2, 3, 44, 60, 61, 62, 63, 64, 65, 66, 67, 85, 86, 87, 88, 89, 90, 91, 92, 93, 94, 95] (by decide +kernel) (by decide +kernel)
set_option maxRecDepth 20000 in
theorem gX7_init_X4_init_n18 : GoodIn wsX7_init (wsX4_init) := ggX7_init_X4_init
theorem dX7_init_20 : decode cX7_init 20 = .ok (.invokespecial 18, 3) := by decide +kernel
theorem dX7_init_23 : decode cX7_init 23 = .ok (.putfield 19, 3) := by decide +kernel
theorem dX7_init_26 : decode cX7_init 26 = .ok (.aload_n 0, 1) := by decide +kernel
theorem dX7_init_27 : decode cX7_init 27 = .ok (.new 23, 3) := by decide +kernel
theorem dX7_init_30 : decode cX7_init 30 = .ok (.dup, 1) := by decide +kernel
set_option maxRecDepth 20000 in
theorem ggX7_init_X5_init : GoodIn wsX7_init wsX5_init := goodIn_r _ [69, 70, 2, 3, 44, 71, 72, 96, 97, 98] (by decide +kernel) (by decide +kernel)
set_option maxRecDepth 20000 in
theorem gX7_init_X5_init_n25 : GoodIn wsX7_init (wsX5_init) := ggX7_init_X5_init
theorem dX7_init_31 : decode cX7_init 31 = .ok (.invokespecial 25, 3) := by decide +kernel
theorem dX7_init_34 : decode cX7_init 34 = .ok (.putfield 26, 3) := by decide +kernel
theorem dX7_init_37 : decode cX7_init 37 = .ok (.aload_n 0, 1) := by decide +kernel
theorem dX7_init_38 : decode cX7_init 38 = .ok (.aconst_null, 1) := by decide +kernel
theorem dX7_init_39 : decode cX7_init 39 = .ok (.putfield 30, 3) := by decide +kernel
theorem dX7_init_42 : decode cX7_init 42 = .ok (.aload_n 0, 1) := by decide +kernel
theorem dX7_init_43 : decode cX7_init 43 = .ok (.iconst 1, 1) := by decide +kernel
theorem dX7_init_44 : decode cX7_init 44 = .ok (.putfield 33, 3) := by decide +kernel
theorem dX7_init_47 : decode cX7_init 47 = .ok (.return_, 1) := by decide +kernel
set_option maxHeartbeats 4000000 in
set_option maxRecDepth 100000 in
theorem c_X6_init (l : Launch) (dC : Nat → ClassId) (dI : Nat → Nat → Nat) (cy : Nat → ClassId) (sz : Nat) (h0 : Nat) : Met l yX6_init wsX6_init ({ frames := 1, cells := 0, slots := 0, locals := 64 }) (va_Pc [.ref h0] (ex_Pre dC dI cy sz [(h0, .inr (6, [.int 0, .int 0, .int 0, .int 0, .int 0]))])) (va_Qv (fun (u : Unit) => True) (fun u t => ex_Pst dC dI (va_A [(h0, .inr (6, [.int 0, .int 0, .int 0, .int 0, .int 0]))] sz) ([(h0, .inr (6, [.int 0, .int 0, .int 0, .int 0, .int 0]))]) t) (va_A [(h0, .inr (6, [.int 0, .int 0, .int 0, .int 0, .int 0]))] sz)) 0 0 (va_A [(h0, .inr (6, [.int 0, .int 0, .int 0, .int 0, .int 0]))] sz) := by
  refine Met.ofW (cc := cX6_init) (maxL := 1) (ret := none) (by decide) rfl ?_
  intro p e s m args below meth c s₁ B hml hv
  obtain ⟨rfl, hsz, hE, hP, hK, hD0⟩ := hv
  have hx := B.exec
  have hb := B.bytes
  have hr := B.returns
  have hts := atoms_spec (ws := wsX6_init) B.pre
  have hown : s.vm.findClass RX6 = some m.cls := findClass_of_methodNamed B.named
  have hlocks := B.notSynchronized
  have hin : meth.name = "<init>" := (name_of_methodNamed B.named B.method).1
  subst hsz
  have hD := hD0.self (sz := s.heap.size)
  generalize hAe : va_A [(h0, .inr (6, [.int 0, .int 0, .int 0, .int 0, .int 0]))] s.heap.size = A at hD ⊢
  have hA : ∀ q : Nat, s.heap.size ≤ q → A q := fun q h => by rw [← hAe]; exact Or.inr h
  have hS : va_S A s.heap s.heap [] := va_S.rf
  have hP : va_P (dC, dI) vwCl [(h0, .inr (6, [.int 0, .int 0, .int 0, .int 0, .int 0]))] s.heap := hP
  have hl := lv_entry ([.ref h0]) (n := 1) (Nat.le_of_ble_eq_true rfl)
  rw [lg_entry_eq]
  generalize (lg_sl ([.ref h0]) ++ List.replicate (1 - (lg_sl ([.ref h0])).length) Slot.unset).toArray = ls at hl ⊢
  have hl : lv_has ls 1 [(0, .ref h0)] := hl
  refine lv_aload_n hx hb dX6_init_0 rfl (lv_at hl 0 rfl) ?_
  refine W.objInit hx hb hown (hts (.methodLink RX6 1 objectInit) (by decide +kernel)) (hts (.instanceMethod objectInit) (by decide +kernel)) (hts (.code objectInit ⟨#[0xb1]⟩ 1 none) (by decide +kernel)) rfl (by rw [hml]; exact hl.1) rfl dX6_init_1 (Nat.le_of_ble_eq_true rfl) (Nat.le_of_ble_eq_true rfl) ?_
  refine W.eq (g2 := F0 m 4 ls []) rfl ?_
  have hP9 := hP.sub (ws' := [(h0, .inr (6, [.int 0, .int 0, .int 0, .int 0, .int 0]))]) [0] rfl
  have hD9 := hD.sub (ws' := [(h0, .inr (6, [.int 0, .int 0, .int 0, .int 0, .int 0]))]) [0] (by decide) rfl
  exact W.vret hx hb hr (fun t ht hW => ⟨⟨(), rfl, trivial, by rw [ht]; exact hP9, hD9⟩, hS.F ht⟩) hS.2.2 dX6_init_4

set_option maxHeartbeats 4000000 in
set_option maxRecDepth 100000 in
theorem c_X3_init (l : Launch) (dC : Nat → ClassId) (dI : Nat → Nat → Nat) (cy : Nat → ClassId) (sz : Nat) (h0 : Nat) : Met l yX3_init wsX3_init ({ frames := 1, cells := 0, slots := 0, locals := 64 }) (va_Pc [.ref h0] (ex_Pre dC dI cy sz [(h0, .inr (3, [.int 0, .int 0]))])) (va_Qv (fun (u : Unit) => True) (fun u t => ex_Pst dC dI (va_A [(h0, .inr (3, [.int 0, .int 0]))] sz) ([(h0, .inr (3, [.int 0, .int 0]))]) t) (va_A [(h0, .inr (3, [.int 0, .int 0]))] sz)) 0 0 (va_A [(h0, .inr (3, [.int 0, .int 0]))] sz) := by
  refine Met.ofW (cc := cX3_init) (maxL := 1) (ret := none) (by decide) rfl ?_
  intro p e s m args below meth c s₁ B hml hv
  obtain ⟨rfl, hsz, hE, hP, hK, hD0⟩ := hv
  have hx := B.exec
  have hb := B.bytes
  have hr := B.returns
  have hts := atoms_spec (ws := wsX3_init) B.pre
  have hown : s.vm.findClass RX3 = some m.cls := findClass_of_methodNamed B.named
  have hlocks := B.notSynchronized
  have hin : meth.name = "<init>" := (name_of_methodNamed B.named B.method).1
  subst hsz
  have hD := hD0.self (sz := s.heap.size)
  generalize hAe : va_A [(h0, .inr (3, [.int 0, .int 0]))] s.heap.size = A at hD ⊢
  have hA : ∀ q : Nat, s.heap.size ≤ q → A q := fun q h => by rw [← hAe]; exact Or.inr h
  have hS : va_S A s.heap s.heap [] := va_S.rf
  have hP : va_P (dC, dI) vwCl [(h0, .inr (3, [.int 0, .int 0]))] s.heap := hP
  have hl := lv_entry ([.ref h0]) (n := 1) (Nat.le_of_ble_eq_true rfl)
  rw [lg_entry_eq]
  generalize (lg_sl ([.ref h0]) ++ List.replicate (1 - (lg_sl ([.ref h0])).length) Slot.unset).toArray = ls at hl ⊢
  have hl : lv_has ls 1 [(0, .ref h0)] := hl
  refine lv_aload_n hx hb dX3_init_0 rfl (lv_at hl 0 rfl) ?_
  refine W.objInit hx hb hown (hts (.methodLink RX3 1 objectInit) (by decide +kernel)) (hts (.instanceMethod objectInit) (by decide +kernel)) (hts (.code objectInit ⟨#[0xb1]⟩ 1 none) (by decide +kernel)) rfl (by rw [hml]; exact hl.1) rfl dX3_init_1 (Nat.le_of_ble_eq_true rfl) (Nat.le_of_ble_eq_true rfl) ?_
  refine W.eq (g2 := F0 m 4 ls []) rfl ?_
  have hP9 := hP.sub (ws' := [(h0, .inr (3, [.int 0, .int 0]))]) [0] rfl
  have hD9 := hD.sub (ws' := [(h0, .inr (3, [.int 0, .int 0]))]) [0] (by decide) rfl
  exact W.vret hx hb hr (fun t ht hW => ⟨⟨(), rfl, trivial, by rw [ht]; exact hP9, hD9⟩, hS.F ht⟩) hS.2.2 dX3_init_4

set_option maxHeartbeats 4000000 in
set_option maxRecDepth 100000 in
theorem c_X2_init (l : Launch) (dC : Nat → ClassId) (dI : Nat → Nat → Nat) (cy : Nat → ClassId) (sz : Nat) (h0 : Nat) : Met l yX2_init wsX2_init ({ frames := 1, cells := 0, slots := 0, locals := 64 }) (va_Pc [.ref h0] (ex_Pre dC dI cy sz [(h0, .inr (2, [.int 0, .int 0, .int 0]))])) (va_Qv (fun (u : Unit) => True) (fun u t => ex_Pst dC dI (va_A [(h0, .inr (2, [.int 0, .int 0, .int 0]))] sz) ([(h0, .inr (2, [.int 0, .int 0, .int 0]))]) t) (va_A [(h0, .inr (2, [.int 0, .int 0, .int 0]))] sz)) 0 0 (va_A [(h0, .inr (2, [.int 0, .int 0, .int 0]))] sz) := by
  refine Met.ofW (cc := cX2_init) (maxL := 1) (ret := none) (by decide) rfl ?_
  intro p e s m args below meth c s₁ B hml hv
  obtain ⟨rfl, hsz, hE, hP, hK, hD0⟩ := hv
  have hx := B.exec
  have hb := B.bytes
  have hr := B.returns
  have hts := atoms_spec (ws := wsX2_init) B.pre
  have hown : s.vm.findClass RX2 = some m.cls := findClass_of_methodNamed B.named
  have hlocks := B.notSynchronized
  have hin : meth.name = "<init>" := (name_of_methodNamed B.named B.method).1
  subst hsz
  have hD := hD0.self (sz := s.heap.size)
  generalize hAe : va_A [(h0, .inr (2, [.int 0, .int 0, .int 0]))] s.heap.size = A at hD ⊢
  have hA : ∀ q : Nat, s.heap.size ≤ q → A q := fun q h => by rw [← hAe]; exact Or.inr h
  have hS : va_S A s.heap s.heap [] := va_S.rf
  have hP : va_P (dC, dI) vwCl [(h0, .inr (2, [.int 0, .int 0, .int 0]))] s.heap := hP
  have hl := lv_entry ([.ref h0]) (n := 1) (Nat.le_of_ble_eq_true rfl)
  rw [lg_entry_eq]
  generalize (lg_sl ([.ref h0]) ++ List.replicate (1 - (lg_sl ([.ref h0])).length) Slot.unset).toArray = ls at hl ⊢
  have hl : lv_has ls 1 [(0, .ref h0)] := hl
  refine lv_aload_n hx hb dX2_init_0 rfl (lv_at hl 0 rfl) ?_
  refine W.objInit hx hb hown (hts (.methodLink RX2 1 objectInit) (by decide +kernel)) (hts (.instanceMethod objectInit) (by decide +kernel)) (hts (.code objectInit ⟨#[0xb1]⟩ 1 none) (by decide +kernel)) rfl (by rw [hml]; exact hl.1) rfl dX2_init_1 (Nat.le_of_ble_eq_true rfl) (Nat.le_of_ble_eq_true rfl) ?_
  refine W.eq (g2 := F0 m 4 ls []) rfl ?_
  have hP9 := hP.sub (ws' := [(h0, .inr (2, [.int 0, .int 0, .int 0]))]) [0] rfl
  have hD9 := hD.sub (ws' := [(h0, .inr (2, [.int 0, .int 0, .int 0]))]) [0] (by decide) rfl
  exact W.vret hx hb hr (fun t ht hW => ⟨⟨(), rfl, trivial, by rw [ht]; exact hP9, hD9⟩, hS.F ht⟩) hS.2.2 dX2_init_4

set_option maxHeartbeats 4000000 in
set_option maxRecDepth 100000 in
theorem c_X0_init (l : Launch) (dC : Nat → ClassId) (dI : Nat → Nat → Nat) (cy : Nat → ClassId) (sz : Nat) (h0 : Nat) : Met l yX0_init wsX0_init ({ frames := 2, cells := 14, slots := 96, locals := 128 }) (va_Pc [.ref h0] (ex_Pre dC dI cy sz [(h0, .inr (0, [.int 0, .int 0, .int 0, .int 0, .int 0, .int 0, .null, .null, .null, .null, .null]))])) (va_Qv (fun (u : List Value) => True) (fun u t => ex_Pst dC dI (va_A [(h0, .inr (0, [.int 0, .int 0, .int 0, .int 0, .int 0, .int 0, .null, .null, .null, .null, .null]))] sz) ([(h0, .inr (0, u))]) t) (va_A [(h0, .inr (0, [.int 0, .int 0, .int 0, .int 0, .int 0, .int 0, .null, .null, .null, .null, .null]))] sz)) 14 96 (va_A [(h0, .inr (0, [.int 0, .int 0, .int 0, .int 0, .int 0, .int 0, .null, .null, .null, .null, .null]))] sz) := by
  refine Met.ofW (cc := cX0_init) (maxL := 2) (ret := none) (by decide) rfl ?_
  intro p e s m args below meth c s₁ B hml hv
  obtain ⟨rfl, hsz, hE, hP, hK, hD0⟩ := hv
  have hx := B.exec
  have hb := B.bytes
  have hr := B.returns
  have hts := atoms_spec (ws := wsX0_init) B.pre
  have hown : s.vm.findClass RX0 = some m.cls := findClass_of_methodNamed B.named
  have hlocks := B.notSynchronized
  have hin : meth.name = "<init>" := (name_of_methodNamed B.named B.method).1
  subst hsz
  have hD := hD0.self (sz := s.heap.size)
  generalize hAe : va_A [(h0, .inr (0, [.int 0, .int 0, .int 0, .int 0, .int 0, .int 0, .null, .null, .null, .null, .null]))] s.heap.size = A at hD ⊢
  have hA : ∀ q : Nat, s.heap.size ≤ q → A q := fun q h => by rw [← hAe]; exact Or.inr h
  have hS : va_S A s.heap s.heap [] := va_S.rf
  have hP : va_P (dC, dI) vwCl [(h0, .inr (0, [.int 0, .int 0, .int 0, .int 0, .int 0, .int 0, .null, .null, .null, .null, .null]))] s.heap := hP
  have hl := lv_entry ([.ref h0]) (n := 2) (Nat.le_of_ble_eq_true rfl)
  rw [lg_entry_eq]
  generalize (lg_sl ([.ref h0]) ++ List.replicate (2 - (lg_sl ([.ref h0])).length) Slot.unset).toArray = ls at hl ⊢
  have hl : lv_has ls 2 [(0, .ref h0)] := hl
  refine lv_aload_n hx hb dX0_init_0 rfl (lv_at hl 0 rfl) ?_
  refine W.objInit hx hb hown (hts (.methodLink RX0 3 objectInit) (by decide +kernel)) (hts (.instanceMethod objectInit) (by decide +kernel)) (hts (.code objectInit ⟨#[0xb1]⟩ 1 none) (by decide +kernel)) rfl (by rw [hml]; exact hl.1) rfl dX0_init_1 (Nat.le_of_ble_eq_true rfl) (Nat.le_of_ble_eq_true rfl) ?_
  refine W.eq (g2 := F0 m 4 ls []) rfl ?_
  refine lv_aload_n hx hb dX0_init_4 rfl (lv_at hl 0 rfl) ?_
  refine lv_iconst (v := 2) hx hb dX0_init_5 (by decide) ?_
  refine yn_i hx hb (hts (.arrayClass .int) (by decide +kernel)) hK hP hD hS hA 2 (by decide) (by decide) (by decide) (Nat.le_of_ble_eq_true rfl) (Nat.le_of_ble_eq_true rfl) dX0_init_6 (fun q1 H hP hD hS => ?_)
  have hP : va_P (dC, dI) vwCl [(h0, .inr (0, [.int 0, .int 0, .int 0, .int 0, .int 0, .int 0, .null, .null, .null, .null, .null])), (q1, .inl (cy 0, 2, .inl (fun _ => 0)))] H := hP
  have hD : va_D A [(h0, .inr (0, [.int 0, .int 0, .int 0, .int 0, .int 0, .int 0, .null, .null, .null, .null, .null])), (q1, .inl (cy 0, 2, .inl (fun _ => 0)))] := hD
  refine W.widen (k := 1) (n := 2) (by omega) (by omega) ?_
  refine va_putF (D := (dC, dI)) (ci := 0) (v := .ref q1) (ty := .array .int) (C := RX0) (T := TX0) (N := 11) hx hb hts (by decide +kernel) tyX0 tyX0_ok nmX0 hown hK hP hD hS 0 rfl rfl 6 (by decide) (hts (.fieldLink RX0 9 "QuietStairs$Case" "parties" "[I") (by decide +kernel)) (fun _ h9 => h9) rfl hin rfl (by decide +kernel) rfl rfl (Nat.le_of_ble_eq_true rfl) dX0_init_8 (fun H locs hP hD hS => ?_)
  have hP : va_P (dC, dI) vwCl [(h0, .inr (0, [.int 0, .int 0, .int 0, .int 0, .int 0, .int 0, .ref q1, .null, .null, .null, .null])), (q1, .inl (cy 0, 2, .inl (fun _ => 0)))] H := hP
  have hD : va_D A [(h0, .inr (0, [.int 0, .int 0, .int 0, .int 0, .int 0, .int 0, .ref q1, .null, .null, .null, .null])), (q1, .inl (cy 0, 2, .inl (fun _ => 0)))] := hD
  have hP := hP.sub (ws' := [(h0, .inr (0, [.int 0, .int 0, .int 0, .int 0, .int 0, .int 0, .ref q1, .null, .null, .null, .null]))]) [0] rfl
  have hD := hD.sub (ws' := [(h0, .inr (0, [.int 0, .int 0, .int 0, .int 0, .int 0, .int 0, .ref q1, .null, .null, .null, .null]))]) [0] (by decide) rfl
  refine lv_aload_n hx hb dX0_init_11 rfl (lv_at hl 0 rfl) ?_
  refine lv_iconst (v := 2) hx hb dX0_init_12 (by decide) ?_
  refine yn_i hx hb (hts (.arrayClass .int) (by decide +kernel)) hK hP hD hS hA 2 (by decide) (by decide) (by decide) (Nat.le_of_ble_eq_true rfl) (Nat.le_of_ble_eq_true rfl) dX0_init_13 (fun q2 H hP hD hS => ?_)
  have hP : va_P (dC, dI) vwCl [(h0, .inr (0, [.int 0, .int 0, .int 0, .int 0, .int 0, .int 0, .ref q1, .null, .null, .null, .null])), (q2, .inl (cy 0, 2, .inl (fun _ => 0)))] H := hP
  have hD : va_D A [(h0, .inr (0, [.int 0, .int 0, .int 0, .int 0, .int 0, .int 0, .ref q1, .null, .null, .null, .null])), (q2, .inl (cy 0, 2, .inl (fun _ => 0)))] := hD
  refine W.widen (k := 2) (n := 4) (by omega) (by omega) ?_
  refine va_putF (D := (dC, dI)) (ci := 0) (v := .ref q2) (ty := .array .int) (C := RX0) (T := TX0) (N := 11) hx hb hts (by decide +kernel) tyX0 tyX0_ok nmX0 hown hK hP hD hS 0 rfl rfl 7 (by decide) (hts (.fieldLink RX0 15 "QuietStairs$Case" "box" "[I") (by decide +kernel)) (fun _ h9 => h9) rfl hin rfl (by decide +kernel) rfl rfl (Nat.le_of_ble_eq_true rfl) dX0_init_15 (fun H locs hP hD hS => ?_)
  have hP : va_P (dC, dI) vwCl [(h0, .inr (0, [.int 0, .int 0, .int 0, .int 0, .int 0, .int 0, .ref q1, .ref q2, .null, .null, .null])), (q2, .inl (cy 0, 2, .inl (fun _ => 0)))] H := hP
  have hD : va_D A [(h0, .inr (0, [.int 0, .int 0, .int 0, .int 0, .int 0, .int 0, .ref q1, .ref q2, .null, .null, .null])), (q2, .inl (cy 0, 2, .inl (fun _ => 0)))] := hD
  have hP := hP.sub (ws' := [(h0, .inr (0, [.int 0, .int 0, .int 0, .int 0, .int 0, .int 0, .ref q1, .ref q2, .null, .null, .null]))]) [0] rfl
  have hD := hD.sub (ws' := [(h0, .inr (0, [.int 0, .int 0, .int 0, .int 0, .int 0, .int 0, .ref q1, .ref q2, .null, .null, .null]))]) [0] (by decide) rfl
  refine lv_aload_n hx hb dX0_init_18 rfl (lv_at hl 0 rfl) ?_
  refine lv_iconst (v := 2) hx hb dX0_init_19 (by decide) ?_
  refine lv_iconst (v := 5) hx hb dX0_init_20 (by decide) ?_
  refine yn_m hx hb hown (hts (.classLink RX0 18 "[[I") (by decide +kernel)) hE.2.2.2.2.2.2.2.2.2 (hts (.arrayClass .int) (by decide +kernel)) hK hP hD hS hA 5 (by decide) (by decide) (by decide) (Nat.le_of_ble_eq_true rfl) (Nat.le_of_ble_eq_true rfl) dX0_init_21 (fun q3 H locs hP hD hS => ?_)
  have hP : va_P (dC, dI) vwCl [(h0, .inr (0, [.int 0, .int 0, .int 0, .int 0, .int 0, .int 0, .ref q1, .ref q2, .null, .null, .null])), (q3, .inl (cy 5, 2, .inr (.inr (.inr (.inr (fun i => if i < 2 then some (q3 + 1 + i) else none)))))), (q3 + 1, .inl (cy 0, 5, .inl (fun _ => 0))), (q3 + 2, .inl (cy 0, 5, .inl (fun _ => 0)))] H := hP
  have hD : va_D A [(h0, .inr (0, [.int 0, .int 0, .int 0, .int 0, .int 0, .int 0, .ref q1, .ref q2, .null, .null, .null])), (q3, .inl (cy 5, 2, .inr (.inr (.inr (.inr (fun i => if i < 2 then some (q3 + 1 + i) else none)))))), (q3 + 1, .inl (cy 0, 5, .inl (fun _ => 0))), (q3 + 2, .inl (cy 0, 5, .inl (fun _ => 0)))] := hD
  refine W.widen (k := 5) (n := 16) (by omega) (by omega) ?_
  refine va_putF (D := (dC, dI)) (ci := 0) (v := .ref q3) (ty := .array (.array .int)) (C := RX0) (T := TX0) (N := 11) hx hb hts (by decide +kernel) tyX0 tyX0_ok nmX0 hown hK hP hD hS 0 rfl rfl 8 (by decide) (hts (.fieldLink RX0 20 "QuietStairs$Case" "offers" "[[I") (by decide +kernel)) (fun _ h9 => h9) rfl hin rfl (by decide +kernel) rfl rfl (Nat.le_of_ble_eq_true rfl) dX0_init_25 (fun H locs hP hD hS => ?_)
  have hP : va_P (dC, dI) vwCl [(h0, .inr (0, [.int 0, .int 0, .int 0, .int 0, .int 0, .int 0, .ref q1, .ref q2, .ref q3, .null, .null])), (q3, .inl (cy 5, 2, .inr (.inr (.inr (.inr (fun i => if i < 2 then some (q3 + 1 + i) else none)))))), (q3 + 1, .inl (cy 0, 5, .inl (fun _ => 0))), (q3 + 2, .inl (cy 0, 5, .inl (fun _ => 0)))] H := hP
  have hD : va_D A [(h0, .inr (0, [.int 0, .int 0, .int 0, .int 0, .int 0, .int 0, .ref q1, .ref q2, .ref q3, .null, .null])), (q3, .inl (cy 5, 2, .inr (.inr (.inr (.inr (fun i => if i < 2 then some (q3 + 1 + i) else none)))))), (q3 + 1, .inl (cy 0, 5, .inl (fun _ => 0))), (q3 + 2, .inl (cy 0, 5, .inl (fun _ => 0)))] := hD
  have hP := hP.sub (ws' := [(h0, .inr (0, [.int 0, .int 0, .int 0, .int 0, .int 0, .int 0, .ref q1, .ref q2, .ref q3, .null, .null]))]) [0] rfl
  have hD := hD.sub (ws' := [(h0, .inr (0, [.int 0, .int 0, .int 0, .int 0, .int 0, .int 0, .ref q1, .ref q2, .ref q3, .null, .null]))]) [0] (by decide) rfl
  refine lv_aload_n hx hb dX0_init_28 rfl (lv_at hl 0 rfl) ?_
  refine lv_iconst (v := 2) hx hb dX0_init_29 (by decide) ?_
  refine lv_bipush (v := 24) hx hb dX0_init_30 (by decide) ?_
  refine yn_m hx hb hown (hts (.classLink RX0 18 "[[I") (by decide +kernel)) hE.2.2.2.2.2.2.2.2.2 (hts (.arrayClass .int) (by decide +kernel)) hK hP hD hS hA 24 (by decide) (by decide) (by decide) (Nat.le_of_ble_eq_true rfl) (Nat.le_of_ble_eq_true rfl) dX0_init_32 (fun q4 H locs hP hD hS => ?_)
  have hP : va_P (dC, dI) vwCl [(h0, .inr (0, [.int 0, .int 0, .int 0, .int 0, .int 0, .int 0, .ref q1, .ref q2, .ref q3, .null, .null])), (q4, .inl (cy 5, 2, .inr (.inr (.inr (.inr (fun i => if i < 2 then some (q4 + 1 + i) else none)))))), (q4 + 1, .inl (cy 0, 24, .inl (fun _ => 0))), (q4 + 2, .inl (cy 0, 24, .inl (fun _ => 0)))] H := hP
  have hD : va_D A [(h0, .inr (0, [.int 0, .int 0, .int 0, .int 0, .int 0, .int 0, .ref q1, .ref q2, .ref q3, .null, .null])), (q4, .inl (cy 5, 2, .inr (.inr (.inr (.inr (fun i => if i < 2 then some (q4 + 1 + i) else none)))))), (q4 + 1, .inl (cy 0, 24, .inl (fun _ => 0))), (q4 + 2, .inl (cy 0, 24, .inl (fun _ => 0)))] := hD
  refine W.widen (k := 8) (n := 66) (by omega) (by omega) ?_
  refine va_putF (D := (dC, dI)) (ci := 0) (v := .ref q4) (ty := .array (.array .int)) (C := RX0) (T := TX0) (N := 11) hx hb hts (by decide +kernel) tyX0 tyX0_ok nmX0 hown hK hP hD hS 0 rfl rfl 9 (by decide) (hts (.fieldLink RX0 23 "QuietStairs$Case" "logs" "[[I") (by decide +kernel)) (fun _ h9 => h9) rfl hin rfl (by decide +kernel) rfl rfl (Nat.le_of_ble_eq_true rfl) dX0_init_36 (fun H locs hP hD hS => ?_)
  have hP : va_P (dC, dI) vwCl [(h0, .inr (0, [.int 0, .int 0, .int 0, .int 0, .int 0, .int 0, .ref q1, .ref q2, .ref q3, .ref q4, .null])), (q4, .inl (cy 5, 2, .inr (.inr (.inr (.inr (fun i => if i < 2 then some (q4 + 1 + i) else none)))))), (q4 + 1, .inl (cy 0, 24, .inl (fun _ => 0))), (q4 + 2, .inl (cy 0, 24, .inl (fun _ => 0)))] H := hP
  have hD : va_D A [(h0, .inr (0, [.int 0, .int 0, .int 0, .int 0, .int 0, .int 0, .ref q1, .ref q2, .ref q3, .ref q4, .null])), (q4, .inl (cy 5, 2, .inr (.inr (.inr (.inr (fun i => if i < 2 then some (q4 + 1 + i) else none)))))), (q4 + 1, .inl (cy 0, 24, .inl (fun _ => 0))), (q4 + 2, .inl (cy 0, 24, .inl (fun _ => 0)))] := hD
  have hP := hP.sub (ws' := [(h0, .inr (0, [.int 0, .int 0, .int 0, .int 0, .int 0, .int 0, .ref q1, .ref q2, .ref q3, .ref q4, .null]))]) [0] rfl
  have hD := hD.sub (ws' := [(h0, .inr (0, [.int 0, .int 0, .int 0, .int 0, .int 0, .int 0, .ref q1, .ref q2, .ref q3, .ref q4, .null]))]) [0] (by decide) rfl
  refine lv_aload_n hx hb dX0_init_39 rfl (lv_at hl 0 rfl) ?_
  refine lv_iconst (v := 5) hx hb dX0_init_40 (by decide) ?_
  refine yn_q hx hb hown (hts (.classLink RX0 26 RX6) (by decide +kernel)) hE.2.2.2.2.2.2.2.2.1 hK hP hD hS hA 5 4 rfl (by decide) (by decide) (by decide) (Nat.le_of_ble_eq_true rfl) (Nat.le_of_ble_eq_true rfl) dX0_init_41 (fun q5 H hP hD hS => ?_)
  have hP : va_P (dC, dI) vwCl [(h0, .inr (0, [.int 0, .int 0, .int 0, .int 0, .int 0, .int 0, .ref q1, .ref q2, .ref q3, .ref q4, .null])), (q5, .inl (cy 4, 5, .inr (.inr (.inr (.inr (fun _ => none))))))] H := hP
  have hD : va_D A [(h0, .inr (0, [.int 0, .int 0, .int 0, .int 0, .int 0, .int 0, .ref q1, .ref q2, .ref q3, .ref q4, .null])), (q5, .inl (cy 4, 5, .inr (.inr (.inr (.inr (fun _ => none))))))] := hD
  refine W.widen (k := 9) (n := 71) (by omega) (by omega) ?_
  refine va_putF (D := (dC, dI)) (ci := 0) (v := .ref q5) (ty := .array (.object "QuietStairs$Term")) (C := RX0) (T := TX0) (N := 11) hx hb hts (by decide +kernel) tyX0 tyX0_ok nmX0 hown hK hP hD hS 0 rfl rfl 10 (by decide) (hts (.fieldLink RX0 28 "QuietStairs$Case" "terms" "[LQuietStairs$Term;") (by decide +kernel)) (fun _ h9 => h9) rfl hin rfl (by decide +kernel) rfl rfl (Nat.le_of_ble_eq_true rfl) dX0_init_44 (fun H locs hP hD hS => ?_)
  have hP : va_P (dC, dI) vwCl [(h0, .inr (0, [.int 0, .int 0, .int 0, .int 0, .int 0, .int 0, .ref q1, .ref q2, .ref q3, .ref q4, .ref q5])), (q5, .inl (cy 4, 5, .inr (.inr (.inr (.inr (fun _ => none))))))] H := hP
  have hD : va_D A [(h0, .inr (0, [.int 0, .int 0, .int 0, .int 0, .int 0, .int 0, .ref q1, .ref q2, .ref q3, .ref q4, .ref q5])), (q5, .inl (cy 4, 5, .inr (.inr (.inr (.inr (fun _ => none))))))] := hD
  refine lv_iconst (v := 0) hx hb dX0_init_47 (by decide) ?_
  refine lv_istore_n (lv' := [(1, .int 0), (0, .ref h0)]) hx hb dX0_init_48 rfl hl (by decide) rfl (fun ls hl => ?_)
  refine lv_iload_n hx hb dX0_init_49 rfl (lv_at hl 0 rfl) ?_
  refine lv_iconst (v := 5) hx hb dX0_init_50 (by decide) ?_
  refine lv_icmp_ge (tgt := 73) hx hb dX0_init_51 (by decide) (fun c9 => absurd c9 (by decide)) (fun _ => ?_)
  refine lv_aload_n hx hb dX0_init_54 rfl (lv_at hl 1 rfl) ?_
  refine va_get (D := (dC, dI)) (ci := 0) (v := .ref q5) (C := RX0) (T := TX0) (N := 11) hx hb hts (by decide +kernel) hown hK hP 0 rfl rfl 10 (by decide) (hts (.fieldLink RX0 28 "QuietStairs$Case" "terms" "[LQuietStairs$Term;") (by decide +kernel)) (fun _ h9 => h9) rfl dX0_init_55 ?_
  refine lv_iload_n hx hb dX0_init_58 rfl (lv_at hl 0 rfl) ?_
  refine va_new (ci := 6) (fs := [.int 0, .int 0, .int 0, .int 0, .int 0]) (C := RX6) (T := TX6) (N := 5) hx hb hts (by decide +kernel) tyX6 tyX6_ok hown (hts (.classLink RX0 26 RX6) (by decide +kernel)) (hts (.instantiable RX6 5) (by decide +kernel)) (hts (.initialized RX6) (by decide +kernel)) hK hP hD hS hA rfl (fun j hj => by rcases (show j = 0 ∨ j = 1 ∨ j = 2 ∨ j = 3 ∨ j = 4 by omega) with rfl | rfl | rfl | rfl | rfl <;> rfl) (Nat.le_of_ble_eq_true rfl) (Nat.le_of_ble_eq_true rfl) dX0_init_59 (fun q6 H hP hD hS => ?_)
  have hP : va_P (dC, dI) vwCl [(h0, .inr (0, [.int 0, .int 0, .int 0, .int 0, .int 0, .int 0, .ref q1, .ref q2, .ref q3, .ref q4, .ref q5])), (q5, .inl (cy 4, 5, .inr (.inr (.inr (.inr (fun _ => none)))))), (q6, .inr (6, [.int 0, .int 0, .int 0, .int 0, .int 0]))] H := hP
  have hD : va_D A [(h0, .inr (0, [.int 0, .int 0, .int 0, .int 0, .int 0, .int 0, .ref q1, .ref q2, .ref q3, .ref q4, .ref q5])), (q5, .inl (cy 4, 5, .inr (.inr (.inr (.inr (fun _ => none)))))), (q6, .inr (6, [.int 0, .int 0, .int 0, .int 0, .int 0]))] := hD
  refine W.widen (k := 10) (n := 76) (by omega) (by omega) ?_
  refine lv_dup hx hb dX0_init_62 rfl ?_
  refine yc_v (wc := [(q6, .inr (6, [.int 0, .int 0, .int 0, .int 0, .int 0]))]) (wr := [(h0, .inr (0, [.int 0, .int 0, .int 0, .int 0, .int 0, .int 0, .ref q1, .ref q2, .ref q3, .ref q4, .ref q5])), (q5, .inl (cy 4, 5, .inr (.inr (.inr (.inr (fun _ => none))))))]) (w1 := fun _ => [(q6, .inr (6, [.int 0, .int 0, .int 0, .int 0, .int 0]))]) hP hD hS hA [2] [0, 1] rfl rfl (by decide) (by decide) (va_runIN (As := []) (rest := [.ref q6, .int 0, .ref q5]) ⟨hx, hb, hml, hown, hts⟩ (c_X6_init l dC dI cy _ q6) ⟨va_cnB 0 hts gX0_init_X6_init_n32 rfl rfl rfl hE.2.2.1 (hts (.initialized RX6) (by decide +kernel)) (by decide +kernel) ⟨Nat.le_of_ble_eq_true rfl, Nat.le_of_ble_eq_true rfl⟩, rfl, (hts (.instanceMethod yX6_init) (by decide +kernel))⟩ (ex_preS hE hK hP hD [2] (by decide) rfl) rfl rfl hl.1 rfl (lv_room (Nat.le_of_ble_eq_true rfl)) dX0_init_63 ⟨Nat.le_of_ble_eq_true rfl, Nat.le_of_ble_eq_true rfl⟩) (fun u_1 H locs hw_1 hP hD hS => ?_)
  have hP : va_P (dC, dI) vwCl [(h0, .inr (0, [.int 0, .int 0, .int 0, .int 0, .int 0, .int 0, .ref q1, .ref q2, .ref q3, .ref q4, .ref q5])), (q5, .inl (cy 4, 5, .inr (.inr (.inr (.inr (fun _ => none)))))), (q6, .inr (6, [.int 0, .int 0, .int 0, .int 0, .int 0]))] H := hP
  have hD : va_D A [(h0, .inr (0, [.int 0, .int 0, .int 0, .int 0, .int 0, .int 0, .ref q1, .ref q2, .ref q3, .ref q4, .ref q5])), (q5, .inl (cy 4, 5, .inr (.inr (.inr (.inr (fun _ => none)))))), (q6, .inr (6, [.int 0, .int 0, .int 0, .int 0, .int 0]))] := hD
  refine va_astq hx hb hK hP hD hS 1 4 2 6 rfl rfl rfl rfl (by unfold vp_in; decide) dX0_init_66 (fun H locs hP hD hS => ?_)
  obtain ⟨f_2, ef_2⟩ : ∃ f9 : Nat → Option Nat, f9 = va_up (fun _ => none) (0 : Int32).toNatClampNeg (some q6) := ⟨_, rfl⟩
  rw [← ef_2] at hP hD
  have hP : va_P (dC, dI) vwCl [(h0, .inr (0, [.int 0, .int 0, .int 0, .int 0, .int 0, .int 0, .ref q1, .ref q2, .ref q3, .ref q4, .ref q5])), (q5, .inl (cy 4, 5, .inr (.inr (.inr (.inr f_2))))), (q6, .inr (6, [.int 0, .int 0, .int 0, .int 0, .int 0]))] H := hP
  have hD : va_D A [(h0, .inr (0, [.int 0, .int 0, .int 0, .int 0, .int 0, .int 0, .ref q1, .ref q2, .ref q3, .ref q4, .ref q5])), (q5, .inl (cy 4, 5, .inr (.inr (.inr (.inr f_2))))), (q6, .inr (6, [.int 0, .int 0, .int 0, .int 0, .int 0]))] := hD
  have hP := hP.sub (ws' := [(h0, .inr (0, [.int 0, .int 0, .int 0, .int 0, .int 0, .int 0, .ref q1, .ref q2, .ref q3, .ref q4, .ref q5])), (q5, .inl (cy 4, 5, .inr (.inr (.inr (.inr f_2)))))]) [0, 1] rfl
  have hD := hD.sub (ws' := [(h0, .inr (0, [.int 0, .int 0, .int 0, .int 0, .int 0, .int 0, .ref q1, .ref q2, .ref q3, .ref q4, .ref q5])), (q5, .inl (cy 4, 5, .inr (.inr (.inr (.inr f_2)))))]) [0, 1] (by decide) rfl
  refine lv_iinc (v := 1) (lv' := [(1, .int 1), (0, .ref h0)]) hx hb dX0_init_67 hl (k := 0) rfl (by decide) (by decide) rfl (fun ls hl => ?_)
  refine lv_goto (tgt := 49) hx hb dX0_init_70 (by decide) ?_
  refine lv_iload_n hx hb dX0_init_49 rfl (lv_at hl 0 rfl) ?_
  refine lv_iconst (v := 5) hx hb dX0_init_50 (by decide) ?_
  refine lv_icmp_ge (tgt := 73) hx hb dX0_init_51 (by decide) (fun c9 => absurd c9 (by decide)) (fun _ => ?_)
  refine lv_aload_n hx hb dX0_init_54 rfl (lv_at hl 1 rfl) ?_
  refine va_get (D := (dC, dI)) (ci := 0) (v := .ref q5) (C := RX0) (T := TX0) (N := 11) hx hb hts (by decide +kernel) hown hK hP 0 rfl rfl 10 (by decide) (hts (.fieldLink RX0 28 "QuietStairs$Case" "terms" "[LQuietStairs$Term;") (by decide +kernel)) (fun _ h9 => h9) rfl dX0_init_55 ?_
  refine lv_iload_n hx hb dX0_init_58 rfl (lv_at hl 0 rfl) ?_
  refine va_new (ci := 6) (fs := [.int 0, .int 0, .int 0, .int 0, .int 0]) (C := RX6) (T := TX6) (N := 5) hx hb hts (by decide +kernel) tyX6 tyX6_ok hown (hts (.classLink RX0 26 RX6) (by decide +kernel)) (hts (.instantiable RX6 5) (by decide +kernel)) (hts (.initialized RX6) (by decide +kernel)) hK hP hD hS hA rfl (fun j hj => by rcases (show j = 0 ∨ j = 1 ∨ j = 2 ∨ j = 3 ∨ j = 4 by omega) with rfl | rfl | rfl | rfl | rfl <;> rfl) (Nat.le_of_ble_eq_true rfl) (Nat.le_of_ble_eq_true rfl) dX0_init_59 (fun q8 H hP hD hS => ?_)
  have hP : va_P (dC, dI) vwCl [(h0, .inr (0, [.int 0, .int 0, .int 0, .int 0, .int 0, .int 0, .ref q1, .ref q2, .ref q3, .ref q4, .ref q5])), (q5, .inl (cy 4, 5, .inr (.inr (.inr (.inr f_2))))), (q8, .inr (6, [.int 0, .int 0, .int 0, .int 0, .int 0]))] H := hP
  have hD : va_D A [(h0, .inr (0, [.int 0, .int 0, .int 0, .int 0, .int 0, .int 0, .ref q1, .ref q2, .ref q3, .ref q4, .ref q5])), (q5, .inl (cy 4, 5, .inr (.inr (.inr (.inr f_2))))), (q8, .inr (6, [.int 0, .int 0, .int 0, .int 0, .int 0]))] := hD
  refine W.widen (k := 11) (n := 81) (by omega) (by omega) ?_
  refine lv_dup hx hb dX0_init_62 rfl ?_
  refine yc_v (wc := [(q8, .inr (6, [.int 0, .int 0, .int 0, .int 0, .int 0]))]) (wr := [(h0, .inr (0, [.int 0, .int 0, .int 0, .int 0, .int 0, .int 0, .ref q1, .ref q2, .ref q3, .ref q4, .ref q5])), (q5, .inl (cy 4, 5, .inr (.inr (.inr (.inr f_2)))))]) (w1 := fun _ => [(q8, .inr (6, [.int 0, .int 0, .int 0, .int 0, .int 0]))]) hP hD hS hA [2] [0, 1] rfl rfl (by decide) (by decide) (va_runIN (As := []) (rest := [.ref q8, .int 1, .ref q5]) ⟨hx, hb, hml, hown, hts⟩ (c_X6_init l dC dI cy _ q8) ⟨va_cnB 0 hts gX0_init_X6_init_n32 rfl rfl rfl hE.2.2.1 (hts (.initialized RX6) (by decide +kernel)) (by decide +kernel) ⟨Nat.le_of_ble_eq_true rfl, Nat.le_of_ble_eq_true rfl⟩, rfl, (hts (.instanceMethod yX6_init) (by decide +kernel))⟩ (ex_preS hE hK hP hD [2] (by decide) rfl) rfl rfl hl.1 rfl (lv_room (Nat.le_of_ble_eq_true rfl)) dX0_init_63 ⟨Nat.le_of_ble_eq_true rfl, Nat.le_of_ble_eq_true rfl⟩) (fun u_3 H locs hw_3 hP hD hS => ?_)
  have hP : va_P (dC, dI) vwCl [(h0, .inr (0, [.int 0, .int 0, .int 0, .int 0, .int 0, .int 0, .ref q1, .ref q2, .ref q3, .ref q4, .ref q5])), (q5, .inl (cy 4, 5, .inr (.inr (.inr (.inr f_2))))), (q8, .inr (6, [.int 0, .int 0, .int 0, .int 0, .int 0]))] H := hP
  have hD : va_D A [(h0, .inr (0, [.int 0, .int 0, .int 0, .int 0, .int 0, .int 0, .ref q1, .ref q2, .ref q3, .ref q4, .ref q5])), (q5, .inl (cy 4, 5, .inr (.inr (.inr (.inr f_2))))), (q8, .inr (6, [.int 0, .int 0, .int 0, .int 0, .int 0]))] := hD
  refine va_astq hx hb hK hP hD hS 1 4 2 6 rfl rfl rfl rfl (by unfold vp_in; decide) dX0_init_66 (fun H locs hP hD hS => ?_)
  obtain ⟨f_4, ef_4⟩ : ∃ f9 : Nat → Option Nat, f9 = va_up f_2 (1 : Int32).toNatClampNeg (some q8) := ⟨_, rfl⟩
  rw [← ef_4] at hP hD
  have hP : va_P (dC, dI) vwCl [(h0, .inr (0, [.int 0, .int 0, .int 0, .int 0, .int 0, .int 0, .ref q1, .ref q2, .ref q3, .ref q4, .ref q5])), (q5, .inl (cy 4, 5, .inr (.inr (.inr (.inr f_4))))), (q8, .inr (6, [.int 0, .int 0, .int 0, .int 0, .int 0]))] H := hP
  have hD : va_D A [(h0, .inr (0, [.int 0, .int 0, .int 0, .int 0, .int 0, .int 0, .ref q1, .ref q2, .ref q3, .ref q4, .ref q5])), (q5, .inl (cy 4, 5, .inr (.inr (.inr (.inr f_4))))), (q8, .inr (6, [.int 0, .int 0, .int 0, .int 0, .int 0]))] := hD
  have hP := hP.sub (ws' := [(h0, .inr (0, [.int 0, .int 0, .int 0, .int 0, .int 0, .int 0, .ref q1, .ref q2, .ref q3, .ref q4, .ref q5])), (q5, .inl (cy 4, 5, .inr (.inr (.inr (.inr f_4)))))]) [0, 1] rfl
  have hD := hD.sub (ws' := [(h0, .inr (0, [.int 0, .int 0, .int 0, .int 0, .int 0, .int 0, .ref q1, .ref q2, .ref q3, .ref q4, .ref q5])), (q5, .inl (cy 4, 5, .inr (.inr (.inr (.inr f_4)))))]) [0, 1] (by decide) rfl
  refine lv_iinc (v := 2) (lv' := [(1, .int 2), (0, .ref h0)]) hx hb dX0_init_67 hl (k := 0) rfl (by decide) (by decide) rfl (fun ls hl => ?_)
  refine lv_goto (tgt := 49) hx hb dX0_init_70 (by decide) ?_
  refine lv_iload_n hx hb dX0_init_49 rfl (lv_at hl 0 rfl) ?_
  refine lv_iconst (v := 5) hx hb dX0_init_50 (by decide) ?_
  refine lv_icmp_ge (tgt := 73) hx hb dX0_init_51 (by decide) (fun c9 => absurd c9 (by decide)) (fun _ => ?_)
  refine lv_aload_n hx hb dX0_init_54 rfl (lv_at hl 1 rfl) ?_
  refine va_get (D := (dC, dI)) (ci := 0) (v := .ref q5) (C := RX0) (T := TX0) (N := 11) hx hb hts (by decide +kernel) hown hK hP 0 rfl rfl 10 (by decide) (hts (.fieldLink RX0 28 "QuietStairs$Case" "terms" "[LQuietStairs$Term;") (by decide +kernel)) (fun _ h9 => h9) rfl dX0_init_55 ?_
  refine lv_iload_n hx hb dX0_init_58 rfl (lv_at hl 0 rfl) ?_
  refine va_new (ci := 6) (fs := [.int 0, .int 0, .int 0, .int 0, .int 0]) (C := RX6) (T := TX6) (N := 5) hx hb hts (by decide +kernel) tyX6 tyX6_ok hown (hts (.classLink RX0 26 RX6) (by decide +kernel)) (hts (.instantiable RX6 5) (by decide +kernel)) (hts (.initialized RX6) (by decide +kernel)) hK hP hD hS hA rfl (fun j hj => by rcases (show j = 0 ∨ j = 1 ∨ j = 2 ∨ j = 3 ∨ j = 4 by omega) with rfl | rfl | rfl | rfl | rfl <;> rfl) (Nat.le_of_ble_eq_true rfl) (Nat.le_of_ble_eq_true rfl) dX0_init_59 (fun q10 H hP hD hS => ?_)
  have hP : va_P (dC, dI) vwCl [(h0, .inr (0, [.int 0, .int 0, .int 0, .int 0, .int 0, .int 0, .ref q1, .ref q2, .ref q3, .ref q4, .ref q5])), (q5, .inl (cy 4, 5, .inr (.inr (.inr (.inr f_4))))), (q10, .inr (6, [.int 0, .int 0, .int 0, .int 0, .int 0]))] H := hP
  have hD : va_D A [(h0, .inr (0, [.int 0, .int 0, .int 0, .int 0, .int 0, .int 0, .ref q1, .ref q2, .ref q3, .ref q4, .ref q5])), (q5, .inl (cy 4, 5, .inr (.inr (.inr (.inr f_4))))), (q10, .inr (6, [.int 0, .int 0, .int 0, .int 0, .int 0]))] := hD
  refine W.widen (k := 12) (n := 86) (by omega) (by omega) ?_
  refine lv_dup hx hb dX0_init_62 rfl ?_
  refine yc_v (wc := [(q10, .inr (6, [.int 0, .int 0, .int 0, .int 0, .int 0]))]) (wr := [(h0, .inr (0, [.int 0, .int 0, .int 0, .int 0, .int 0, .int 0, .ref q1, .ref q2, .ref q3, .ref q4, .ref q5])), (q5, .inl (cy 4, 5, .inr (.inr (.inr (.inr f_4)))))]) (w1 := fun _ => [(q10, .inr (6, [.int 0, .int 0, .int 0, .int 0, .int 0]))]) hP hD hS hA [2] [0, 1] rfl rfl (by decide) (by decide) (va_runIN (As := []) (rest := [.ref q10, .int 2, .ref q5]) ⟨hx, hb, hml, hown, hts⟩ (c_X6_init l dC dI cy _ q10) ⟨va_cnB 0 hts gX0_init_X6_init_n32 rfl rfl rfl hE.2.2.1 (hts (.initialized RX6) (by decide +kernel)) (by decide +kernel) ⟨Nat.le_of_ble_eq_true rfl, Nat.le_of_ble_eq_true rfl⟩, rfl, (hts (.instanceMethod yX6_init) (by decide +kernel))⟩ (ex_preS hE hK hP hD [2] (by decide) rfl) rfl rfl hl.1 rfl (lv_room (Nat.le_of_ble_eq_true rfl)) dX0_init_63 ⟨Nat.le_of_ble_eq_true rfl, Nat.le_of_ble_eq_true rfl⟩) (fun u_5 H locs hw_5 hP hD hS => ?_)
  have hP : va_P (dC, dI) vwCl [(h0, .inr (0, [.int 0, .int 0, .int 0, .int 0, .int 0, .int 0, .ref q1, .ref q2, .ref q3, .ref q4, .ref q5])), (q5, .inl (cy 4, 5, .inr (.inr (.inr (.inr f_4))))), (q10, .inr (6, [.int 0, .int 0, .int 0, .int 0, .int 0]))] H := hP
  have hD : va_D A [(h0, .inr (0, [.int 0, .int 0, .int 0, .int 0, .int 0, .int 0, .ref q1, .ref q2, .ref q3, .ref q4, .ref q5])), (q5, .inl (cy 4, 5, .inr (.inr (.inr (.inr f_4))))), (q10, .inr (6, [.int 0, .int 0, .int 0, .int 0, .int 0]))] := hD
  refine va_astq hx hb hK hP hD hS 1 4 2 6 rfl rfl rfl rfl (by unfold vp_in; decide) dX0_init_66 (fun H locs hP hD hS => ?_)
  obtain ⟨f_6, ef_6⟩ : ∃ f9 : Nat → Option Nat, f9 = va_up f_4 (2 : Int32).toNatClampNeg (some q10) := ⟨_, rfl⟩
  rw [← ef_6] at hP hD
  have hP : va_P (dC, dI) vwCl [(h0, .inr (0, [.int 0, .int 0, .int 0, .int 0, .int 0, .int 0, .ref q1, .ref q2, .ref q3, .ref q4, .ref q5])), (q5, .inl (cy 4, 5, .inr (.inr (.inr (.inr f_6))))), (q10, .inr (6, [.int 0, .int 0, .int 0, .int 0, .int 0]))] H := hP
  have hD : va_D A [(h0, .inr (0, [.int 0, .int 0, .int 0, .int 0, .int 0, .int 0, .ref q1, .ref q2, .ref q3, .ref q4, .ref q5])), (q5, .inl (cy 4, 5, .inr (.inr (.inr (.inr f_6))))), (q10, .inr (6, [.int 0, .int 0, .int 0, .int 0, .int 0]))] := hD
  have hP := hP.sub (ws' := [(h0, .inr (0, [.int 0, .int 0, .int 0, .int 0, .int 0, .int 0, .ref q1, .ref q2, .ref q3, .ref q4, .ref q5])), (q5, .inl (cy 4, 5, .inr (.inr (.inr (.inr f_6)))))]) [0, 1] rfl
  have hD := hD.sub (ws' := [(h0, .inr (0, [.int 0, .int 0, .int 0, .int 0, .int 0, .int 0, .ref q1, .ref q2, .ref q3, .ref q4, .ref q5])), (q5, .inl (cy 4, 5, .inr (.inr (.inr (.inr f_6)))))]) [0, 1] (by decide) rfl
  refine lv_iinc (v := 3) (lv' := [(1, .int 3), (0, .ref h0)]) hx hb dX0_init_67 hl (k := 0) rfl (by decide) (by decide) rfl (fun ls hl => ?_)
  refine lv_goto (tgt := 49) hx hb dX0_init_70 (by decide) ?_
  refine lv_iload_n hx hb dX0_init_49 rfl (lv_at hl 0 rfl) ?_
  refine lv_iconst (v := 5) hx hb dX0_init_50 (by decide) ?_
  refine lv_icmp_ge (tgt := 73) hx hb dX0_init_51 (by decide) (fun c9 => absurd c9 (by decide)) (fun _ => ?_)
  refine lv_aload_n hx hb dX0_init_54 rfl (lv_at hl 1 rfl) ?_
  refine va_get (D := (dC, dI)) (ci := 0) (v := .ref q5) (C := RX0) (T := TX0) (N := 11) hx hb hts (by decide +kernel) hown hK hP 0 rfl rfl 10 (by decide) (hts (.fieldLink RX0 28 "QuietStairs$Case" "terms" "[LQuietStairs$Term;") (by decide +kernel)) (fun _ h9 => h9) rfl dX0_init_55 ?_
  refine lv_iload_n hx hb dX0_init_58 rfl (lv_at hl 0 rfl) ?_
  refine va_new (ci := 6) (fs := [.int 0, .int 0, .int 0, .int 0, .int 0]) (C := RX6) (T := TX6) (N := 5) hx hb hts (by decide +kernel) tyX6 tyX6_ok hown (hts (.classLink RX0 26 RX6) (by decide +kernel)) (hts (.instantiable RX6 5) (by decide +kernel)) (hts (.initialized RX6) (by decide +kernel)) hK hP hD hS hA rfl (fun j hj => by rcases (show j = 0 ∨ j = 1 ∨ j = 2 ∨ j = 3 ∨ j = 4 by omega) with rfl | rfl | rfl | rfl | rfl <;> rfl) (Nat.le_of_ble_eq_true rfl) (Nat.le_of_ble_eq_true rfl) dX0_init_59 (fun q12 H hP hD hS => ?_)
  have hP : va_P (dC, dI) vwCl [(h0, .inr (0, [.int 0, .int 0, .int 0, .int 0, .int 0, .int 0, .ref q1, .ref q2, .ref q3, .ref q4, .ref q5])), (q5, .inl (cy 4, 5, .inr (.inr (.inr (.inr f_6))))), (q12, .inr (6, [.int 0, .int 0, .int 0, .int 0, .int 0]))] H := hP
  have hD : va_D A [(h0, .inr (0, [.int 0, .int 0, .int 0, .int 0, .int 0, .int 0, .ref q1, .ref q2, .ref q3, .ref q4, .ref q5])), (q5, .inl (cy 4, 5, .inr (.inr (.inr (.inr f_6))))), (q12, .inr (6, [.int 0, .int 0, .int 0, .int 0, .int 0]))] := hD
  refine W.widen (k := 13) (n := 91) (by omega) (by omega) ?_
  refine lv_dup hx hb dX0_init_62 rfl ?_
  refine yc_v (wc := [(q12, .inr (6, [.int 0, .int 0, .int 0, .int 0, .int 0]))]) (wr := [(h0, .inr (0, [.int 0, .int 0, .int 0, .int 0, .int 0, .int 0, .ref q1, .ref q2, .ref q3, .ref q4, .ref q5])), (q5, .inl (cy 4, 5, .inr (.inr (.inr (.inr f_6)))))]) (w1 := fun _ => [(q12, .inr (6, [.int 0, .int 0, .int 0, .int 0, .int 0]))]) hP hD hS hA [2] [0, 1] rfl rfl (by decide) (by decide) (va_runIN (As := []) (rest := [.ref q12, .int 3, .ref q5]) ⟨hx, hb, hml, hown, hts⟩ (c_X6_init l dC dI cy _ q12) ⟨va_cnB 0 hts gX0_init_X6_init_n32 rfl rfl rfl hE.2.2.1 (hts (.initialized RX6) (by decide +kernel)) (by decide +kernel) ⟨Nat.le_of_ble_eq_true rfl, Nat.le_of_ble_eq_true rfl⟩, rfl, (hts (.instanceMethod yX6_init) (by decide +kernel))⟩ (ex_preS hE hK hP hD [2] (by decide) rfl) rfl rfl hl.1 rfl (lv_room (Nat.le_of_ble_eq_true rfl)) dX0_init_63 ⟨Nat.le_of_ble_eq_true rfl, Nat.le_of_ble_eq_true rfl⟩) (fun u_7 H locs hw_7 hP hD hS => ?_)
  have hP : va_P (dC, dI) vwCl [(h0, .inr (0, [.int 0, .int 0, .int 0, .int 0, .int 0, .int 0, .ref q1, .ref q2, .ref q3, .ref q4, .ref q5])), (q5, .inl (cy 4, 5, .inr (.inr (.inr (.inr f_6))))), (q12, .inr (6, [.int 0, .int 0, .int 0, .int 0, .int 0]))] H := hP
  have hD : va_D A [(h0, .inr (0, [.int 0, .int 0, .int 0, .int 0, .int 0, .int 0, .ref q1, .ref q2, .ref q3, .ref q4, .ref q5])), (q5, .inl (cy 4, 5, .inr (.inr (.inr (.inr f_6))))), (q12, .inr (6, [.int 0, .int 0, .int 0, .int 0, .int 0]))] := hD
  refine va_astq hx hb hK hP hD hS 1 4 2 6 rfl rfl rfl rfl (by unfold vp_in; decide) dX0_init_66 (fun H locs hP hD hS => ?_)
  obtain ⟨f_8, ef_8⟩ : ∃ f9 : Nat → Option Nat, f9 = va_up f_6 (3 : Int32).toNatClampNeg (some q12) := ⟨_, rfl⟩
  rw [← ef_8] at hP hD
  have hP : va_P (dC, dI) vwCl [(h0, .inr (0, [.int 0, .int 0, .int 0, .int 0, .int 0, .int 0, .ref q1, .ref q2, .ref q3, .ref q4, .ref q5])), (q5, .inl (cy 4, 5, .inr (.inr (.inr (.inr f_8))))), (q12, .inr (6, [.int 0, .int 0, .int 0, .int 0, .int 0]))] H := hP
  have hD : va_D A [(h0, .inr (0, [.int 0, .int 0, .int 0, .int 0, .int 0, .int 0, .ref q1, .ref q2, .ref q3, .ref q4, .ref q5])), (q5, .inl (cy 4, 5, .inr (.inr (.inr (.inr f_8))))), (q12, .inr (6, [.int 0, .int 0, .int 0, .int 0, .int 0]))] := hD
  have hP := hP.sub (ws' := [(h0, .inr (0, [.int 0, .int 0, .int 0, .int 0, .int 0, .int 0, .ref q1, .ref q2, .ref q3, .ref q4, .ref q5])), (q5, .inl (cy 4, 5, .inr (.inr (.inr (.inr f_8)))))]) [0, 1] rfl
  have hD := hD.sub (ws' := [(h0, .inr (0, [.int 0, .int 0, .int 0, .int 0, .int 0, .int 0, .ref q1, .ref q2, .ref q3, .ref q4, .ref q5])), (q5, .inl (cy 4, 5, .inr (.inr (.inr (.inr f_8)))))]) [0, 1] (by decide) rfl
  refine lv_iinc (v := 4) (lv' := [(1, .int 4), (0, .ref h0)]) hx hb dX0_init_67 hl (k := 0) rfl (by decide) (by decide) rfl (fun ls hl => ?_)
  refine lv_goto (tgt := 49) hx hb dX0_init_70 (by decide) ?_
  refine lv_iload_n hx hb dX0_init_49 rfl (lv_at hl 0 rfl) ?_
  refine lv_iconst (v := 5) hx hb dX0_init_50 (by decide) ?_
  refine lv_icmp_ge (tgt := 73) hx hb dX0_init_51 (by decide) (fun c9 => absurd c9 (by decide)) (fun _ => ?_)
  refine lv_aload_n hx hb dX0_init_54 rfl (lv_at hl 1 rfl) ?_
  refine va_get (D := (dC, dI)) (ci := 0) (v := .ref q5) (C := RX0) (T := TX0) (N := 11) hx hb hts (by decide +kernel) hown hK hP 0 rfl rfl 10 (by decide) (hts (.fieldLink RX0 28 "QuietStairs$Case" "terms" "[LQuietStairs$Term;") (by decide +kernel)) (fun _ h9 => h9) rfl dX0_init_55 ?_
  refine lv_iload_n hx hb dX0_init_58 rfl (lv_at hl 0 rfl) ?_
  refine va_new (ci := 6) (fs := [.int 0, .int 0, .int 0, .int 0, .int 0]) (C := RX6) (T := TX6) (N := 5) hx hb hts (by decide +kernel) tyX6 tyX6_ok hown (hts (.classLink RX0 26 RX6) (by decide +kernel)) (hts (.instantiable RX6 5) (by decide +kernel)) (hts (.initialized RX6) (by decide +kernel)) hK hP hD hS hA rfl (fun j hj => by rcases (show j = 0 ∨ j = 1 ∨ j = 2 ∨ j = 3 ∨ j = 4 by omega) with rfl | rfl | rfl | rfl | rfl <;> rfl) (Nat.le_of_ble_eq_true rfl) (Nat.le_of_ble_eq_true rfl) dX0_init_59 (fun q14 H hP hD hS => ?_)
  have hP : va_P (dC, dI) vwCl [(h0, .inr (0, [.int 0, .int 0, .int 0, .int 0, .int 0, .int 0, .ref q1, .ref q2, .ref q3, .ref q4, .ref q5])), (q5, .inl (cy 4, 5, .inr (.inr (.inr (.inr f_8))))), (q14, .inr (6, [.int 0, .int 0, .int 0, .int 0, .int 0]))] H := hP
  have hD : va_D A [(h0, .inr (0, [.int 0, .int 0, .int 0, .int 0, .int 0, .int 0, .ref q1, .ref q2, .ref q3, .ref q4, .ref q5])), (q5, .inl (cy 4, 5, .inr (.inr (.inr (.inr f_8))))), (q14, .inr (6, [.int 0, .int 0, .int 0, .int 0, .int 0]))] := hD
  refine W.widen (k := 14) (n := 96) (by omega) (by omega) ?_
  refine lv_dup hx hb dX0_init_62 rfl ?_
  refine yc_v (wc := [(q14, .inr (6, [.int 0, .int 0, .int 0, .int 0, .int 0]))]) (wr := [(h0, .inr (0, [.int 0, .int 0, .int 0, .int 0, .int 0, .int 0, .ref q1, .ref q2, .ref q3, .ref q4, .ref q5])), (q5, .inl (cy 4, 5, .inr (.inr (.inr (.inr f_8)))))]) (w1 := fun _ => [(q14, .inr (6, [.int 0, .int 0, .int 0, .int 0, .int 0]))]) hP hD hS hA [2] [0, 1] rfl rfl (by decide) (by decide) (va_runIN (As := []) (rest := [.ref q14, .int 4, .ref q5]) ⟨hx, hb, hml, hown, hts⟩ (c_X6_init l dC dI cy _ q14) ⟨va_cnB 0 hts gX0_init_X6_init_n32 rfl rfl rfl hE.2.2.1 (hts (.initialized RX6) (by decide +kernel)) (by decide +kernel) ⟨Nat.le_of_ble_eq_true rfl, Nat.le_of_ble_eq_true rfl⟩, rfl, (hts (.instanceMethod yX6_init) (by decide +kernel))⟩ (ex_preS hE hK hP hD [2] (by decide) rfl) rfl rfl hl.1 rfl (lv_room (Nat.le_of_ble_eq_true rfl)) dX0_init_63 ⟨Nat.le_of_ble_eq_true rfl, Nat.le_of_ble_eq_true rfl⟩) (fun u_9 H locs hw_9 hP hD hS => ?_)
  have hP : va_P (dC, dI) vwCl [(h0, .inr (0, [.int 0, .int 0, .int 0, .int 0, .int 0, .int 0, .ref q1, .ref q2, .ref q3, .ref q4, .ref q5])), (q5, .inl (cy 4, 5, .inr (.inr (.inr (.inr f_8))))), (q14, .inr (6, [.int 0, .int 0, .int 0, .int 0, .int 0]))] H := hP
  have hD : va_D A [(h0, .inr (0, [.int 0, .int 0, .int 0, .int 0, .int 0, .int 0, .ref q1, .ref q2, .ref q3, .ref q4, .ref q5])), (q5, .inl (cy 4, 5, .inr (.inr (.inr (.inr f_8))))), (q14, .inr (6, [.int 0, .int 0, .int 0, .int 0, .int 0]))] := hD
  refine va_astq hx hb hK hP hD hS 1 4 2 6 rfl rfl rfl rfl (by unfold vp_in; decide) dX0_init_66 (fun H locs hP hD hS => ?_)
  obtain ⟨f_10, ef_10⟩ : ∃ f9 : Nat → Option Nat, f9 = va_up f_8 (4 : Int32).toNatClampNeg (some q14) := ⟨_, rfl⟩
  rw [← ef_10] at hP hD
  have hP : va_P (dC, dI) vwCl [(h0, .inr (0, [.int 0, .int 0, .int 0, .int 0, .int 0, .int 0, .ref q1, .ref q2, .ref q3, .ref q4, .ref q5])), (q5, .inl (cy 4, 5, .inr (.inr (.inr (.inr f_10))))), (q14, .inr (6, [.int 0, .int 0, .int 0, .int 0, .int 0]))] H := hP
  have hD : va_D A [(h0, .inr (0, [.int 0, .int 0, .int 0, .int 0, .int 0, .int 0, .ref q1, .ref q2, .ref q3, .ref q4, .ref q5])), (q5, .inl (cy 4, 5, .inr (.inr (.inr (.inr f_10))))), (q14, .inr (6, [.int 0, .int 0, .int 0, .int 0, .int 0]))] := hD
  have hP := hP.sub (ws' := [(h0, .inr (0, [.int 0, .int 0, .int 0, .int 0, .int 0, .int 0, .ref q1, .ref q2, .ref q3, .ref q4, .ref q5])), (q5, .inl (cy 4, 5, .inr (.inr (.inr (.inr f_10)))))]) [0, 1] rfl
  have hD := hD.sub (ws' := [(h0, .inr (0, [.int 0, .int 0, .int 0, .int 0, .int 0, .int 0, .ref q1, .ref q2, .ref q3, .ref q4, .ref q5])), (q5, .inl (cy 4, 5, .inr (.inr (.inr (.inr f_10)))))]) [0, 1] (by decide) rfl
  refine lv_iinc (v := 5) (lv' := [(1, .int 5), (0, .ref h0)]) hx hb dX0_init_67 hl (k := 0) rfl (by decide) (by decide) rfl (fun ls hl => ?_)
  refine lv_goto (tgt := 49) hx hb dX0_init_70 (by decide) ?_
  refine lv_iload_n hx hb dX0_init_49 rfl (lv_at hl 0 rfl) ?_
  refine lv_iconst (v := 5) hx hb dX0_init_50 (by decide) ?_
  refine lv_icmp_ge (tgt := 73) hx hb dX0_init_51 (by decide) (fun _ => ?_) (fun c9 => absurd c9 (by decide))
  have hP9 := hP.sub (ws' := [(h0, .inr (0, [.int 0, .int 0, .int 0, .int 0, .int 0, .int 0, .ref q1, .ref q2, .ref q3, .ref q4, .ref q5]))]) [0] rfl
  have hD9 := hD.sub (ws' := [(h0, .inr (0, [.int 0, .int 0, .int 0, .int 0, .int 0, .int 0, .ref q1, .ref q2, .ref q3, .ref q4, .ref q5]))]) [0] (by decide) rfl
  exact W.vret hx hb hr (fun t ht hW => ⟨⟨_, rfl, trivial, by rw [ht]; exact hP9, hD9⟩, hS.F ht⟩) hS.2.2 dX0_init_73

set_option maxHeartbeats 4000000 in
set_option maxRecDepth 100000 in
theorem c_X1_init (l : Launch) (dC : Nat → ClassId) (dI : Nat → Nat → Nat) (cy : Nat → ClassId) (sz : Nat) (h0 : Nat) : Met l yX1_init wsX1_init ({ frames := 3, cells := 105, slots := 688, locals := 192 }) (va_Pc [.ref h0] (ex_Pre dC dI cy sz [(h0, .inr (1, [.int 0, .int 0, .int 0, .int 0, .null, .null, .null]))])) (va_Qv (fun (u : Nat × Nat × Nat × Nat × Nat × (Nat → Option Nat) × (Nat → Option Nat)) => u.2.2.2.2.2.1 0 = some u.2.2.2.1 ∧ u.2.2.2.2.2.2 0 = some u.2.2.2.2.1) (fun u t => ex_Pst dC dI (va_A [(h0, .inr (1, [.int 0, .int 0, .int 0, .int 0, .null, .null, .null]))] sz) ([(h0, .inr (1, [.int 0, .int 0, .int 0, .int 0, .ref u.1, .ref u.2.1, .ref u.2.2.1])), (u.1, .inl (cy 1, 8, .inr (.inr (.inr (.inr u.2.2.2.2.2.1))))), (u.2.2.2.1, .inr (3, [.int 0, .int 0])), (u.2.1, .inl (cy 2, 4, .inr (.inr (.inr (.inr u.2.2.2.2.2.2))))), (u.2.2.2.2.1, .inr (2, [.int 0, .int 0, .int 0]))]) t) (va_A [(h0, .inr (1, [.int 0, .int 0, .int 0, .int 0, .null, .null, .null]))] sz)) 105 688 (va_A [(h0, .inr (1, [.int 0, .int 0, .int 0, .int 0, .null, .null, .null]))] sz) := by
  refine Met.ofW (cc := cX1_init) (maxL := 2) (ret := none) (by decide) rfl ?_
  intro p e s m args below meth c s₁ B hml hv
  obtain ⟨rfl, hsz, hE, hP, hK, hD0⟩ := hv
  have hx := B.exec
  have hb := B.bytes
  have hr := B.returns
  have hts := atoms_spec (ws := wsX1_init) B.pre
  have hown : s.vm.findClass RX1 = some m.cls := findClass_of_methodNamed B.named
  have hlocks := B.notSynchronized
  have hin : meth.name = "<init>" := (name_of_methodNamed B.named B.method).1
  subst hsz
  have hD := hD0.self (sz := s.heap.size)
  generalize hAe : va_A [(h0, .inr (1, [.int 0, .int 0, .int 0, .int 0, .null, .null, .null]))] s.heap.size = A at hD ⊢
  have hA : ∀ q : Nat, s.heap.size ≤ q → A q := fun q h => by rw [← hAe]; exact Or.inr h
  have hS : va_S A s.heap s.heap [] := va_S.rf
  have hP : va_P (dC, dI) vwCl [(h0, .inr (1, [.int 0, .int 0, .int 0, .int 0, .null, .null, .null]))] s.heap := hP
  have hl := lv_entry ([.ref h0]) (n := 2) (Nat.le_of_ble_eq_true rfl)
  rw [lg_entry_eq]
  generalize (lg_sl ([.ref h0]) ++ List.replicate (2 - (lg_sl ([.ref h0])).length) Slot.unset).toArray = ls at hl ⊢
  have hl : lv_has ls 2 [(0, .ref h0)] := hl
  refine lv_aload_n hx hb dX1_init_0 rfl (lv_at hl 0 rfl) ?_
  refine W.objInit hx hb hown (hts (.methodLink RX1 3 objectInit) (by decide +kernel)) (hts (.instanceMethod objectInit) (by decide +kernel)) (hts (.code objectInit ⟨#[0xb1]⟩ 1 none) (by decide +kernel)) rfl (by rw [hml]; exact hl.1) rfl dX1_init_1 (Nat.le_of_ble_eq_true rfl) (Nat.le_of_ble_eq_true rfl) ?_
  refine W.eq (g2 := F0 m 4 ls []) rfl ?_
  refine lv_aload_n hx hb dX1_init_4 rfl (lv_at hl 0 rfl) ?_
  refine lv_bipush (v := 8) hx hb dX1_init_5 (by decide) ?_
  refine yn_q hx hb hown (hts (.classLink RX1 9 RX3) (by decide +kernel)) hE.2.2.2.2.2.1 hK hP hD hS hA 8 1 rfl (by decide) (by decide) (by decide) (Nat.le_of_ble_eq_true rfl) (Nat.le_of_ble_eq_true rfl) dX1_init_7 (fun q1 H hP hD hS => ?_)
  have hP : va_P (dC, dI) vwCl [(h0, .inr (1, [.int 0, .int 0, .int 0, .int 0, .null, .null, .null])), (q1, .inl (cy 1, 8, .inr (.inr (.inr (.inr (fun _ => none))))))] H := hP
  have hD : va_D A [(h0, .inr (1, [.int 0, .int 0, .int 0, .int 0, .null, .null, .null])), (q1, .inl (cy 1, 8, .inr (.inr (.inr (.inr (fun _ => none))))))] := hD
  refine W.widen (k := 1) (n := 8) (by omega) (by omega) ?_
  refine va_putF (D := (dC, dI)) (ci := 1) (v := .ref q1) (ty := .array (.object "QuietStairs$Party")) (C := RX1) (T := TX1) (N := 7) hx hb hts (by decide +kernel) tyX1 tyX1_ok nmX1 hown hK hP hD hS 0 rfl rfl 4 (by decide) (hts (.fieldLink RX1 11 "QuietStairs$House" "parties" "[LQuietStairs$Party;") (by decide +kernel)) (fun _ h9 => h9) rfl hin rfl (by decide +kernel) rfl rfl (Nat.le_of_ble_eq_true rfl) dX1_init_10 (fun H locs hP hD hS => ?_)
  have hP : va_P (dC, dI) vwCl [(h0, .inr (1, [.int 0, .int 0, .int 0, .int 0, .ref q1, .null, .null])), (q1, .inl (cy 1, 8, .inr (.inr (.inr (.inr (fun _ => none))))))] H := hP
  have hD : va_D A [(h0, .inr (1, [.int 0, .int 0, .int 0, .int 0, .ref q1, .null, .null])), (q1, .inl (cy 1, 8, .inr (.inr (.inr (.inr (fun _ => none))))))] := hD
  refine lv_aload_n hx hb dX1_init_13 rfl (lv_at hl 0 rfl) ?_
  refine lv_iconst (v := 4) hx hb dX1_init_14 (by decide) ?_
  refine yn_q hx hb hown (hts (.classLink RX1 17 RX2) (by decide +kernel)) hE.2.2.2.2.2.2.1 hK hP hD hS hA 4 2 rfl (by decide) (by decide) (by decide) (Nat.le_of_ble_eq_true rfl) (Nat.le_of_ble_eq_true rfl) dX1_init_15 (fun q2 H hP hD hS => ?_)
  have hP : va_P (dC, dI) vwCl [(h0, .inr (1, [.int 0, .int 0, .int 0, .int 0, .ref q1, .null, .null])), (q1, .inl (cy 1, 8, .inr (.inr (.inr (.inr (fun _ => none)))))), (q2, .inl (cy 2, 4, .inr (.inr (.inr (.inr (fun _ => none))))))] H := hP
  have hD : va_D A [(h0, .inr (1, [.int 0, .int 0, .int 0, .int 0, .ref q1, .null, .null])), (q1, .inl (cy 1, 8, .inr (.inr (.inr (.inr (fun _ => none)))))), (q2, .inl (cy 2, 4, .inr (.inr (.inr (.inr (fun _ => none))))))] := hD
  refine W.widen (k := 2) (n := 12) (by omega) (by omega) ?_
  refine va_putF (D := (dC, dI)) (ci := 1) (v := .ref q2) (ty := .array (.object "QuietStairs$Mediator")) (C := RX1) (T := TX1) (N := 7) hx hb hts (by decide +kernel) tyX1 tyX1_ok nmX1 hown hK hP hD hS 0 rfl rfl 5 (by decide) (hts (.fieldLink RX1 19 "QuietStairs$House" "mediators" "[LQuietStairs$Mediator;") (by decide +kernel)) (fun _ h9 => h9) rfl hin rfl (by decide +kernel) rfl rfl (Nat.le_of_ble_eq_true rfl) dX1_init_18 (fun H locs hP hD hS => ?_)
  have hP : va_P (dC, dI) vwCl [(h0, .inr (1, [.int 0, .int 0, .int 0, .int 0, .ref q1, .ref q2, .null])), (q1, .inl (cy 1, 8, .inr (.inr (.inr (.inr (fun _ => none)))))), (q2, .inl (cy 2, 4, .inr (.inr (.inr (.inr (fun _ => none))))))] H := hP
  have hD : va_D A [(h0, .inr (1, [.int 0, .int 0, .int 0, .int 0, .ref q1, .ref q2, .null])), (q1, .inl (cy 1, 8, .inr (.inr (.inr (.inr (fun _ => none)))))), (q2, .inl (cy 2, 4, .inr (.inr (.inr (.inr (fun _ => none))))))] := hD
  refine lv_aload_n hx hb dX1_init_21 rfl (lv_at hl 0 rfl) ?_
  refine lv_bipush (v := 6) hx hb dX1_init_22 (by decide) ?_
  refine yn_q hx hb hown (hts (.classLink RX1 23 RX0) (by decide +kernel)) hE.2.2.2.2.2.2.2.1 hK hP hD hS hA 6 3 rfl (by decide) (by decide) (by decide) (Nat.le_of_ble_eq_true rfl) (Nat.le_of_ble_eq_true rfl) dX1_init_24 (fun q3 H hP hD hS => ?_)
  have hP : va_P (dC, dI) vwCl [(h0, .inr (1, [.int 0, .int 0, .int 0, .int 0, .ref q1, .ref q2, .null])), (q1, .inl (cy 1, 8, .inr (.inr (.inr (.inr (fun _ => none)))))), (q2, .inl (cy 2, 4, .inr (.inr (.inr (.inr (fun _ => none)))))), (q3, .inl (cy 3, 6, .inr (.inr (.inr (.inr (fun _ => none))))))] H := hP
  have hD : va_D A [(h0, .inr (1, [.int 0, .int 0, .int 0, .int 0, .ref q1, .ref q2, .null])), (q1, .inl (cy 1, 8, .inr (.inr (.inr (.inr (fun _ => none)))))), (q2, .inl (cy 2, 4, .inr (.inr (.inr (.inr (fun _ => none)))))), (q3, .inl (cy 3, 6, .inr (.inr (.inr (.inr (fun _ => none))))))] := hD
  refine W.widen (k := 3) (n := 18) (by omega) (by omega) ?_
  refine va_putF (D := (dC, dI)) (ci := 1) (v := .ref q3) (ty := .array (.object "QuietStairs$Case")) (C := RX1) (T := TX1) (N := 7) hx hb hts (by decide +kernel) tyX1 tyX1_ok nmX1 hown hK hP hD hS 0 rfl rfl 6 (by decide) (hts (.fieldLink RX1 25 "QuietStairs$House" "cases" "[LQuietStairs$Case;") (by decide +kernel)) (fun _ h9 => h9) rfl hin rfl (by decide +kernel) rfl rfl (Nat.le_of_ble_eq_true rfl) dX1_init_27 (fun H locs hP hD hS => ?_)
  have hP : va_P (dC, dI) vwCl [(h0, .inr (1, [.int 0, .int 0, .int 0, .int 0, .ref q1, .ref q2, .ref q3])), (q1, .inl (cy 1, 8, .inr (.inr (.inr (.inr (fun _ => none)))))), (q2, .inl (cy 2, 4, .inr (.inr (.inr (.inr (fun _ => none)))))), (q3, .inl (cy 3, 6, .inr (.inr (.inr (.inr (fun _ => none))))))] H := hP
  have hD : va_D A [(h0, .inr (1, [.int 0, .int 0, .int 0, .int 0, .ref q1, .ref q2, .ref q3])), (q1, .inl (cy 1, 8, .inr (.inr (.inr (.inr (fun _ => none)))))), (q2, .inl (cy 2, 4, .inr (.inr (.inr (.inr (fun _ => none)))))), (q3, .inl (cy 3, 6, .inr (.inr (.inr (.inr (fun _ => none))))))] := hD
  refine lv_iconst (v := 0) hx hb dX1_init_30 (by decide) ?_
  refine lv_istore_n (lv' := [(1, .int 0), (0, .ref h0)]) hx hb dX1_init_31 rfl hl (by decide) rfl (fun ls hl => ?_)
  refine lv_iload_n hx hb dX1_init_32 rfl (lv_at hl 0 rfl) ?_
  refine lv_bipush (v := 8) hx hb dX1_init_33 (by decide) ?_
  refine lv_icmp_ge (tgt := 57) hx hb dX1_init_35 (by decide) (fun c9 => absurd c9 (by decide)) (fun _ => ?_)
  refine lv_aload_n hx hb dX1_init_38 rfl (lv_at hl 1 rfl) ?_
  refine va_get (D := (dC, dI)) (ci := 1) (v := .ref q1) (C := RX1) (T := TX1) (N := 7) hx hb hts (by decide +kernel) hown hK hP 0 rfl rfl 4 (by decide) (hts (.fieldLink RX1 11 "QuietStairs$House" "parties" "[LQuietStairs$Party;") (by decide +kernel)) (fun _ h9 => h9) rfl dX1_init_39 ?_
  refine lv_iload_n hx hb dX1_init_42 rfl (lv_at hl 0 rfl) ?_
  refine va_new (ci := 3) (fs := [.int 0, .int 0]) (C := RX3) (T := TX3) (N := 2) hx hb hts (by decide +kernel) tyX3 tyX3_ok hown (hts (.classLink RX1 9 RX3) (by decide +kernel)) (hts (.instantiable RX3 2) (by decide +kernel)) (hts (.initialized RX3) (by decide +kernel)) hK hP hD hS hA rfl (fun j hj => by rcases (show j = 0 ∨ j = 1 by omega) with rfl | rfl <;> rfl) (Nat.le_of_ble_eq_true rfl) (Nat.le_of_ble_eq_true rfl) dX1_init_43 (fun q4 H hP hD hS => ?_)
  have hP : va_P (dC, dI) vwCl [(h0, .inr (1, [.int 0, .int 0, .int 0, .int 0, .ref q1, .ref q2, .ref q3])), (q1, .inl (cy 1, 8, .inr (.inr (.inr (.inr (fun _ => none)))))), (q2, .inl (cy 2, 4, .inr (.inr (.inr (.inr (fun _ => none)))))), (q3, .inl (cy 3, 6, .inr (.inr (.inr (.inr (fun _ => none)))))), (q4, .inr (3, [.int 0, .int 0]))] H := hP
  have hD : va_D A [(h0, .inr (1, [.int 0, .int 0, .int 0, .int 0, .ref q1, .ref q2, .ref q3])), (q1, .inl (cy 1, 8, .inr (.inr (.inr (.inr (fun _ => none)))))), (q2, .inl (cy 2, 4, .inr (.inr (.inr (.inr (fun _ => none)))))), (q3, .inl (cy 3, 6, .inr (.inr (.inr (.inr (fun _ => none)))))), (q4, .inr (3, [.int 0, .int 0]))] := hD
  refine W.widen (k := 4) (n := 20) (by omega) (by omega) ?_
  refine lv_dup hx hb dX1_init_46 rfl ?_
  refine yc_v (wc := [(q4, .inr (3, [.int 0, .int 0]))]) (wr := [(h0, .inr (1, [.int 0, .int 0, .int 0, .int 0, .ref q1, .ref q2, .ref q3])), (q1, .inl (cy 1, 8, .inr (.inr (.inr (.inr (fun _ => none)))))), (q2, .inl (cy 2, 4, .inr (.inr (.inr (.inr (fun _ => none)))))), (q3, .inl (cy 3, 6, .inr (.inr (.inr (.inr (fun _ => none))))))]) (w1 := fun _ => [(q4, .inr (3, [.int 0, .int 0]))]) hP hD hS hA [4] [0, 1, 2, 3] rfl rfl (by decide) (by decide) (va_runIN (As := []) (rest := [.ref q4, .int 0, .ref q1]) ⟨hx, hb, hml, hown, hts⟩ (c_X3_init l dC dI cy _ q4) ⟨va_cnB 0 hts gX1_init_X3_init_n29 rfl rfl rfl hE.1 (hts (.initialized RX3) (by decide +kernel)) (by decide +kernel) ⟨Nat.le_of_ble_eq_true rfl, Nat.le_of_ble_eq_true rfl⟩, rfl, (hts (.instanceMethod yX3_init) (by decide +kernel))⟩ (ex_preS hE hK hP hD [4] (by decide) rfl) rfl rfl hl.1 rfl (lv_room (Nat.le_of_ble_eq_true rfl)) dX1_init_47 ⟨Nat.le_of_ble_eq_true rfl, Nat.le_of_ble_eq_true rfl⟩) (fun u_1 H locs hw_1 hP hD hS => ?_)
  have hP : va_P (dC, dI) vwCl [(h0, .inr (1, [.int 0, .int 0, .int 0, .int 0, .ref q1, .ref q2, .ref q3])), (q1, .inl (cy 1, 8, .inr (.inr (.inr (.inr (fun _ => none)))))), (q2, .inl (cy 2, 4, .inr (.inr (.inr (.inr (fun _ => none)))))), (q3, .inl (cy 3, 6, .inr (.inr (.inr (.inr (fun _ => none)))))), (q4, .inr (3, [.int 0, .int 0]))] H := hP
  have hD : va_D A [(h0, .inr (1, [.int 0, .int 0, .int 0, .int 0, .ref q1, .ref q2, .ref q3])), (q1, .inl (cy 1, 8, .inr (.inr (.inr (.inr (fun _ => none)))))), (q2, .inl (cy 2, 4, .inr (.inr (.inr (.inr (fun _ => none)))))), (q3, .inl (cy 3, 6, .inr (.inr (.inr (.inr (fun _ => none)))))), (q4, .inr (3, [.int 0, .int 0]))] := hD
  refine va_astq hx hb hK hP hD hS 1 1 4 3 rfl rfl rfl rfl (by unfold vp_in; decide) dX1_init_50 (fun H locs hP hD hS => ?_)
  obtain ⟨f_2, ef_2⟩ : ∃ f9 : Nat → Option Nat, f9 = va_up (fun _ => none) (0 : Int32).toNatClampNeg (some q4) := ⟨_, rfl⟩
  rw [← ef_2] at hP hD
  have hP : va_P (dC, dI) vwCl [(h0, .inr (1, [.int 0, .int 0, .int 0, .int 0, .ref q1, .ref q2, .ref q3])), (q1, .inl (cy 1, 8, .inr (.inr (.inr (.inr f_2))))), (q2, .inl (cy 2, 4, .inr (.inr (.inr (.inr (fun _ => none)))))), (q3, .inl (cy 3, 6, .inr (.inr (.inr (.inr (fun _ => none)))))), (q4, .inr (3, [.int 0, .int 0]))] H := hP
  have hD : va_D A [(h0, .inr (1, [.int 0, .int 0, .int 0, .int 0, .ref q1, .ref q2, .ref q3])), (q1, .inl (cy 1, 8, .inr (.inr (.inr (.inr f_2))))), (q2, .inl (cy 2, 4, .inr (.inr (.inr (.inr (fun _ => none)))))), (q3, .inl (cy 3, 6, .inr (.inr (.inr (.inr (fun _ => none)))))), (q4, .inr (3, [.int 0, .int 0]))] := hD
  have gf_2 : f_2 0 = some q4 := by rw [ef_2]; exact if_pos (by decide)
  refine lv_iinc (v := 1) (lv' := [(1, .int 1), (0, .ref h0)]) hx hb dX1_init_51 hl (k := 0) rfl (by decide) (by decide) rfl (fun ls hl => ?_)
  refine lv_goto (tgt := 32) hx hb dX1_init_54 (by decide) ?_
  refine lv_iload_n hx hb dX1_init_32 rfl (lv_at hl 0 rfl) ?_
  refine lv_bipush (v := 8) hx hb dX1_init_33 (by decide) ?_
  refine lv_icmp_ge (tgt := 57) hx hb dX1_init_35 (by decide) (fun c9 => absurd c9 (by decide)) (fun _ => ?_)
  refine lv_aload_n hx hb dX1_init_38 rfl (lv_at hl 1 rfl) ?_
  refine va_get (D := (dC, dI)) (ci := 1) (v := .ref q1) (C := RX1) (T := TX1) (N := 7) hx hb hts (by decide +kernel) hown hK hP 0 rfl rfl 4 (by decide) (hts (.fieldLink RX1 11 "QuietStairs$House" "parties" "[LQuietStairs$Party;") (by decide +kernel)) (fun _ h9 => h9) rfl dX1_init_39 ?_
  refine lv_iload_n hx hb dX1_init_42 rfl (lv_at hl 0 rfl) ?_
  refine va_new (ci := 3) (fs := [.int 0, .int 0]) (C := RX3) (T := TX3) (N := 2) hx hb hts (by decide +kernel) tyX3 tyX3_ok hown (hts (.classLink RX1 9 RX3) (by decide +kernel)) (hts (.instantiable RX3 2) (by decide +kernel)) (hts (.initialized RX3) (by decide +kernel)) hK hP hD hS hA rfl (fun j hj => by rcases (show j = 0 ∨ j = 1 by omega) with rfl | rfl <;> rfl) (Nat.le_of_ble_eq_true rfl) (Nat.le_of_ble_eq_true rfl) dX1_init_43 (fun q6 H hP hD hS => ?_)
  have hP : va_P (dC, dI) vwCl [(h0, .inr (1, [.int 0, .int 0, .int 0, .int 0, .ref q1, .ref q2, .ref q3])), (q1, .inl (cy 1, 8, .inr (.inr (.inr (.inr f_2))))), (q2, .inl (cy 2, 4, .inr (.inr (.inr (.inr (fun _ => none)))))), (q3, .inl (cy 3, 6, .inr (.inr (.inr (.inr (fun _ => none)))))), (q4, .inr (3, [.int 0, .int 0])), (q6, .inr (3, [.int 0, .int 0]))] H := hP
  have hD : va_D A [(h0, .inr (1, [.int 0, .int 0, .int 0, .int 0, .ref q1, .ref q2, .ref q3])), (q1, .inl (cy 1, 8, .inr (.inr (.inr (.inr f_2))))), (q2, .inl (cy 2, 4, .inr (.inr (.inr (.inr (fun _ => none)))))), (q3, .inl (cy 3, 6, .inr (.inr (.inr (.inr (fun _ => none)))))), (q4, .inr (3, [.int 0, .int 0])), (q6, .inr (3, [.int 0, .int 0]))] := hD
  refine W.widen (k := 5) (n := 22) (by omega) (by omega) ?_
  refine lv_dup hx hb dX1_init_46 rfl ?_
  refine yc_v (wc := [(q6, .inr (3, [.int 0, .int 0]))]) (wr := [(h0, .inr (1, [.int 0, .int 0, .int 0, .int 0, .ref q1, .ref q2, .ref q3])), (q1, .inl (cy 1, 8, .inr (.inr (.inr (.inr f_2))))), (q2, .inl (cy 2, 4, .inr (.inr (.inr (.inr (fun _ => none)))))), (q3, .inl (cy 3, 6, .inr (.inr (.inr (.inr (fun _ => none)))))), (q4, .inr (3, [.int 0, .int 0]))]) (w1 := fun _ => [(q6, .inr (3, [.int 0, .int 0]))]) hP hD hS hA [5] [0, 1, 2, 3, 4] rfl rfl (by decide) (by decide) (va_runIN (As := []) (rest := [.ref q6, .int 1, .ref q1]) ⟨hx, hb, hml, hown, hts⟩ (c_X3_init l dC dI cy _ q6) ⟨va_cnB 0 hts gX1_init_X3_init_n29 rfl rfl rfl hE.1 (hts (.initialized RX3) (by decide +kernel)) (by decide +kernel) ⟨Nat.le_of_ble_eq_true rfl, Nat.le_of_ble_eq_true rfl⟩, rfl, (hts (.instanceMethod yX3_init) (by decide +kernel))⟩ (ex_preS hE hK hP hD [5] (by decide) rfl) rfl rfl hl.1 rfl (lv_room (Nat.le_of_ble_eq_true rfl)) dX1_init_47 ⟨Nat.le_of_ble_eq_true rfl, Nat.le_of_ble_eq_true rfl⟩) (fun u_3 H locs hw_3 hP hD hS => ?_)
  have hP : va_P (dC, dI) vwCl [(h0, .inr (1, [.int 0, .int 0, .int 0, .int 0, .ref q1, .ref q2, .ref q3])), (q1, .inl (cy 1, 8, .inr (.inr (.inr (.inr f_2))))), (q2, .inl (cy 2, 4, .inr (.inr (.inr (.inr (fun _ => none)))))), (q3, .inl (cy 3, 6, .inr (.inr (.inr (.inr (fun _ => none)))))), (q4, .inr (3, [.int 0, .int 0])), (q6, .inr (3, [.int 0, .int 0]))] H := hP
  have hD : va_D A [(h0, .inr (1, [.int 0, .int 0, .int 0, .int 0, .ref q1, .ref q2, .ref q3])), (q1, .inl (cy 1, 8, .inr (.inr (.inr (.inr f_2))))), (q2, .inl (cy 2, 4, .inr (.inr (.inr (.inr (fun _ => none)))))), (q3, .inl (cy 3, 6, .inr (.inr (.inr (.inr (fun _ => none)))))), (q4, .inr (3, [.int 0, .int 0])), (q6, .inr (3, [.int 0, .int 0]))] := hD
  refine va_astq hx hb hK hP hD hS 1 1 5 3 rfl rfl rfl rfl (by unfold vp_in; decide) dX1_init_50 (fun H locs hP hD hS => ?_)
  obtain ⟨f_4, ef_4⟩ : ∃ f9 : Nat → Option Nat, f9 = va_up f_2 (1 : Int32).toNatClampNeg (some q6) := ⟨_, rfl⟩
  rw [← ef_4] at hP hD
  have hP : va_P (dC, dI) vwCl [(h0, .inr (1, [.int 0, .int 0, .int 0, .int 0, .ref q1, .ref q2, .ref q3])), (q1, .inl (cy 1, 8, .inr (.inr (.inr (.inr f_4))))), (q2, .inl (cy 2, 4, .inr (.inr (.inr (.inr (fun _ => none)))))), (q3, .inl (cy 3, 6, .inr (.inr (.inr (.inr (fun _ => none)))))), (q4, .inr (3, [.int 0, .int 0])), (q6, .inr (3, [.int 0, .int 0]))] H := hP
  have hD : va_D A [(h0, .inr (1, [.int 0, .int 0, .int 0, .int 0, .ref q1, .ref q2, .ref q3])), (q1, .inl (cy 1, 8, .inr (.inr (.inr (.inr f_4))))), (q2, .inl (cy 2, 4, .inr (.inr (.inr (.inr (fun _ => none)))))), (q3, .inl (cy 3, 6, .inr (.inr (.inr (.inr (fun _ => none)))))), (q4, .inr (3, [.int 0, .int 0])), (q6, .inr (3, [.int 0, .int 0]))] := hD
  have gf_4 : f_4 0 = some q4 := by rw [ef_4]; exact (if_neg (by decide)).trans gf_2
  have hP := hP.sub (ws' := [(h0, .inr (1, [.int 0, .int 0, .int 0, .int 0, .ref q1, .ref q2, .ref q3])), (q1, .inl (cy 1, 8, .inr (.inr (.inr (.inr f_4))))), (q2, .inl (cy 2, 4, .inr (.inr (.inr (.inr (fun _ => none)))))), (q3, .inl (cy 3, 6, .inr (.inr (.inr (.inr (fun _ => none)))))), (q4, .inr (3, [.int 0, .int 0]))]) [0, 1, 2, 3, 4] rfl
  have hD := hD.sub (ws' := [(h0, .inr (1, [.int 0, .int 0, .int 0, .int 0, .ref q1, .ref q2, .ref q3])), (q1, .inl (cy 1, 8, .inr (.inr (.inr (.inr f_4))))), (q2, .inl (cy 2, 4, .inr (.inr (.inr (.inr (fun _ => none)))))), (q3, .inl (cy 3, 6, .inr (.inr (.inr (.inr (fun _ => none)))))), (q4, .inr (3, [.int 0, .int 0]))]) [0, 1, 2, 3, 4] (by decide) rfl
  refine lv_iinc (v := 2) (lv' := [(1, .int 2), (0, .ref h0)]) hx hb dX1_init_51 hl (k := 0) rfl (by decide) (by decide) rfl (fun ls hl => ?_)
  refine lv_goto (tgt := 32) hx hb dX1_init_54 (by decide) ?_
  refine lv_iload_n hx hb dX1_init_32 rfl (lv_at hl 0 rfl) ?_
  refine lv_bipush (v := 8) hx hb dX1_init_33 (by decide) ?_
  refine lv_icmp_ge (tgt := 57) hx hb dX1_init_35 (by decide) (fun c9 => absurd c9 (by decide)) (fun _ => ?_)
  refine lv_aload_n hx hb dX1_init_38 rfl (lv_at hl 1 rfl) ?_
  refine va_get (D := (dC, dI)) (ci := 1) (v := .ref q1) (C := RX1) (T := TX1) (N := 7) hx hb hts (by decide +kernel) hown hK hP 0 rfl rfl 4 (by decide) (hts (.fieldLink RX1 11 "QuietStairs$House" "parties" "[LQuietStairs$Party;") (by decide +kernel)) (fun _ h9 => h9) rfl dX1_init_39 ?_
  refine lv_iload_n hx hb dX1_init_42 rfl (lv_at hl 0 rfl) ?_
  refine va_new (ci := 3) (fs := [.int 0, .int 0]) (C := RX3) (T := TX3) (N := 2) hx hb hts (by decide +kernel) tyX3 tyX3_ok hown (hts (.classLink RX1 9 RX3) (by decide +kernel)) (hts (.instantiable RX3 2) (by decide +kernel)) (hts (.initialized RX3) (by decide +kernel)) hK hP hD hS hA rfl (fun j hj => by rcases (show j = 0 ∨ j = 1 by omega) with rfl | rfl <;> rfl) (Nat.le_of_ble_eq_true rfl) (Nat.le_of_ble_eq_true rfl) dX1_init_43 (fun q8 H hP hD hS => ?_)
  have hP : va_P (dC, dI) vwCl [(h0, .inr (1, [.int 0, .int 0, .int 0, .int 0, .ref q1, .ref q2, .ref q3])), (q1, .inl (cy 1, 8, .inr (.inr (.inr (.inr f_4))))), (q2, .inl (cy 2, 4, .inr (.inr (.inr (.inr (fun _ => none)))))), (q3, .inl (cy 3, 6, .inr (.inr (.inr (.inr (fun _ => none)))))), (q4, .inr (3, [.int 0, .int 0])), (q8, .inr (3, [.int 0, .int 0]))] H := hP
  have hD : va_D A [(h0, .inr (1, [.int 0, .int 0, .int 0, .int 0, .ref q1, .ref q2, .ref q3])), (q1, .inl (cy 1, 8, .inr (.inr (.inr (.inr f_4))))), (q2, .inl (cy 2, 4, .inr (.inr (.inr (.inr (fun _ => none)))))), (q3, .inl (cy 3, 6, .inr (.inr (.inr (.inr (fun _ => none)))))), (q4, .inr (3, [.int 0, .int 0])), (q8, .inr (3, [.int 0, .int 0]))] := hD
  refine W.widen (k := 6) (n := 24) (by omega) (by omega) ?_
  refine lv_dup hx hb dX1_init_46 rfl ?_
  refine yc_v (wc := [(q8, .inr (3, [.int 0, .int 0]))]) (wr := [(h0, .inr (1, [.int 0, .int 0, .int 0, .int 0, .ref q1, .ref q2, .ref q3])), (q1, .inl (cy 1, 8, .inr (.inr (.inr (.inr f_4))))), (q2, .inl (cy 2, 4, .inr (.inr (.inr (.inr (fun _ => none)))))), (q3, .inl (cy 3, 6, .inr (.inr (.inr (.inr (fun _ => none)))))), (q4, .inr (3, [.int 0, .int 0]))]) (w1 := fun _ => [(q8, .inr (3, [.int 0, .int 0]))]) hP hD hS hA [5] [0, 1, 2, 3, 4] rfl rfl (by decide) (by decide) (va_runIN (As := []) (rest := [.ref q8, .int 2, .ref q1]) ⟨hx, hb, hml, hown, hts⟩ (c_X3_init l dC dI cy _ q8) ⟨va_cnB 0 hts gX1_init_X3_init_n29 rfl rfl rfl hE.1 (hts (.initialized RX3) (by decide +kernel)) (by decide +kernel) ⟨Nat.le_of_ble_eq_true rfl, Nat.le_of_ble_eq_true rfl⟩, rfl, (hts (.instanceMethod yX3_init) (by decide +kernel))⟩ (ex_preS hE hK hP hD [5] (by decide) rfl) rfl rfl hl.1 rfl (lv_room (Nat.le_of_ble_eq_true rfl)) dX1_init_47 ⟨Nat.le_of_ble_eq_true rfl, Nat.le_of_ble_eq_true rfl⟩) (fun u_5 H locs hw_5 hP hD hS => ?_)
  have hP : va_P (dC, dI) vwCl [(h0, .inr (1, [.int 0, .int 0, .int 0, .int 0, .ref q1, .ref q2, .ref q3])), (q1, .inl (cy 1, 8, .inr (.inr (.inr (.inr f_4))))), (q2, .inl (cy 2, 4, .inr (.inr (.inr (.inr (fun _ => none)))))), (q3, .inl (cy 3, 6, .inr (.inr (.inr (.inr (fun _ => none)))))), (q4, .inr (3, [.int 0, .int 0])), (q8, .inr (3, [.int 0, .int 0]))] H := hP
  have hD : va_D A [(h0, .inr (1, [.int 0, .int 0, .int 0, .int 0, .ref q1, .ref q2, .ref q3])), (q1, .inl (cy 1, 8, .inr (.inr (.inr (.inr f_4))))), (q2, .inl (cy 2, 4, .inr (.inr (.inr (.inr (fun _ => none)))))), (q3, .inl (cy 3, 6, .inr (.inr (.inr (.inr (fun _ => none)))))), (q4, .inr (3, [.int 0, .int 0])), (q8, .inr (3, [.int 0, .int 0]))] := hD
  refine va_astq hx hb hK hP hD hS 1 1 5 3 rfl rfl rfl rfl (by unfold vp_in; decide) dX1_init_50 (fun H locs hP hD hS => ?_)
  obtain ⟨f_6, ef_6⟩ : ∃ f9 : Nat → Option Nat, f9 = va_up f_4 (2 : Int32).toNatClampNeg (some q8) := ⟨_, rfl⟩
  rw [← ef_6] at hP hD
  have hP : va_P (dC, dI) vwCl [(h0, .inr (1, [.int 0, .int 0, .int 0, .int 0, .ref q1, .ref q2, .ref q3])), (q1, .inl (cy 1, 8, .inr (.inr (.inr (.inr f_6))))), (q2, .inl (cy 2, 4, .inr (.inr (.inr (.inr (fun _ => none)))))), (q3, .inl (cy 3, 6, .inr (.inr (.inr (.inr (fun _ => none)))))), (q4, .inr (3, [.int 0, .int 0])), (q8, .inr (3, [.int 0, .int 0]))] H := hP
  have hD : va_D A [(h0, .inr (1, [.int 0, .int 0, .int 0, .int 0, .ref q1, .ref q2, .ref q3])), (q1, .inl (cy 1, 8, .inr (.inr (.inr (.inr f_6))))), (q2, .inl (cy 2, 4, .inr (.inr (.inr (.inr (fun _ => none)))))), (q3, .inl (cy 3, 6, .inr (.inr (.inr (.inr (fun _ => none)))))), (q4, .inr (3, [.int 0, .int 0])), (q8, .inr (3, [.int 0, .int 0]))] := hD
  have gf_6 : f_6 0 = some q4 := by rw [ef_6]; exact (if_neg (by decide)).trans gf_4
  have hP := hP.sub (ws' := [(h0, .inr (1, [.int 0, .int 0, .int 0, .int 0, .ref q1, .ref q2, .ref q3])), (q1, .inl (cy 1, 8, .inr (.inr (.inr (.inr f_6))))), (q2, .inl (cy 2, 4, .inr (.inr (.inr (.inr (fun _ => none)))))), (q3, .inl (cy 3, 6, .inr (.inr (.inr (.inr (fun _ => none)))))), (q4, .inr (3, [.int 0, .int 0]))]) [0, 1, 2, 3, 4] rfl
  have hD := hD.sub (ws' := [(h0, .inr (1, [.int 0, .int 0, .int 0, .int 0, .ref q1, .ref q2, .ref q3])), (q1, .inl (cy 1, 8, .inr (.inr (.inr (.inr f_6))))), (q2, .inl (cy 2, 4, .inr (.inr (.inr (.inr (fun _ => none)))))), (q3, .inl (cy 3, 6, .inr (.inr (.inr (.inr (fun _ => none)))))), (q4, .inr (3, [.int 0, .int 0]))]) [0, 1, 2, 3, 4] (by decide) rfl
  refine lv_iinc (v := 3) (lv' := [(1, .int 3), (0, .ref h0)]) hx hb dX1_init_51 hl (k := 0) rfl (by decide) (by decide) rfl (fun ls hl => ?_)
  refine lv_goto (tgt := 32) hx hb dX1_init_54 (by decide) ?_
  refine lv_iload_n hx hb dX1_init_32 rfl (lv_at hl 0 rfl) ?_
  refine lv_bipush (v := 8) hx hb dX1_init_33 (by decide) ?_
  refine lv_icmp_ge (tgt := 57) hx hb dX1_init_35 (by decide) (fun c9 => absurd c9 (by decide)) (fun _ => ?_)
  refine lv_aload_n hx hb dX1_init_38 rfl (lv_at hl 1 rfl) ?_
  refine va_get (D := (dC, dI)) (ci := 1) (v := .ref q1) (C := RX1) (T := TX1) (N := 7) hx hb hts (by decide +kernel) hown hK hP 0 rfl rfl 4 (by decide) (hts (.fieldLink RX1 11 "QuietStairs$House" "parties" "[LQuietStairs$Party;") (by decide +kernel)) (fun _ h9 => h9) rfl dX1_init_39 ?_
  refine lv_iload_n hx hb dX1_init_42 rfl (lv_at hl 0 rfl) ?_
  refine va_new (ci := 3) (fs := [.int 0, .int 0]) (C := RX3) (T := TX3) (N := 2) hx hb hts (by decide +kernel) tyX3 tyX3_ok hown (hts (.classLink RX1 9 RX3) (by decide +kernel)) (hts (.instantiable RX3 2) (by decide +kernel)) (hts (.initialized RX3) (by decide +kernel)) hK hP hD hS hA rfl (fun j hj => by rcases (show j = 0 ∨ j = 1 by omega) with rfl | rfl <;> rfl) (Nat.le_of_ble_eq_true rfl) (Nat.le_of_ble_eq_true rfl) dX1_init_43 (fun q10 H hP hD hS => ?_)
  have hP : va_P (dC, dI) vwCl [(h0, .inr (1, [.int 0, .int 0, .int 0, .int 0, .ref q1, .ref q2, .ref q3])), (q1, .inl (cy 1, 8, .inr (.inr (.inr (.inr f_6))))), (q2, .inl (cy 2, 4, .inr (.inr (.inr (.inr (fun _ => none)))))), (q3, .inl (cy 3, 6, .inr (.inr (.inr (.inr (fun _ => none)))))), (q4, .inr (3, [.int 0, .int 0])), (q10, .inr (3, [.int 0, .int 0]))] H := hP
  have hD : va_D A [(h0, .inr (1, [.int 0, .int 0, .int 0, .int 0, .ref q1, .ref q2, .ref q3])), (q1, .inl (cy 1, 8, .inr (.inr (.inr (.inr f_6))))), (q2, .inl (cy 2, 4, .inr (.inr (.inr (.inr (fun _ => none)))))), (q3, .inl (cy 3, 6, .inr (.inr (.inr (.inr (fun _ => none)))))), (q4, .inr (3, [.int 0, .int 0])), (q10, .inr (3, [.int 0, .int 0]))] := hD
  refine W.widen (k := 7) (n := 26) (by omega) (by omega) ?_
  refine lv_dup hx hb dX1_init_46 rfl ?_
  refine yc_v (wc := [(q10, .inr (3, [.int 0, .int 0]))]) (wr := [(h0, .inr (1, [.int 0, .int 0, .int 0, .int 0, .ref q1, .ref q2, .ref q3])), (q1, .inl (cy 1, 8, .inr (.inr (.inr (.inr f_6))))), (q2, .inl (cy 2, 4, .inr (.inr (.inr (.inr (fun _ => none)))))), (q3, .inl (cy 3, 6, .inr (.inr (.inr (.inr (fun _ => none)))))), (q4, .inr (3, [.int 0, .int 0]))]) (w1 := fun _ => [(q10, .inr (3, [.int 0, .int 0]))]) hP hD hS hA [5] [0, 1, 2, 3, 4] rfl rfl (by decide) (by decide) (va_runIN (As := []) (rest := [.ref q10, .int 3, .ref q1]) ⟨hx, hb, hml, hown, hts⟩ (c_X3_init l dC dI cy _ q10) ⟨va_cnB 0 hts gX1_init_X3_init_n29 rfl rfl rfl hE.1 (hts (.initialized RX3) (by decide +kernel)) (by decide +kernel) ⟨Nat.le_of_ble_eq_true rfl, Nat.le_of_ble_eq_true rfl⟩, rfl, (hts (.instanceMethod yX3_init) (by decide +kernel))⟩ (ex_preS hE hK hP hD [5] (by decide) rfl) rfl rfl hl.1 rfl (lv_room (Nat.le_of_ble_eq_true rfl)) dX1_init_47 ⟨Nat.le_of_ble_eq_true rfl, Nat.le_of_ble_eq_true rfl⟩) (fun u_7 H locs hw_7 hP hD hS => ?_)
  have hP : va_P (dC, dI) vwCl [(h0, .inr (1, [.int 0, .int 0, .int 0, .int 0, .ref q1, .ref q2, .ref q3])), (q1, .inl (cy 1, 8, .inr (.inr (.inr (.inr f_6))))), (q2, .inl (cy 2, 4, .inr (.inr (.inr (.inr (fun _ => none)))))), (q3, .inl (cy 3, 6, .inr (.inr (.inr (.inr (fun _ => none)))))), (q4, .inr (3, [.int 0, .int 0])), (q10, .inr (3, [.int 0, .int 0]))] H := hP
  have hD : va_D A [(h0, .inr (1, [.int 0, .int 0, .int 0, .int 0, .ref q1, .ref q2, .ref q3])), (q1, .inl (cy 1, 8, .inr (.inr (.inr (.inr f_6))))), (q2, .inl (cy 2, 4, .inr (.inr (.inr (.inr (fun _ => none)))))), (q3, .inl (cy 3, 6, .inr (.inr (.inr (.inr (fun _ => none)))))), (q4, .inr (3, [.int 0, .int 0])), (q10, .inr (3, [.int 0, .int 0]))] := hD
  refine va_astq hx hb hK hP hD hS 1 1 5 3 rfl rfl rfl rfl (by unfold vp_in; decide) dX1_init_50 (fun H locs hP hD hS => ?_)
  obtain ⟨f_8, ef_8⟩ : ∃ f9 : Nat → Option Nat, f9 = va_up f_6 (3 : Int32).toNatClampNeg (some q10) := ⟨_, rfl⟩
  rw [← ef_8] at hP hD
  have hP : va_P (dC, dI) vwCl [(h0, .inr (1, [.int 0, .int 0, .int 0, .int 0, .ref q1, .ref q2, .ref q3])), (q1, .inl (cy 1, 8, .inr (.inr (.inr (.inr f_8))))), (q2, .inl (cy 2, 4, .inr (.inr (.inr (.inr (fun _ => none)))))), (q3, .inl (cy 3, 6, .inr (.inr (.inr (.inr (fun _ => none)))))), (q4, .inr (3, [.int 0, .int 0])), (q10, .inr (3, [.int 0, .int 0]))] H := hP
  have hD : va_D A [(h0, .inr (1, [.int 0, .int 0, .int 0, .int 0, .ref q1, .ref q2, .ref q3])), (q1, .inl (cy 1, 8, .inr (.inr (.inr (.inr f_8))))), (q2, .inl (cy 2, 4, .inr (.inr (.inr (.inr (fun _ => none)))))), (q3, .inl (cy 3, 6, .inr (.inr (.inr (.inr (fun _ => none)))))), (q4, .inr (3, [.int 0, .int 0])), (q10, .inr (3, [.int 0, .int 0]))] := hD
  have gf_8 : f_8 0 = some q4 := by rw [ef_8]; exact (if_neg (by decide)).trans gf_6
  have hP := hP.sub (ws' := [(h0, .inr (1, [.int 0, .int 0, .int 0, .int 0, .ref q1, .ref q2, .ref q3])), (q1, .inl (cy 1, 8, .inr (.inr (.inr (.inr f_8))))), (q2, .inl (cy 2, 4, .inr (.inr (.inr (.inr (fun _ => none)))))), (q3, .inl (cy 3, 6, .inr (.inr (.inr (.inr (fun _ => none)))))), (q4, .inr (3, [.int 0, .int 0]))]) [0, 1, 2, 3, 4] rfl
  have hD := hD.sub (ws' := [(h0, .inr (1, [.int 0, .int 0, .int 0, .int 0, .ref q1, .ref q2, .ref q3])), (q1, .inl (cy 1, 8, .inr (.inr (.inr (.inr f_8))))), (q2, .inl (cy 2, 4, .inr (.inr (.inr (.inr (fun _ => none)))))), (q3, .inl (cy 3, 6, .inr (.inr (.inr (.inr (fun _ => none)))))), (q4, .inr (3, [.int 0, .int 0]))]) [0, 1, 2, 3, 4] (by decide) rfl
  refine lv_iinc (v := 4) (lv' := [(1, .int 4), (0, .ref h0)]) hx hb dX1_init_51 hl (k := 0) rfl (by decide) (by decide) rfl (fun ls hl => ?_)
  refine lv_goto (tgt := 32) hx hb dX1_init_54 (by decide) ?_
  refine lv_iload_n hx hb dX1_init_32 rfl (lv_at hl 0 rfl) ?_
  refine lv_bipush (v := 8) hx hb dX1_init_33 (by decide) ?_
  refine lv_icmp_ge (tgt := 57) hx hb dX1_init_35 (by decide) (fun c9 => absurd c9 (by decide)) (fun _ => ?_)
  refine lv_aload_n hx hb dX1_init_38 rfl (lv_at hl 1 rfl) ?_
  refine va_get (D := (dC, dI)) (ci := 1) (v := .ref q1) (C := RX1) (T := TX1) (N := 7) hx hb hts (by decide +kernel) hown hK hP 0 rfl rfl 4 (by decide) (hts (.fieldLink RX1 11 "QuietStairs$House" "parties" "[LQuietStairs$Party;") (by decide +kernel)) (fun _ h9 => h9) rfl dX1_init_39 ?_
  refine lv_iload_n hx hb dX1_init_42 rfl (lv_at hl 0 rfl) ?_
  refine va_new (ci := 3) (fs := [.int 0, .int 0]) (C := RX3) (T := TX3) (N := 2) hx hb hts (by decide +kernel) tyX3 tyX3_ok hown (hts (.classLink RX1 9 RX3) (by decide +kernel)) (hts (.instantiable RX3 2) (by decide +kernel)) (hts (.initialized RX3) (by decide +kernel)) hK hP hD hS hA rfl (fun j hj => by rcases (show j = 0 ∨ j = 1 by omega) with rfl | rfl <;> rfl) (Nat.le_of_ble_eq_true rfl) (Nat.le_of_ble_eq_true rfl) dX1_init_43 (fun q12 H hP hD hS => ?_)
  have hP : va_P (dC, dI) vwCl [(h0, .inr (1, [.int 0, .int 0, .int 0, .int 0, .ref q1, .ref q2, .ref q3])), (q1, .inl (cy 1, 8, .inr (.inr (.inr (.inr f_8))))), (q2, .inl (cy 2, 4, .inr (.inr (.inr (.inr (fun _ => none)))))), (q3, .inl (cy 3, 6, .inr (.inr (.inr (.inr (fun _ => none)))))), (q4, .inr (3, [.int 0, .int 0])), (q12, .inr (3, [.int 0, .int 0]))] H := hP
  have hD : va_D A [(h0, .inr (1, [.int 0, .int 0, .int 0, .int 0, .ref q1, .ref q2, .ref q3])), (q1, .inl (cy 1, 8, .inr (.inr (.inr (.inr f_8))))), (q2, .inl (cy 2, 4, .inr (.inr (.inr (.inr (fun _ => none)))))), (q3, .inl (cy 3, 6, .inr (.inr (.inr (.inr (fun _ => none)))))), (q4, .inr (3, [.int 0, .int 0])), (q12, .inr (3, [.int 0, .int 0]))] := hD
  refine W.widen (k := 8) (n := 28) (by omega) (by omega) ?_
  refine lv_dup hx hb dX1_init_46 rfl ?_
  refine yc_v (wc := [(q12, .inr (3, [.int 0, .int 0]))]) (wr := [(h0, .inr (1, [.int 0, .int 0, .int 0, .int 0, .ref q1, .ref q2, .ref q3])), (q1, .inl (cy 1, 8, .inr (.inr (.inr (.inr f_8))))), (q2, .inl (cy 2, 4, .inr (.inr (.inr (.inr (fun _ => none)))))), (q3, .inl (cy 3, 6, .inr (.inr (.inr (.inr (fun _ => none)))))), (q4, .inr (3, [.int 0, .int 0]))]) (w1 := fun _ => [(q12, .inr (3, [.int 0, .int 0]))]) hP hD hS hA [5] [0, 1, 2, 3, 4] rfl rfl (by decide) (by decide) (va_runIN (As := []) (rest := [.ref q12, .int 4, .ref q1]) ⟨hx, hb, hml, hown, hts⟩ (c_X3_init l dC dI cy _ q12) ⟨va_cnB 0 hts gX1_init_X3_init_n29 rfl rfl rfl hE.1 (hts (.initialized RX3) (by decide +kernel)) (by decide +kernel) ⟨Nat.le_of_ble_eq_true rfl, Nat.le_of_ble_eq_true rfl⟩, rfl, (hts (.instanceMethod yX3_init) (by decide +kernel))⟩ (ex_preS hE hK hP hD [5] (by decide) rfl) rfl rfl hl.1 rfl (lv_room (Nat.le_of_ble_eq_true rfl)) dX1_init_47 ⟨Nat.le_of_ble_eq_true rfl, Nat.le_of_ble_eq_true rfl⟩) (fun u_9 H locs hw_9 hP hD hS => ?_)
  have hP : va_P (dC, dI) vwCl [(h0, .inr (1, [.int 0, .int 0, .int 0, .int 0, .ref q1, .ref q2, .ref q3])), (q1, .inl (cy 1, 8, .inr (.inr (.inr (.inr f_8))))), (q2, .inl (cy 2, 4, .inr (.inr (.inr (.inr (fun _ => none)))))), (q3, .inl (cy 3, 6, .inr (.inr (.inr (.inr (fun _ => none)))))), (q4, .inr (3, [.int 0, .int 0])), (q12, .inr (3, [.int 0, .int 0]))] H := hP
  have hD : va_D A [(h0, .inr (1, [.int 0, .int 0, .int 0, .int 0, .ref q1, .ref q2, .ref q3])), (q1, .inl (cy 1, 8, .inr (.inr (.inr (.inr f_8))))), (q2, .inl (cy 2, 4, .inr (.inr (.inr (.inr (fun _ => none)))))), (q3, .inl (cy 3, 6, .inr (.inr (.inr (.inr (fun _ => none)))))), (q4, .inr (3, [.int 0, .int 0])), (q12, .inr (3, [.int 0, .int 0]))] := hD
  refine va_astq hx hb hK hP hD hS 1 1 5 3 rfl rfl rfl rfl (by unfold vp_in; decide) dX1_init_50 (fun H locs hP hD hS => ?_)
  obtain ⟨f_10, ef_10⟩ : ∃ f9 : Nat → Option Nat, f9 = va_up f_8 (4 : Int32).toNatClampNeg (some q12) := ⟨_, rfl⟩
  rw [← ef_10] at hP hD
  have hP : va_P (dC, dI) vwCl [(h0, .inr (1, [.int 0, .int 0, .int 0, .int 0, .ref q1, .ref q2, .ref q3])), (q1, .inl (cy 1, 8, .inr (.inr (.inr (.inr f_10))))), (q2, .inl (cy 2, 4, .inr (.inr (.inr (.inr (fun _ => none)))))), (q3, .inl (cy 3, 6, .inr (.inr (.inr (.inr (fun _ => none)))))), (q4, .inr (3, [.int 0, .int 0])), (q12, .inr (3, [.int 0, .int 0]))] H := hP
  have hD : va_D A [(h0, .inr (1, [.int 0, .int 0, .int 0, .int 0, .ref q1, .ref q2, .ref q3])), (q1, .inl (cy 1, 8, .inr (.inr (.inr (.inr f_10))))), (q2, .inl (cy 2, 4, .inr (.inr (.inr (.inr (fun _ => none)))))), (q3, .inl (cy 3, 6, .inr (.inr (.inr (.inr (fun _ => none)))))), (q4, .inr (3, [.int 0, .int 0])), (q12, .inr (3, [.int 0, .int 0]))] := hD
  have gf_10 : f_10 0 = some q4 := by rw [ef_10]; exact (if_neg (by decide)).trans gf_8
  have hP := hP.sub (ws' := [(h0, .inr (1, [.int 0, .int 0, .int 0, .int 0, .ref q1, .ref q2, .ref q3])), (q1, .inl (cy 1, 8, .inr (.inr (.inr (.inr f_10))))), (q2, .inl (cy 2, 4, .inr (.inr (.inr (.inr (fun _ => none)))))), (q3, .inl (cy 3, 6, .inr (.inr (.inr (.inr (fun _ => none)))))), (q4, .inr (3, [.int 0, .int 0]))]) [0, 1, 2, 3, 4] rfl
  have hD := hD.sub (ws' := [(h0, .inr (1, [.int 0, .int 0, .int 0, .int 0, .ref q1, .ref q2, .ref q3])), (q1, .inl (cy 1, 8, .inr (.inr (.inr (.inr f_10))))), (q2, .inl (cy 2, 4, .inr (.inr (.inr (.inr (fun _ => none)))))), (q3, .inl (cy 3, 6, .inr (.inr (.inr (.inr (fun _ => none)))))), (q4, .inr (3, [.int 0, .int 0]))]) [0, 1, 2, 3, 4] (by decide) rfl
  refine lv_iinc (v := 5) (lv' := [(1, .int 5), (0, .ref h0)]) hx hb dX1_init_51 hl (k := 0) rfl (by decide) (by decide) rfl (fun ls hl => ?_)
  refine lv_goto (tgt := 32) hx hb dX1_init_54 (by decide) ?_
  refine lv_iload_n hx hb dX1_init_32 rfl (lv_at hl 0 rfl) ?_
  refine lv_bipush (v := 8) hx hb dX1_init_33 (by decide) ?_
  refine lv_icmp_ge (tgt := 57) hx hb dX1_init_35 (by decide) (fun c9 => absurd c9 (by decide)) (fun _ => ?_)
  refine lv_aload_n hx hb dX1_init_38 rfl (lv_at hl 1 rfl) ?_
  refine va_get (D := (dC, dI)) (ci := 1) (v := .ref q1) (C := RX1) (T := TX1) (N := 7) hx hb hts (by decide +kernel) hown hK hP 0 rfl rfl 4 (by decide) (hts (.fieldLink RX1 11 "QuietStairs$House" "parties" "[LQuietStairs$Party;") (by decide +kernel)) (fun _ h9 => h9) rfl dX1_init_39 ?_
  refine lv_iload_n hx hb dX1_init_42 rfl (lv_at hl 0 rfl) ?_
  refine va_new (ci := 3) (fs := [.int 0, .int 0]) (C := RX3) (T := TX3) (N := 2) hx hb hts (by decide +kernel) tyX3 tyX3_ok hown (hts (.classLink RX1 9 RX3) (by decide +kernel)) (hts (.instantiable RX3 2) (by decide +kernel)) (hts (.initialized RX3) (by decide +kernel)) hK hP hD hS hA rfl (fun j hj => by rcases (show j = 0 ∨ j = 1 by omega) with rfl | rfl <;> rfl) (Nat.le_of_ble_eq_true rfl) (Nat.le_of_ble_eq_true rfl) dX1_init_43 (fun q14 H hP hD hS => ?_)
  have hP : va_P (dC, dI) vwCl [(h0, .inr (1, [.int 0, .int 0, .int 0, .int 0, .ref q1, .ref q2, .ref q3])), (q1, .inl (cy 1, 8, .inr (.inr (.inr (.inr f_10))))), (q2, .inl (cy 2, 4, .inr (.inr (.inr (.inr (fun _ => none)))))), (q3, .inl (cy 3, 6, .inr (.inr (.inr (.inr (fun _ => none)))))), (q4, .inr (3, [.int 0, .int 0])), (q14, .inr (3, [.int 0, .int 0]))] H := hP
  have hD : va_D A [(h0, .inr (1, [.int 0, .int 0, .int 0, .int 0, .ref q1, .ref q2, .ref q3])), (q1, .inl (cy 1, 8, .inr (.inr (.inr (.inr f_10))))), (q2, .inl (cy 2, 4, .inr (.inr (.inr (.inr (fun _ => none)))))), (q3, .inl (cy 3, 6, .inr (.inr (.inr (.inr (fun _ => none)))))), (q4, .inr (3, [.int 0, .int 0])), (q14, .inr (3, [.int 0, .int 0]))] := hD
  refine W.widen (k := 9) (n := 30) (by omega) (by omega) ?_
  refine lv_dup hx hb dX1_init_46 rfl ?_
  refine yc_v (wc := [(q14, .inr (3, [.int 0, .int 0]))]) (wr := [(h0, .inr (1, [.int 0, .int 0, .int 0, .int 0, .ref q1, .ref q2, .ref q3])), (q1, .inl (cy 1, 8, .inr (.inr (.inr (.inr f_10))))), (q2, .inl (cy 2, 4, .inr (.inr (.inr (.inr (fun _ => none)))))), (q3, .inl (cy 3, 6, .inr (.inr (.inr (.inr (fun _ => none)))))), (q4, .inr (3, [.int 0, .int 0]))]) (w1 := fun _ => [(q14, .inr (3, [.int 0, .int 0]))]) hP hD hS hA [5] [0, 1, 2, 3, 4] rfl rfl (by decide) (by decide) (va_runIN (As := []) (rest := [.ref q14, .int 5, .ref q1]) ⟨hx, hb, hml, hown, hts⟩ (c_X3_init l dC dI cy _ q14) ⟨va_cnB 0 hts gX1_init_X3_init_n29 rfl rfl rfl hE.1 (hts (.initialized RX3) (by decide +kernel)) (by decide +kernel) ⟨Nat.le_of_ble_eq_true rfl, Nat.le_of_ble_eq_true rfl⟩, rfl, (hts (.instanceMethod yX3_init) (by decide +kernel))⟩ (ex_preS hE hK hP hD [5] (by decide) rfl) rfl rfl hl.1 rfl (lv_room (Nat.le_of_ble_eq_true rfl)) dX1_init_47 ⟨Nat.le_of_ble_eq_true rfl, Nat.le_of_ble_eq_true rfl⟩) (fun u_11 H locs hw_11 hP hD hS => ?_)
  have hP : va_P (dC, dI) vwCl [(h0, .inr (1, [.int 0, .int 0, .int 0, .int 0, .ref q1, .ref q2, .ref q3])), (q1, .inl (cy 1, 8, .inr (.inr (.inr (.inr f_10))))), (q2, .inl (cy 2, 4, .inr (.inr (.inr (.inr (fun _ => none)))))), (q3, .inl (cy 3, 6, .inr (.inr (.inr (.inr (fun _ => none)))))), (q4, .inr (3, [.int 0, .int 0])), (q14, .inr (3, [.int 0, .int 0]))] H := hP
  have hD : va_D A [(h0, .inr (1, [.int 0, .int 0, .int 0, .int 0, .ref q1, .ref q2, .ref q3])), (q1, .inl (cy 1, 8, .inr (.inr (.inr (.inr f_10))))), (q2, .inl (cy 2, 4, .inr (.inr (.inr (.inr (fun _ => none)))))), (q3, .inl (cy 3, 6, .inr (.inr (.inr (.inr (fun _ => none)))))), (q4, .inr (3, [.int 0, .int 0])), (q14, .inr (3, [.int 0, .int 0]))] := hD
  refine va_astq hx hb hK hP hD hS 1 1 5 3 rfl rfl rfl rfl (by unfold vp_in; decide) dX1_init_50 (fun H locs hP hD hS => ?_)
  obtain ⟨f_12, ef_12⟩ : ∃ f9 : Nat → Option Nat, f9 = va_up f_10 (5 : Int32).toNatClampNeg (some q14) := ⟨_, rfl⟩
  rw [← ef_12] at hP hD
  have hP : va_P (dC, dI) vwCl [(h0, .inr (1, [.int 0, .int 0, .int 0, .int 0, .ref q1, .ref q2, .ref q3])), (q1, .inl (cy 1, 8, .inr (.inr (.inr (.inr f_12))))), (q2, .inl (cy 2, 4, .inr (.inr (.inr (.inr (fun _ => none)))))), (q3, .inl (cy 3, 6, .inr (.inr (.inr (.inr (fun _ => none)))))), (q4, .inr (3, [.int 0, .int 0])), (q14, .inr (3, [.int 0, .int 0]))] H := hP
  have hD : va_D A [(h0, .inr (1, [.int 0, .int 0, .int 0, .int 0, .ref q1, .ref q2, .ref q3])), (q1, .inl (cy 1, 8, .inr (.inr (.inr (.inr f_12))))), (q2, .inl (cy 2, 4, .inr (.inr (.inr (.inr (fun _ => none)))))), (q3, .inl (cy 3, 6, .inr (.inr (.inr (.inr (fun _ => none)))))), (q4, .inr (3, [.int 0, .int 0])), (q14, .inr (3, [.int 0, .int 0]))] := hD
  have gf_12 : f_12 0 = some q4 := by rw [ef_12]; exact (if_neg (by decide)).trans gf_10
  have hP := hP.sub (ws' := [(h0, .inr (1, [.int 0, .int 0, .int 0, .int 0, .ref q1, .ref q2, .ref q3])), (q1, .inl (cy 1, 8, .inr (.inr (.inr (.inr f_12))))), (q2, .inl (cy 2, 4, .inr (.inr (.inr (.inr (fun _ => none)))))), (q3, .inl (cy 3, 6, .inr (.inr (.inr (.inr (fun _ => none)))))), (q4, .inr (3, [.int 0, .int 0]))]) [0, 1, 2, 3, 4] rfl
  have hD := hD.sub (ws' := [(h0, .inr (1, [.int 0, .int 0, .int 0, .int 0, .ref q1, .ref q2, .ref q3])), (q1, .inl (cy 1, 8, .inr (.inr (.inr (.inr f_12))))), (q2, .inl (cy 2, 4, .inr (.inr (.inr (.inr (fun _ => none)))))), (q3, .inl (cy 3, 6, .inr (.inr (.inr (.inr (fun _ => none)))))), (q4, .inr (3, [.int 0, .int 0]))]) [0, 1, 2, 3, 4] (by decide) rfl
  refine lv_iinc (v := 6) (lv' := [(1, .int 6), (0, .ref h0)]) hx hb dX1_init_51 hl (k := 0) rfl (by decide) (by decide) rfl (fun ls hl => ?_)
  refine lv_goto (tgt := 32) hx hb dX1_init_54 (by decide) ?_
  refine lv_iload_n hx hb dX1_init_32 rfl (lv_at hl 0 rfl) ?_
  refine lv_bipush (v := 8) hx hb dX1_init_33 (by decide) ?_
  refine lv_icmp_ge (tgt := 57) hx hb dX1_init_35 (by decide) (fun c9 => absurd c9 (by decide)) (fun _ => ?_)
  refine lv_aload_n hx hb dX1_init_38 rfl (lv_at hl 1 rfl) ?_
  refine va_get (D := (dC, dI)) (ci := 1) (v := .ref q1) (C := RX1) (T := TX1) (N := 7) hx hb hts (by decide +kernel) hown hK hP 0 rfl rfl 4 (by decide) (hts (.fieldLink RX1 11 "QuietStairs$House" "parties" "[LQuietStairs$Party;") (by decide +kernel)) (fun _ h9 => h9) rfl dX1_init_39 ?_
  refine lv_iload_n hx hb dX1_init_42 rfl (lv_at hl 0 rfl) ?_
  refine va_new (ci := 3) (fs := [.int 0, .int 0]) (C := RX3) (T := TX3) (N := 2) hx hb hts (by decide +kernel) tyX3 tyX3_ok hown (hts (.classLink RX1 9 RX3) (by decide +kernel)) (hts (.instantiable RX3 2) (by decide +kernel)) (hts (.initialized RX3) (by decide +kernel)) hK hP hD hS hA rfl (fun j hj => by rcases (show j = 0 ∨ j = 1 by omega) with rfl | rfl <;> rfl) (Nat.le_of_ble_eq_true rfl) (Nat.le_of_ble_eq_true rfl) dX1_init_43 (fun q16 H hP hD hS => ?_)
  have hP : va_P (dC, dI) vwCl [(h0, .inr (1, [.int 0, .int 0, .int 0, .int 0, .ref q1, .ref q2, .ref q3])), (q1, .inl (cy 1, 8, .inr (.inr (.inr (.inr f_12))))), (q2, .inl (cy 2, 4, .inr (.inr (.inr (.inr (fun _ => none)))))), (q3, .inl (cy 3, 6, .inr (.inr (.inr (.inr (fun _ => none)))))), (q4, .inr (3, [.int 0, .int 0])), (q16, .inr (3, [.int 0, .int 0]))] H := hP
  have hD : va_D A [(h0, .inr (1, [.int 0, .int 0, .int 0, .int 0, .ref q1, .ref q2, .ref q3])), (q1, .inl (cy 1, 8, .inr (.inr (.inr (.inr f_12))))), (q2, .inl (cy 2, 4, .inr (.inr (.inr (.inr (fun _ => none)))))), (q3, .inl (cy 3, 6, .inr (.inr (.inr (.inr (fun _ => none)))))), (q4, .inr (3, [.int 0, .int 0])), (q16, .inr (3, [.int 0, .int 0]))] := hD
  refine W.widen (k := 10) (n := 32) (by omega) (by omega) ?_
  refine lv_dup hx hb dX1_init_46 rfl ?_
  refine yc_v (wc := [(q16, .inr (3, [.int 0, .int 0]))]) (wr := [(h0, .inr (1, [.int 0, .int 0, .int 0, .int 0, .ref q1, .ref q2, .ref q3])), (q1, .inl (cy 1, 8, .inr (.inr (.inr (.inr f_12))))), (q2, .inl (cy 2, 4, .inr (.inr (.inr (.inr (fun _ => none)))))), (q3, .inl (cy 3, 6, .inr (.inr (.inr (.inr (fun _ => none)))))), (q4, .inr (3, [.int 0, .int 0]))]) (w1 := fun _ => [(q16, .inr (3, [.int 0, .int 0]))]) hP hD hS hA [5] [0, 1, 2, 3, 4] rfl rfl (by decide) (by decide) (va_runIN (As := []) (rest := [.ref q16, .int 6, .ref q1]) ⟨hx, hb, hml, hown, hts⟩ (c_X3_init l dC dI cy _ q16) ⟨va_cnB 0 hts gX1_init_X3_init_n29 rfl rfl rfl hE.1 (hts (.initialized RX3) (by decide +kernel)) (by decide +kernel) ⟨Nat.le_of_ble_eq_true rfl, Nat.le_of_ble_eq_true rfl⟩, rfl, (hts (.instanceMethod yX3_init) (by decide +kernel))⟩ (ex_preS hE hK hP hD [5] (by decide) rfl) rfl rfl hl.1 rfl (lv_room (Nat.le_of_ble_eq_true rfl)) dX1_init_47 ⟨Nat.le_of_ble_eq_true rfl, Nat.le_of_ble_eq_true rfl⟩) (fun u_13 H locs hw_13 hP hD hS => ?_)
  have hP : va_P (dC, dI) vwCl [(h0, .inr (1, [.int 0, .int 0, .int 0, .int 0, .ref q1, .ref q2, .ref q3])), (q1, .inl (cy 1, 8, .inr (.inr (.inr (.inr f_12))))), (q2, .inl (cy 2, 4, .inr (.inr (.inr (.inr (fun _ => none)))))), (q3, .inl (cy 3, 6, .inr (.inr (.inr (.inr (fun _ => none)))))), (q4, .inr (3, [.int 0, .int 0])), (q16, .inr (3, [.int 0, .int 0]))] H := hP
  have hD : va_D A [(h0, .inr (1, [.int 0, .int 0, .int 0, .int 0, .ref q1, .ref q2, .ref q3])), (q1, .inl (cy 1, 8, .inr (.inr (.inr (.inr f_12))))), (q2, .inl (cy 2, 4, .inr (.inr (.inr (.inr (fun _ => none)))))), (q3, .inl (cy 3, 6, .inr (.inr (.inr (.inr (fun _ => none)))))), (q4, .inr (3, [.int 0, .int 0])), (q16, .inr (3, [.int 0, .int 0]))] := hD
  refine va_astq hx hb hK hP hD hS 1 1 5 3 rfl rfl rfl rfl (by unfold vp_in; decide) dX1_init_50 (fun H locs hP hD hS => ?_)
  obtain ⟨f_14, ef_14⟩ : ∃ f9 : Nat → Option Nat, f9 = va_up f_12 (6 : Int32).toNatClampNeg (some q16) := ⟨_, rfl⟩
  rw [← ef_14] at hP hD
  have hP : va_P (dC, dI) vwCl [(h0, .inr (1, [.int 0, .int 0, .int 0, .int 0, .ref q1, .ref q2, .ref q3])), (q1, .inl (cy 1, 8, .inr (.inr (.inr (.inr f_14))))), (q2, .inl (cy 2, 4, .inr (.inr (.inr (.inr (fun _ => none)))))), (q3, .inl (cy 3, 6, .inr (.inr (.inr (.inr (fun _ => none)))))), (q4, .inr (3, [.int 0, .int 0])), (q16, .inr (3, [.int 0, .int 0]))] H := hP
  have hD : va_D A [(h0, .inr (1, [.int 0, .int 0, .int 0, .int 0, .ref q1, .ref q2, .ref q3])), (q1, .inl (cy 1, 8, .inr (.inr (.inr (.inr f_14))))), (q2, .inl (cy 2, 4, .inr (.inr (.inr (.inr (fun _ => none)))))), (q3, .inl (cy 3, 6, .inr (.inr (.inr (.inr (fun _ => none)))))), (q4, .inr (3, [.int 0, .int 0])), (q16, .inr (3, [.int 0, .int 0]))] := hD
  have gf_14 : f_14 0 = some q4 := by rw [ef_14]; exact (if_neg (by decide)).trans gf_12
  have hP := hP.sub (ws' := [(h0, .inr (1, [.int 0, .int 0, .int 0, .int 0, .ref q1, .ref q2, .ref q3])), (q1, .inl (cy 1, 8, .inr (.inr (.inr (.inr f_14))))), (q2, .inl (cy 2, 4, .inr (.inr (.inr (.inr (fun _ => none)))))), (q3, .inl (cy 3, 6, .inr (.inr (.inr (.inr (fun _ => none)))))), (q4, .inr (3, [.int 0, .int 0]))]) [0, 1, 2, 3, 4] rfl
  have hD := hD.sub (ws' := [(h0, .inr (1, [.int 0, .int 0, .int 0, .int 0, .ref q1, .ref q2, .ref q3])), (q1, .inl (cy 1, 8, .inr (.inr (.inr (.inr f_14))))), (q2, .inl (cy 2, 4, .inr (.inr (.inr (.inr (fun _ => none)))))), (q3, .inl (cy 3, 6, .inr (.inr (.inr (.inr (fun _ => none)))))), (q4, .inr (3, [.int 0, .int 0]))]) [0, 1, 2, 3, 4] (by decide) rfl
  refine lv_iinc (v := 7) (lv' := [(1, .int 7), (0, .ref h0)]) hx hb dX1_init_51 hl (k := 0) rfl (by decide) (by decide) rfl (fun ls hl => ?_)
  refine lv_goto (tgt := 32) hx hb dX1_init_54 (by decide) ?_
  refine lv_iload_n hx hb dX1_init_32 rfl (lv_at hl 0 rfl) ?_
  refine lv_bipush (v := 8) hx hb dX1_init_33 (by decide) ?_
  refine lv_icmp_ge (tgt := 57) hx hb dX1_init_35 (by decide) (fun c9 => absurd c9 (by decide)) (fun _ => ?_)
  refine lv_aload_n hx hb dX1_init_38 rfl (lv_at hl 1 rfl) ?_
  refine va_get (D := (dC, dI)) (ci := 1) (v := .ref q1) (C := RX1) (T := TX1) (N := 7) hx hb hts (by decide +kernel) hown hK hP 0 rfl rfl 4 (by decide) (hts (.fieldLink RX1 11 "QuietStairs$House" "parties" "[LQuietStairs$Party;") (by decide +kernel)) (fun _ h9 => h9) rfl dX1_init_39 ?_
  refine lv_iload_n hx hb dX1_init_42 rfl (lv_at hl 0 rfl) ?_
  refine va_new (ci := 3) (fs := [.int 0, .int 0]) (C := RX3) (T := TX3) (N := 2) hx hb hts (by decide +kernel) tyX3 tyX3_ok hown (hts (.classLink RX1 9 RX3) (by decide +kernel)) (hts (.instantiable RX3 2) (by decide +kernel)) (hts (.initialized RX3) (by decide +kernel)) hK hP hD hS hA rfl (fun j hj => by rcases (show j = 0 ∨ j = 1 by omega) with rfl | rfl <;> rfl) (Nat.le_of_ble_eq_true rfl) (Nat.le_of_ble_eq_true rfl) dX1_init_43 (fun q18 H hP hD hS => ?_)
  have hP : va_P (dC, dI) vwCl [(h0, .inr (1, [.int 0, .int 0, .int 0, .int 0, .ref q1, .ref q2, .ref q3])), (q1, .inl (cy 1, 8, .inr (.inr (.inr (.inr f_14))))), (q2, .inl (cy 2, 4, .inr (.inr (.inr (.inr (fun _ => none)))))), (q3, .inl (cy 3, 6, .inr (.inr (.inr (.inr (fun _ => none)))))), (q4, .inr (3, [.int 0, .int 0])), (q18, .inr (3, [.int 0, .int 0]))] H := hP
  have hD : va_D A [(h0, .inr (1, [.int 0, .int 0, .int 0, .int 0, .ref q1, .ref q2, .ref q3])), (q1, .inl (cy 1, 8, .inr (.inr (.inr (.inr f_14))))), (q2, .inl (cy 2, 4, .inr (.inr (.inr (.inr (fun _ => none)))))), (q3, .inl (cy 3, 6, .inr (.inr (.inr (.inr (fun _ => none)))))), (q4, .inr (3, [.int 0, .int 0])), (q18, .inr (3, [.int 0, .int 0]))] := hD
  refine W.widen (k := 11) (n := 34) (by omega) (by omega) ?_
  refine lv_dup hx hb dX1_init_46 rfl ?_
  refine yc_v (wc := [(q18, .inr (3, [.int 0, .int 0]))]) (wr := [(h0, .inr (1, [.int 0, .int 0, .int 0, .int 0, .ref q1, .ref q2, .ref q3])), (q1, .inl (cy 1, 8, .inr (.inr (.inr (.inr f_14))))), (q2, .inl (cy 2, 4, .inr (.inr (.inr (.inr (fun _ => none)))))), (q3, .inl (cy 3, 6, .inr (.inr (.inr (.inr (fun _ => none)))))), (q4, .inr (3, [.int 0, .int 0]))]) (w1 := fun _ => [(q18, .inr (3, [.int 0, .int 0]))]) hP hD hS hA [5] [0, 1, 2, 3, 4] rfl rfl (by decide) (by decide) (va_runIN (As := []) (rest := [.ref q18, .int 7, .ref q1]) ⟨hx, hb, hml, hown, hts⟩ (c_X3_init l dC dI cy _ q18) ⟨va_cnB 0 hts gX1_init_X3_init_n29 rfl rfl rfl hE.1 (hts (.initialized RX3) (by decide +kernel)) (by decide +kernel) ⟨Nat.le_of_ble_eq_true rfl, Nat.le_of_ble_eq_true rfl⟩, rfl, (hts (.instanceMethod yX3_init) (by decide +kernel))⟩ (ex_preS hE hK hP hD [5] (by decide) rfl) rfl rfl hl.1 rfl (lv_room (Nat.le_of_ble_eq_true rfl)) dX1_init_47 ⟨Nat.le_of_ble_eq_true rfl, Nat.le_of_ble_eq_true rfl⟩) (fun u_15 H locs hw_15 hP hD hS => ?_)
  have hP : va_P (dC, dI) vwCl [(h0, .inr (1, [.int 0, .int 0, .int 0, .int 0, .ref q1, .ref q2, .ref q3])), (q1, .inl (cy 1, 8, .inr (.inr (.inr (.inr f_14))))), (q2, .inl (cy 2, 4, .inr (.inr (.inr (.inr (fun _ => none)))))), (q3, .inl (cy 3, 6, .inr (.inr (.inr (.inr (fun _ => none)))))), (q4, .inr (3, [.int 0, .int 0])), (q18, .inr (3, [.int 0, .int 0]))] H := hP
  have hD : va_D A [(h0, .inr (1, [.int 0, .int 0, .int 0, .int 0, .ref q1, .ref q2, .ref q3])), (q1, .inl (cy 1, 8, .inr (.inr (.inr (.inr f_14))))), (q2, .inl (cy 2, 4, .inr (.inr (.inr (.inr (fun _ => none)))))), (q3, .inl (cy 3, 6, .inr (.inr (.inr (.inr (fun _ => none)))))), (q4, .inr (3, [.int 0, .int 0])), (q18, .inr (3, [.int 0, .int 0]))] := hD
  refine va_astq hx hb hK hP hD hS 1 1 5 3 rfl rfl rfl rfl (by unfold vp_in; decide) dX1_init_50 (fun H locs hP hD hS => ?_)
  obtain ⟨f_16, ef_16⟩ : ∃ f9 : Nat → Option Nat, f9 = va_up f_14 (7 : Int32).toNatClampNeg (some q18) := ⟨_, rfl⟩
  rw [← ef_16] at hP hD
  have hP : va_P (dC, dI) vwCl [(h0, .inr (1, [.int 0, .int 0, .int 0, .int 0, .ref q1, .ref q2, .ref q3])), (q1, .inl (cy 1, 8, .inr (.inr (.inr (.inr f_16))))), (q2, .inl (cy 2, 4, .inr (.inr (.inr (.inr (fun _ => none)))))), (q3, .inl (cy 3, 6, .inr (.inr (.inr (.inr (fun _ => none)))))), (q4, .inr (3, [.int 0, .int 0])), (q18, .inr (3, [.int 0, .int 0]))] H := hP
  have hD : va_D A [(h0, .inr (1, [.int 0, .int 0, .int 0, .int 0, .ref q1, .ref q2, .ref q3])), (q1, .inl (cy 1, 8, .inr (.inr (.inr (.inr f_16))))), (q2, .inl (cy 2, 4, .inr (.inr (.inr (.inr (fun _ => none)))))), (q3, .inl (cy 3, 6, .inr (.inr (.inr (.inr (fun _ => none)))))), (q4, .inr (3, [.int 0, .int 0])), (q18, .inr (3, [.int 0, .int 0]))] := hD
  have gf_16 : f_16 0 = some q4 := by rw [ef_16]; exact (if_neg (by decide)).trans gf_14
  have hP := hP.sub (ws' := [(h0, .inr (1, [.int 0, .int 0, .int 0, .int 0, .ref q1, .ref q2, .ref q3])), (q1, .inl (cy 1, 8, .inr (.inr (.inr (.inr f_16))))), (q2, .inl (cy 2, 4, .inr (.inr (.inr (.inr (fun _ => none)))))), (q3, .inl (cy 3, 6, .inr (.inr (.inr (.inr (fun _ => none)))))), (q4, .inr (3, [.int 0, .int 0]))]) [0, 1, 2, 3, 4] rfl
  have hD := hD.sub (ws' := [(h0, .inr (1, [.int 0, .int 0, .int 0, .int 0, .ref q1, .ref q2, .ref q3])), (q1, .inl (cy 1, 8, .inr (.inr (.inr (.inr f_16))))), (q2, .inl (cy 2, 4, .inr (.inr (.inr (.inr (fun _ => none)))))), (q3, .inl (cy 3, 6, .inr (.inr (.inr (.inr (fun _ => none)))))), (q4, .inr (3, [.int 0, .int 0]))]) [0, 1, 2, 3, 4] (by decide) rfl
  refine lv_iinc (v := 8) (lv' := [(1, .int 8), (0, .ref h0)]) hx hb dX1_init_51 hl (k := 0) rfl (by decide) (by decide) rfl (fun ls hl => ?_)
  refine lv_goto (tgt := 32) hx hb dX1_init_54 (by decide) ?_
  refine lv_iload_n hx hb dX1_init_32 rfl (lv_at hl 0 rfl) ?_
  refine lv_bipush (v := 8) hx hb dX1_init_33 (by decide) ?_
  refine lv_icmp_ge (tgt := 57) hx hb dX1_init_35 (by decide) (fun _ => ?_) (fun c9 => absurd c9 (by decide))
  refine lv_iconst (v := 0) hx hb dX1_init_57 (by decide) ?_
  refine lv_istore_n (lv' := [(1, .int 0), (0, .ref h0)]) hx hb dX1_init_58 rfl hl (by decide) rfl (fun ls hl => ?_)
  refine lv_iload_n hx hb dX1_init_59 rfl (lv_at hl 0 rfl) ?_
  refine lv_iconst (v := 4) hx hb dX1_init_60 (by decide) ?_
  refine lv_icmp_ge (tgt := 83) hx hb dX1_init_61 (by decide) (fun c9 => absurd c9 (by decide)) (fun _ => ?_)
  refine lv_aload_n hx hb dX1_init_64 rfl (lv_at hl 1 rfl) ?_
  refine va_get (D := (dC, dI)) (ci := 1) (v := .ref q2) (C := RX1) (T := TX1) (N := 7) hx hb hts (by decide +kernel) hown hK hP 0 rfl rfl 5 (by decide) (hts (.fieldLink RX1 19 "QuietStairs$House" "mediators" "[LQuietStairs$Mediator;") (by decide +kernel)) (fun _ h9 => h9) rfl dX1_init_65 ?_
  refine lv_iload_n hx hb dX1_init_68 rfl (lv_at hl 0 rfl) ?_
  refine va_new (ci := 2) (fs := [.int 0, .int 0, .int 0]) (C := RX2) (T := TX2) (N := 3) hx hb hts (by decide +kernel) tyX2 tyX2_ok hown (hts (.classLink RX1 17 RX2) (by decide +kernel)) (hts (.instantiable RX2 3) (by decide +kernel)) (hts (.initialized RX2) (by decide +kernel)) hK hP hD hS hA rfl (fun j hj => by rcases (show j = 0 ∨ j = 1 ∨ j = 2 by omega) with rfl | rfl | rfl <;> rfl) (Nat.le_of_ble_eq_true rfl) (Nat.le_of_ble_eq_true rfl) dX1_init_69 (fun q20 H hP hD hS => ?_)
  have hP : va_P (dC, dI) vwCl [(h0, .inr (1, [.int 0, .int 0, .int 0, .int 0, .ref q1, .ref q2, .ref q3])), (q1, .inl (cy 1, 8, .inr (.inr (.inr (.inr f_16))))), (q2, .inl (cy 2, 4, .inr (.inr (.inr (.inr (fun _ => none)))))), (q3, .inl (cy 3, 6, .inr (.inr (.inr (.inr (fun _ => none)))))), (q4, .inr (3, [.int 0, .int 0])), (q20, .inr (2, [.int 0, .int 0, .int 0]))] H := hP
  have hD : va_D A [(h0, .inr (1, [.int 0, .int 0, .int 0, .int 0, .ref q1, .ref q2, .ref q3])), (q1, .inl (cy 1, 8, .inr (.inr (.inr (.inr f_16))))), (q2, .inl (cy 2, 4, .inr (.inr (.inr (.inr (fun _ => none)))))), (q3, .inl (cy 3, 6, .inr (.inr (.inr (.inr (fun _ => none)))))), (q4, .inr (3, [.int 0, .int 0])), (q20, .inr (2, [.int 0, .int 0, .int 0]))] := hD
  refine W.widen (k := 12) (n := 37) (by omega) (by omega) ?_
  refine lv_dup hx hb dX1_init_72 rfl ?_
  refine yc_v (wc := [(q20, .inr (2, [.int 0, .int 0, .int 0]))]) (wr := [(h0, .inr (1, [.int 0, .int 0, .int 0, .int 0, .ref q1, .ref q2, .ref q3])), (q1, .inl (cy 1, 8, .inr (.inr (.inr (.inr f_16))))), (q2, .inl (cy 2, 4, .inr (.inr (.inr (.inr (fun _ => none)))))), (q3, .inl (cy 3, 6, .inr (.inr (.inr (.inr (fun _ => none)))))), (q4, .inr (3, [.int 0, .int 0]))]) (w1 := fun _ => [(q20, .inr (2, [.int 0, .int 0, .int 0]))]) hP hD hS hA [5] [0, 1, 2, 3, 4] rfl rfl (by decide) (by decide) (va_runIN (As := []) (rest := [.ref q20, .int 0, .ref q2]) ⟨hx, hb, hml, hown, hts⟩ (c_X2_init l dC dI cy _ q20) ⟨va_cnB 0 hts gX1_init_X2_init_n30 rfl rfl rfl hE.2.1 (hts (.initialized RX2) (by decide +kernel)) (by decide +kernel) ⟨Nat.le_of_ble_eq_true rfl, Nat.le_of_ble_eq_true rfl⟩, rfl, (hts (.instanceMethod yX2_init) (by decide +kernel))⟩ (ex_preS hE hK hP hD [5] (by decide) rfl) rfl rfl hl.1 rfl (lv_room (Nat.le_of_ble_eq_true rfl)) dX1_init_73 ⟨Nat.le_of_ble_eq_true rfl, Nat.le_of_ble_eq_true rfl⟩) (fun u_17 H locs hw_17 hP hD hS => ?_)
  have hP : va_P (dC, dI) vwCl [(h0, .inr (1, [.int 0, .int 0, .int 0, .int 0, .ref q1, .ref q2, .ref q3])), (q1, .inl (cy 1, 8, .inr (.inr (.inr (.inr f_16))))), (q2, .inl (cy 2, 4, .inr (.inr (.inr (.inr (fun _ => none)))))), (q3, .inl (cy 3, 6, .inr (.inr (.inr (.inr (fun _ => none)))))), (q4, .inr (3, [.int 0, .int 0])), (q20, .inr (2, [.int 0, .int 0, .int 0]))] H := hP
  have hD : va_D A [(h0, .inr (1, [.int 0, .int 0, .int 0, .int 0, .ref q1, .ref q2, .ref q3])), (q1, .inl (cy 1, 8, .inr (.inr (.inr (.inr f_16))))), (q2, .inl (cy 2, 4, .inr (.inr (.inr (.inr (fun _ => none)))))), (q3, .inl (cy 3, 6, .inr (.inr (.inr (.inr (fun _ => none)))))), (q4, .inr (3, [.int 0, .int 0])), (q20, .inr (2, [.int 0, .int 0, .int 0]))] := hD
  refine va_astq hx hb hK hP hD hS 2 2 5 2 rfl rfl rfl rfl (by unfold vp_in; decide) dX1_init_76 (fun H locs hP hD hS => ?_)
  obtain ⟨f_18, ef_18⟩ : ∃ f9 : Nat → Option Nat, f9 = va_up (fun _ => none) (0 : Int32).toNatClampNeg (some q20) := ⟨_, rfl⟩
  rw [← ef_18] at hP hD
  have hP : va_P (dC, dI) vwCl [(h0, .inr (1, [.int 0, .int 0, .int 0, .int 0, .ref q1, .ref q2, .ref q3])), (q1, .inl (cy 1, 8, .inr (.inr (.inr (.inr f_16))))), (q2, .inl (cy 2, 4, .inr (.inr (.inr (.inr f_18))))), (q3, .inl (cy 3, 6, .inr (.inr (.inr (.inr (fun _ => none)))))), (q4, .inr (3, [.int 0, .int 0])), (q20, .inr (2, [.int 0, .int 0, .int 0]))] H := hP
  have hD : va_D A [(h0, .inr (1, [.int 0, .int 0, .int 0, .int 0, .ref q1, .ref q2, .ref q3])), (q1, .inl (cy 1, 8, .inr (.inr (.inr (.inr f_16))))), (q2, .inl (cy 2, 4, .inr (.inr (.inr (.inr f_18))))), (q3, .inl (cy 3, 6, .inr (.inr (.inr (.inr (fun _ => none)))))), (q4, .inr (3, [.int 0, .int 0])), (q20, .inr (2, [.int 0, .int 0, .int 0]))] := hD
  have gf_18 : f_18 0 = some q20 := by rw [ef_18]; exact if_pos (by decide)
  refine lv_iinc (v := 1) (lv' := [(1, .int 1), (0, .ref h0)]) hx hb dX1_init_77 hl (k := 0) rfl (by decide) (by decide) rfl (fun ls hl => ?_)
  refine lv_goto (tgt := 59) hx hb dX1_init_80 (by decide) ?_
  refine lv_iload_n hx hb dX1_init_59 rfl (lv_at hl 0 rfl) ?_
  refine lv_iconst (v := 4) hx hb dX1_init_60 (by decide) ?_
  refine lv_icmp_ge (tgt := 83) hx hb dX1_init_61 (by decide) (fun c9 => absurd c9 (by decide)) (fun _ => ?_)
  refine lv_aload_n hx hb dX1_init_64 rfl (lv_at hl 1 rfl) ?_
  refine va_get (D := (dC, dI)) (ci := 1) (v := .ref q2) (C := RX1) (T := TX1) (N := 7) hx hb hts (by decide +kernel) hown hK hP 0 rfl rfl 5 (by decide) (hts (.fieldLink RX1 19 "QuietStairs$House" "mediators" "[LQuietStairs$Mediator;") (by decide +kernel)) (fun _ h9 => h9) rfl dX1_init_65 ?_
  refine lv_iload_n hx hb dX1_init_68 rfl (lv_at hl 0 rfl) ?_
  refine va_new (ci := 2) (fs := [.int 0, .int 0, .int 0]) (C := RX2) (T := TX2) (N := 3) hx hb hts (by decide +kernel) tyX2 tyX2_ok hown (hts (.classLink RX1 17 RX2) (by decide +kernel)) (hts (.instantiable RX2 3) (by decide +kernel)) (hts (.initialized RX2) (by decide +kernel)) hK hP hD hS hA rfl (fun j hj => by rcases (show j = 0 ∨ j = 1 ∨ j = 2 by omega) with rfl | rfl | rfl <;> rfl) (Nat.le_of_ble_eq_true rfl) (Nat.le_of_ble_eq_true rfl) dX1_init_69 (fun q22 H hP hD hS => ?_)
  have hP : va_P (dC, dI) vwCl [(h0, .inr (1, [.int 0, .int 0, .int 0, .int 0, .ref q1, .ref q2, .ref q3])), (q1, .inl (cy 1, 8, .inr (.inr (.inr (.inr f_16))))), (q2, .inl (cy 2, 4, .inr (.inr (.inr (.inr f_18))))), (q3, .inl (cy 3, 6, .inr (.inr (.inr (.inr (fun _ => none)))))), (q4, .inr (3, [.int 0, .int 0])), (q20, .inr (2, [.int 0, .int 0, .int 0])), (q22, .inr (2, [.int 0, .int 0, .int 0]))] H := hP
  have hD : va_D A [(h0, .inr (1, [.int 0, .int 0, .int 0, .int 0, .ref q1, .ref q2, .ref q3])), (q1, .inl (cy 1, 8, .inr (.inr (.inr (.inr f_16))))), (q2, .inl (cy 2, 4, .inr (.inr (.inr (.inr f_18))))), (q3, .inl (cy 3, 6, .inr (.inr (.inr (.inr (fun _ => none)))))), (q4, .inr (3, [.int 0, .int 0])), (q20, .inr (2, [.int 0, .int 0, .int 0])), (q22, .inr (2, [.int 0, .int 0, .int 0]))] := hD
  refine W.widen (k := 13) (n := 40) (by omega) (by omega) ?_
  refine lv_dup hx hb dX1_init_72 rfl ?_
  refine yc_v (wc := [(q22, .inr (2, [.int 0, .int 0, .int 0]))]) (wr := [(h0, .inr (1, [.int 0, .int 0, .int 0, .int 0, .ref q1, .ref q2, .ref q3])), (q1, .inl (cy 1, 8, .inr (.inr (.inr (.inr f_16))))), (q2, .inl (cy 2, 4, .inr (.inr (.inr (.inr f_18))))), (q3, .inl (cy 3, 6, .inr (.inr (.inr (.inr (fun _ => none)))))), (q4, .inr (3, [.int 0, .int 0])), (q20, .inr (2, [.int 0, .int 0, .int 0]))]) (w1 := fun _ => [(q22, .inr (2, [.int 0, .int 0, .int 0]))]) hP hD hS hA [6] [0, 1, 2, 3, 4, 5] rfl rfl (by decide) (by decide) (va_runIN (As := []) (rest := [.ref q22, .int 1, .ref q2]) ⟨hx, hb, hml, hown, hts⟩ (c_X2_init l dC dI cy _ q22) ⟨va_cnB 0 hts gX1_init_X2_init_n30 rfl rfl rfl hE.2.1 (hts (.initialized RX2) (by decide +kernel)) (by decide +kernel) ⟨Nat.le_of_ble_eq_true rfl, Nat.le_of_ble_eq_true rfl⟩, rfl, (hts (.instanceMethod yX2_init) (by decide +kernel))⟩ (ex_preS hE hK hP hD [6] (by decide) rfl) rfl rfl hl.1 rfl (lv_room (Nat.le_of_ble_eq_true rfl)) dX1_init_73 ⟨Nat.le_of_ble_eq_true rfl, Nat.le_of_ble_eq_true rfl⟩) (fun u_19 H locs hw_19 hP hD hS => ?_)
  have hP : va_P (dC, dI) vwCl [(h0, .inr (1, [.int 0, .int 0, .int 0, .int 0, .ref q1, .ref q2, .ref q3])), (q1, .inl (cy 1, 8, .inr (.inr (.inr (.inr f_16))))), (q2, .inl (cy 2, 4, .inr (.inr (.inr (.inr f_18))))), (q3, .inl (cy 3, 6, .inr (.inr (.inr (.inr (fun _ => none)))))), (q4, .inr (3, [.int 0, .int 0])), (q20, .inr (2, [.int 0, .int 0, .int 0])), (q22, .inr (2, [.int 0, .int 0, .int 0]))] H := hP
  have hD : va_D A [(h0, .inr (1, [.int 0, .int 0, .int 0, .int 0, .ref q1, .ref q2, .ref q3])), (q1, .inl (cy 1, 8, .inr (.inr (.inr (.inr f_16))))), (q2, .inl (cy 2, 4, .inr (.inr (.inr (.inr f_18))))), (q3, .inl (cy 3, 6, .inr (.inr (.inr (.inr (fun _ => none)))))), (q4, .inr (3, [.int 0, .int 0])), (q20, .inr (2, [.int 0, .int 0, .int 0])), (q22, .inr (2, [.int 0, .int 0, .int 0]))] := hD
  refine va_astq hx hb hK hP hD hS 2 2 6 2 rfl rfl rfl rfl (by unfold vp_in; decide) dX1_init_76 (fun H locs hP hD hS => ?_)
  obtain ⟨f_20, ef_20⟩ : ∃ f9 : Nat → Option Nat, f9 = va_up f_18 (1 : Int32).toNatClampNeg (some q22) := ⟨_, rfl⟩
  rw [← ef_20] at hP hD
  have hP : va_P (dC, dI) vwCl [(h0, .inr (1, [.int 0, .int 0, .int 0, .int 0, .ref q1, .ref q2, .ref q3])), (q1, .inl (cy 1, 8, .inr (.inr (.inr (.inr f_16))))), (q2, .inl (cy 2, 4, .inr (.inr (.inr (.inr f_20))))), (q3, .inl (cy 3, 6, .inr (.inr (.inr (.inr (fun _ => none)))))), (q4, .inr (3, [.int 0, .int 0])), (q20, .inr (2, [.int 0, .int 0, .int 0])), (q22, .inr (2, [.int 0, .int 0, .int 0]))] H := hP
  have hD : va_D A [(h0, .inr (1, [.int 0, .int 0, .int 0, .int 0, .ref q1, .ref q2, .ref q3])), (q1, .inl (cy 1, 8, .inr (.inr (.inr (.inr f_16))))), (q2, .inl (cy 2, 4, .inr (.inr (.inr (.inr f_20))))), (q3, .inl (cy 3, 6, .inr (.inr (.inr (.inr (fun _ => none)))))), (q4, .inr (3, [.int 0, .int 0])), (q20, .inr (2, [.int 0, .int 0, .int 0])), (q22, .inr (2, [.int 0, .int 0, .int 0]))] := hD
  have gf_20 : f_20 0 = some q20 := by rw [ef_20]; exact (if_neg (by decide)).trans gf_18
  have hP := hP.sub (ws' := [(h0, .inr (1, [.int 0, .int 0, .int 0, .int 0, .ref q1, .ref q2, .ref q3])), (q1, .inl (cy 1, 8, .inr (.inr (.inr (.inr f_16))))), (q2, .inl (cy 2, 4, .inr (.inr (.inr (.inr f_20))))), (q3, .inl (cy 3, 6, .inr (.inr (.inr (.inr (fun _ => none)))))), (q4, .inr (3, [.int 0, .int 0])), (q20, .inr (2, [.int 0, .int 0, .int 0]))]) [0, 1, 2, 3, 4, 5] rfl
  have hD := hD.sub (ws' := [(h0, .inr (1, [.int 0, .int 0, .int 0, .int 0, .ref q1, .ref q2, .ref q3])), (q1, .inl (cy 1, 8, .inr (.inr (.inr (.inr f_16))))), (q2, .inl (cy 2, 4, .inr (.inr (.inr (.inr f_20))))), (q3, .inl (cy 3, 6, .inr (.inr (.inr (.inr (fun _ => none)))))), (q4, .inr (3, [.int 0, .int 0])), (q20, .inr (2, [.int 0, .int 0, .int 0]))]) [0, 1, 2, 3, 4, 5] (by decide) rfl
  refine lv_iinc (v := 2) (lv' := [(1, .int 2), (0, .ref h0)]) hx hb dX1_init_77 hl (k := 0) rfl (by decide) (by decide) rfl (fun ls hl => ?_)
  refine lv_goto (tgt := 59) hx hb dX1_init_80 (by decide) ?_
  refine lv_iload_n hx hb dX1_init_59 rfl (lv_at hl 0 rfl) ?_
  refine lv_iconst (v := 4) hx hb dX1_init_60 (by decide) ?_
  refine lv_icmp_ge (tgt := 83) hx hb dX1_init_61 (by decide) (fun c9 => absurd c9 (by decide)) (fun _ => ?_)
  refine lv_aload_n hx hb dX1_init_64 rfl (lv_at hl 1 rfl) ?_
  refine va_get (D := (dC, dI)) (ci := 1) (v := .ref q2) (C := RX1) (T := TX1) (N := 7) hx hb hts (by decide +kernel) hown hK hP 0 rfl rfl 5 (by decide) (hts (.fieldLink RX1 19 "QuietStairs$House" "mediators" "[LQuietStairs$Mediator;") (by decide +kernel)) (fun _ h9 => h9) rfl dX1_init_65 ?_
  refine lv_iload_n hx hb dX1_init_68 rfl (lv_at hl 0 rfl) ?_
  refine va_new (ci := 2) (fs := [.int 0, .int 0, .int 0]) (C := RX2) (T := TX2) (N := 3) hx hb hts (by decide +kernel) tyX2 tyX2_ok hown (hts (.classLink RX1 17 RX2) (by decide +kernel)) (hts (.instantiable RX2 3) (by decide +kernel)) (hts (.initialized RX2) (by decide +kernel)) hK hP hD hS hA rfl (fun j hj => by rcases (show j = 0 ∨ j = 1 ∨ j = 2 by omega) with rfl | rfl | rfl <;> rfl) (Nat.le_of_ble_eq_true rfl) (Nat.le_of_ble_eq_true rfl) dX1_init_69 (fun q24 H hP hD hS => ?_)
  have hP : va_P (dC, dI) vwCl [(h0, .inr (1, [.int 0, .int 0, .int 0, .int 0, .ref q1, .ref q2, .ref q3])), (q1, .inl (cy 1, 8, .inr (.inr (.inr (.inr f_16))))), (q2, .inl (cy 2, 4, .inr (.inr (.inr (.inr f_20))))), (q3, .inl (cy 3, 6, .inr (.inr (.inr (.inr (fun _ => none)))))), (q4, .inr (3, [.int 0, .int 0])), (q20, .inr (2, [.int 0, .int 0, .int 0])), (q24, .inr (2, [.int 0, .int 0, .int 0]))] H := hP
  have hD : va_D A [(h0, .inr (1, [.int 0, .int 0, .int 0, .int 0, .ref q1, .ref q2, .ref q3])), (q1, .inl (cy 1, 8, .inr (.inr (.inr (.inr f_16))))), (q2, .inl (cy 2, 4, .inr (.inr (.inr (.inr f_20))))), (q3, .inl (cy 3, 6, .inr (.inr (.inr (.inr (fun _ => none)))))), (q4, .inr (3, [.int 0, .int 0])), (q20, .inr (2, [.int 0, .int 0, .int 0])), (q24, .inr (2, [.int 0, .int 0, .int 0]))] := hD
  refine W.widen (k := 14) (n := 43) (by omega) (by omega) ?_
  refine lv_dup hx hb dX1_init_72 rfl ?_
  refine yc_v (wc := [(q24, .inr (2, [.int 0, .int 0, .int 0]))]) (wr := [(h0, .inr (1, [.int 0, .int 0, .int 0, .int 0, .ref q1, .ref q2, .ref q3])), (q1, .inl (cy 1, 8, .inr (.inr (.inr (.inr f_16))))), (q2, .inl (cy 2, 4, .inr (.inr (.inr (.inr f_20))))), (q3, .inl (cy 3, 6, .inr (.inr (.inr (.inr (fun _ => none)))))), (q4, .inr (3, [.int 0, .int 0])), (q20, .inr (2, [.int 0, .int 0, .int 0]))]) (w1 := fun _ => [(q24, .inr (2, [.int 0, .int 0, .int 0]))]) hP hD hS hA [6] [0, 1, 2, 3, 4, 5] rfl rfl (by decide) (by decide) (va_runIN (As := []) (rest := [.ref q24, .int 2, .ref q2]) ⟨hx, hb, hml, hown, hts⟩ (c_X2_init l dC dI cy _ q24) ⟨va_cnB 0 hts gX1_init_X2_init_n30 rfl rfl rfl hE.2.1 (hts (.initialized RX2) (by decide +kernel)) (by decide +kernel) ⟨Nat.le_of_ble_eq_true rfl, Nat.le_of_ble_eq_true rfl⟩, rfl, (hts (.instanceMethod yX2_init) (by decide +kernel))⟩ (ex_preS hE hK hP hD [6] (by decide) rfl) rfl rfl hl.1 rfl (lv_room (Nat.le_of_ble_eq_true rfl)) dX1_init_73 ⟨Nat.le_of_ble_eq_true rfl, Nat.le_of_ble_eq_true rfl⟩) (fun u_21 H locs hw_21 hP hD hS => ?_)
  have hP : va_P (dC, dI) vwCl [(h0, .inr (1, [.int 0, .int 0, .int 0, .int 0, .ref q1, .ref q2, .ref q3])), (q1, .inl (cy 1, 8, .inr (.inr (.inr (.inr f_16))))), (q2, .inl (cy 2, 4, .inr (.inr (.inr (.inr f_20))))), (q3, .inl (cy 3, 6, .inr (.inr (.inr (.inr (fun _ => none)))))), (q4, .inr (3, [.int 0, .int 0])), (q20, .inr (2, [.int 0, .int 0, .int 0])), (q24, .inr (2, [.int 0, .int 0, .int 0]))] H := hP
  have hD : va_D A [(h0, .inr (1, [.int 0, .int 0, .int 0, .int 0, .ref q1, .ref q2, .ref q3])), (q1, .inl (cy 1, 8, .inr (.inr (.inr (.inr f_16))))), (q2, .inl (cy 2, 4, .inr (.inr (.inr (.inr f_20))))), (q3, .inl (cy 3, 6, .inr (.inr (.inr (.inr (fun _ => none)))))), (q4, .inr (3, [.int 0, .int 0])), (q20, .inr (2, [.int 0, .int 0, .int 0])), (q24, .inr (2, [.int 0, .int 0, .int 0]))] := hD
  refine va_astq hx hb hK hP hD hS 2 2 6 2 rfl rfl rfl rfl (by unfold vp_in; decide) dX1_init_76 (fun H locs hP hD hS => ?_)
  obtain ⟨f_22, ef_22⟩ : ∃ f9 : Nat → Option Nat, f9 = va_up f_20 (2 : Int32).toNatClampNeg (some q24) := ⟨_, rfl⟩
  rw [← ef_22] at hP hD
  have hP : va_P (dC, dI) vwCl [(h0, .inr (1, [.int 0, .int 0, .int 0, .int 0, .ref q1, .ref q2, .ref q3])), (q1, .inl (cy 1, 8, .inr (.inr (.inr (.inr f_16))))), (q2, .inl (cy 2, 4, .inr (.inr (.inr (.inr f_22))))), (q3, .inl (cy 3, 6, .inr (.inr (.inr (.inr (fun _ => none)))))), (q4, .inr (3, [.int 0, .int 0])), (q20, .inr (2, [.int 0, .int 0, .int 0])), (q24, .inr (2, [.int 0, .int 0, .int 0]))] H := hP
  have hD : va_D A [(h0, .inr (1, [.int 0, .int 0, .int 0, .int 0, .ref q1, .ref q2, .ref q3])), (q1, .inl (cy 1, 8, .inr (.inr (.inr (.inr f_16))))), (q2, .inl (cy 2, 4, .inr (.inr (.inr (.inr f_22))))), (q3, .inl (cy 3, 6, .inr (.inr (.inr (.inr (fun _ => none)))))), (q4, .inr (3, [.int 0, .int 0])), (q20, .inr (2, [.int 0, .int 0, .int 0])), (q24, .inr (2, [.int 0, .int 0, .int 0]))] := hD
  have gf_22 : f_22 0 = some q20 := by rw [ef_22]; exact (if_neg (by decide)).trans gf_20
  have hP := hP.sub (ws' := [(h0, .inr (1, [.int 0, .int 0, .int 0, .int 0, .ref q1, .ref q2, .ref q3])), (q1, .inl (cy 1, 8, .inr (.inr (.inr (.inr f_16))))), (q2, .inl (cy 2, 4, .inr (.inr (.inr (.inr f_22))))), (q3, .inl (cy 3, 6, .inr (.inr (.inr (.inr (fun _ => none)))))), (q4, .inr (3, [.int 0, .int 0])), (q20, .inr (2, [.int 0, .int 0, .int 0]))]) [0, 1, 2, 3, 4, 5] rfl
  have hD := hD.sub (ws' := [(h0, .inr (1, [.int 0, .int 0, .int 0, .int 0, .ref q1, .ref q2, .ref q3])), (q1, .inl (cy 1, 8, .inr (.inr (.inr (.inr f_16))))), (q2, .inl (cy 2, 4, .inr (.inr (.inr (.inr f_22))))), (q3, .inl (cy 3, 6, .inr (.inr (.inr (.inr (fun _ => none)))))), (q4, .inr (3, [.int 0, .int 0])), (q20, .inr (2, [.int 0, .int 0, .int 0]))]) [0, 1, 2, 3, 4, 5] (by decide) rfl
  refine lv_iinc (v := 3) (lv' := [(1, .int 3), (0, .ref h0)]) hx hb dX1_init_77 hl (k := 0) rfl (by decide) (by decide) rfl (fun ls hl => ?_)
  refine lv_goto (tgt := 59) hx hb dX1_init_80 (by decide) ?_
  refine lv_iload_n hx hb dX1_init_59 rfl (lv_at hl 0 rfl) ?_
  refine lv_iconst (v := 4) hx hb dX1_init_60 (by decide) ?_
  refine lv_icmp_ge (tgt := 83) hx hb dX1_init_61 (by decide) (fun c9 => absurd c9 (by decide)) (fun _ => ?_)
  refine lv_aload_n hx hb dX1_init_64 rfl (lv_at hl 1 rfl) ?_
  refine va_get (D := (dC, dI)) (ci := 1) (v := .ref q2) (C := RX1) (T := TX1) (N := 7) hx hb hts (by decide +kernel) hown hK hP 0 rfl rfl 5 (by decide) (hts (.fieldLink RX1 19 "QuietStairs$House" "mediators" "[LQuietStairs$Mediator;") (by decide +kernel)) (fun _ h9 => h9) rfl dX1_init_65 ?_
  refine lv_iload_n hx hb dX1_init_68 rfl (lv_at hl 0 rfl) ?_
  refine va_new (ci := 2) (fs := [.int 0, .int 0, .int 0]) (C := RX2) (T := TX2) (N := 3) hx hb hts (by decide +kernel) tyX2 tyX2_ok hown (hts (.classLink RX1 17 RX2) (by decide +kernel)) (hts (.instantiable RX2 3) (by decide +kernel)) (hts (.initialized RX2) (by decide +kernel)) hK hP hD hS hA rfl (fun j hj => by rcases (show j = 0 ∨ j = 1 ∨ j = 2 by omega) with rfl | rfl | rfl <;> rfl) (Nat.le_of_ble_eq_true rfl) (Nat.le_of_ble_eq_true rfl) dX1_init_69 (fun q26 H hP hD hS => ?_)
  have hP : va_P (dC, dI) vwCl [(h0, .inr (1, [.int 0, .int 0, .int 0, .int 0, .ref q1, .ref q2, .ref q3])), (q1, .inl (cy 1, 8, .inr (.inr (.inr (.inr f_16))))), (q2, .inl (cy 2, 4, .inr (.inr (.inr (.inr f_22))))), (q3, .inl (cy 3, 6, .inr (.inr (.inr (.inr (fun _ => none)))))), (q4, .inr (3, [.int 0, .int 0])), (q20, .inr (2, [.int 0, .int 0, .int 0])), (q26, .inr (2, [.int 0, .int 0, .int 0]))] H := hP
  have hD : va_D A [(h0, .inr (1, [.int 0, .int 0, .int 0, .int 0, .ref q1, .ref q2, .ref q3])), (q1, .inl (cy 1, 8, .inr (.inr (.inr (.inr f_16))))), (q2, .inl (cy 2, 4, .inr (.inr (.inr (.inr f_22))))), (q3, .inl (cy 3, 6, .inr (.inr (.inr (.inr (fun _ => none)))))), (q4, .inr (3, [.int 0, .int 0])), (q20, .inr (2, [.int 0, .int 0, .int 0])), (q26, .inr (2, [.int 0, .int 0, .int 0]))] := hD
  refine W.widen (k := 15) (n := 46) (by omega) (by omega) ?_
  refine lv_dup hx hb dX1_init_72 rfl ?_
  refine yc_v (wc := [(q26, .inr (2, [.int 0, .int 0, .int 0]))]) (wr := [(h0, .inr (1, [.int 0, .int 0, .int 0, .int 0, .ref q1, .ref q2, .ref q3])), (q1, .inl (cy 1, 8, .inr (.inr (.inr (.inr f_16))))), (q2, .inl (cy 2, 4, .inr (.inr (.inr (.inr f_22))))), (q3, .inl (cy 3, 6, .inr (.inr (.inr (.inr (fun _ => none)))))), (q4, .inr (3, [.int 0, .int 0])), (q20, .inr (2, [.int 0, .int 0, .int 0]))]) (w1 := fun _ => [(q26, .inr (2, [.int 0, .int 0, .int 0]))]) hP hD hS hA [6] [0, 1, 2, 3, 4, 5] rfl rfl (by decide) (by decide) (va_runIN (As := []) (rest := [.ref q26, .int 3, .ref q2]) ⟨hx, hb, hml, hown, hts⟩ (c_X2_init l dC dI cy _ q26) ⟨va_cnB 0 hts gX1_init_X2_init_n30 rfl rfl rfl hE.2.1 (hts (.initialized RX2) (by decide +kernel)) (by decide +kernel) ⟨Nat.le_of_ble_eq_true rfl, Nat.le_of_ble_eq_true rfl⟩, rfl, (hts (.instanceMethod yX2_init) (by decide +kernel))⟩ (ex_preS hE hK hP hD [6] (by decide) rfl) rfl rfl hl.1 rfl (lv_room (Nat.le_of_ble_eq_true rfl)) dX1_init_73 ⟨Nat.le_of_ble_eq_true rfl, Nat.le_of_ble_eq_true rfl⟩) (fun u_23 H locs hw_23 hP hD hS => ?_)
  have hP : va_P (dC, dI) vwCl [(h0, .inr (1, [.int 0, .int 0, .int 0, .int 0, .ref q1, .ref q2, .ref q3])), (q1, .inl (cy 1, 8, .inr (.inr (.inr (.inr f_16))))), (q2, .inl (cy 2, 4, .inr (.inr (.inr (.inr f_22))))), (q3, .inl (cy 3, 6, .inr (.inr (.inr (.inr (fun _ => none)))))), (q4, .inr (3, [.int 0, .int 0])), (q20, .inr (2, [.int 0, .int 0, .int 0])), (q26, .inr (2, [.int 0, .int 0, .int 0]))] H := hP
  have hD : va_D A [(h0, .inr (1, [.int 0, .int 0, .int 0, .int 0, .ref q1, .ref q2, .ref q3])), (q1, .inl (cy 1, 8, .inr (.inr (.inr (.inr f_16))))), (q2, .inl (cy 2, 4, .inr (.inr (.inr (.inr f_22))))), (q3, .inl (cy 3, 6, .inr (.inr (.inr (.inr (fun _ => none)))))), (q4, .inr (3, [.int 0, .int 0])), (q20, .inr (2, [.int 0, .int 0, .int 0])), (q26, .inr (2, [.int 0, .int 0, .int 0]))] := hD
  refine va_astq hx hb hK hP hD hS 2 2 6 2 rfl rfl rfl rfl (by unfold vp_in; decide) dX1_init_76 (fun H locs hP hD hS => ?_)
  obtain ⟨f_24, ef_24⟩ : ∃ f9 : Nat → Option Nat, f9 = va_up f_22 (3 : Int32).toNatClampNeg (some q26) := ⟨_, rfl⟩
  rw [← ef_24] at hP hD
  have hP : va_P (dC, dI) vwCl [(h0, .inr (1, [.int 0, .int 0, .int 0, .int 0, .ref q1, .ref q2, .ref q3])), (q1, .inl (cy 1, 8, .inr (.inr (.inr (.inr f_16))))), (q2, .inl (cy 2, 4, .inr (.inr (.inr (.inr f_24))))), (q3, .inl (cy 3, 6, .inr (.inr (.inr (.inr (fun _ => none)))))), (q4, .inr (3, [.int 0, .int 0])), (q20, .inr (2, [.int 0, .int 0, .int 0])), (q26, .inr (2, [.int 0, .int 0, .int 0]))] H := hP
  have hD : va_D A [(h0, .inr (1, [.int 0, .int 0, .int 0, .int 0, .ref q1, .ref q2, .ref q3])), (q1, .inl (cy 1, 8, .inr (.inr (.inr (.inr f_16))))), (q2, .inl (cy 2, 4, .inr (.inr (.inr (.inr f_24))))), (q3, .inl (cy 3, 6, .inr (.inr (.inr (.inr (fun _ => none)))))), (q4, .inr (3, [.int 0, .int 0])), (q20, .inr (2, [.int 0, .int 0, .int 0])), (q26, .inr (2, [.int 0, .int 0, .int 0]))] := hD
  have gf_24 : f_24 0 = some q20 := by rw [ef_24]; exact (if_neg (by decide)).trans gf_22
  have hP := hP.sub (ws' := [(h0, .inr (1, [.int 0, .int 0, .int 0, .int 0, .ref q1, .ref q2, .ref q3])), (q1, .inl (cy 1, 8, .inr (.inr (.inr (.inr f_16))))), (q2, .inl (cy 2, 4, .inr (.inr (.inr (.inr f_24))))), (q3, .inl (cy 3, 6, .inr (.inr (.inr (.inr (fun _ => none)))))), (q4, .inr (3, [.int 0, .int 0])), (q20, .inr (2, [.int 0, .int 0, .int 0]))]) [0, 1, 2, 3, 4, 5] rfl
  have hD := hD.sub (ws' := [(h0, .inr (1, [.int 0, .int 0, .int 0, .int 0, .ref q1, .ref q2, .ref q3])), (q1, .inl (cy 1, 8, .inr (.inr (.inr (.inr f_16))))), (q2, .inl (cy 2, 4, .inr (.inr (.inr (.inr f_24))))), (q3, .inl (cy 3, 6, .inr (.inr (.inr (.inr (fun _ => none)))))), (q4, .inr (3, [.int 0, .int 0])), (q20, .inr (2, [.int 0, .int 0, .int 0]))]) [0, 1, 2, 3, 4, 5] (by decide) rfl
  refine lv_iinc (v := 4) (lv' := [(1, .int 4), (0, .ref h0)]) hx hb dX1_init_77 hl (k := 0) rfl (by decide) (by decide) rfl (fun ls hl => ?_)
  refine lv_goto (tgt := 59) hx hb dX1_init_80 (by decide) ?_
  refine lv_iload_n hx hb dX1_init_59 rfl (lv_at hl 0 rfl) ?_
  refine lv_iconst (v := 4) hx hb dX1_init_60 (by decide) ?_
  refine lv_icmp_ge (tgt := 83) hx hb dX1_init_61 (by decide) (fun _ => ?_) (fun c9 => absurd c9 (by decide))
  refine lv_iconst (v := 0) hx hb dX1_init_83 (by decide) ?_
  refine lv_istore_n (lv' := [(1, .int 0), (0, .ref h0)]) hx hb dX1_init_84 rfl hl (by decide) rfl (fun ls hl => ?_)
  refine lv_iload_n hx hb dX1_init_85 rfl (lv_at hl 0 rfl) ?_
  refine lv_bipush (v := 6) hx hb dX1_init_86 (by decide) ?_
  refine lv_icmp_ge (tgt := 110) hx hb dX1_init_88 (by decide) (fun c9 => absurd c9 (by decide)) (fun _ => ?_)
  refine lv_aload_n hx hb dX1_init_91 rfl (lv_at hl 1 rfl) ?_
  refine va_get (D := (dC, dI)) (ci := 1) (v := .ref q3) (C := RX1) (T := TX1) (N := 7) hx hb hts (by decide +kernel) hown hK hP 0 rfl rfl 6 (by decide) (hts (.fieldLink RX1 25 "QuietStairs$House" "cases" "[LQuietStairs$Case;") (by decide +kernel)) (fun _ h9 => h9) rfl dX1_init_92 ?_
  refine lv_iload_n hx hb dX1_init_95 rfl (lv_at hl 0 rfl) ?_
  refine va_new (ci := 0) (fs := [.int 0, .int 0, .int 0, .int 0, .int 0, .int 0, .null, .null, .null, .null, .null]) (C := RX0) (T := TX0) (N := 11) hx hb hts (by decide +kernel) tyX0 tyX0_ok hown (hts (.classLink RX1 23 RX0) (by decide +kernel)) (hts (.instantiable RX0 11) (by decide +kernel)) (hts (.initialized RX0) (by decide +kernel)) hK hP hD hS hA rfl (fun j hj => by rcases (show j = 0 ∨ j = 1 ∨ j = 2 ∨ j = 3 ∨ j = 4 ∨ j = 5 ∨ j = 6 ∨ j = 7 ∨ j = 8 ∨ j = 9 ∨ j = 10 by omega) with rfl | rfl | rfl | rfl | rfl | rfl | rfl | rfl | rfl | rfl | rfl <;> rfl) (Nat.le_of_ble_eq_true rfl) (Nat.le_of_ble_eq_true rfl) dX1_init_96 (fun q28 H hP hD hS => ?_)
  have hP : va_P (dC, dI) vwCl [(h0, .inr (1, [.int 0, .int 0, .int 0, .int 0, .ref q1, .ref q2, .ref q3])), (q1, .inl (cy 1, 8, .inr (.inr (.inr (.inr f_16))))), (q2, .inl (cy 2, 4, .inr (.inr (.inr (.inr f_24))))), (q3, .inl (cy 3, 6, .inr (.inr (.inr (.inr (fun _ => none)))))), (q4, .inr (3, [.int 0, .int 0])), (q20, .inr (2, [.int 0, .int 0, .int 0])), (q28, .inr (0, [.int 0, .int 0, .int 0, .int 0, .int 0, .int 0, .null, .null, .null, .null, .null]))] H := hP
  have hD : va_D A [(h0, .inr (1, [.int 0, .int 0, .int 0, .int 0, .ref q1, .ref q2, .ref q3])), (q1, .inl (cy 1, 8, .inr (.inr (.inr (.inr f_16))))), (q2, .inl (cy 2, 4, .inr (.inr (.inr (.inr f_24))))), (q3, .inl (cy 3, 6, .inr (.inr (.inr (.inr (fun _ => none)))))), (q4, .inr (3, [.int 0, .int 0])), (q20, .inr (2, [.int 0, .int 0, .int 0])), (q28, .inr (0, [.int 0, .int 0, .int 0, .int 0, .int 0, .int 0, .null, .null, .null, .null, .null]))] := hD
  refine W.widen (k := 16) (n := 57) (by omega) (by omega) ?_
  refine lv_dup hx hb dX1_init_99 rfl ?_
  refine yc_v (wc := [(q28, .inr (0, [.int 0, .int 0, .int 0, .int 0, .int 0, .int 0, .null, .null, .null, .null, .null]))]) (wr := [(h0, .inr (1, [.int 0, .int 0, .int 0, .int 0, .ref q1, .ref q2, .ref q3])), (q1, .inl (cy 1, 8, .inr (.inr (.inr (.inr f_16))))), (q2, .inl (cy 2, 4, .inr (.inr (.inr (.inr f_24))))), (q3, .inl (cy 3, 6, .inr (.inr (.inr (.inr (fun _ => none)))))), (q4, .inr (3, [.int 0, .int 0])), (q20, .inr (2, [.int 0, .int 0, .int 0]))]) (w1 := fun (u : List Value) => [(q28, .inr (0, u))]) hP hD hS hA [6] [0, 1, 2, 3, 4, 5] rfl rfl (by decide) (by decide) (va_runI (As := []) (rest := [.ref q28, .int 0, .ref q3]) ⟨hx, hb, hml, hown, hts⟩ (c_X0_init l dC dI cy _ q28) (cwI 0 hts gX1_init_X0_init rfl rfl rfl (hts (.initialized RX0) (by decide +kernel)) (hts (.methodLink RX1 31 yX0_init) (by decide +kernel)) (hts (.instanceMethod yX0_init) (by decide +kernel)) rfl (by decide +kernel) ⟨Nat.le_of_ble_eq_true rfl, Nat.le_of_ble_eq_true rfl⟩) (ex_preS hE hK hP hD [6] (by decide) rfl) rfl rfl hl.1 rfl (lv_room (Nat.le_of_ble_eq_true rfl)) dX1_init_100 ⟨Nat.le_of_ble_eq_true rfl, Nat.le_of_ble_eq_true rfl⟩) (fun u_25 H locs hw_25 hP hD hS => ?_)
  have hP : va_P (dC, dI) vwCl [(h0, .inr (1, [.int 0, .int 0, .int 0, .int 0, .ref q1, .ref q2, .ref q3])), (q1, .inl (cy 1, 8, .inr (.inr (.inr (.inr f_16))))), (q2, .inl (cy 2, 4, .inr (.inr (.inr (.inr f_24))))), (q3, .inl (cy 3, 6, .inr (.inr (.inr (.inr (fun _ => none)))))), (q4, .inr (3, [.int 0, .int 0])), (q20, .inr (2, [.int 0, .int 0, .int 0])), (q28, .inr (0, u_25))] H := hP
  have hD : va_D A [(h0, .inr (1, [.int 0, .int 0, .int 0, .int 0, .ref q1, .ref q2, .ref q3])), (q1, .inl (cy 1, 8, .inr (.inr (.inr (.inr f_16))))), (q2, .inl (cy 2, 4, .inr (.inr (.inr (.inr f_24))))), (q3, .inl (cy 3, 6, .inr (.inr (.inr (.inr (fun _ => none)))))), (q4, .inr (3, [.int 0, .int 0])), (q20, .inr (2, [.int 0, .int 0, .int 0])), (q28, .inr (0, u_25))] := hD
  refine W.widen (k := 30) (n := 153) (by omega) (by omega) ?_
  refine va_astq hx hb hK hP hD hS 3 3 6 0 rfl rfl rfl rfl (by unfold vp_in; decide) dX1_init_103 (fun H locs hP hD hS => ?_)
  obtain ⟨f_26, ef_26⟩ : ∃ f9 : Nat → Option Nat, f9 = va_up (fun _ => none) (0 : Int32).toNatClampNeg (some q28) := ⟨_, rfl⟩
  rw [← ef_26] at hP hD
  have hP : va_P (dC, dI) vwCl [(h0, .inr (1, [.int 0, .int 0, .int 0, .int 0, .ref q1, .ref q2, .ref q3])), (q1, .inl (cy 1, 8, .inr (.inr (.inr (.inr f_16))))), (q2, .inl (cy 2, 4, .inr (.inr (.inr (.inr f_24))))), (q3, .inl (cy 3, 6, .inr (.inr (.inr (.inr f_26))))), (q4, .inr (3, [.int 0, .int 0])), (q20, .inr (2, [.int 0, .int 0, .int 0])), (q28, .inr (0, u_25))] H := hP
  have hD : va_D A [(h0, .inr (1, [.int 0, .int 0, .int 0, .int 0, .ref q1, .ref q2, .ref q3])), (q1, .inl (cy 1, 8, .inr (.inr (.inr (.inr f_16))))), (q2, .inl (cy 2, 4, .inr (.inr (.inr (.inr f_24))))), (q3, .inl (cy 3, 6, .inr (.inr (.inr (.inr f_26))))), (q4, .inr (3, [.int 0, .int 0])), (q20, .inr (2, [.int 0, .int 0, .int 0])), (q28, .inr (0, u_25))] := hD
  have hP := hP.sub (ws' := [(h0, .inr (1, [.int 0, .int 0, .int 0, .int 0, .ref q1, .ref q2, .ref q3])), (q1, .inl (cy 1, 8, .inr (.inr (.inr (.inr f_16))))), (q2, .inl (cy 2, 4, .inr (.inr (.inr (.inr f_24))))), (q3, .inl (cy 3, 6, .inr (.inr (.inr (.inr f_26))))), (q4, .inr (3, [.int 0, .int 0])), (q20, .inr (2, [.int 0, .int 0, .int 0]))]) [0, 1, 2, 3, 4, 5] rfl
  have hD := hD.sub (ws' := [(h0, .inr (1, [.int 0, .int 0, .int 0, .int 0, .ref q1, .ref q2, .ref q3])), (q1, .inl (cy 1, 8, .inr (.inr (.inr (.inr f_16))))), (q2, .inl (cy 2, 4, .inr (.inr (.inr (.inr f_24))))), (q3, .inl (cy 3, 6, .inr (.inr (.inr (.inr f_26))))), (q4, .inr (3, [.int 0, .int 0])), (q20, .inr (2, [.int 0, .int 0, .int 0]))]) [0, 1, 2, 3, 4, 5] (by decide) rfl
  refine lv_iinc (v := 1) (lv' := [(1, .int 1), (0, .ref h0)]) hx hb dX1_init_104 hl (k := 0) rfl (by decide) (by decide) rfl (fun ls hl => ?_)
  refine lv_goto (tgt := 85) hx hb dX1_init_107 (by decide) ?_
  refine lv_iload_n hx hb dX1_init_85 rfl (lv_at hl 0 rfl) ?_
  refine lv_bipush (v := 6) hx hb dX1_init_86 (by decide) ?_
  refine lv_icmp_ge (tgt := 110) hx hb dX1_init_88 (by decide) (fun c9 => absurd c9 (by decide)) (fun _ => ?_)
  refine lv_aload_n hx hb dX1_init_91 rfl (lv_at hl 1 rfl) ?_
  refine va_get (D := (dC, dI)) (ci := 1) (v := .ref q3) (C := RX1) (T := TX1) (N := 7) hx hb hts (by decide +kernel) hown hK hP 0 rfl rfl 6 (by decide) (hts (.fieldLink RX1 25 "QuietStairs$House" "cases" "[LQuietStairs$Case;") (by decide +kernel)) (fun _ h9 => h9) rfl dX1_init_92 ?_
  refine lv_iload_n hx hb dX1_init_95 rfl (lv_at hl 0 rfl) ?_
  refine va_new (ci := 0) (fs := [.int 0, .int 0, .int 0, .int 0, .int 0, .int 0, .null, .null, .null, .null, .null]) (C := RX0) (T := TX0) (N := 11) hx hb hts (by decide +kernel) tyX0 tyX0_ok hown (hts (.classLink RX1 23 RX0) (by decide +kernel)) (hts (.instantiable RX0 11) (by decide +kernel)) (hts (.initialized RX0) (by decide +kernel)) hK hP hD hS hA rfl (fun j hj => by rcases (show j = 0 ∨ j = 1 ∨ j = 2 ∨ j = 3 ∨ j = 4 ∨ j = 5 ∨ j = 6 ∨ j = 7 ∨ j = 8 ∨ j = 9 ∨ j = 10 by omega) with rfl | rfl | rfl | rfl | rfl | rfl | rfl | rfl | rfl | rfl | rfl <;> rfl) (Nat.le_of_ble_eq_true rfl) (Nat.le_of_ble_eq_true rfl) dX1_init_96 (fun q30 H hP hD hS => ?_)
  have hP : va_P (dC, dI) vwCl [(h0, .inr (1, [.int 0, .int 0, .int 0, .int 0, .ref q1, .ref q2, .ref q3])), (q1, .inl (cy 1, 8, .inr (.inr (.inr (.inr f_16))))), (q2, .inl (cy 2, 4, .inr (.inr (.inr (.inr f_24))))), (q3, .inl (cy 3, 6, .inr (.inr (.inr (.inr f_26))))), (q4, .inr (3, [.int 0, .int 0])), (q20, .inr (2, [.int 0, .int 0, .int 0])), (q30, .inr (0, [.int 0, .int 0, .int 0, .int 0, .int 0, .int 0, .null, .null, .null, .null, .null]))] H := hP
  have hD : va_D A [(h0, .inr (1, [.int 0, .int 0, .int 0, .int 0, .ref q1, .ref q2, .ref q3])), (q1, .inl (cy 1, 8, .inr (.inr (.inr (.inr f_16))))), (q2, .inl (cy 2, 4, .inr (.inr (.inr (.inr f_24))))), (q3, .inl (cy 3, 6, .inr (.inr (.inr (.inr f_26))))), (q4, .inr (3, [.int 0, .int 0])), (q20, .inr (2, [.int 0, .int 0, .int 0])), (q30, .inr (0, [.int 0, .int 0, .int 0, .int 0, .int 0, .int 0, .null, .null, .null, .null, .null]))] := hD
  refine W.widen (k := 31) (n := 164) (by omega) (by omega) ?_
  refine lv_dup hx hb dX1_init_99 rfl ?_
  refine yc_v (wc := [(q30, .inr (0, [.int 0, .int 0, .int 0, .int 0, .int 0, .int 0, .null, .null, .null, .null, .null]))]) (wr := [(h0, .inr (1, [.int 0, .int 0, .int 0, .int 0, .ref q1, .ref q2, .ref q3])), (q1, .inl (cy 1, 8, .inr (.inr (.inr (.inr f_16))))), (q2, .inl (cy 2, 4, .inr (.inr (.inr (.inr f_24))))), (q3, .inl (cy 3, 6, .inr (.inr (.inr (.inr f_26))))), (q4, .inr (3, [.int 0, .int 0])), (q20, .inr (2, [.int 0, .int 0, .int 0]))]) (w1 := fun (u : List Value) => [(q30, .inr (0, u))]) hP hD hS hA [6] [0, 1, 2, 3, 4, 5] rfl rfl (by decide) (by decide) (va_runI (As := []) (rest := [.ref q30, .int 1, .ref q3]) ⟨hx, hb, hml, hown, hts⟩ (c_X0_init l dC dI cy _ q30) (cwI 0 hts gX1_init_X0_init rfl rfl rfl (hts (.initialized RX0) (by decide +kernel)) (hts (.methodLink RX1 31 yX0_init) (by decide +kernel)) (hts (.instanceMethod yX0_init) (by decide +kernel)) rfl (by decide +kernel) ⟨Nat.le_of_ble_eq_true rfl, Nat.le_of_ble_eq_true rfl⟩) (ex_preS hE hK hP hD [6] (by decide) rfl) rfl rfl hl.1 rfl (lv_room (Nat.le_of_ble_eq_true rfl)) dX1_init_100 ⟨Nat.le_of_ble_eq_true rfl, Nat.le_of_ble_eq_true rfl⟩) (fun u_27 H locs hw_27 hP hD hS => ?_)
  have hP : va_P (dC, dI) vwCl [(h0, .inr (1, [.int 0, .int 0, .int 0, .int 0, .ref q1, .ref q2, .ref q3])), (q1, .inl (cy 1, 8, .inr (.inr (.inr (.inr f_16))))), (q2, .inl (cy 2, 4, .inr (.inr (.inr (.inr f_24))))), (q3, .inl (cy 3, 6, .inr (.inr (.inr (.inr f_26))))), (q4, .inr (3, [.int 0, .int 0])), (q20, .inr (2, [.int 0, .int 0, .int 0])), (q30, .inr (0, u_27))] H := hP
  have hD : va_D A [(h0, .inr (1, [.int 0, .int 0, .int 0, .int 0, .ref q1, .ref q2, .ref q3])), (q1, .inl (cy 1, 8, .inr (.inr (.inr (.inr f_16))))), (q2, .inl (cy 2, 4, .inr (.inr (.inr (.inr f_24))))), (q3, .inl (cy 3, 6, .inr (.inr (.inr (.inr f_26))))), (q4, .inr (3, [.int 0, .int 0])), (q20, .inr (2, [.int 0, .int 0, .int 0])), (q30, .inr (0, u_27))] := hD
  refine W.widen (k := 45) (n := 260) (by omega) (by omega) ?_
  refine va_astq hx hb hK hP hD hS 3 3 6 0 rfl rfl rfl rfl (by unfold vp_in; decide) dX1_init_103 (fun H locs hP hD hS => ?_)
  obtain ⟨f_28, ef_28⟩ : ∃ f9 : Nat → Option Nat, f9 = va_up f_26 (1 : Int32).toNatClampNeg (some q30) := ⟨_, rfl⟩
  rw [← ef_28] at hP hD
  have hP : va_P (dC, dI) vwCl [(h0, .inr (1, [.int 0, .int 0, .int 0, .int 0, .ref q1, .ref q2, .ref q3])), (q1, .inl (cy 1, 8, .inr (.inr (.inr (.inr f_16))))), (q2, .inl (cy 2, 4, .inr (.inr (.inr (.inr f_24))))), (q3, .inl (cy 3, 6, .inr (.inr (.inr (.inr f_28))))), (q4, .inr (3, [.int 0, .int 0])), (q20, .inr (2, [.int 0, .int 0, .int 0])), (q30, .inr (0, u_27))] H := hP
  have hD : va_D A [(h0, .inr (1, [.int 0, .int 0, .int 0, .int 0, .ref q1, .ref q2, .ref q3])), (q1, .inl (cy 1, 8, .inr (.inr (.inr (.inr f_16))))), (q2, .inl (cy 2, 4, .inr (.inr (.inr (.inr f_24))))), (q3, .inl (cy 3, 6, .inr (.inr (.inr (.inr f_28))))), (q4, .inr (3, [.int 0, .int 0])), (q20, .inr (2, [.int 0, .int 0, .int 0])), (q30, .inr (0, u_27))] := hD
  have hP := hP.sub (ws' := [(h0, .inr (1, [.int 0, .int 0, .int 0, .int 0, .ref q1, .ref q2, .ref q3])), (q1, .inl (cy 1, 8, .inr (.inr (.inr (.inr f_16))))), (q2, .inl (cy 2, 4, .inr (.inr (.inr (.inr f_24))))), (q3, .inl (cy 3, 6, .inr (.inr (.inr (.inr f_28))))), (q4, .inr (3, [.int 0, .int 0])), (q20, .inr (2, [.int 0, .int 0, .int 0]))]) [0, 1, 2, 3, 4, 5] rfl
  have hD := hD.sub (ws' := [(h0, .inr (1, [.int 0, .int 0, .int 0, .int 0, .ref q1, .ref q2, .ref q3])), (q1, .inl (cy 1, 8, .inr (.inr (.inr (.inr f_16))))), (q2, .inl (cy 2, 4, .inr (.inr (.inr (.inr f_24))))), (q3, .inl (cy 3, 6, .inr (.inr (.inr (.inr f_28))))), (q4, .inr (3, [.int 0, .int 0])), (q20, .inr (2, [.int 0, .int 0, .int 0]))]) [0, 1, 2, 3, 4, 5] (by decide) rfl
  refine lv_iinc (v := 2) (lv' := [(1, .int 2), (0, .ref h0)]) hx hb dX1_init_104 hl (k := 0) rfl (by decide) (by decide) rfl (fun ls hl => ?_)
  refine lv_goto (tgt := 85) hx hb dX1_init_107 (by decide) ?_
  refine lv_iload_n hx hb dX1_init_85 rfl (lv_at hl 0 rfl) ?_
  refine lv_bipush (v := 6) hx hb dX1_init_86 (by decide) ?_
  refine lv_icmp_ge (tgt := 110) hx hb dX1_init_88 (by decide) (fun c9 => absurd c9 (by decide)) (fun _ => ?_)
  refine lv_aload_n hx hb dX1_init_91 rfl (lv_at hl 1 rfl) ?_
  refine va_get (D := (dC, dI)) (ci := 1) (v := .ref q3) (C := RX1) (T := TX1) (N := 7) hx hb hts (by decide +kernel) hown hK hP 0 rfl rfl 6 (by decide) (hts (.fieldLink RX1 25 "QuietStairs$House" "cases" "[LQuietStairs$Case;") (by decide +kernel)) (fun _ h9 => h9) rfl dX1_init_92 ?_
  refine lv_iload_n hx hb dX1_init_95 rfl (lv_at hl 0 rfl) ?_
  refine va_new (ci := 0) (fs := [.int 0, .int 0, .int 0, .int 0, .int 0, .int 0, .null, .null, .null, .null, .null]) (C := RX0) (T := TX0) (N := 11) hx hb hts (by decide +kernel) tyX0 tyX0_ok hown (hts (.classLink RX1 23 RX0) (by decide +kernel)) (hts (.instantiable RX0 11) (by decide +kernel)) (hts (.initialized RX0) (by decide +kernel)) hK hP hD hS hA rfl (fun j hj => by rcases (show j = 0 ∨ j = 1 ∨ j = 2 ∨ j = 3 ∨ j = 4 ∨ j = 5 ∨ j = 6 ∨ j = 7 ∨ j = 8 ∨ j = 9 ∨ j = 10 by omega) with rfl | rfl | rfl | rfl | rfl | rfl | rfl | rfl | rfl | rfl | rfl <;> rfl) (Nat.le_of_ble_eq_true rfl) (Nat.le_of_ble_eq_true rfl) dX1_init_96 (fun q32 H hP hD hS => ?_)
  have hP : va_P (dC, dI) vwCl [(h0, .inr (1, [.int 0, .int 0, .int 0, .int 0, .ref q1, .ref q2, .ref q3])), (q1, .inl (cy 1, 8, .inr (.inr (.inr (.inr f_16))))), (q2, .inl (cy 2, 4, .inr (.inr (.inr (.inr f_24))))), (q3, .inl (cy 3, 6, .inr (.inr (.inr (.inr f_28))))), (q4, .inr (3, [.int 0, .int 0])), (q20, .inr (2, [.int 0, .int 0, .int 0])), (q32, .inr (0, [.int 0, .int 0, .int 0, .int 0, .int 0, .int 0, .null, .null, .null, .null, .null]))] H := hP
  have hD : va_D A [(h0, .inr (1, [.int 0, .int 0, .int 0, .int 0, .ref q1, .ref q2, .ref q3])), (q1, .inl (cy 1, 8, .inr (.inr (.inr (.inr f_16))))), (q2, .inl (cy 2, 4, .inr (.inr (.inr (.inr f_24))))), (q3, .inl (cy 3, 6, .inr (.inr (.inr (.inr f_28))))), (q4, .inr (3, [.int 0, .int 0])), (q20, .inr (2, [.int 0, .int 0, .int 0])), (q32, .inr (0, [.int 0, .int 0, .int 0, .int 0, .int 0, .int 0, .null, .null, .null, .null, .null]))] := hD
  refine W.widen (k := 46) (n := 271) (by omega) (by omega) ?_
  refine lv_dup hx hb dX1_init_99 rfl ?_
  refine yc_v (wc := [(q32, .inr (0, [.int 0, .int 0, .int 0, .int 0, .int 0, .int 0, .null, .null, .null, .null, .null]))]) (wr := [(h0, .inr (1, [.int 0, .int 0, .int 0, .int 0, .ref q1, .ref q2, .ref q3])), (q1, .inl (cy 1, 8, .inr (.inr (.inr (.inr f_16))))), (q2, .inl (cy 2, 4, .inr (.inr (.inr (.inr f_24))))), (q3, .inl (cy 3, 6, .inr (.inr (.inr (.inr f_28))))), (q4, .inr (3, [.int 0, .int 0])), (q20, .inr (2, [.int 0, .int 0, .int 0]))]) (w1 := fun (u : List Value) => [(q32, .inr (0, u))]) hP hD hS hA [6] [0, 1, 2, 3, 4, 5] rfl rfl (by decide) (by decide) (va_runI (As := []) (rest := [.ref q32, .int 2, .ref q3]) ⟨hx, hb, hml, hown, hts⟩ (c_X0_init l dC dI cy _ q32) (cwI 0 hts gX1_init_X0_init rfl rfl rfl (hts (.initialized RX0) (by decide +kernel)) (hts (.methodLink RX1 31 yX0_init) (by decide +kernel)) (hts (.instanceMethod yX0_init) (by decide +kernel)) rfl (by decide +kernel) ⟨Nat.le_of_ble_eq_true rfl, Nat.le_of_ble_eq_true rfl⟩) (ex_preS hE hK hP hD [6] (by decide) rfl) rfl rfl hl.1 rfl (lv_room (Nat.le_of_ble_eq_true rfl)) dX1_init_100 ⟨Nat.le_of_ble_eq_true rfl, Nat.le_of_ble_eq_true rfl⟩) (fun u_29 H locs hw_29 hP hD hS => ?_)
  have hP : va_P (dC, dI) vwCl [(h0, .inr (1, [.int 0, .int 0, .int 0, .int 0, .ref q1, .ref q2, .ref q3])), (q1, .inl (cy 1, 8, .inr (.inr (.inr (.inr f_16))))), (q2, .inl (cy 2, 4, .inr (.inr (.inr (.inr f_24))))), (q3, .inl (cy 3, 6, .inr (.inr (.inr (.inr f_28))))), (q4, .inr (3, [.int 0, .int 0])), (q20, .inr (2, [.int 0, .int 0, .int 0])), (q32, .inr (0, u_29))] H := hP
  have hD : va_D A [(h0, .inr (1, [.int 0, .int 0, .int 0, .int 0, .ref q1, .ref q2, .ref q3])), (q1, .inl (cy 1, 8, .inr (.inr (.inr (.inr f_16))))), (q2, .inl (cy 2, 4, .inr (.inr (.inr (.inr f_24))))), (q3, .inl (cy 3, 6, .inr (.inr (.inr (.inr f_28))))), (q4, .inr (3, [.int 0, .int 0])), (q20, .inr (2, [.int 0, .int 0, .int 0])), (q32, .inr (0, u_29))] := hD
  refine W.widen (k := 60) (n := 367) (by omega) (by omega) ?_
  refine va_astq hx hb hK hP hD hS 3 3 6 0 rfl rfl rfl rfl (by unfold vp_in; decide) dX1_init_103 (fun H locs hP hD hS => ?_)
  obtain ⟨f_30, ef_30⟩ : ∃ f9 : Nat → Option Nat, f9 = va_up f_28 (2 : Int32).toNatClampNeg (some q32) := ⟨_, rfl⟩
  rw [← ef_30] at hP hD
  have hP : va_P (dC, dI) vwCl [(h0, .inr (1, [.int 0, .int 0, .int 0, .int 0, .ref q1, .ref q2, .ref q3])), (q1, .inl (cy 1, 8, .inr (.inr (.inr (.inr f_16))))), (q2, .inl (cy 2, 4, .inr (.inr (.inr (.inr f_24))))), (q3, .inl (cy 3, 6, .inr (.inr (.inr (.inr f_30))))), (q4, .inr (3, [.int 0, .int 0])), (q20, .inr (2, [.int 0, .int 0, .int 0])), (q32, .inr (0, u_29))] H := hP
  have hD : va_D A [(h0, .inr (1, [.int 0, .int 0, .int 0, .int 0, .ref q1, .ref q2, .ref q3])), (q1, .inl (cy 1, 8, .inr (.inr (.inr (.inr f_16))))), (q2, .inl (cy 2, 4, .inr (.inr (.inr (.inr f_24))))), (q3, .inl (cy 3, 6, .inr (.inr (.inr (.inr f_30))))), (q4, .inr (3, [.int 0, .int 0])), (q20, .inr (2, [.int 0, .int 0, .int 0])), (q32, .inr (0, u_29))] := hD
  have hP := hP.sub (ws' := [(h0, .inr (1, [.int 0, .int 0, .int 0, .int 0, .ref q1, .ref q2, .ref q3])), (q1, .inl (cy 1, 8, .inr (.inr (.inr (.inr f_16))))), (q2, .inl (cy 2, 4, .inr (.inr (.inr (.inr f_24))))), (q3, .inl (cy 3, 6, .inr (.inr (.inr (.inr f_30))))), (q4, .inr (3, [.int 0, .int 0])), (q20, .inr (2, [.int 0, .int 0, .int 0]))]) [0, 1, 2, 3, 4, 5] rfl
  have hD := hD.sub (ws' := [(h0, .inr (1, [.int 0, .int 0, .int 0, .int 0, .ref q1, .ref q2, .ref q3])), (q1, .inl (cy 1, 8, .inr (.inr (.inr (.inr f_16))))), (q2, .inl (cy 2, 4, .inr (.inr (.inr (.inr f_24))))), (q3, .inl (cy 3, 6, .inr (.inr (.inr (.inr f_30))))), (q4, .inr (3, [.int 0, .int 0])), (q20, .inr (2, [.int 0, .int 0, .int 0]))]) [0, 1, 2, 3, 4, 5] (by decide) rfl
  refine lv_iinc (v := 3) (lv' := [(1, .int 3), (0, .ref h0)]) hx hb dX1_init_104 hl (k := 0) rfl (by decide) (by decide) rfl (fun ls hl => ?_)
  refine lv_goto (tgt := 85) hx hb dX1_init_107 (by decide) ?_
  refine lv_iload_n hx hb dX1_init_85 rfl (lv_at hl 0 rfl) ?_
  refine lv_bipush (v := 6) hx hb dX1_init_86 (by decide) ?_
  refine lv_icmp_ge (tgt := 110) hx hb dX1_init_88 (by decide) (fun c9 => absurd c9 (by decide)) (fun _ => ?_)
  refine lv_aload_n hx hb dX1_init_91 rfl (lv_at hl 1 rfl) ?_
  refine va_get (D := (dC, dI)) (ci := 1) (v := .ref q3) (C := RX1) (T := TX1) (N := 7) hx hb hts (by decide +kernel) hown hK hP 0 rfl rfl 6 (by decide) (hts (.fieldLink RX1 25 "QuietStairs$House" "cases" "[LQuietStairs$Case;") (by decide +kernel)) (fun _ h9 => h9) rfl dX1_init_92 ?_
  refine lv_iload_n hx hb dX1_init_95 rfl (lv_at hl 0 rfl) ?_
  refine va_new (ci := 0) (fs := [.int 0, .int 0, .int 0, .int 0, .int 0, .int 0, .null, .null, .null, .null, .null]) (C := RX0) (T := TX0) (N := 11) hx hb hts (by decide +kernel) tyX0 tyX0_ok hown (hts (.classLink RX1 23 RX0) (by decide +kernel)) (hts (.instantiable RX0 11) (by decide +kernel)) (hts (.initialized RX0) (by decide +kernel)) hK hP hD hS hA rfl (fun j hj => by rcases (show j = 0 ∨ j = 1 ∨ j = 2 ∨ j = 3 ∨ j = 4 ∨ j = 5 ∨ j = 6 ∨ j = 7 ∨ j = 8 ∨ j = 9 ∨ j = 10 by omega) with rfl | rfl | rfl | rfl | rfl | rfl | rfl | rfl | rfl | rfl | rfl <;> rfl) (Nat.le_of_ble_eq_true rfl) (Nat.le_of_ble_eq_true rfl) dX1_init_96 (fun q34 H hP hD hS => ?_)
  have hP : va_P (dC, dI) vwCl [(h0, .inr (1, [.int 0, .int 0, .int 0, .int 0, .ref q1, .ref q2, .ref q3])), (q1, .inl (cy 1, 8, .inr (.inr (.inr (.inr f_16))))), (q2, .inl (cy 2, 4, .inr (.inr (.inr (.inr f_24))))), (q3, .inl (cy 3, 6, .inr (.inr (.inr (.inr f_30))))), (q4, .inr (3, [.int 0, .int 0])), (q20, .inr (2, [.int 0, .int 0, .int 0])), (q34, .inr (0, [.int 0, .int 0, .int 0, .int 0, .int 0, .int 0, .null, .null, .null, .null, .null]))] H := hP
  have hD : va_D A [(h0, .inr (1, [.int 0, .int 0, .int 0, .int 0, .ref q1, .ref q2, .ref q3])), (q1, .inl (cy 1, 8, .inr (.inr (.inr (.inr f_16))))), (q2, .inl (cy 2, 4, .inr (.inr (.inr (.inr f_24))))), (q3, .inl (cy 3, 6, .inr (.inr (.inr (.inr f_30))))), (q4, .inr (3, [.int 0, .int 0])), (q20, .inr (2, [.int 0, .int 0, .int 0])), (q34, .inr (0, [.int 0, .int 0, .int 0, .int 0, .int 0, .int 0, .null, .null, .null, .null, .null]))] := hD
  refine W.widen (k := 61) (n := 378) (by omega) (by omega) ?_
  refine lv_dup hx hb dX1_init_99 rfl ?_
  refine yc_v (wc := [(q34, .inr (0, [.int 0, .int 0, .int 0, .int 0, .int 0, .int 0, .null, .null, .null, .null, .null]))]) (wr := [(h0, .inr (1, [.int 0, .int 0, .int 0, .int 0, .ref q1, .ref q2, .ref q3])), (q1, .inl (cy 1, 8, .inr (.inr (.inr (.inr f_16))))), (q2, .inl (cy 2, 4, .inr (.inr (.inr (.inr f_24))))), (q3, .inl (cy 3, 6, .inr (.inr (.inr (.inr f_30))))), (q4, .inr (3, [.int 0, .int 0])), (q20, .inr (2, [.int 0, .int 0, .int 0]))]) (w1 := fun (u : List Value) => [(q34, .inr (0, u))]) hP hD hS hA [6] [0, 1, 2, 3, 4, 5] rfl rfl (by decide) (by decide) (va_runI (As := []) (rest := [.ref q34, .int 3, .ref q3]) ⟨hx, hb, hml, hown, hts⟩ (c_X0_init l dC dI cy _ q34) (cwI 0 hts gX1_init_X0_init rfl rfl rfl (hts (.initialized RX0) (by decide +kernel)) (hts (.methodLink RX1 31 yX0_init) (by decide +kernel)) (hts (.instanceMethod yX0_init) (by decide +kernel)) rfl (by decide +kernel) ⟨Nat.le_of_ble_eq_true rfl, Nat.le_of_ble_eq_true rfl⟩) (ex_preS hE hK hP hD [6] (by decide) rfl) rfl rfl hl.1 rfl (lv_room (Nat.le_of_ble_eq_true rfl)) dX1_init_100 ⟨Nat.le_of_ble_eq_true rfl, Nat.le_of_ble_eq_true rfl⟩) (fun u_31 H locs hw_31 hP hD hS => ?_)
  have hP : va_P (dC, dI) vwCl [(h0, .inr (1, [.int 0, .int 0, .int 0, .int 0, .ref q1, .ref q2, .ref q3])), (q1, .inl (cy 1, 8, .inr (.inr (.inr (.inr f_16))))), (q2, .inl (cy 2, 4, .inr (.inr (.inr (.inr f_24))))), (q3, .inl (cy 3, 6, .inr (.inr (.inr (.inr f_30))))), (q4, .inr (3, [.int 0, .int 0])), (q20, .inr (2, [.int 0, .int 0, .int 0])), (q34, .inr (0, u_31))] H := hP
  have hD : va_D A [(h0, .inr (1, [.int 0, .int 0, .int 0, .int 0, .ref q1, .ref q2, .ref q3])), (q1, .inl (cy 1, 8, .inr (.inr (.inr (.inr f_16))))), (q2, .inl (cy 2, 4, .inr (.inr (.inr (.inr f_24))))), (q3, .inl (cy 3, 6, .inr (.inr (.inr (.inr f_30))))), (q4, .inr (3, [.int 0, .int 0])), (q20, .inr (2, [.int 0, .int 0, .int 0])), (q34, .inr (0, u_31))] := hD
  refine W.widen (k := 75) (n := 474) (by omega) (by omega) ?_
  refine va_astq hx hb hK hP hD hS 3 3 6 0 rfl rfl rfl rfl (by unfold vp_in; decide) dX1_init_103 (fun H locs hP hD hS => ?_)
  obtain ⟨f_32, ef_32⟩ : ∃ f9 : Nat → Option Nat, f9 = va_up f_30 (3 : Int32).toNatClampNeg (some q34) := ⟨_, rfl⟩
  rw [← ef_32] at hP hD
  have hP : va_P (dC, dI) vwCl [(h0, .inr (1, [.int 0, .int 0, .int 0, .int 0, .ref q1, .ref q2, .ref q3])), (q1, .inl (cy 1, 8, .inr (.inr (.inr (.inr f_16))))), (q2, .inl (cy 2, 4, .inr (.inr (.inr (.inr f_24))))), (q3, .inl (cy 3, 6, .inr (.inr (.inr (.inr f_32))))), (q4, .inr (3, [.int 0, .int 0])), (q20, .inr (2, [.int 0, .int 0, .int 0])), (q34, .inr (0, u_31))] H := hP
  have hD : va_D A [(h0, .inr (1, [.int 0, .int 0, .int 0, .int 0, .ref q1, .ref q2, .ref q3])), (q1, .inl (cy 1, 8, .inr (.inr (.inr (.inr f_16))))), (q2, .inl (cy 2, 4, .inr (.inr (.inr (.inr f_24))))), (q3, .inl (cy 3, 6, .inr (.inr (.inr (.inr f_32))))), (q4, .inr (3, [.int 0, .int 0])), (q20, .inr (2, [.int 0, .int 0, .int 0])), (q34, .inr (0, u_31))] := hD
  have hP := hP.sub (ws' := [(h0, .inr (1, [.int 0, .int 0, .int 0, .int 0, .ref q1, .ref q2, .ref q3])), (q1, .inl (cy 1, 8, .inr (.inr (.inr (.inr f_16))))), (q2, .inl (cy 2, 4, .inr (.inr (.inr (.inr f_24))))), (q3, .inl (cy 3, 6, .inr (.inr (.inr (.inr f_32))))), (q4, .inr (3, [.int 0, .int 0])), (q20, .inr (2, [.int 0, .int 0, .int 0]))]) [0, 1, 2, 3, 4, 5] rfl
  have hD := hD.sub (ws' := [(h0, .inr (1, [.int 0, .int 0, .int 0, .int 0, .ref q1, .ref q2, .ref q3])), (q1, .inl (cy 1, 8, .inr (.inr (.inr (.inr f_16))))), (q2, .inl (cy 2, 4, .inr (.inr (.inr (.inr f_24))))), (q3, .inl (cy 3, 6, .inr (.inr (.inr (.inr f_32))))), (q4, .inr (3, [.int 0, .int 0])), (q20, .inr (2, [.int 0, .int 0, .int 0]))]) [0, 1, 2, 3, 4, 5] (by decide) rfl
  refine lv_iinc (v := 4) (lv' := [(1, .int 4), (0, .ref h0)]) hx hb dX1_init_104 hl (k := 0) rfl (by decide) (by decide) rfl (fun ls hl => ?_)
  refine lv_goto (tgt := 85) hx hb dX1_init_107 (by decide) ?_
  refine lv_iload_n hx hb dX1_init_85 rfl (lv_at hl 0 rfl) ?_
  refine lv_bipush (v := 6) hx hb dX1_init_86 (by decide) ?_
  refine lv_icmp_ge (tgt := 110) hx hb dX1_init_88 (by decide) (fun c9 => absurd c9 (by decide)) (fun _ => ?_)
  refine lv_aload_n hx hb dX1_init_91 rfl (lv_at hl 1 rfl) ?_
  refine va_get (D := (dC, dI)) (ci := 1) (v := .ref q3) (C := RX1) (T := TX1) (N := 7) hx hb hts (by decide +kernel) hown hK hP 0 rfl rfl 6 (by decide) (hts (.fieldLink RX1 25 "QuietStairs$House" "cases" "[LQuietStairs$Case;") (by decide +kernel)) (fun _ h9 => h9) rfl dX1_init_92 ?_
  refine lv_iload_n hx hb dX1_init_95 rfl (lv_at hl 0 rfl) ?_
  refine va_new (ci := 0) (fs := [.int 0, .int 0, .int 0, .int 0, .int 0, .int 0, .null, .null, .null, .null, .null]) (C := RX0) (T := TX0) (N := 11) hx hb hts (by decide +kernel) tyX0 tyX0_ok hown (hts (.classLink RX1 23 RX0) (by decide +kernel)) (hts (.instantiable RX0 11) (by decide +kernel)) (hts (.initialized RX0) (by decide +kernel)) hK hP hD hS hA rfl (fun j hj => by rcases (show j = 0 ∨ j = 1 ∨ j = 2 ∨ j = 3 ∨ j = 4 ∨ j = 5 ∨ j = 6 ∨ j = 7 ∨ j = 8 ∨ j = 9 ∨ j = 10 by omega) with rfl | rfl | rfl | rfl | rfl | rfl | rfl | rfl | rfl | rfl | rfl <;> rfl) (Nat.le_of_ble_eq_true rfl) (Nat.le_of_ble_eq_true rfl) dX1_init_96 (fun q36 H hP hD hS => ?_)
  have hP : va_P (dC, dI) vwCl [(h0, .inr (1, [.int 0, .int 0, .int 0, .int 0, .ref q1, .ref q2, .ref q3])), (q1, .inl (cy 1, 8, .inr (.inr (.inr (.inr f_16))))), (q2, .inl (cy 2, 4, .inr (.inr (.inr (.inr f_24))))), (q3, .inl (cy 3, 6, .inr (.inr (.inr (.inr f_32))))), (q4, .inr (3, [.int 0, .int 0])), (q20, .inr (2, [.int 0, .int 0, .int 0])), (q36, .inr (0, [.int 0, .int 0, .int 0, .int 0, .int 0, .int 0, .null, .null, .null, .null, .null]))] H := hP
  have hD : va_D A [(h0, .inr (1, [.int 0, .int 0, .int 0, .int 0, .ref q1, .ref q2, .ref q3])), (q1, .inl (cy 1, 8, .inr (.inr (.inr (.inr f_16))))), (q2, .inl (cy 2, 4, .inr (.inr (.inr (.inr f_24))))), (q3, .inl (cy 3, 6, .inr (.inr (.inr (.inr f_32))))), (q4, .inr (3, [.int 0, .int 0])), (q20, .inr (2, [.int 0, .int 0, .int 0])), (q36, .inr (0, [.int 0, .int 0, .int 0, .int 0, .int 0, .int 0, .null, .null, .null, .null, .null]))] := hD
  refine W.widen (k := 76) (n := 485) (by omega) (by omega) ?_
  refine lv_dup hx hb dX1_init_99 rfl ?_
  refine yc_v (wc := [(q36, .inr (0, [.int 0, .int 0, .int 0, .int 0, .int 0, .int 0, .null, .null, .null, .null, .null]))]) (wr := [(h0, .inr (1, [.int 0, .int 0, .int 0, .int 0, .ref q1, .ref q2, .ref q3])), (q1, .inl (cy 1, 8, .inr (.inr (.inr (.inr f_16))))), (q2, .inl (cy 2, 4, .inr (.inr (.inr (.inr f_24))))), (q3, .inl (cy 3, 6, .inr (.inr (.inr (.inr f_32))))), (q4, .inr (3, [.int 0, .int 0])), (q20, .inr (2, [.int 0, .int 0, .int 0]))]) (w1 := fun (u : List Value) => [(q36, .inr (0, u))]) hP hD hS hA [6] [0, 1, 2, 3, 4, 5] rfl rfl (by decide) (by decide) (va_runI (As := []) (rest := [.ref q36, .int 4, .ref q3]) ⟨hx, hb, hml, hown, hts⟩ (c_X0_init l dC dI cy _ q36) (cwI 0 hts gX1_init_X0_init rfl rfl rfl (hts (.initialized RX0) (by decide +kernel)) (hts (.methodLink RX1 31 yX0_init) (by decide +kernel)) (hts (.instanceMethod yX0_init) (by decide +kernel)) rfl (by decide +kernel) ⟨Nat.le_of_ble_eq_true rfl, Nat.le_of_ble_eq_true rfl⟩) (ex_preS hE hK hP hD [6] (by decide) rfl) rfl rfl hl.1 rfl (lv_room (Nat.le_of_ble_eq_true rfl)) dX1_init_100 ⟨Nat.le_of_ble_eq_true rfl, Nat.le_of_ble_eq_true rfl⟩) (fun u_33 H locs hw_33 hP hD hS => ?_)
  have hP : va_P (dC, dI) vwCl [(h0, .inr (1, [.int 0, .int 0, .int 0, .int 0, .ref q1, .ref q2, .ref q3])), (q1, .inl (cy 1, 8, .inr (.inr (.inr (.inr f_16))))), (q2, .inl (cy 2, 4, .inr (.inr (.inr (.inr f_24))))), (q3, .inl (cy 3, 6, .inr (.inr (.inr (.inr f_32))))), (q4, .inr (3, [.int 0, .int 0])), (q20, .inr (2, [.int 0, .int 0, .int 0])), (q36, .inr (0, u_33))] H := hP
  have hD : va_D A [(h0, .inr (1, [.int 0, .int 0, .int 0, .int 0, .ref q1, .ref q2, .ref q3])), (q1, .inl (cy 1, 8, .inr (.inr (.inr (.inr f_16))))), (q2, .inl (cy 2, 4, .inr (.inr (.inr (.inr f_24))))), (q3, .inl (cy 3, 6, .inr (.inr (.inr (.inr f_32))))), (q4, .inr (3, [.int 0, .int 0])), (q20, .inr (2, [.int 0, .int 0, .int 0])), (q36, .inr (0, u_33))] := hD
  refine W.widen (k := 90) (n := 581) (by omega) (by omega) ?_
  refine va_astq hx hb hK hP hD hS 3 3 6 0 rfl rfl rfl rfl (by unfold vp_in; decide) dX1_init_103 (fun H locs hP hD hS => ?_)
  obtain ⟨f_34, ef_34⟩ : ∃ f9 : Nat → Option Nat, f9 = va_up f_32 (4 : Int32).toNatClampNeg (some q36) := ⟨_, rfl⟩
  rw [← ef_34] at hP hD
  have hP : va_P (dC, dI) vwCl [(h0, .inr (1, [.int 0, .int 0, .int 0, .int 0, .ref q1, .ref q2, .ref q3])), (q1, .inl (cy 1, 8, .inr (.inr (.inr (.inr f_16))))), (q2, .inl (cy 2, 4, .inr (.inr (.inr (.inr f_24))))), (q3, .inl (cy 3, 6, .inr (.inr (.inr (.inr f_34))))), (q4, .inr (3, [.int 0, .int 0])), (q20, .inr (2, [.int 0, .int 0, .int 0])), (q36, .inr (0, u_33))] H := hP
  have hD : va_D A [(h0, .inr (1, [.int 0, .int 0, .int 0, .int 0, .ref q1, .ref q2, .ref q3])), (q1, .inl (cy 1, 8, .inr (.inr (.inr (.inr f_16))))), (q2, .inl (cy 2, 4, .inr (.inr (.inr (.inr f_24))))), (q3, .inl (cy 3, 6, .inr (.inr (.inr (.inr f_34))))), (q4, .inr (3, [.int 0, .int 0])), (q20, .inr (2, [.int 0, .int 0, .int 0])), (q36, .inr (0, u_33))] := hD
  have hP := hP.sub (ws' := [(h0, .inr (1, [.int 0, .int 0, .int 0, .int 0, .ref q1, .ref q2, .ref q3])), (q1, .inl (cy 1, 8, .inr (.inr (.inr (.inr f_16))))), (q2, .inl (cy 2, 4, .inr (.inr (.inr (.inr f_24))))), (q3, .inl (cy 3, 6, .inr (.inr (.inr (.inr f_34))))), (q4, .inr (3, [.int 0, .int 0])), (q20, .inr (2, [.int 0, .int 0, .int 0]))]) [0, 1, 2, 3, 4, 5] rfl
  have hD := hD.sub (ws' := [(h0, .inr (1, [.int 0, .int 0, .int 0, .int 0, .ref q1, .ref q2, .ref q3])), (q1, .inl (cy 1, 8, .inr (.inr (.inr (.inr f_16))))), (q2, .inl (cy 2, 4, .inr (.inr (.inr (.inr f_24))))), (q3, .inl (cy 3, 6, .inr (.inr (.inr (.inr f_34))))), (q4, .inr (3, [.int 0, .int 0])), (q20, .inr (2, [.int 0, .int 0, .int 0]))]) [0, 1, 2, 3, 4, 5] (by decide) rfl
  refine lv_iinc (v := 5) (lv' := [(1, .int 5), (0, .ref h0)]) hx hb dX1_init_104 hl (k := 0) rfl (by decide) (by decide) rfl (fun ls hl => ?_)
  refine lv_goto (tgt := 85) hx hb dX1_init_107 (by decide) ?_
  refine lv_iload_n hx hb dX1_init_85 rfl (lv_at hl 0 rfl) ?_
  refine lv_bipush (v := 6) hx hb dX1_init_86 (by decide) ?_
  refine lv_icmp_ge (tgt := 110) hx hb dX1_init_88 (by decide) (fun c9 => absurd c9 (by decide)) (fun _ => ?_)
  refine lv_aload_n hx hb dX1_init_91 rfl (lv_at hl 1 rfl) ?_
  refine va_get (D := (dC, dI)) (ci := 1) (v := .ref q3) (C := RX1) (T := TX1) (N := 7) hx hb hts (by decide +kernel) hown hK hP 0 rfl rfl 6 (by decide) (hts (.fieldLink RX1 25 "QuietStairs$House" "cases" "[LQuietStairs$Case;") (by decide +kernel)) (fun _ h9 => h9) rfl dX1_init_92 ?_
  refine lv_iload_n hx hb dX1_init_95 rfl (lv_at hl 0 rfl) ?_
  refine va_new (ci := 0) (fs := [.int 0, .int 0, .int 0, .int 0, .int 0, .int 0, .null, .null, .null, .null, .null]) (C := RX0) (T := TX0) (N := 11) hx hb hts (by decide +kernel) tyX0 tyX0_ok hown (hts (.classLink RX1 23 RX0) (by decide +kernel)) (hts (.instantiable RX0 11) (by decide +kernel)) (hts (.initialized RX0) (by decide +kernel)) hK hP hD hS hA rfl (fun j hj => by rcases (show j = 0 ∨ j = 1 ∨ j = 2 ∨ j = 3 ∨ j = 4 ∨ j = 5 ∨ j = 6 ∨ j = 7 ∨ j = 8 ∨ j = 9 ∨ j = 10 by omega) with rfl | rfl | rfl | rfl | rfl | rfl | rfl | rfl | rfl | rfl | rfl <;> rfl) (Nat.le_of_ble_eq_true rfl) (Nat.le_of_ble_eq_true rfl) dX1_init_96 (fun q38 H hP hD hS => ?_)
  have hP : va_P (dC, dI) vwCl [(h0, .inr (1, [.int 0, .int 0, .int 0, .int 0, .ref q1, .ref q2, .ref q3])), (q1, .inl (cy 1, 8, .inr (.inr (.inr (.inr f_16))))), (q2, .inl (cy 2, 4, .inr (.inr (.inr (.inr f_24))))), (q3, .inl (cy 3, 6, .inr (.inr (.inr (.inr f_34))))), (q4, .inr (3, [.int 0, .int 0])), (q20, .inr (2, [.int 0, .int 0, .int 0])), (q38, .inr (0, [.int 0, .int 0, .int 0, .int 0, .int 0, .int 0, .null, .null, .null, .null, .null]))] H := hP
  have hD : va_D A [(h0, .inr (1, [.int 0, .int 0, .int 0, .int 0, .ref q1, .ref q2, .ref q3])), (q1, .inl (cy 1, 8, .inr (.inr (.inr (.inr f_16))))), (q2, .inl (cy 2, 4, .inr (.inr (.inr (.inr f_24))))), (q3, .inl (cy 3, 6, .inr (.inr (.inr (.inr f_34))))), (q4, .inr (3, [.int 0, .int 0])), (q20, .inr (2, [.int 0, .int 0, .int 0])), (q38, .inr (0, [.int 0, .int 0, .int 0, .int 0, .int 0, .int 0, .null, .null, .null, .null, .null]))] := hD
  refine W.widen (k := 91) (n := 592) (by omega) (by omega) ?_
  refine lv_dup hx hb dX1_init_99 rfl ?_
  refine yc_v (wc := [(q38, .inr (0, [.int 0, .int 0, .int 0, .int 0, .int 0, .int 0, .null, .null, .null, .null, .null]))]) (wr := [(h0, .inr (1, [.int 0, .int 0, .int 0, .int 0, .ref q1, .ref q2, .ref q3])), (q1, .inl (cy 1, 8, .inr (.inr (.inr (.inr f_16))))), (q2, .inl (cy 2, 4, .inr (.inr (.inr (.inr f_24))))), (q3, .inl (cy 3, 6, .inr (.inr (.inr (.inr f_34))))), (q4, .inr (3, [.int 0, .int 0])), (q20, .inr (2, [.int 0, .int 0, .int 0]))]) (w1 := fun (u : List Value) => [(q38, .inr (0, u))]) hP hD hS hA [6] [0, 1, 2, 3, 4, 5] rfl rfl (by decide) (by decide) (va_runI (As := []) (rest := [.ref q38, .int 5, .ref q3]) ⟨hx, hb, hml, hown, hts⟩ (c_X0_init l dC dI cy _ q38) (cwI 0 hts gX1_init_X0_init rfl rfl rfl (hts (.initialized RX0) (by decide +kernel)) (hts (.methodLink RX1 31 yX0_init) (by decide +kernel)) (hts (.instanceMethod yX0_init) (by decide +kernel)) rfl (by decide +kernel) ⟨Nat.le_of_ble_eq_true rfl, Nat.le_of_ble_eq_true rfl⟩) (ex_preS hE hK hP hD [6] (by decide) rfl) rfl rfl hl.1 rfl (lv_room (Nat.le_of_ble_eq_true rfl)) dX1_init_100 ⟨Nat.le_of_ble_eq_true rfl, Nat.le_of_ble_eq_true rfl⟩) (fun u_35 H locs hw_35 hP hD hS => ?_)
  have hP : va_P (dC, dI) vwCl [(h0, .inr (1, [.int 0, .int 0, .int 0, .int 0, .ref q1, .ref q2, .ref q3])), (q1, .inl (cy 1, 8, .inr (.inr (.inr (.inr f_16))))), (q2, .inl (cy 2, 4, .inr (.inr (.inr (.inr f_24))))), (q3, .inl (cy 3, 6, .inr (.inr (.inr (.inr f_34))))), (q4, .inr (3, [.int 0, .int 0])), (q20, .inr (2, [.int 0, .int 0, .int 0])), (q38, .inr (0, u_35))] H := hP
  have hD : va_D A [(h0, .inr (1, [.int 0, .int 0, .int 0, .int 0, .ref q1, .ref q2, .ref q3])), (q1, .inl (cy 1, 8, .inr (.inr (.inr (.inr f_16))))), (q2, .inl (cy 2, 4, .inr (.inr (.inr (.inr f_24))))), (q3, .inl (cy 3, 6, .inr (.inr (.inr (.inr f_34))))), (q4, .inr (3, [.int 0, .int 0])), (q20, .inr (2, [.int 0, .int 0, .int 0])), (q38, .inr (0, u_35))] := hD
  refine W.widen (k := 105) (n := 688) (by omega) (by omega) ?_
  refine va_astq hx hb hK hP hD hS 3 3 6 0 rfl rfl rfl rfl (by unfold vp_in; decide) dX1_init_103 (fun H locs hP hD hS => ?_)
  obtain ⟨f_36, ef_36⟩ : ∃ f9 : Nat → Option Nat, f9 = va_up f_34 (5 : Int32).toNatClampNeg (some q38) := ⟨_, rfl⟩
  rw [← ef_36] at hP hD
  have hP : va_P (dC, dI) vwCl [(h0, .inr (1, [.int 0, .int 0, .int 0, .int 0, .ref q1, .ref q2, .ref q3])), (q1, .inl (cy 1, 8, .inr (.inr (.inr (.inr f_16))))), (q2, .inl (cy 2, 4, .inr (.inr (.inr (.inr f_24))))), (q3, .inl (cy 3, 6, .inr (.inr (.inr (.inr f_36))))), (q4, .inr (3, [.int 0, .int 0])), (q20, .inr (2, [.int 0, .int 0, .int 0])), (q38, .inr (0, u_35))] H := hP
  have hD : va_D A [(h0, .inr (1, [.int 0, .int 0, .int 0, .int 0, .ref q1, .ref q2, .ref q3])), (q1, .inl (cy 1, 8, .inr (.inr (.inr (.inr f_16))))), (q2, .inl (cy 2, 4, .inr (.inr (.inr (.inr f_24))))), (q3, .inl (cy 3, 6, .inr (.inr (.inr (.inr f_36))))), (q4, .inr (3, [.int 0, .int 0])), (q20, .inr (2, [.int 0, .int 0, .int 0])), (q38, .inr (0, u_35))] := hD
  have hP := hP.sub (ws' := [(h0, .inr (1, [.int 0, .int 0, .int 0, .int 0, .ref q1, .ref q2, .ref q3])), (q1, .inl (cy 1, 8, .inr (.inr (.inr (.inr f_16))))), (q2, .inl (cy 2, 4, .inr (.inr (.inr (.inr f_24))))), (q3, .inl (cy 3, 6, .inr (.inr (.inr (.inr f_36))))), (q4, .inr (3, [.int 0, .int 0])), (q20, .inr (2, [.int 0, .int 0, .int 0]))]) [0, 1, 2, 3, 4, 5] rfl
  have hD := hD.sub (ws' := [(h0, .inr (1, [.int 0, .int 0, .int 0, .int 0, .ref q1, .ref q2, .ref q3])), (q1, .inl (cy 1, 8, .inr (.inr (.inr (.inr f_16))))), (q2, .inl (cy 2, 4, .inr (.inr (.inr (.inr f_24))))), (q3, .inl (cy 3, 6, .inr (.inr (.inr (.inr f_36))))), (q4, .inr (3, [.int 0, .int 0])), (q20, .inr (2, [.int 0, .int 0, .int 0]))]) [0, 1, 2, 3, 4, 5] (by decide) rfl
  refine lv_iinc (v := 6) (lv' := [(1, .int 6), (0, .ref h0)]) hx hb dX1_init_104 hl (k := 0) rfl (by decide) (by decide) rfl (fun ls hl => ?_)
  refine lv_goto (tgt := 85) hx hb dX1_init_107 (by decide) ?_
  refine lv_iload_n hx hb dX1_init_85 rfl (lv_at hl 0 rfl) ?_
  refine lv_bipush (v := 6) hx hb dX1_init_86 (by decide) ?_
  refine lv_icmp_ge (tgt := 110) hx hb dX1_init_88 (by decide) (fun _ => ?_) (fun c9 => absurd c9 (by decide))
  have hP9 := hP.sub (ws' := [(h0, .inr (1, [.int 0, .int 0, .int 0, .int 0, .ref q1, .ref q2, .ref q3])), (q1, .inl (cy 1, 8, .inr (.inr (.inr (.inr f_16))))), (q4, .inr (3, [.int 0, .int 0])), (q2, .inl (cy 2, 4, .inr (.inr (.inr (.inr f_24))))), (q20, .inr (2, [.int 0, .int 0, .int 0]))]) [0, 1, 4, 2, 5] rfl
  have hD9 := hD.sub (ws' := [(h0, .inr (1, [.int 0, .int 0, .int 0, .int 0, .ref q1, .ref q2, .ref q3])), (q1, .inl (cy 1, 8, .inr (.inr (.inr (.inr f_16))))), (q4, .inr (3, [.int 0, .int 0])), (q2, .inl (cy 2, 4, .inr (.inr (.inr (.inr f_24))))), (q20, .inr (2, [.int 0, .int 0, .int 0]))]) [0, 1, 4, 2, 5] (by decide) rfl
  exact W.vret hx hb hr (fun t ht hW => ⟨⟨(q1, q2, q3, q4, q20, f_16, f_24), rfl, ⟨gf_16, gf_24⟩, by rw [ht]; exact hP9, hD9⟩, hS.F ht⟩) hS.2.2 dX1_init_110

set_option maxHeartbeats 4000000 in
set_option maxRecDepth 100000 in
theorem c_X4_init (l : Launch) (dC : Nat → ClassId) (dI : Nat → Nat → Nat) (cy : Nat → ClassId) (sz : Nat) (h0 : Nat) : Met l yX4_init wsX4_init ({ frames := 1, cells := 8, slots := 30, locals := 64 }) (va_Pc [.ref h0] (ex_Pre dC dI cy sz [(h0, .inr (4, [.int 0, .int 0, .int 0, .null, .null, .null, .null, .null, .null, .null, .null]))])) (va_Qv (fun (u : Nat × Nat × Nat × Nat × Nat × Nat × Nat × Nat) => True) (fun u t => ex_Pst dC dI (va_A [(h0, .inr (4, [.int 0, .int 0, .int 0, .null, .null, .null, .null, .null, .null, .null, .null]))] sz) ([(h0, .inr (4, [.int 0, .int 0, .int 0, .ref u.1, .ref u.2.1, .ref u.2.2.1, .ref u.2.2.2.1, .ref u.2.2.2.2.1, .ref u.2.2.2.2.2.1, .ref u.2.2.2.2.2.2.1, .ref u.2.2.2.2.2.2.2])), (u.1, .inl (cy 0, 4, .inl (fun _ => 0))), (u.2.1, .inl (cy 0, 4, .inl (fun _ => 0))), (u.2.2.1, .inl (cy 0, 4, .inl (fun _ => 0))), (u.2.2.2.1, .inl (cy 0, 4, .inl (fun _ => 0))), (u.2.2.2.2.1, .inl (cy 0, 4, .inl (fun _ => 0))), (u.2.2.2.2.2.1, .inl (cy 0, 4, .inl (fun _ => 0))), (u.2.2.2.2.2.2.1, .inl (cy 0, 3, .inl (fun _ => 0))), (u.2.2.2.2.2.2.2, .inl (cy 0, 3, .inl (fun _ => 0)))]) t) (va_A [(h0, .inr (4, [.int 0, .int 0, .int 0, .null, .null, .null, .null, .null, .null, .null, .null]))] sz)) 8 30 (va_A [(h0, .inr (4, [.int 0, .int 0, .int 0, .null, .null, .null, .null, .null, .null, .null, .null]))] sz) := by
  refine Met.ofW (cc := cX4_init) (maxL := 1) (ret := none) (by decide) rfl ?_
  intro p e s m args below meth c s₁ B hml hv
  obtain ⟨rfl, hsz, hE, hP, hK, hD0⟩ := hv
  have hx := B.exec
  have hb := B.bytes
  have hr := B.returns
  have hts := atoms_spec (ws := wsX4_init) B.pre
  have hown : s.vm.findClass RX4 = some m.cls := findClass_of_methodNamed B.named
  have hlocks := B.notSynchronized
  have hin : meth.name = "<init>" := (name_of_methodNamed B.named B.method).1
  subst hsz
  have hD := hD0.self (sz := s.heap.size)
  generalize hAe : va_A [(h0, .inr (4, [.int 0, .int 0, .int 0, .null, .null, .null, .null, .null, .null, .null, .null]))] s.heap.size = A at hD ⊢
  have hA : ∀ q : Nat, s.heap.size ≤ q → A q := fun q h => by rw [← hAe]; exact Or.inr h
  have hS : va_S A s.heap s.heap [] := va_S.rf
  have hP : va_P (dC, dI) vwCl [(h0, .inr (4, [.int 0, .int 0, .int 0, .null, .null, .null, .null, .null, .null, .null, .null]))] s.heap := hP
  have hl := lv_entry ([.ref h0]) (n := 1) (Nat.le_of_ble_eq_true rfl)
  rw [lg_entry_eq]
  generalize (lg_sl ([.ref h0]) ++ List.replicate (1 - (lg_sl ([.ref h0])).length) Slot.unset).toArray = ls at hl ⊢
  have hl : lv_has ls 1 [(0, .ref h0)] := hl
  refine lv_aload_n hx hb dX4_init_0 rfl (lv_at hl 0 rfl) ?_
  refine W.objInit hx hb hown (hts (.methodLink RX4 3 objectInit) (by decide +kernel)) (hts (.instanceMethod objectInit) (by decide +kernel)) (hts (.code objectInit ⟨#[0xb1]⟩ 1 none) (by decide +kernel)) rfl (by rw [hml]; exact hl.1) rfl dX4_init_1 (Nat.le_of_ble_eq_true rfl) (Nat.le_of_ble_eq_true rfl) ?_
  refine W.eq (g2 := F0 m 4 ls []) rfl ?_
  refine lv_aload_n hx hb dX4_init_4 rfl (lv_at hl 0 rfl) ?_
  refine lv_iconst (v := 4) hx hb dX4_init_5 (by decide) ?_
  refine yn_i hx hb (hts (.arrayClass .int) (by decide +kernel)) hK hP hD hS hA 4 (by decide) (by decide) (by decide) (Nat.le_of_ble_eq_true rfl) (Nat.le_of_ble_eq_true rfl) dX4_init_6 (fun q1 H hP hD hS => ?_)
  have hP : va_P (dC, dI) vwCl [(h0, .inr (4, [.int 0, .int 0, .int 0, .null, .null, .null, .null, .null, .null, .null, .null])), (q1, .inl (cy 0, 4, .inl (fun _ => 0)))] H := hP
  have hD : va_D A [(h0, .inr (4, [.int 0, .int 0, .int 0, .null, .null, .null, .null, .null, .null, .null, .null])), (q1, .inl (cy 0, 4, .inl (fun _ => 0)))] := hD
  refine W.widen (k := 1) (n := 4) (by omega) (by omega) ?_
  refine va_putF (D := (dC, dI)) (ci := 4) (v := .ref q1) (ty := .array .int) (C := RX4) (T := TX4) (N := 11) hx hb hts (by decide +kernel) tyX4 tyX4_ok nmX4 hown hK hP hD hS 0 rfl rfl 3 (by decide) (hts (.fieldLink RX4 9 "QuietStairs$Planner" "numbers" "[I") (by decide +kernel)) (fun _ h9 => h9) rfl hin rfl (by decide +kernel) rfl rfl (Nat.le_of_ble_eq_true rfl) dX4_init_8 (fun H locs hP hD hS => ?_)
  have hP : va_P (dC, dI) vwCl [(h0, .inr (4, [.int 0, .int 0, .int 0, .ref q1, .null, .null, .null, .null, .null, .null, .null])), (q1, .inl (cy 0, 4, .inl (fun _ => 0)))] H := hP
  have hD : va_D A [(h0, .inr (4, [.int 0, .int 0, .int 0, .ref q1, .null, .null, .null, .null, .null, .null, .null])), (q1, .inl (cy 0, 4, .inl (fun _ => 0)))] := hD
  refine lv_aload_n hx hb dX4_init_11 rfl (lv_at hl 0 rfl) ?_
  refine lv_iconst (v := 4) hx hb dX4_init_12 (by decide) ?_
  refine yn_i hx hb (hts (.arrayClass .int) (by decide +kernel)) hK hP hD hS hA 4 (by decide) (by decide) (by decide) (Nat.le_of_ble_eq_true rfl) (Nat.le_of_ble_eq_true rfl) dX4_init_13 (fun q2 H hP hD hS => ?_)
  have hP : va_P (dC, dI) vwCl [(h0, .inr (4, [.int 0, .int 0, .int 0, .ref q1, .null, .null, .null, .null, .null, .null, .null])), (q1, .inl (cy 0, 4, .inl (fun _ => 0))), (q2, .inl (cy 0, 4, .inl (fun _ => 0)))] H := hP
  have hD : va_D A [(h0, .inr (4, [.int 0, .int 0, .int 0, .ref q1, .null, .null, .null, .null, .null, .null, .null])), (q1, .inl (cy 0, 4, .inl (fun _ => 0))), (q2, .inl (cy 0, 4, .inl (fun _ => 0)))] := hD
  refine W.widen (k := 2) (n := 8) (by omega) (by omega) ?_
  refine va_putF (D := (dC, dI)) (ci := 4) (v := .ref q2) (ty := .array .int) (C := RX4) (T := TX4) (N := 11) hx hb hts (by decide +kernel) tyX4 tyX4_ok nmX4 hown hK hP hD hS 0 rfl rfl 4 (by decide) (hts (.fieldLink RX4 15 "QuietStairs$Planner" "weights" "[I") (by decide +kernel)) (fun _ h9 => h9) rfl hin rfl (by decide +kernel) rfl rfl (Nat.le_of_ble_eq_true rfl) dX4_init_15 (fun H locs hP hD hS => ?_)
  have hP : va_P (dC, dI) vwCl [(h0, .inr (4, [.int 0, .int 0, .int 0, .ref q1, .ref q2, .null, .null, .null, .null, .null, .null])), (q1, .inl (cy 0, 4, .inl (fun _ => 0))), (q2, .inl (cy 0, 4, .inl (fun _ => 0)))] H := hP
  have hD : va_D A [(h0, .inr (4, [.int 0, .int 0, .int 0, .ref q1, .ref q2, .null, .null, .null, .null, .null, .null])), (q1, .inl (cy 0, 4, .inl (fun _ => 0))), (q2, .inl (cy 0, 4, .inl (fun _ => 0)))] := hD
  refine lv_aload_n hx hb dX4_init_18 rfl (lv_at hl 0 rfl) ?_
  refine lv_iconst (v := 4) hx hb dX4_init_19 (by decide) ?_
  refine yn_i hx hb (hts (.arrayClass .int) (by decide +kernel)) hK hP hD hS hA 4 (by decide) (by decide) (by decide) (Nat.le_of_ble_eq_true rfl) (Nat.le_of_ble_eq_true rfl) dX4_init_20 (fun q3 H hP hD hS => ?_)
  have hP : va_P (dC, dI) vwCl [(h0, .inr (4, [.int 0, .int 0, .int 0, .ref q1, .ref q2, .null, .null, .null, .null, .null, .null])), (q1, .inl (cy 0, 4, .inl (fun _ => 0))), (q2, .inl (cy 0, 4, .inl (fun _ => 0))), (q3, .inl (cy 0, 4, .inl (fun _ => 0)))] H := hP
  have hD : va_D A [(h0, .inr (4, [.int 0, .int 0, .int 0, .ref q1, .ref q2, .null, .null, .null, .null, .null, .null])), (q1, .inl (cy 0, 4, .inl (fun _ => 0))), (q2, .inl (cy 0, 4, .inl (fun _ => 0))), (q3, .inl (cy 0, 4, .inl (fun _ => 0)))] := hD
  refine W.widen (k := 3) (n := 12) (by omega) (by omega) ?_
  refine va_putF (D := (dC, dI)) (ci := 4) (v := .ref q3) (ty := .array .int) (C := RX4) (T := TX4) (N := 11) hx hb hts (by decide +kernel) tyX4 tyX4_ok nmX4 hown hK hP hD hS 0 rfl rfl 5 (by decide) (hts (.fieldLink RX4 18 "QuietStairs$Planner" "pairBits" "[I") (by decide +kernel)) (fun _ h9 => h9) rfl hin rfl (by decide +kernel) rfl rfl (Nat.le_of_ble_eq_true rfl) dX4_init_22 (fun H locs hP hD hS => ?_)
  have hP : va_P (dC, dI) vwCl [(h0, .inr (4, [.int 0, .int 0, .int 0, .ref q1, .ref q2, .ref q3, .null, .null, .null, .null, .null])), (q1, .inl (cy 0, 4, .inl (fun _ => 0))), (q2, .inl (cy 0, 4, .inl (fun _ => 0))), (q3, .inl (cy 0, 4, .inl (fun _ => 0)))] H := hP
  have hD : va_D A [(h0, .inr (4, [.int 0, .int 0, .int 0, .ref q1, .ref q2, .ref q3, .null, .null, .null, .null, .null])), (q1, .inl (cy 0, 4, .inl (fun _ => 0))), (q2, .inl (cy 0, 4, .inl (fun _ => 0))), (q3, .inl (cy 0, 4, .inl (fun _ => 0)))] := hD
  refine lv_aload_n hx hb dX4_init_25 rfl (lv_at hl 0 rfl) ?_
  refine lv_iconst (v := 4) hx hb dX4_init_26 (by decide) ?_
  refine yn_i hx hb (hts (.arrayClass .int) (by decide +kernel)) hK hP hD hS hA 4 (by decide) (by decide) (by decide) (Nat.le_of_ble_eq_true rfl) (Nat.le_of_ble_eq_true rfl) dX4_init_27 (fun q4 H hP hD hS => ?_)
  have hP : va_P (dC, dI) vwCl [(h0, .inr (4, [.int 0, .int 0, .int 0, .ref q1, .ref q2, .ref q3, .null, .null, .null, .null, .null])), (q1, .inl (cy 0, 4, .inl (fun _ => 0))), (q2, .inl (cy 0, 4, .inl (fun _ => 0))), (q3, .inl (cy 0, 4, .inl (fun _ => 0))), (q4, .inl (cy 0, 4, .inl (fun _ => 0)))] H := hP
  have hD : va_D A [(h0, .inr (4, [.int 0, .int 0, .int 0, .ref q1, .ref q2, .ref q3, .null, .null, .null, .null, .null])), (q1, .inl (cy 0, 4, .inl (fun _ => 0))), (q2, .inl (cy 0, 4, .inl (fun _ => 0))), (q3, .inl (cy 0, 4, .inl (fun _ => 0))), (q4, .inl (cy 0, 4, .inl (fun _ => 0)))] := hD
  refine W.widen (k := 4) (n := 16) (by omega) (by omega) ?_
  refine va_putF (D := (dC, dI)) (ci := 4) (v := .ref q4) (ty := .array .int) (C := RX4) (T := TX4) (N := 11) hx hb hts (by decide +kernel) tyX4 tyX4_ok nmX4 hown hK hP hD hS 0 rfl rfl 6 (by decide) (hts (.fieldLink RX4 21 "QuietStairs$Planner" "heaviestFirst" "[I") (by decide +kernel)) (fun _ h9 => h9) rfl hin rfl (by decide +kernel) rfl rfl (Nat.le_of_ble_eq_true rfl) dX4_init_29 (fun H locs hP hD hS => ?_)
  have hP : va_P (dC, dI) vwCl [(h0, .inr (4, [.int 0, .int 0, .int 0, .ref q1, .ref q2, .ref q3, .ref q4, .null, .null, .null, .null])), (q1, .inl (cy 0, 4, .inl (fun _ => 0))), (q2, .inl (cy 0, 4, .inl (fun _ => 0))), (q3, .inl (cy 0, 4, .inl (fun _ => 0))), (q4, .inl (cy 0, 4, .inl (fun _ => 0)))] H := hP
  have hD : va_D A [(h0, .inr (4, [.int 0, .int 0, .int 0, .ref q1, .ref q2, .ref q3, .ref q4, .null, .null, .null, .null])), (q1, .inl (cy 0, 4, .inl (fun _ => 0))), (q2, .inl (cy 0, 4, .inl (fun _ => 0))), (q3, .inl (cy 0, 4, .inl (fun _ => 0))), (q4, .inl (cy 0, 4, .inl (fun _ => 0)))] := hD
  refine lv_aload_n hx hb dX4_init_32 rfl (lv_at hl 0 rfl) ?_
  refine lv_iconst (v := 4) hx hb dX4_init_33 (by decide) ?_
  refine yn_i hx hb (hts (.arrayClass .int) (by decide +kernel)) hK hP hD hS hA 4 (by decide) (by decide) (by decide) (Nat.le_of_ble_eq_true rfl) (Nat.le_of_ble_eq_true rfl) dX4_init_34 (fun q5 H hP hD hS => ?_)
  have hP : va_P (dC, dI) vwCl [(h0, .inr (4, [.int 0, .int 0, .int 0, .ref q1, .ref q2, .ref q3, .ref q4, .null, .null, .null, .null])), (q1, .inl (cy 0, 4, .inl (fun _ => 0))), (q2, .inl (cy 0, 4, .inl (fun _ => 0))), (q3, .inl (cy 0, 4, .inl (fun _ => 0))), (q4, .inl (cy 0, 4, .inl (fun _ => 0))), (q5, .inl (cy 0, 4, .inl (fun _ => 0)))] H := hP
  have hD : va_D A [(h0, .inr (4, [.int 0, .int 0, .int 0, .ref q1, .ref q2, .ref q3, .ref q4, .null, .null, .null, .null])), (q1, .inl (cy 0, 4, .inl (fun _ => 0))), (q2, .inl (cy 0, 4, .inl (fun _ => 0))), (q3, .inl (cy 0, 4, .inl (fun _ => 0))), (q4, .inl (cy 0, 4, .inl (fun _ => 0))), (q5, .inl (cy 0, 4, .inl (fun _ => 0)))] := hD
  refine W.widen (k := 5) (n := 20) (by omega) (by omega) ?_
  refine va_putF (D := (dC, dI)) (ci := 4) (v := .ref q5) (ty := .array .int) (C := RX4) (T := TX4) (N := 11) hx hb hts (by decide +kernel) tyX4 tyX4_ok nmX4 hown hK hP hD hS 0 rfl rfl 7 (by decide) (hts (.fieldLink RX4 24 "QuietStairs$Planner" "seats" "[I") (by decide +kernel)) (fun _ h9 => h9) rfl hin rfl (by decide +kernel) rfl rfl (Nat.le_of_ble_eq_true rfl) dX4_init_36 (fun H locs hP hD hS => ?_)
  have hP : va_P (dC, dI) vwCl [(h0, .inr (4, [.int 0, .int 0, .int 0, .ref q1, .ref q2, .ref q3, .ref q4, .ref q5, .null, .null, .null])), (q1, .inl (cy 0, 4, .inl (fun _ => 0))), (q2, .inl (cy 0, 4, .inl (fun _ => 0))), (q3, .inl (cy 0, 4, .inl (fun _ => 0))), (q4, .inl (cy 0, 4, .inl (fun _ => 0))), (q5, .inl (cy 0, 4, .inl (fun _ => 0)))] H := hP
  have hD : va_D A [(h0, .inr (4, [.int 0, .int 0, .int 0, .ref q1, .ref q2, .ref q3, .ref q4, .ref q5, .null, .null, .null])), (q1, .inl (cy 0, 4, .inl (fun _ => 0))), (q2, .inl (cy 0, 4, .inl (fun _ => 0))), (q3, .inl (cy 0, 4, .inl (fun _ => 0))), (q4, .inl (cy 0, 4, .inl (fun _ => 0))), (q5, .inl (cy 0, 4, .inl (fun _ => 0)))] := hD
  refine lv_aload_n hx hb dX4_init_39 rfl (lv_at hl 0 rfl) ?_
  refine lv_iconst (v := 4) hx hb dX4_init_40 (by decide) ?_
  refine yn_i hx hb (hts (.arrayClass .int) (by decide +kernel)) hK hP hD hS hA 4 (by decide) (by decide) (by decide) (Nat.le_of_ble_eq_true rfl) (Nat.le_of_ble_eq_true rfl) dX4_init_41 (fun q6 H hP hD hS => ?_)
  have hP : va_P (dC, dI) vwCl [(h0, .inr (4, [.int 0, .int 0, .int 0, .ref q1, .ref q2, .ref q3, .ref q4, .ref q5, .null, .null, .null])), (q1, .inl (cy 0, 4, .inl (fun _ => 0))), (q2, .inl (cy 0, 4, .inl (fun _ => 0))), (q3, .inl (cy 0, 4, .inl (fun _ => 0))), (q4, .inl (cy 0, 4, .inl (fun _ => 0))), (q5, .inl (cy 0, 4, .inl (fun _ => 0))), (q6, .inl (cy 0, 4, .inl (fun _ => 0)))] H := hP
  have hD : va_D A [(h0, .inr (4, [.int 0, .int 0, .int 0, .ref q1, .ref q2, .ref q3, .ref q4, .ref q5, .null, .null, .null])), (q1, .inl (cy 0, 4, .inl (fun _ => 0))), (q2, .inl (cy 0, 4, .inl (fun _ => 0))), (q3, .inl (cy 0, 4, .inl (fun _ => 0))), (q4, .inl (cy 0, 4, .inl (fun _ => 0))), (q5, .inl (cy 0, 4, .inl (fun _ => 0))), (q6, .inl (cy 0, 4, .inl (fun _ => 0)))] := hD
  refine W.widen (k := 6) (n := 24) (by omega) (by omega) ?_
  refine va_putF (D := (dC, dI)) (ci := 4) (v := .ref q6) (ty := .array .int) (C := RX4) (T := TX4) (N := 11) hx hb hts (by decide +kernel) tyX4 tyX4_ok nmX4 hown hK hP hD hS 0 rfl rfl 8 (by decide) (hts (.fieldLink RX4 27 "QuietStairs$Planner" "bestSeats" "[I") (by decide +kernel)) (fun _ h9 => h9) rfl hin rfl (by decide +kernel) rfl rfl (Nat.le_of_ble_eq_true rfl) dX4_init_43 (fun H locs hP hD hS => ?_)
  have hP : va_P (dC, dI) vwCl [(h0, .inr (4, [.int 0, .int 0, .int 0, .ref q1, .ref q2, .ref q3, .ref q4, .ref q5, .ref q6, .null, .null])), (q1, .inl (cy 0, 4, .inl (fun _ => 0))), (q2, .inl (cy 0, 4, .inl (fun _ => 0))), (q3, .inl (cy 0, 4, .inl (fun _ => 0))), (q4, .inl (cy 0, 4, .inl (fun _ => 0))), (q5, .inl (cy 0, 4, .inl (fun _ => 0))), (q6, .inl (cy 0, 4, .inl (fun _ => 0)))] H := hP
  have hD : va_D A [(h0, .inr (4, [.int 0, .int 0, .int 0, .ref q1, .ref q2, .ref q3, .ref q4, .ref q5, .ref q6, .null, .null])), (q1, .inl (cy 0, 4, .inl (fun _ => 0))), (q2, .inl (cy 0, 4, .inl (fun _ => 0))), (q3, .inl (cy 0, 4, .inl (fun _ => 0))), (q4, .inl (cy 0, 4, .inl (fun _ => 0))), (q5, .inl (cy 0, 4, .inl (fun _ => 0))), (q6, .inl (cy 0, 4, .inl (fun _ => 0)))] := hD
  refine lv_aload_n hx hb dX4_init_46 rfl (lv_at hl 0 rfl) ?_
  refine lv_iconst (v := 3) hx hb dX4_init_47 (by decide) ?_
  refine yn_i hx hb (hts (.arrayClass .int) (by decide +kernel)) hK hP hD hS hA 3 (by decide) (by decide) (by decide) (Nat.le_of_ble_eq_true rfl) (Nat.le_of_ble_eq_true rfl) dX4_init_48 (fun q7 H hP hD hS => ?_)
  have hP : va_P (dC, dI) vwCl [(h0, .inr (4, [.int 0, .int 0, .int 0, .ref q1, .ref q2, .ref q3, .ref q4, .ref q5, .ref q6, .null, .null])), (q1, .inl (cy 0, 4, .inl (fun _ => 0))), (q2, .inl (cy 0, 4, .inl (fun _ => 0))), (q3, .inl (cy 0, 4, .inl (fun _ => 0))), (q4, .inl (cy 0, 4, .inl (fun _ => 0))), (q5, .inl (cy 0, 4, .inl (fun _ => 0))), (q6, .inl (cy 0, 4, .inl (fun _ => 0))), (q7, .inl (cy 0, 3, .inl (fun _ => 0)))] H := hP
  have hD : va_D A [(h0, .inr (4, [.int 0, .int 0, .int 0, .ref q1, .ref q2, .ref q3, .ref q4, .ref q5, .ref q6, .null, .null])), (q1, .inl (cy 0, 4, .inl (fun _ => 0))), (q2, .inl (cy 0, 4, .inl (fun _ => 0))), (q3, .inl (cy 0, 4, .inl (fun _ => 0))), (q4, .inl (cy 0, 4, .inl (fun _ => 0))), (q5, .inl (cy 0, 4, .inl (fun _ => 0))), (q6, .inl (cy 0, 4, .inl (fun _ => 0))), (q7, .inl (cy 0, 3, .inl (fun _ => 0)))] := hD
  refine W.widen (k := 7) (n := 27) (by omega) (by omega) ?_
  refine va_putF (D := (dC, dI)) (ci := 4) (v := .ref q7) (ty := .array .int) (C := RX4) (T := TX4) (N := 11) hx hb hts (by decide +kernel) tyX4 tyX4_ok nmX4 hown hK hP hD hS 0 rfl rfl 9 (by decide) (hts (.fieldLink RX4 30 "QuietStairs$Planner" "busyBits" "[I") (by decide +kernel)) (fun _ h9 => h9) rfl hin rfl (by decide +kernel) rfl rfl (Nat.le_of_ble_eq_true rfl) dX4_init_50 (fun H locs hP hD hS => ?_)
  have hP : va_P (dC, dI) vwCl [(h0, .inr (4, [.int 0, .int 0, .int 0, .ref q1, .ref q2, .ref q3, .ref q4, .ref q5, .ref q6, .ref q7, .null])), (q1, .inl (cy 0, 4, .inl (fun _ => 0))), (q2, .inl (cy 0, 4, .inl (fun _ => 0))), (q3, .inl (cy 0, 4, .inl (fun _ => 0))), (q4, .inl (cy 0, 4, .inl (fun _ => 0))), (q5, .inl (cy 0, 4, .inl (fun _ => 0))), (q6, .inl (cy 0, 4, .inl (fun _ => 0))), (q7, .inl (cy 0, 3, .inl (fun _ => 0)))] H := hP
  have hD : va_D A [(h0, .inr (4, [.int 0, .int 0, .int 0, .ref q1, .ref q2, .ref q3, .ref q4, .ref q5, .ref q6, .ref q7, .null])), (q1, .inl (cy 0, 4, .inl (fun _ => 0))), (q2, .inl (cy 0, 4, .inl (fun _ => 0))), (q3, .inl (cy 0, 4, .inl (fun _ => 0))), (q4, .inl (cy 0, 4, .inl (fun _ => 0))), (q5, .inl (cy 0, 4, .inl (fun _ => 0))), (q6, .inl (cy 0, 4, .inl (fun _ => 0))), (q7, .inl (cy 0, 3, .inl (fun _ => 0)))] := hD
  refine lv_aload_n hx hb dX4_init_53 rfl (lv_at hl 0 rfl) ?_
  refine lv_iconst (v := 3) hx hb dX4_init_54 (by decide) ?_
  refine yn_i hx hb (hts (.arrayClass .int) (by decide +kernel)) hK hP hD hS hA 3 (by decide) (by decide) (by decide) (Nat.le_of_ble_eq_true rfl) (Nat.le_of_ble_eq_true rfl) dX4_init_55 (fun q8 H hP hD hS => ?_)
  have hP : va_P (dC, dI) vwCl [(h0, .inr (4, [.int 0, .int 0, .int 0, .ref q1, .ref q2, .ref q3, .ref q4, .ref q5, .ref q6, .ref q7, .null])), (q1, .inl (cy 0, 4, .inl (fun _ => 0))), (q2, .inl (cy 0, 4, .inl (fun _ => 0))), (q3, .inl (cy 0, 4, .inl (fun _ => 0))), (q4, .inl (cy 0, 4, .inl (fun _ => 0))), (q5, .inl (cy 0, 4, .inl (fun _ => 0))), (q6, .inl (cy 0, 4, .inl (fun _ => 0))), (q7, .inl (cy 0, 3, .inl (fun _ => 0))), (q8, .inl (cy 0, 3, .inl (fun _ => 0)))] H := hP
  have hD : va_D A [(h0, .inr (4, [.int 0, .int 0, .int 0, .ref q1, .ref q2, .ref q3, .ref q4, .ref q5, .ref q6, .ref q7, .null])), (q1, .inl (cy 0, 4, .inl (fun _ => 0))), (q2, .inl (cy 0, 4, .inl (fun _ => 0))), (q3, .inl (cy 0, 4, .inl (fun _ => 0))), (q4, .inl (cy 0, 4, .inl (fun _ => 0))), (q5, .inl (cy 0, 4, .inl (fun _ => 0))), (q6, .inl (cy 0, 4, .inl (fun _ => 0))), (q7, .inl (cy 0, 3, .inl (fun _ => 0))), (q8, .inl (cy 0, 3, .inl (fun _ => 0)))] := hD
  refine W.widen (k := 8) (n := 30) (by omega) (by omega) ?_
  refine va_putF (D := (dC, dI)) (ci := 4) (v := .ref q8) (ty := .array .int) (C := RX4) (T := TX4) (N := 11) hx hb hts (by decide +kernel) tyX4 tyX4_ok nmX4 hown hK hP hD hS 0 rfl rfl 10 (by decide) (hts (.fieldLink RX4 33 "QuietStairs$Planner" "sittings" "[I") (by decide +kernel)) (fun _ h9 => h9) rfl hin rfl (by decide +kernel) rfl rfl (Nat.le_of_ble_eq_true rfl) dX4_init_57 (fun H locs hP hD hS => ?_)
  have hP : va_P (dC, dI) vwCl [(h0, .inr (4, [.int 0, .int 0, .int 0, .ref q1, .ref q2, .ref q3, .ref q4, .ref q5, .ref q6, .ref q7, .ref q8])), (q1, .inl (cy 0, 4, .inl (fun _ => 0))), (q2, .inl (cy 0, 4, .inl (fun _ => 0))), (q3, .inl (cy 0, 4, .inl (fun _ => 0))), (q4, .inl (cy 0, 4, .inl (fun _ => 0))), (q5, .inl (cy 0, 4, .inl (fun _ => 0))), (q6, .inl (cy 0, 4, .inl (fun _ => 0))), (q7, .inl (cy 0, 3, .inl (fun _ => 0))), (q8, .inl (cy 0, 3, .inl (fun _ => 0)))] H := hP
  have hD : va_D A [(h0, .inr (4, [.int 0, .int 0, .int 0, .ref q1, .ref q2, .ref q3, .ref q4, .ref q5, .ref q6, .ref q7, .ref q8])), (q1, .inl (cy 0, 4, .inl (fun _ => 0))), (q2, .inl (cy 0, 4, .inl (fun _ => 0))), (q3, .inl (cy 0, 4, .inl (fun _ => 0))), (q4, .inl (cy 0, 4, .inl (fun _ => 0))), (q5, .inl (cy 0, 4, .inl (fun _ => 0))), (q6, .inl (cy 0, 4, .inl (fun _ => 0))), (q7, .inl (cy 0, 3, .inl (fun _ => 0))), (q8, .inl (cy 0, 3, .inl (fun _ => 0)))] := hD
  have hP9 := hP.sub (ws' := [(h0, .inr (4, [.int 0, .int 0, .int 0, .ref q1, .ref q2, .ref q3, .ref q4, .ref q5, .ref q6, .ref q7, .ref q8])), (q1, .inl (cy 0, 4, .inl (fun _ => 0))), (q2, .inl (cy 0, 4, .inl (fun _ => 0))), (q3, .inl (cy 0, 4, .inl (fun _ => 0))), (q4, .inl (cy 0, 4, .inl (fun _ => 0))), (q5, .inl (cy 0, 4, .inl (fun _ => 0))), (q6, .inl (cy 0, 4, .inl (fun _ => 0))), (q7, .inl (cy 0, 3, .inl (fun _ => 0))), (q8, .inl (cy 0, 3, .inl (fun _ => 0)))]) [0, 1, 2, 3, 4, 5, 6, 7, 8] rfl
  have hD9 := hD.sub (ws' := [(h0, .inr (4, [.int 0, .int 0, .int 0, .ref q1, .ref q2, .ref q3, .ref q4, .ref q5, .ref q6, .ref q7, .ref q8])), (q1, .inl (cy 0, 4, .inl (fun _ => 0))), (q2, .inl (cy 0, 4, .inl (fun _ => 0))), (q3, .inl (cy 0, 4, .inl (fun _ => 0))), (q4, .inl (cy 0, 4, .inl (fun _ => 0))), (q5, .inl (cy 0, 4, .inl (fun _ => 0))), (q6, .inl (cy 0, 4, .inl (fun _ => 0))), (q7, .inl (cy 0, 3, .inl (fun _ => 0))), (q8, .inl (cy 0, 3, .inl (fun _ => 0)))]) [0, 1, 2, 3, 4, 5, 6, 7, 8] (by decide) rfl
  exact W.vret hx hb hr (fun t ht hW => ⟨⟨(q1, q2, q3, q4, q5, q6, q7, q8), rfl, trivial, by rw [ht]; exact hP9, hD9⟩, hS.F ht⟩) hS.2.2 dX4_init_60

set_option maxHeartbeats 4000000 in
set_option maxRecDepth 100000 in
theorem c_X5_init (l : Launch) (dC : Nat → ClassId) (dI : Nat → Nat → Nat) (cy : Nat → ClassId) (sz : Nat) (h0 : Nat) : Met l yX5_init wsX5_init ({ frames := 1, cells := 2, slots := 10, locals := 64 }) (va_Pc [.ref h0] (ex_Pre dC dI cy sz [(h0, .inr (5, [.int 0, .null, .null]))])) (va_Qv (fun (u : Unit) => True) (fun u t => ex_Pst dC dI (va_A [(h0, .inr (5, [.int 0, .null, .null]))] sz) ([]) t) (va_A [(h0, .inr (5, [.int 0, .null, .null]))] sz)) 2 10 (va_A [(h0, .inr (5, [.int 0, .null, .null]))] sz) := by
  refine Met.ofW (cc := cX5_init) (maxL := 1) (ret := none) (by decide) rfl ?_
  intro p e s m args below meth c s₁ B hml hv
  obtain ⟨rfl, hsz, hE, hP, hK, hD0⟩ := hv
  have hx := B.exec
  have hb := B.bytes
  have hr := B.returns
  have hts := atoms_spec (ws := wsX5_init) B.pre
  have hown : s.vm.findClass RX5 = some m.cls := findClass_of_methodNamed B.named
  have hlocks := B.notSynchronized
  have hin : meth.name = "<init>" := (name_of_methodNamed B.named B.method).1
  subst hsz
  have hD := hD0.self (sz := s.heap.size)
  generalize hAe : va_A [(h0, .inr (5, [.int 0, .null, .null]))] s.heap.size = A at hD ⊢
  have hA : ∀ q : Nat, s.heap.size ≤ q → A q := fun q h => by rw [← hAe]; exact Or.inr h
  have hS : va_S A s.heap s.heap [] := va_S.rf
  have hP : va_P (dC, dI) vwCl [(h0, .inr (5, [.int 0, .null, .null]))] s.heap := hP
  have hl := lv_entry ([.ref h0]) (n := 1) (Nat.le_of_ble_eq_true rfl)
  rw [lg_entry_eq]
  generalize (lg_sl ([.ref h0]) ++ List.replicate (1 - (lg_sl ([.ref h0])).length) Slot.unset).toArray = ls at hl ⊢
  have hl : lv_has ls 1 [(0, .ref h0)] := hl
  refine lv_aload_n hx hb dX5_init_0 rfl (lv_at hl 0 rfl) ?_
  refine W.objInit hx hb hown (hts (.methodLink RX5 3 objectInit) (by decide +kernel)) (hts (.instanceMethod objectInit) (by decide +kernel)) (hts (.code objectInit ⟨#[0xb1]⟩ 1 none) (by decide +kernel)) rfl (by rw [hml]; exact hl.1) rfl dX5_init_1 (Nat.le_of_ble_eq_true rfl) (Nat.le_of_ble_eq_true rfl) ?_
  refine W.eq (g2 := F0 m 4 ls []) rfl ?_
  refine lv_aload_n hx hb dX5_init_4 rfl (lv_at hl 0 rfl) ?_
  refine lv_iconst (v := 5) hx hb dX5_init_5 (by decide) ?_
  refine yn_i hx hb (hts (.arrayClass .int) (by decide +kernel)) hK hP hD hS hA 5 (by decide) (by decide) (by decide) (Nat.le_of_ble_eq_true rfl) (Nat.le_of_ble_eq_true rfl) dX5_init_6 (fun q1 H hP hD hS => ?_)
  have hP : va_P (dC, dI) vwCl [(h0, .inr (5, [.int 0, .null, .null])), (q1, .inl (cy 0, 5, .inl (fun _ => 0)))] H := hP
  have hD : va_D A [(h0, .inr (5, [.int 0, .null, .null])), (q1, .inl (cy 0, 5, .inl (fun _ => 0)))] := hD
  refine W.widen (k := 1) (n := 5) (by omega) (by omega) ?_
  refine va_putF (D := (dC, dI)) (ci := 5) (v := .ref q1) (ty := .array .int) (C := RX5) (T := TX5) (N := 3) hx hb hts (by decide +kernel) tyX5 tyX5_ok nmX5 hown hK hP hD hS 0 rfl rfl 1 (by decide) (hts (.fieldLink RX5 9 "QuietStairs$Table" "musts" "[I") (by decide +kernel)) (fun _ h9 => h9) rfl hin rfl (by decide +kernel) rfl rfl (Nat.le_of_ble_eq_true rfl) dX5_init_8 (fun H locs hP hD hS => ?_)
  have hP : va_P (dC, dI) vwCl [(h0, .inr (5, [.int 0, .ref q1, .null])), (q1, .inl (cy 0, 5, .inl (fun _ => 0)))] H := hP
  have hD : va_D A [(h0, .inr (5, [.int 0, .ref q1, .null])), (q1, .inl (cy 0, 5, .inl (fun _ => 0)))] := hD
  refine lv_aload_n hx hb dX5_init_11 rfl (lv_at hl 0 rfl) ?_
  refine lv_iconst (v := 5) hx hb dX5_init_12 (by decide) ?_
  refine yn_i hx hb (hts (.arrayClass .int) (by decide +kernel)) hK hP hD hS hA 5 (by decide) (by decide) (by decide) (Nat.le_of_ble_eq_true rfl) (Nat.le_of_ble_eq_true rfl) dX5_init_13 (fun q2 H hP hD hS => ?_)
  have hP : va_P (dC, dI) vwCl [(h0, .inr (5, [.int 0, .ref q1, .null])), (q1, .inl (cy 0, 5, .inl (fun _ => 0))), (q2, .inl (cy 0, 5, .inl (fun _ => 0)))] H := hP
  have hD : va_D A [(h0, .inr (5, [.int 0, .ref q1, .null])), (q1, .inl (cy 0, 5, .inl (fun _ => 0))), (q2, .inl (cy 0, 5, .inl (fun _ => 0)))] := hD
  refine W.widen (k := 2) (n := 10) (by omega) (by omega) ?_
  refine va_putF (D := (dC, dI)) (ci := 5) (v := .ref q2) (ty := .array .int) (C := RX5) (T := TX5) (N := 3) hx hb hts (by decide +kernel) tyX5 tyX5_ok nmX5 hown hK hP hD hS 0 rfl rfl 2 (by decide) (hts (.fieldLink RX5 15 "QuietStairs$Table" "hourBits" "[I") (by decide +kernel)) (fun _ h9 => h9) rfl hin rfl (by decide +kernel) rfl rfl (Nat.le_of_ble_eq_true rfl) dX5_init_15 (fun H locs hP hD hS => ?_)
  have hP : va_P (dC, dI) vwCl [(h0, .inr (5, [.int 0, .ref q1, .ref q2])), (q1, .inl (cy 0, 5, .inl (fun _ => 0))), (q2, .inl (cy 0, 5, .inl (fun _ => 0)))] H := hP
  have hD : va_D A [(h0, .inr (5, [.int 0, .ref q1, .ref q2])), (q1, .inl (cy 0, 5, .inl (fun _ => 0))), (q2, .inl (cy 0, 5, .inl (fun _ => 0)))] := hD
  have hP9 := hP.sub (ws' := []) [] rfl
  have hD9 := hD.sub (ws' := []) [] (by decide) rfl
  exact W.vret hx hb hr (fun t ht hW => ⟨⟨(), rfl, trivial, by rw [ht]; exact hP9, hD9⟩, hS.F ht⟩) hS.2.2 dX5_init_18

set_option maxHeartbeats 4000000 in
set_option maxRecDepth 100000 in
theorem c_X7_init (l : Launch) (dC : Nat → ClassId) (dI : Nat → Nat → Nat) (cy : Nat → ClassId) (sz : Nat) (h0 : Nat) : Met l yX7_init wsX7_init ({ frames := 4, cells := 118, slots := 749, locals := 256 }) (va_Pc [.ref h0] (ex_Pre dC dI cy sz [(h0, .inr (7, [.null, .null, .null, .null, .int 0]))])) (va_Qv (fun (u : Nat × Nat × Nat × (Nat × Nat × Nat × Nat × Nat × (Nat → Option Nat) × (Nat → Option Nat)) × (Nat × Nat × Nat × Nat × Nat × Nat × Nat × Nat)) => u.2.2.2.1.2.2.2.2.2.1 0 = some u.2.2.2.1.2.2.2.1 ∧ u.2.2.2.1.2.2.2.2.2.2 0 = some u.2.2.2.1.2.2.2.2.1) (fun u t => ex_Pst dC dI (va_A [(h0, .inr (7, [.null, .null, .null, .null, .int 0]))] sz) ([(h0, .inr (7, [.ref u.1, .ref u.2.1, .ref u.2.2.1, .null, .int 1])), (u.1, .inr (1, [.int 0, .int 0, .int 0, .int 0, .ref u.2.2.2.1.1, .ref u.2.2.2.1.2.1, .ref u.2.2.2.1.2.2.1])), (u.2.2.2.1.1, .inl (cy 1, 8, .inr (.inr (.inr (.inr u.2.2.2.1.2.2.2.2.2.1))))), (u.2.2.2.1.2.2.2.1, .inr (3, [.int 0, .int 0])), (u.2.2.2.1.2.1, .inl (cy 2, 4, .inr (.inr (.inr (.inr u.2.2.2.1.2.2.2.2.2.2))))), (u.2.2.2.1.2.2.2.2.1, .inr (2, [.int 0, .int 0, .int 0])), (u.2.1, .inr (4, [.int 0, .int 0, .int 0, .ref u.2.2.2.2.1, .ref u.2.2.2.2.2.1, .ref u.2.2.2.2.2.2.1, .ref u.2.2.2.2.2.2.2.1, .ref u.2.2.2.2.2.2.2.2.1, .ref u.2.2.2.2.2.2.2.2.2.1, .ref u.2.2.2.2.2.2.2.2.2.2.1, .ref u.2.2.2.2.2.2.2.2.2.2.2])), (u.2.2.2.2.1, .inl (cy 0, 4, .inl (fun _ => 0))), (u.2.2.2.2.2.1, .inl (cy 0, 4, .inl (fun _ => 0))), (u.2.2.2.2.2.2.1, .inl (cy 0, 4, .inl (fun _ => 0))), (u.2.2.2.2.2.2.2.1, .inl (cy 0, 4, .inl (fun _ => 0))), (u.2.2.2.2.2.2.2.2.1, .inl (cy 0, 4, .inl (fun _ => 0))), (u.2.2.2.2.2.2.2.2.2.1, .inl (cy 0, 4, .inl (fun _ => 0))), (u.2.2.2.2.2.2.2.2.2.2.1, .inl (cy 0, 3, .inl (fun _ => 0))), (u.2.2.2.2.2.2.2.2.2.2.2, .inl (cy 0, 3, .inl (fun _ => 0)))]) t) (va_A [(h0, .inr (7, [.null, .null, .null, .null, .int 0]))] sz)) 118 749 (va_A [(h0, .inr (7, [.null, .null, .null, .null, .int 0]))] sz) := by
  refine Met.ofW (cc := cX7_init) (maxL := 1) (ret := none) (by decide) rfl ?_
  intro p e s m args below meth c s₁ B hml hv
  obtain ⟨rfl, hsz, hE, hP, hK, hD0⟩ := hv
  have hx := B.exec
  have hb := B.bytes
  have hr := B.returns
  have hts := atoms_spec (ws := wsX7_init) B.pre
  have hown : s.vm.findClass RX7 = some m.cls := findClass_of_methodNamed B.named
  have hlocks := B.notSynchronized
  have hin : meth.name = "<init>" := (name_of_methodNamed B.named B.method).1
  subst hsz
  have hD := hD0.self (sz := s.heap.size)
  generalize hAe : va_A [(h0, .inr (7, [.null, .null, .null, .null, .int 0]))] s.heap.size = A at hD ⊢
  have hA : ∀ q : Nat, s.heap.size ≤ q → A q := fun q h => by rw [← hAe]; exact Or.inr h
  have hS : va_S A s.heap s.heap [] := va_S.rf
  have hP : va_P (dC, dI) vwCl [(h0, .inr (7, [.null, .null, .null, .null, .int 0]))] s.heap := hP
  have hl := lv_entry ([.ref h0]) (n := 1) (Nat.le_of_ble_eq_true rfl)
  rw [lg_entry_eq]
  generalize (lg_sl ([.ref h0]) ++ List.replicate (1 - (lg_sl ([.ref h0])).length) Slot.unset).toArray = ls at hl ⊢
  have hl : lv_has ls 1 [(0, .ref h0)] := hl
  refine lv_aload_n hx hb dX7_init_0 rfl (lv_at hl 0 rfl) ?_
  refine W.objInit hx hb hown (hts (.methodLink RX7 3 objectInit) (by decide +kernel)) (hts (.instanceMethod objectInit) (by decide +kernel)) (hts (.code objectInit ⟨#[0xb1]⟩ 1 none) (by decide +kernel)) rfl (by rw [hml]; exact hl.1) rfl dX7_init_1 (Nat.le_of_ble_eq_true rfl) (Nat.le_of_ble_eq_true rfl) ?_
  refine W.eq (g2 := F0 m 4 ls []) rfl ?_
  refine lv_aload_n hx hb dX7_init_4 rfl (lv_at hl 0 rfl) ?_
  refine va_new (ci := 1) (fs := [.int 0, .int 0, .int 0, .int 0, .null, .null, .null]) (C := RX1) (T := TX1) (N := 7) hx hb hts (by decide +kernel) tyX1 tyX1_ok hown (hts (.classLink RX7 9 RX1) (by decide +kernel)) (hts (.instantiable RX1 7) (by decide +kernel)) (hts (.initialized RX1) (by decide +kernel)) hK hP hD hS hA rfl (fun j hj => by rcases (show j = 0 ∨ j = 1 ∨ j = 2 ∨ j = 3 ∨ j = 4 ∨ j = 5 ∨ j = 6 by omega) with rfl | rfl | rfl | rfl | rfl | rfl | rfl <;> rfl) (Nat.le_of_ble_eq_true rfl) (Nat.le_of_ble_eq_true rfl) dX7_init_5 (fun h1 H hP hD hS => ?_)
  have hP : va_P (dC, dI) vwCl [(h0, .inr (7, [.null, .null, .null, .null, .int 0])), (h1, .inr (1, [.int 0, .int 0, .int 0, .int 0, .null, .null, .null]))] H := hP
  have hD : va_D A [(h0, .inr (7, [.null, .null, .null, .null, .int 0])), (h1, .inr (1, [.int 0, .int 0, .int 0, .int 0, .null, .null, .null]))] := hD
  refine W.widen (k := 1) (n := 7) (by omega) (by omega) ?_
  refine lv_dup hx hb dX7_init_8 rfl ?_
  refine yc_v (wc := [(h1, .inr (1, [.int 0, .int 0, .int 0, .int 0, .null, .null, .null]))]) (wr := [(h0, .inr (7, [.null, .null, .null, .null, .int 0]))]) (w1 := fun (u : Nat × Nat × Nat × Nat × Nat × (Nat → Option Nat) × (Nat → Option Nat)) => [(h1, .inr (1, [.int 0, .int 0, .int 0, .int 0, .ref u.1, .ref u.2.1, .ref u.2.2.1])), (u.1, .inl (cy 1, 8, .inr (.inr (.inr (.inr u.2.2.2.2.2.1))))), (u.2.2.2.1, .inr (3, [.int 0, .int 0])), (u.2.1, .inl (cy 2, 4, .inr (.inr (.inr (.inr u.2.2.2.2.2.2))))), (u.2.2.2.2.1, .inr (2, [.int 0, .int 0, .int 0]))]) hP hD hS hA [1] [0] rfl rfl (by decide) (by decide) (va_runI (As := []) (rest := [.ref h1, .ref h0]) ⟨hx, hb, hml, hown, hts⟩ (c_X1_init l dC dI cy _ h1) (cwI 0 hts gX7_init_X1_init rfl rfl rfl (hts (.initialized RX1) (by decide +kernel)) (hts (.methodLink RX7 11 yX1_init) (by decide +kernel)) (hts (.instanceMethod yX1_init) (by decide +kernel)) rfl (by decide +kernel) ⟨Nat.le_of_ble_eq_true rfl, Nat.le_of_ble_eq_true rfl⟩) (ex_preS hE hK hP hD [1] (by decide) rfl) rfl rfl hl.1 rfl (lv_room (Nat.le_of_ble_eq_true rfl)) dX7_init_9 ⟨Nat.le_of_ble_eq_true rfl, Nat.le_of_ble_eq_true rfl⟩) (fun u_1 H locs hw_1 hP hD hS => ?_)
  obtain ⟨a, b, c9, p9, m9, f, g⟩ := u_1
  have hP : va_P (dC, dI) vwCl [(h0, .inr (7, [.null, .null, .null, .null, .int 0])), (h1, .inr (1, [.int 0, .int 0, .int 0, .int 0, .ref a, .ref b, .ref c9])), (a, .inl (cy 1, 8, .inr (.inr (.inr (.inr f))))), (p9, .inr (3, [.int 0, .int 0])), (b, .inl (cy 2, 4, .inr (.inr (.inr (.inr g))))), (m9, .inr (2, [.int 0, .int 0, .int 0]))] H := hP
  have hD : va_D A [(h0, .inr (7, [.null, .null, .null, .null, .int 0])), (h1, .inr (1, [.int 0, .int 0, .int 0, .int 0, .ref a, .ref b, .ref c9])), (a, .inl (cy 1, 8, .inr (.inr (.inr (.inr f))))), (p9, .inr (3, [.int 0, .int 0])), (b, .inl (cy 2, 4, .inr (.inr (.inr (.inr g))))), (m9, .inr (2, [.int 0, .int 0, .int 0]))] := hD
  refine W.widen (k := 106) (n := 695) (by omega) (by omega) ?_
  have hfg : f 0 = some p9 ∧ g 0 = some m9 := hw_1
  refine va_putF (D := (dC, dI)) (ci := 7) (v := .ref h1) (ty := .object "QuietStairs$House") (C := RX7) (T := TX7) (N := 5) hx hb hts (by decide +kernel) tyX7 tyX7_ok nmX7 hown hK hP hD hS 0 rfl rfl 0 (by decide) (hts (.fieldLink RX7 12 "QuietStairs" "now" "LQuietStairs$House;") (by decide +kernel)) (fun _ h9 => h9) rfl hin rfl (by decide +kernel) rfl rfl (Nat.le_of_ble_eq_true rfl) dX7_init_12 (fun H locs hP hD hS => ?_)
  have hP : va_P (dC, dI) vwCl [(h0, .inr (7, [.ref h1, .null, .null, .null, .int 0])), (h1, .inr (1, [.int 0, .int 0, .int 0, .int 0, .ref a, .ref b, .ref c9])), (a, .inl (cy 1, 8, .inr (.inr (.inr (.inr f))))), (p9, .inr (3, [.int 0, .int 0])), (b, .inl (cy 2, 4, .inr (.inr (.inr (.inr g))))), (m9, .inr (2, [.int 0, .int 0, .int 0]))] H := hP
  have hD : va_D A [(h0, .inr (7, [.ref h1, .null, .null, .null, .int 0])), (h1, .inr (1, [.int 0, .int 0, .int 0, .int 0, .ref a, .ref b, .ref c9])), (a, .inl (cy 1, 8, .inr (.inr (.inr (.inr f))))), (p9, .inr (3, [.int 0, .int 0])), (b, .inl (cy 2, 4, .inr (.inr (.inr (.inr g))))), (m9, .inr (2, [.int 0, .int 0, .int 0]))] := hD
  refine lv_aload_n hx hb dX7_init_15 rfl (lv_at hl 0 rfl) ?_
  refine va_new (ci := 4) (fs := [.int 0, .int 0, .int 0, .null, .null, .null, .null, .null, .null, .null, .null]) (C := RX4) (T := TX4) (N := 11) hx hb hts (by decide +kernel) tyX4 tyX4_ok hown (hts (.classLink RX7 16 RX4) (by decide +kernel)) (hts (.instantiable RX4 11) (by decide +kernel)) (hts (.initialized RX4) (by decide +kernel)) hK hP hD hS hA rfl (fun j hj => by rcases (show j = 0 ∨ j = 1 ∨ j = 2 ∨ j = 3 ∨ j = 4 ∨ j = 5 ∨ j = 6 ∨ j = 7 ∨ j = 8 ∨ j = 9 ∨ j = 10 by omega) with rfl | rfl | rfl | rfl | rfl | rfl | rfl | rfl | rfl | rfl | rfl <;> rfl) (Nat.le_of_ble_eq_true rfl) (Nat.le_of_ble_eq_true rfl) dX7_init_16 (fun h2 H hP hD hS => ?_)
  have hP : va_P (dC, dI) vwCl [(h0, .inr (7, [.ref h1, .null, .null, .null, .int 0])), (h1, .inr (1, [.int 0, .int 0, .int 0, .int 0, .ref a, .ref b, .ref c9])), (a, .inl (cy 1, 8, .inr (.inr (.inr (.inr f))))), (p9, .inr (3, [.int 0, .int 0])), (b, .inl (cy 2, 4, .inr (.inr (.inr (.inr g))))), (m9, .inr (2, [.int 0, .int 0, .int 0])), (h2, .inr (4, [.int 0, .int 0, .int 0, .null, .null, .null, .null, .null, .null, .null, .null]))] H := hP
  have hD : va_D A [(h0, .inr (7, [.ref h1, .null, .null, .null, .int 0])), (h1, .inr (1, [.int 0, .int 0, .int 0, .int 0, .ref a, .ref b, .ref c9])), (a, .inl (cy 1, 8, .inr (.inr (.inr (.inr f))))), (p9, .inr (3, [.int 0, .int 0])), (b, .inl (cy 2, 4, .inr (.inr (.inr (.inr g))))), (m9, .inr (2, [.int 0, .int 0, .int 0])), (h2, .inr (4, [.int 0, .int 0, .int 0, .null, .null, .null, .null, .null, .null, .null, .null]))] := hD
  refine W.widen (k := 107) (n := 706) (by omega) (by omega) ?_
  refine lv_dup hx hb dX7_init_19 rfl ?_
  refine yc_v (wc := [(h2, .inr (4, [.int 0, .int 0, .int 0, .null, .null, .null, .null, .null, .null, .null, .null]))]) (wr := [(h0, .inr (7, [.ref h1, .null, .null, .null, .int 0])), (h1, .inr (1, [.int 0, .int 0, .int 0, .int 0, .ref a, .ref b, .ref c9])), (a, .inl (cy 1, 8, .inr (.inr (.inr (.inr f))))), (p9, .inr (3, [.int 0, .int 0])), (b, .inl (cy 2, 4, .inr (.inr (.inr (.inr g))))), (m9, .inr (2, [.int 0, .int 0, .int 0]))]) (w1 := fun (u : Nat × Nat × Nat × Nat × Nat × Nat × Nat × Nat) => [(h2, .inr (4, [.int 0, .int 0, .int 0, .ref u.1, .ref u.2.1, .ref u.2.2.1, .ref u.2.2.2.1, .ref u.2.2.2.2.1, .ref u.2.2.2.2.2.1, .ref u.2.2.2.2.2.2.1, .ref u.2.2.2.2.2.2.2])), (u.1, .inl (cy 0, 4, .inl (fun _ => 0))), (u.2.1, .inl (cy 0, 4, .inl (fun _ => 0))), (u.2.2.1, .inl (cy 0, 4, .inl (fun _ => 0))), (u.2.2.2.1, .inl (cy 0, 4, .inl (fun _ => 0))), (u.2.2.2.2.1, .inl (cy 0, 4, .inl (fun _ => 0))), (u.2.2.2.2.2.1, .inl (cy 0, 4, .inl (fun _ => 0))), (u.2.2.2.2.2.2.1, .inl (cy 0, 3, .inl (fun _ => 0))), (u.2.2.2.2.2.2.2, .inl (cy 0, 3, .inl (fun _ => 0)))]) hP hD hS hA [6] [0, 1, 2, 3, 4, 5] rfl rfl (by decide) (by decide) (va_runIN (As := []) (rest := [.ref h2, .ref h0]) ⟨hx, hb, hml, hown, hts⟩ (c_X4_init l dC dI cy _ h2) ⟨va_cnB 0 hts gX7_init_X4_init_n18 rfl rfl rfl hE.2.2.2.1 (hts (.initialized RX4) (by decide +kernel)) (by decide +kernel) ⟨Nat.le_of_ble_eq_true rfl, Nat.le_of_ble_eq_true rfl⟩, rfl, (hts (.instanceMethod yX4_init) (by decide +kernel))⟩ (ex_preS hE hK hP hD [6] (by decide) rfl) rfl rfl hl.1 rfl (lv_room (Nat.le_of_ble_eq_true rfl)) dX7_init_20 ⟨Nat.le_of_ble_eq_true rfl, Nat.le_of_ble_eq_true rfl⟩) (fun u_2 H locs hw_2 hP hD hS => ?_)
  obtain ⟨q1, q2, q3, q4, q5, q6, q7, q8⟩ := u_2
  have hP : va_P (dC, dI) vwCl [(h0, .inr (7, [.ref h1, .null, .null, .null, .int 0])), (h1, .inr (1, [.int 0, .int 0, .int 0, .int 0, .ref a, .ref b, .ref c9])), (a, .inl (cy 1, 8, .inr (.inr (.inr (.inr f))))), (p9, .inr (3, [.int 0, .int 0])), (b, .inl (cy 2, 4, .inr (.inr (.inr (.inr g))))), (m9, .inr (2, [.int 0, .int 0, .int 0])), (h2, .inr (4, [.int 0, .int 0, .int 0, .ref q1, .ref q2, .ref q3, .ref q4, .ref q5, .ref q6, .ref q7, .ref q8])), (q1, .inl (cy 0, 4, .inl (fun _ => 0))), (q2, .inl (cy 0, 4, .inl (fun _ => 0))), (q3, .inl (cy 0, 4, .inl (fun _ => 0))), (q4, .inl (cy 0, 4, .inl (fun _ => 0))), (q5, .inl (cy 0, 4, .inl (fun _ => 0))), (q6, .inl (cy 0, 4, .inl (fun _ => 0))), (q7, .inl (cy 0, 3, .inl (fun _ => 0))), (q8, .inl (cy 0, 3, .inl (fun _ => 0)))] H := hP
  have hD : va_D A [(h0, .inr (7, [.ref h1, .null, .null, .null, .int 0])), (h1, .inr (1, [.int 0, .int 0, .int 0, .int 0, .ref a, .ref b, .ref c9])), (a, .inl (cy 1, 8, .inr (.inr (.inr (.inr f))))), (p9, .inr (3, [.int 0, .int 0])), (b, .inl (cy 2, 4, .inr (.inr (.inr (.inr g))))), (m9, .inr (2, [.int 0, .int 0, .int 0])), (h2, .inr (4, [.int 0, .int 0, .int 0, .ref q1, .ref q2, .ref q3, .ref q4, .ref q5, .ref q6, .ref q7, .ref q8])), (q1, .inl (cy 0, 4, .inl (fun _ => 0))), (q2, .inl (cy 0, 4, .inl (fun _ => 0))), (q3, .inl (cy 0, 4, .inl (fun _ => 0))), (q4, .inl (cy 0, 4, .inl (fun _ => 0))), (q5, .inl (cy 0, 4, .inl (fun _ => 0))), (q6, .inl (cy 0, 4, .inl (fun _ => 0))), (q7, .inl (cy 0, 3, .inl (fun _ => 0))), (q8, .inl (cy 0, 3, .inl (fun _ => 0)))] := hD
  refine W.widen (k := 115) (n := 736) (by omega) (by omega) ?_
  refine va_putF (D := (dC, dI)) (ci := 7) (v := .ref h2) (ty := .object "QuietStairs$Planner") (C := RX7) (T := TX7) (N := 5) hx hb hts (by decide +kernel) tyX7 tyX7_ok nmX7 hown hK hP hD hS 0 rfl rfl 1 (by decide) (hts (.fieldLink RX7 19 "QuietStairs" "planner" "LQuietStairs$Planner;") (by decide +kernel)) (fun _ h9 => h9) rfl hin rfl (by decide +kernel) rfl rfl (Nat.le_of_ble_eq_true rfl) dX7_init_23 (fun H locs hP hD hS => ?_)
  have hP : va_P (dC, dI) vwCl [(h0, .inr (7, [.ref h1, .ref h2, .null, .null, .int 0])), (h1, .inr (1, [.int 0, .int 0, .int 0, .int 0, .ref a, .ref b, .ref c9])), (a, .inl (cy 1, 8, .inr (.inr (.inr (.inr f))))), (p9, .inr (3, [.int 0, .int 0])), (b, .inl (cy 2, 4, .inr (.inr (.inr (.inr g))))), (m9, .inr (2, [.int 0, .int 0, .int 0])), (h2, .inr (4, [.int 0, .int 0, .int 0, .ref q1, .ref q2, .ref q3, .ref q4, .ref q5, .ref q6, .ref q7, .ref q8])), (q1, .inl (cy 0, 4, .inl (fun _ => 0))), (q2, .inl (cy 0, 4, .inl (fun _ => 0))), (q3, .inl (cy 0, 4, .inl (fun _ => 0))), (q4, .inl (cy 0, 4, .inl (fun _ => 0))), (q5, .inl (cy 0, 4, .inl (fun _ => 0))), (q6, .inl (cy 0, 4, .inl (fun _ => 0))), (q7, .inl (cy 0, 3, .inl (fun _ => 0))), (q8, .inl (cy 0, 3, .inl (fun _ => 0)))] H := hP
  have hD : va_D A [(h0, .inr (7, [.ref h1, .ref h2, .null, .null, .int 0])), (h1, .inr (1, [.int 0, .int 0, .int 0, .int 0, .ref a, .ref b, .ref c9])), (a, .inl (cy 1, 8, .inr (.inr (.inr (.inr f))))), (p9, .inr (3, [.int 0, .int 0])), (b, .inl (cy 2, 4, .inr (.inr (.inr (.inr g))))), (m9, .inr (2, [.int 0, .int 0, .int 0])), (h2, .inr (4, [.int 0, .int 0, .int 0, .ref q1, .ref q2, .ref q3, .ref q4, .ref q5, .ref q6, .ref q7, .ref q8])), (q1, .inl (cy 0, 4, .inl (fun _ => 0))), (q2, .inl (cy 0, 4, .inl (fun _ => 0))), (q3, .inl (cy 0, 4, .inl (fun _ => 0))), (q4, .inl (cy 0, 4, .inl (fun _ => 0))), (q5, .inl (cy 0, 4, .inl (fun _ => 0))), (q6, .inl (cy 0, 4, .inl (fun _ => 0))), (q7, .inl (cy 0, 3, .inl (fun _ => 0))), (q8, .inl (cy 0, 3, .inl (fun _ => 0)))] := hD
  refine lv_aload_n hx hb dX7_init_26 rfl (lv_at hl 0 rfl) ?_
  refine va_new (ci := 5) (fs := [.int 0, .null, .null]) (C := RX5) (T := TX5) (N := 3) hx hb hts (by decide +kernel) tyX5 tyX5_ok hown (hts (.classLink RX7 23 RX5) (by decide +kernel)) (hts (.instantiable RX5 3) (by decide +kernel)) (hts (.initialized RX5) (by decide +kernel)) hK hP hD hS hA rfl (fun j hj => by rcases (show j = 0 ∨ j = 1 ∨ j = 2 by omega) with rfl | rfl | rfl <;> rfl) (Nat.le_of_ble_eq_true rfl) (Nat.le_of_ble_eq_true rfl) dX7_init_27 (fun h3 H hP hD hS => ?_)
  have hP : va_P (dC, dI) vwCl [(h0, .inr (7, [.ref h1, .ref h2, .null, .null, .int 0])), (h1, .inr (1, [.int 0, .int 0, .int 0, .int 0, .ref a, .ref b, .ref c9])), (a, .inl (cy 1, 8, .inr (.inr (.inr (.inr f))))), (p9, .inr (3, [.int 0, .int 0])), (b, .inl (cy 2, 4, .inr (.inr (.inr (.inr g))))), (m9, .inr (2, [.int 0, .int 0, .int 0])), (h2, .inr (4, [.int 0, .int 0, .int 0, .ref q1, .ref q2, .ref q3, .ref q4, .ref q5, .ref q6, .ref q7, .ref q8])), (q1, .inl (cy 0, 4, .inl (fun _ => 0))), (q2, .inl (cy 0, 4, .inl (fun _ => 0))), (q3, .inl (cy 0, 4, .inl (fun _ => 0))), (q4, .inl (cy 0, 4, .inl (fun _ => 0))), (q5, .inl (cy 0, 4, .inl (fun _ => 0))), (q6, .inl (cy 0, 4, .inl (fun _ => 0))), (q7, .inl (cy 0, 3, .inl (fun _ => 0))), (q8, .inl (cy 0, 3, .inl (fun _ => 0))), (h3, .inr (5, [.int 0, .null, .null]))] H := hP
  have hD : va_D A [(h0, .inr (7, [.ref h1, .ref h2, .null, .null, .int 0])), (h1, .inr (1, [.int 0, .int 0, .int 0, .int 0, .ref a, .ref b, .ref c9])), (a, .inl (cy 1, 8, .inr (.inr (.inr (.inr f))))), (p9, .inr (3, [.int 0, .int 0])), (b, .inl (cy 2, 4, .inr (.inr (.inr (.inr g))))), (m9, .inr (2, [.int 0, .int 0, .int 0])), (h2, .inr (4, [.int 0, .int 0, .int 0, .ref q1, .ref q2, .ref q3, .ref q4, .ref q5, .ref q6, .ref q7, .ref q8])), (q1, .inl (cy 0, 4, .inl (fun _ => 0))), (q2, .inl (cy 0, 4, .inl (fun _ => 0))), (q3, .inl (cy 0, 4, .inl (fun _ => 0))), (q4, .inl (cy 0, 4, .inl (fun _ => 0))), (q5, .inl (cy 0, 4, .inl (fun _ => 0))), (q6, .inl (cy 0, 4, .inl (fun _ => 0))), (q7, .inl (cy 0, 3, .inl (fun _ => 0))), (q8, .inl (cy 0, 3, .inl (fun _ => 0))), (h3, .inr (5, [.int 0, .null, .null]))] := hD
  refine W.widen (k := 116) (n := 739) (by omega) (by omega) ?_
  refine lv_dup hx hb dX7_init_30 rfl ?_
  refine yc_v (wc := [(h3, .inr (5, [.int 0, .null, .null]))]) (wr := [(h0, .inr (7, [.ref h1, .ref h2, .null, .null, .int 0])), (h1, .inr (1, [.int 0, .int 0, .int 0, .int 0, .ref a, .ref b, .ref c9])), (a, .inl (cy 1, 8, .inr (.inr (.inr (.inr f))))), (p9, .inr (3, [.int 0, .int 0])), (b, .inl (cy 2, 4, .inr (.inr (.inr (.inr g))))), (m9, .inr (2, [.int 0, .int 0, .int 0])), (h2, .inr (4, [.int 0, .int 0, .int 0, .ref q1, .ref q2, .ref q3, .ref q4, .ref q5, .ref q6, .ref q7, .ref q8])), (q1, .inl (cy 0, 4, .inl (fun _ => 0))), (q2, .inl (cy 0, 4, .inl (fun _ => 0))), (q3, .inl (cy 0, 4, .inl (fun _ => 0))), (q4, .inl (cy 0, 4, .inl (fun _ => 0))), (q5, .inl (cy 0, 4, .inl (fun _ => 0))), (q6, .inl (cy 0, 4, .inl (fun _ => 0))), (q7, .inl (cy 0, 3, .inl (fun _ => 0))), (q8, .inl (cy 0, 3, .inl (fun _ => 0)))]) (w1 := fun _ => []) hP hD hS hA [15] [0, 1, 2, 3, 4, 5, 6, 7, 8, 9, 10, 11, 12, 13, 14] rfl rfl (by decide) (by decide) (va_runIN (As := []) (rest := [.ref h3, .ref h0]) ⟨hx, hb, hml, hown, hts⟩ (c_X5_init l dC dI cy _ h3) ⟨va_cnB 0 hts gX7_init_X5_init_n25 rfl rfl rfl hE.2.2.2.2.1 (hts (.initialized RX5) (by decide +kernel)) (by decide +kernel) ⟨Nat.le_of_ble_eq_true rfl, Nat.le_of_ble_eq_true rfl⟩, rfl, (hts (.instanceMethod yX5_init) (by decide +kernel))⟩ (ex_preS hE hK hP hD [15] (by decide) rfl) rfl rfl hl.1 rfl (lv_room (Nat.le_of_ble_eq_true rfl)) dX7_init_31 ⟨Nat.le_of_ble_eq_true rfl, Nat.le_of_ble_eq_true rfl⟩) (fun u_3 H locs hw_3 hP hD hS => ?_)
  have hP : va_P (dC, dI) vwCl [(h0, .inr (7, [.ref h1, .ref h2, .null, .null, .int 0])), (h1, .inr (1, [.int 0, .int 0, .int 0, .int 0, .ref a, .ref b, .ref c9])), (a, .inl (cy 1, 8, .inr (.inr (.inr (.inr f))))), (p9, .inr (3, [.int 0, .int 0])), (b, .inl (cy 2, 4, .inr (.inr (.inr (.inr g))))), (m9, .inr (2, [.int 0, .int 0, .int 0])), (h2, .inr (4, [.int 0, .int 0, .int 0, .ref q1, .ref q2, .ref q3, .ref q4, .ref q5, .ref q6, .ref q7, .ref q8])), (q1, .inl (cy 0, 4, .inl (fun _ => 0))), (q2, .inl (cy 0, 4, .inl (fun _ => 0))), (q3, .inl (cy 0, 4, .inl (fun _ => 0))), (q4, .inl (cy 0, 4, .inl (fun _ => 0))), (q5, .inl (cy 0, 4, .inl (fun _ => 0))), (q6, .inl (cy 0, 4, .inl (fun _ => 0))), (q7, .inl (cy 0, 3, .inl (fun _ => 0))), (q8, .inl (cy 0, 3, .inl (fun _ => 0)))] H := hP
  have hD : va_D A [(h0, .inr (7, [.ref h1, .ref h2, .null, .null, .int 0])), (h1, .inr (1, [.int 0, .int 0, .int 0, .int 0, .ref a, .ref b, .ref c9])), (a, .inl (cy 1, 8, .inr (.inr (.inr (.inr f))))), (p9, .inr (3, [.int 0, .int 0])), (b, .inl (cy 2, 4, .inr (.inr (.inr (.inr g))))), (m9, .inr (2, [.int 0, .int 0, .int 0])), (h2, .inr (4, [.int 0, .int 0, .int 0, .ref q1, .ref q2, .ref q3, .ref q4, .ref q5, .ref q6, .ref q7, .ref q8])), (q1, .inl (cy 0, 4, .inl (fun _ => 0))), (q2, .inl (cy 0, 4, .inl (fun _ => 0))), (q3, .inl (cy 0, 4, .inl (fun _ => 0))), (q4, .inl (cy 0, 4, .inl (fun _ => 0))), (q5, .inl (cy 0, 4, .inl (fun _ => 0))), (q6, .inl (cy 0, 4, .inl (fun _ => 0))), (q7, .inl (cy 0, 3, .inl (fun _ => 0))), (q8, .inl (cy 0, 3, .inl (fun _ => 0)))] := hD
  refine W.widen (k := 118) (n := 749) (by omega) (by omega) ?_
  refine va_putF (D := (dC, dI)) (ci := 7) (v := .ref h3) (ty := .object "QuietStairs$Table") (C := RX7) (T := TX7) (N := 5) hx hb hts (by decide +kernel) tyX7 tyX7_ok nmX7 hown hK hP hD hS 0 rfl rfl 2 (by decide) (hts (.fieldLink RX7 26 "QuietStairs" "table" "LQuietStairs$Table;") (by decide +kernel)) (fun _ h9 => h9) rfl hin rfl (by decide +kernel) rfl rfl (Nat.le_of_ble_eq_true rfl) dX7_init_34 (fun H locs hP hD hS => ?_)
  have hP : va_P (dC, dI) vwCl [(h0, .inr (7, [.ref h1, .ref h2, .ref h3, .null, .int 0])), (h1, .inr (1, [.int 0, .int 0, .int 0, .int 0, .ref a, .ref b, .ref c9])), (a, .inl (cy 1, 8, .inr (.inr (.inr (.inr f))))), (p9, .inr (3, [.int 0, .int 0])), (b, .inl (cy 2, 4, .inr (.inr (.inr (.inr g))))), (m9, .inr (2, [.int 0, .int 0, .int 0])), (h2, .inr (4, [.int 0, .int 0, .int 0, .ref q1, .ref q2, .ref q3, .ref q4, .ref q5, .ref q6, .ref q7, .ref q8])), (q1, .inl (cy 0, 4, .inl (fun _ => 0))), (q2, .inl (cy 0, 4, .inl (fun _ => 0))), (q3, .inl (cy 0, 4, .inl (fun _ => 0))), (q4, .inl (cy 0, 4, .inl (fun _ => 0))), (q5, .inl (cy 0, 4, .inl (fun _ => 0))), (q6, .inl (cy 0, 4, .inl (fun _ => 0))), (q7, .inl (cy 0, 3, .inl (fun _ => 0))), (q8, .inl (cy 0, 3, .inl (fun _ => 0)))] H := hP
  have hD : va_D A [(h0, .inr (7, [.ref h1, .ref h2, .ref h3, .null, .int 0])), (h1, .inr (1, [.int 0, .int 0, .int 0, .int 0, .ref a, .ref b, .ref c9])), (a, .inl (cy 1, 8, .inr (.inr (.inr (.inr f))))), (p9, .inr (3, [.int 0, .int 0])), (b, .inl (cy 2, 4, .inr (.inr (.inr (.inr g))))), (m9, .inr (2, [.int 0, .int 0, .int 0])), (h2, .inr (4, [.int 0, .int 0, .int 0, .ref q1, .ref q2, .ref q3, .ref q4, .ref q5, .ref q6, .ref q7, .ref q8])), (q1, .inl (cy 0, 4, .inl (fun _ => 0))), (q2, .inl (cy 0, 4, .inl (fun _ => 0))), (q3, .inl (cy 0, 4, .inl (fun _ => 0))), (q4, .inl (cy 0, 4, .inl (fun _ => 0))), (q5, .inl (cy 0, 4, .inl (fun _ => 0))), (q6, .inl (cy 0, 4, .inl (fun _ => 0))), (q7, .inl (cy 0, 3, .inl (fun _ => 0))), (q8, .inl (cy 0, 3, .inl (fun _ => 0)))] := hD
  refine lv_aload_n hx hb dX7_init_37 rfl (lv_at hl 0 rfl) ?_
  refine lv_null hx hb dX7_init_38 ?_
  refine va_put (D := (dC, dI)) (ci := 7) (v := .null) (ty := .object "QuietStairs$House") (C := RX7) (T := TX7) (N := 5) hx hb hts (by decide +kernel) tyX7 tyX7_ok nmX7 hown hK hP hD hS 0 rfl rfl 3 (by decide) (hts (.fieldLink RX7 30 "QuietStairs" "kept" "LQuietStairs$House;") (by decide +kernel)) (fun _ h9 => h9) rfl (by decide +kernel) rfl rfl (Nat.le_of_ble_eq_true rfl) dX7_init_39 (fun H locs hP hD hS => ?_)
  have hP : va_P (dC, dI) vwCl [(h0, .inr (7, [.ref h1, .ref h2, .ref h3, .null, .int 0])), (h1, .inr (1, [.int 0, .int 0, .int 0, .int 0, .ref a, .ref b, .ref c9])), (a, .inl (cy 1, 8, .inr (.inr (.inr (.inr f))))), (p9, .inr (3, [.int 0, .int 0])), (b, .inl (cy 2, 4, .inr (.inr (.inr (.inr g))))), (m9, .inr (2, [.int 0, .int 0, .int 0])), (h2, .inr (4, [.int 0, .int 0, .int 0, .ref q1, .ref q2, .ref q3, .ref q4, .ref q5, .ref q6, .ref q7, .ref q8])), (q1, .inl (cy 0, 4, .inl (fun _ => 0))), (q2, .inl (cy 0, 4, .inl (fun _ => 0))), (q3, .inl (cy 0, 4, .inl (fun _ => 0))), (q4, .inl (cy 0, 4, .inl (fun _ => 0))), (q5, .inl (cy 0, 4, .inl (fun _ => 0))), (q6, .inl (cy 0, 4, .inl (fun _ => 0))), (q7, .inl (cy 0, 3, .inl (fun _ => 0))), (q8, .inl (cy 0, 3, .inl (fun _ => 0)))] H := hP
  have hD : va_D A [(h0, .inr (7, [.ref h1, .ref h2, .ref h3, .null, .int 0])), (h1, .inr (1, [.int 0, .int 0, .int 0, .int 0, .ref a, .ref b, .ref c9])), (a, .inl (cy 1, 8, .inr (.inr (.inr (.inr f))))), (p9, .inr (3, [.int 0, .int 0])), (b, .inl (cy 2, 4, .inr (.inr (.inr (.inr g))))), (m9, .inr (2, [.int 0, .int 0, .int 0])), (h2, .inr (4, [.int 0, .int 0, .int 0, .ref q1, .ref q2, .ref q3, .ref q4, .ref q5, .ref q6, .ref q7, .ref q8])), (q1, .inl (cy 0, 4, .inl (fun _ => 0))), (q2, .inl (cy 0, 4, .inl (fun _ => 0))), (q3, .inl (cy 0, 4, .inl (fun _ => 0))), (q4, .inl (cy 0, 4, .inl (fun _ => 0))), (q5, .inl (cy 0, 4, .inl (fun _ => 0))), (q6, .inl (cy 0, 4, .inl (fun _ => 0))), (q7, .inl (cy 0, 3, .inl (fun _ => 0))), (q8, .inl (cy 0, 3, .inl (fun _ => 0)))] := hD
  refine lv_aload_n hx hb dX7_init_42 rfl (lv_at hl 0 rfl) ?_
  refine lv_iconst (v := 1) hx hb dX7_init_43 (by decide) ?_
  refine va_put (D := (dC, dI)) (ci := 7) (v := .int 1) (ty := .int) (C := RX7) (T := TX7) (N := 5) hx hb hts (by decide +kernel) tyX7 tyX7_ok nmX7 hown hK hP hD hS 0 rfl rfl 4 (by decide) (hts (.fieldLink RX7 33 "QuietStairs" "roomCount" "I") (by decide +kernel)) (fun _ h9 => h9) rfl (by decide +kernel) rfl rfl (Nat.le_of_ble_eq_true rfl) dX7_init_44 (fun H locs hP hD hS => ?_)
  have hP : va_P (dC, dI) vwCl [(h0, .inr (7, [.ref h1, .ref h2, .ref h3, .null, .int 1])), (h1, .inr (1, [.int 0, .int 0, .int 0, .int 0, .ref a, .ref b, .ref c9])), (a, .inl (cy 1, 8, .inr (.inr (.inr (.inr f))))), (p9, .inr (3, [.int 0, .int 0])), (b, .inl (cy 2, 4, .inr (.inr (.inr (.inr g))))), (m9, .inr (2, [.int 0, .int 0, .int 0])), (h2, .inr (4, [.int 0, .int 0, .int 0, .ref q1, .ref q2, .ref q3, .ref q4, .ref q5, .ref q6, .ref q7, .ref q8])), (q1, .inl (cy 0, 4, .inl (fun _ => 0))), (q2, .inl (cy 0, 4, .inl (fun _ => 0))), (q3, .inl (cy 0, 4, .inl (fun _ => 0))), (q4, .inl (cy 0, 4, .inl (fun _ => 0))), (q5, .inl (cy 0, 4, .inl (fun _ => 0))), (q6, .inl (cy 0, 4, .inl (fun _ => 0))), (q7, .inl (cy 0, 3, .inl (fun _ => 0))), (q8, .inl (cy 0, 3, .inl (fun _ => 0)))] H := hP
  have hD : va_D A [(h0, .inr (7, [.ref h1, .ref h2, .ref h3, .null, .int 1])), (h1, .inr (1, [.int 0, .int 0, .int 0, .int 0, .ref a, .ref b, .ref c9])), (a, .inl (cy 1, 8, .inr (.inr (.inr (.inr f))))), (p9, .inr (3, [.int 0, .int 0])), (b, .inl (cy 2, 4, .inr (.inr (.inr (.inr g))))), (m9, .inr (2, [.int 0, .int 0, .int 0])), (h2, .inr (4, [.int 0, .int 0, .int 0, .ref q1, .ref q2, .ref q3, .ref q4, .ref q5, .ref q6, .ref q7, .ref q8])), (q1, .inl (cy 0, 4, .inl (fun _ => 0))), (q2, .inl (cy 0, 4, .inl (fun _ => 0))), (q3, .inl (cy 0, 4, .inl (fun _ => 0))), (q4, .inl (cy 0, 4, .inl (fun _ => 0))), (q5, .inl (cy 0, 4, .inl (fun _ => 0))), (q6, .inl (cy 0, 4, .inl (fun _ => 0))), (q7, .inl (cy 0, 3, .inl (fun _ => 0))), (q8, .inl (cy 0, 3, .inl (fun _ => 0)))] := hD
  have hP9 := hP.sub (ws' := [(h0, .inr (7, [.ref h1, .ref h2, .ref h3, .null, .int 1])), (h1, .inr (1, [.int 0, .int 0, .int 0, .int 0, .ref a, .ref b, .ref c9])), (a, .inl (cy 1, 8, .inr (.inr (.inr (.inr f))))), (p9, .inr (3, [.int 0, .int 0])), (b, .inl (cy 2, 4, .inr (.inr (.inr (.inr g))))), (m9, .inr (2, [.int 0, .int 0, .int 0])), (h2, .inr (4, [.int 0, .int 0, .int 0, .ref q1, .ref q2, .ref q3, .ref q4, .ref q5, .ref q6, .ref q7, .ref q8])), (q1, .inl (cy 0, 4, .inl (fun _ => 0))), (q2, .inl (cy 0, 4, .inl (fun _ => 0))), (q3, .inl (cy 0, 4, .inl (fun _ => 0))), (q4, .inl (cy 0, 4, .inl (fun _ => 0))), (q5, .inl (cy 0, 4, .inl (fun _ => 0))), (q6, .inl (cy 0, 4, .inl (fun _ => 0))), (q7, .inl (cy 0, 3, .inl (fun _ => 0))), (q8, .inl (cy 0, 3, .inl (fun _ => 0)))]) [0, 1, 2, 3, 4, 5, 6, 7, 8, 9, 10, 11, 12, 13, 14] rfl
  have hD9 := hD.sub (ws' := [(h0, .inr (7, [.ref h1, .ref h2, .ref h3, .null, .int 1])), (h1, .inr (1, [.int 0, .int 0, .int 0, .int 0, .ref a, .ref b, .ref c9])), (a, .inl (cy 1, 8, .inr (.inr (.inr (.inr f))))), (p9, .inr (3, [.int 0, .int 0])), (b, .inl (cy 2, 4, .inr (.inr (.inr (.inr g))))), (m9, .inr (2, [.int 0, .int 0, .int 0])), (h2, .inr (4, [.int 0, .int 0, .int 0, .ref q1, .ref q2, .ref q3, .ref q4, .ref q5, .ref q6, .ref q7, .ref q8])), (q1, .inl (cy 0, 4, .inl (fun _ => 0))), (q2, .inl (cy 0, 4, .inl (fun _ => 0))), (q3, .inl (cy 0, 4, .inl (fun _ => 0))), (q4, .inl (cy 0, 4, .inl (fun _ => 0))), (q5, .inl (cy 0, 4, .inl (fun _ => 0))), (q6, .inl (cy 0, 4, .inl (fun _ => 0))), (q7, .inl (cy 0, 3, .inl (fun _ => 0))), (q8, .inl (cy 0, 3, .inl (fun _ => 0)))]) [0, 1, 2, 3, 4, 5, 6, 7, 8, 9, 10, 11, 12, 13, 14] (by decide) rfl
  exact W.vret hx hb hr (fun t ht hW => ⟨⟨(h1, h2, h3, (a, b, c9, p9, m9, f, g), (q1, q2, q3, q4, q5, q6, q7, q8)), rfl, hfg, by rw [ht]; exact hP9, hD9⟩, hS.F ht⟩) hS.2.2 dX7_init_47
