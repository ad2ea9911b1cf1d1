set_option maxRecDepth 20000 in
theorem db_X0_copyFrom_0 : (decode cX0_copyFrom 0 = .ok (.aload_n 0, 1)) ∧ (decode cX0_copyFrom 1 = .ok (.aload_n 1, 1)) ∧ (decode cX0_copyFrom 2 = .ok (.getfield 33, 3)) ∧ (decode cX0_copyFrom 5 = .ok (.putfield 33, 3)) ∧ (decode cX0_copyFrom 8 = .ok (.aload_n 0, 1)) ∧ (decode cX0_copyFrom 9 = .ok (.aload_n 1, 1)) ∧ (decode cX0_copyFrom 10 = .ok (.getfield 37, 3)) ∧ (decode cX0_copyFrom 13 = .ok (.putfield 37, 3)) := by decide +kernel
theorem dX0_copyFrom_0 : decode cX0_copyFrom 0 = .ok (.aload_n 0, 1) := db_X0_copyFrom_0.1
theorem dX0_copyFrom_1 : decode cX0_copyFrom 1 = .ok (.aload_n 1, 1) := db_X0_copyFrom_0.2.1
theorem dX0_copyFrom_2 : decode cX0_copyFrom 2 = .ok (.getfield 33, 3) := db_X0_copyFrom_0.2.2.1
theorem dX0_copyFrom_5 : decode cX0_copyFrom 5 = .ok (.putfield 33, 3) := db_X0_copyFrom_0.2.2.2.1
theorem dX0_copyFrom_8 : decode cX0_copyFrom 8 = .ok (.aload_n 0, 1) := db_X0_copyFrom_0.2.2.2.2.1
theorem dX0_copyFrom_9 : decode cX0_copyFrom 9 = .ok (.aload_n 1, 1) := db_X0_copyFrom_0.2.2.2.2.2.1
theorem dX0_copyFrom_10 : decode cX0_copyFrom 10 = .ok (.getfield 37, 3) := db_X0_copyFrom_0.2.2.2.2.2.2.1
theorem dX0_copyFrom_13 : decode cX0_copyFrom 13 = .ok (.putfield 37, 3) := db_X0_copyFrom_0.2.2.2.2.2.2.2
set_option maxRecDepth 20000 in
theorem db_X0_copyFrom_16 : (decode cX0_copyFrom 16 = .ok (.aload_n 0, 1)) ∧ (decode cX0_copyFrom 17 = .ok (.aload_n 1, 1)) ∧ (decode cX0_copyFrom 18 = .ok (.getfield 40, 3)) ∧ (decode cX0_copyFrom 21 = .ok (.putfield 40, 3)) ∧ (decode cX0_copyFrom 24 = .ok (.aload_n 0, 1)) ∧ (decode cX0_copyFrom 25 = .ok (.aload_n 1, 1)) ∧ (decode cX0_copyFrom 26 = .ok (.getfield 43, 3)) ∧ (decode cX0_copyFrom 29 = .ok (.putfield 43, 3)) := by decide +kernel
theorem dX0_copyFrom_16 : decode cX0_copyFrom 16 = .ok (.aload_n 0, 1) := db_X0_copyFrom_16.1
theorem dX0_copyFrom_17 : decode cX0_copyFrom 17 = .ok (.aload_n 1, 1) := db_X0_copyFrom_16.2.1
theorem dX0_copyFrom_18 : decode cX0_copyFrom 18 = .ok (.getfield 40, 3) := db_X0_copyFrom_16.2.2.1
theorem dX0_copyFrom_21 : decode cX0_copyFrom 21 = .ok (.putfield 40, 3) := db_X0_copyFrom_16.2.2.2.1
theorem dX0_copyFrom_24 : decode cX0_copyFrom 24 = .ok (.aload_n 0, 1) := db_X0_copyFrom_16.2.2.2.2.1
theorem dX0_copyFrom_25 : decode cX0_copyFrom 25 = .ok (.aload_n 1, 1) := db_X0_copyFrom_16.2.2.2.2.2.1
theorem dX0_copyFrom_26 : decode cX0_copyFrom 26 = .ok (.getfield 43, 3) := db_X0_copyFrom_16.2.2.2.2.2.2.1
theorem dX0_copyFrom_29 : decode cX0_copyFrom 29 = .ok (.putfield 43, 3) := db_X0_copyFrom_16.2.2.2.2.2.2.2
set_option maxRecDepth 20000 in
theorem db_X0_copyFrom_32 : (decode cX0_copyFrom 32 = .ok (.aload_n 0, 1)) ∧ (decode cX0_copyFrom 33 = .ok (.aload_n 1, 1)) ∧ (decode cX0_copyFrom 34 = .ok (.getfield 46, 3)) ∧ (decode cX0_copyFrom 37 = .ok (.putfield 46, 3)) ∧ (decode cX0_copyFrom 40 = .ok (.aload_n 0, 1)) ∧ (decode cX0_copyFrom 41 = .ok (.aload_n 1, 1)) ∧ (decode cX0_copyFrom 42 = .ok (.getfield 49, 3)) ∧ (decode cX0_copyFrom 45 = .ok (.putfield 49, 3)) := by decide +kernel
theorem dX0_copyFrom_32 : decode cX0_copyFrom 32 = .ok (.aload_n 0, 1) := db_X0_copyFrom_32.1
theorem dX0_copyFrom_33 : decode cX0_copyFrom 33 = .ok (.aload_n 1, 1) := db_X0_copyFrom_32.2.1
theorem dX0_copyFrom_34 : decode cX0_copyFrom 34 = .ok (.getfield 46, 3) := db_X0_copyFrom_32.2.2.1
theorem dX0_copyFrom_37 : decode cX0_copyFrom 37 = .ok (.putfield 46, 3) := db_X0_copyFrom_32.2.2.2.1
theorem dX0_copyFrom_40 : decode cX0_copyFrom 40 = .ok (.aload_n 0, 1) := db_X0_copyFrom_32.2.2.2.2.1
theorem dX0_copyFrom_41 : decode cX0_copyFrom 41 = .ok (.aload_n 1, 1) := db_X0_copyFrom_32.2.2.2.2.2.1
theorem dX0_copyFrom_42 : decode cX0_copyFrom 42 = .ok (.getfield 49, 3) := db_X0_copyFrom_32.2.2.2.2.2.2.1
theorem dX0_copyFrom_45 : decode cX0_copyFrom 45 = .ok (.putfield 49, 3) := db_X0_copyFrom_32.2.2.2.2.2.2.2
set_option maxRecDepth 20000 in
theorem db_X0_copyFrom_48 : (decode cX0_copyFrom 48 = .ok (.iconst 0, 1)) ∧ (decode cX0_copyFrom 49 = .ok (.istore_n 2, 1)) ∧ (decode cX0_copyFrom 50 = .ok (.iload_n 2, 1)) ∧ (decode cX0_copyFrom 51 = .ok (.iconst 2, 1)) ∧ (decode cX0_copyFrom 52 = .ok (.if_icmp .ge 73, 3)) ∧ (decode cX0_copyFrom 55 = .ok (.aload_n 0, 1)) ∧ (decode cX0_copyFrom 56 = .ok (.getfield 9, 3)) ∧ (decode cX0_copyFrom 59 = .ok (.iload_n 2, 1)) := by decide +kernel
theorem dX0_copyFrom_48 : decode cX0_copyFrom 48 = .ok (.iconst 0, 1) := db_X0_copyFrom_48.1
theorem dX0_copyFrom_49 : decode cX0_copyFrom 49 = .ok (.istore_n 2, 1) := db_X0_copyFrom_48.2.1
theorem dX0_copyFrom_50 : decode cX0_copyFrom 50 = .ok (.iload_n 2, 1) := db_X0_copyFrom_48.2.2.1
theorem dX0_copyFrom_51 : decode cX0_copyFrom 51 = .ok (.iconst 2, 1) := db_X0_copyFrom_48.2.2.2.1
theorem dX0_copyFrom_52 : decode cX0_copyFrom 52 = .ok (.if_icmp .ge 73, 3) := db_X0_copyFrom_48.2.2.2.2.1
theorem dX0_copyFrom_55 : decode cX0_copyFrom 55 = .ok (.aload_n 0, 1) := db_X0_copyFrom_48.2.2.2.2.2.1
theorem dX0_copyFrom_56 : decode cX0_copyFrom 56 = .ok (.getfield 9, 3) := db_X0_copyFrom_48.2.2.2.2.2.2.1
theorem dX0_copyFrom_59 : decode cX0_copyFrom 59 = .ok (.iload_n 2, 1) := db_X0_copyFrom_48.2.2.2.2.2.2.2
set_option maxRecDepth 20000 in
theorem db_X0_copyFrom_60 : (decode cX0_copyFrom 60 = .ok (.aload_n 1, 1)) ∧ (decode cX0_copyFrom 61 = .ok (.getfield 9, 3)) ∧ (decode cX0_copyFrom 64 = .ok (.iload_n 2, 1)) ∧ (decode cX0_copyFrom 65 = .ok (.iaload, 1)) ∧ (decode cX0_copyFrom 66 = .ok (.iastore, 1)) ∧ (decode cX0_copyFrom 67 = .ok (.aload_n 0, 1)) ∧ (decode cX0_copyFrom 68 = .ok (.getfield 15, 3)) ∧ (decode cX0_copyFrom 71 = .ok (.iload_n 2, 1)) := by decide +kernel
theorem dX0_copyFrom_60 : decode cX0_copyFrom 60 = .ok (.aload_n 1, 1) := db_X0_copyFrom_60.1
theorem dX0_copyFrom_61 : decode cX0_copyFrom 61 = .ok (.getfield 9, 3) := db_X0_copyFrom_60.2.1
theorem dX0_copyFrom_64 : decode cX0_copyFrom 64 = .ok (.iload_n 2, 1) := db_X0_copyFrom_60.2.2.1
theorem dX0_copyFrom_65 : decode cX0_copyFrom 65 = .ok (.iaload, 1) := db_X0_copyFrom_60.2.2.2.1
theorem dX0_copyFrom_66 : decode cX0_copyFrom 66 = .ok (.iastore, 1) := db_X0_copyFrom_60.2.2.2.2.1
theorem dX0_copyFrom_67 : decode cX0_copyFrom 67 = .ok (.aload_n 0, 1) := db_X0_copyFrom_60.2.2.2.2.2.1
theorem dX0_copyFrom_68 : decode cX0_copyFrom 68 = .ok (.getfield 15, 3) := db_X0_copyFrom_60.2.2.2.2.2.2.1
theorem dX0_copyFrom_71 : decode cX0_copyFrom 71 = .ok (.iload_n 2, 1) := db_X0_copyFrom_60.2.2.2.2.2.2.2
set_option maxRecDepth 20000 in
theorem db_X0_copyFrom_72 : (decode cX0_copyFrom 72 = .ok (.aload_n 1, 1)) ∧ (decode cX0_copyFrom 73 = .ok (.getfield 15, 3)) ∧ (decode cX0_copyFrom 76 = .ok (.iload_n 2, 1)) ∧ (decode cX0_copyFrom 77 = .ok (.iaload, 1)) ∧ (decode cX0_copyFrom 78 = .ok (.iastore, 1)) ∧ (decode cX0_copyFrom 79 = .ok (.aload_n 1, 1)) ∧ (decode cX0_copyFrom 80 = .ok (.getfield 20, 3)) ∧ (decode cX0_copyFrom 83 = .ok (.iload_n 2, 1)) := by decide +kernel
theorem dX0_copyFrom_72 : decode cX0_copyFrom 72 = .ok (.aload_n 1, 1) := db_X0_copyFrom_72.1
theorem dX0_copyFrom_73 : decode cX0_copyFrom 73 = .ok (.getfield 15, 3) := db_X0_copyFrom_72.2.1
theorem dX0_copyFrom_76 : decode cX0_copyFrom 76 = .ok (.iload_n 2, 1) := db_X0_copyFrom_72.2.2.1
theorem dX0_copyFrom_77 : decode cX0_copyFrom 77 = .ok (.iaload, 1) := db_X0_copyFrom_72.2.2.2.1
theorem dX0_copyFrom_78 : decode cX0_copyFrom 78 = .ok (.iastore, 1) := db_X0_copyFrom_72.2.2.2.2.1
theorem dX0_copyFrom_79 : decode cX0_copyFrom 79 = .ok (.aload_n 1, 1) := db_X0_copyFrom_72.2.2.2.2.2.1
theorem dX0_copyFrom_80 : decode cX0_copyFrom 80 = .ok (.getfield 20, 3) := db_X0_copyFrom_72.2.2.2.2.2.2.1
theorem dX0_copyFrom_83 : decode cX0_copyFrom 83 = .ok (.iload_n 2, 1) := db_X0_copyFrom_72.2.2.2.2.2.2.2
set_option maxRecDepth 20000 in
theorem db_X0_copyFrom_84 : (decode cX0_copyFrom 84 = .ok (.aaload, 1)) ∧ (decode cX0_copyFrom 85 = .ok (.iconst 0, 1)) ∧ (decode cX0_copyFrom 86 = .ok (.aload_n 0, 1)) ∧ (decode cX0_copyFrom 87 = .ok (.getfield 20, 3)) ∧ (decode cX0_copyFrom 90 = .ok (.iload_n 2, 1)) ∧ (decode cX0_copyFrom 91 = .ok (.aaload, 1)) ∧ (decode cX0_copyFrom 92 = .ok (.iconst 0, 1)) ∧ (decode cX0_copyFrom 93 = .ok (.aload_n 0, 1)) := by decide +kernel
theorem dX0_copyFrom_84 : decode cX0_copyFrom 84 = .ok (.aaload, 1) := db_X0_copyFrom_84.1
theorem dX0_copyFrom_85 : decode cX0_copyFrom 85 = .ok (.iconst 0, 1) := db_X0_copyFrom_84.2.1
theorem dX0_copyFrom_86 : decode cX0_copyFrom 86 = .ok (.aload_n 0, 1) := db_X0_copyFrom_84.2.2.1
theorem dX0_copyFrom_87 : decode cX0_copyFrom 87 = .ok (.getfield 20, 3) := db_X0_copyFrom_84.2.2.2.1
theorem dX0_copyFrom_90 : decode cX0_copyFrom 90 = .ok (.iload_n 2, 1) := db_X0_copyFrom_84.2.2.2.2.1
theorem dX0_copyFrom_91 : decode cX0_copyFrom 91 = .ok (.aaload, 1) := db_X0_copyFrom_84.2.2.2.2.2.1
theorem dX0_copyFrom_92 : decode cX0_copyFrom 92 = .ok (.iconst 0, 1) := db_X0_copyFrom_84.2.2.2.2.2.2.1
theorem dX0_copyFrom_93 : decode cX0_copyFrom 93 = .ok (.aload_n 0, 1) := db_X0_copyFrom_84.2.2.2.2.2.2.2
set_option maxRecDepth 20000 in
theorem db_X0_copyFrom_94 : (decode cX0_copyFrom 94 = .ok (.getfield 40, 3)) ∧ (decode cX0_copyFrom 97 = .ok (.invokestatic 81, 3)) ∧ (decode cX0_copyFrom 100 = .ok (.aload_n 1, 1)) ∧ (decode cX0_copyFrom 101 = .ok (.getfield 23, 3)) ∧ (decode cX0_copyFrom 104 = .ok (.iload_n 2, 1)) ∧ (decode cX0_copyFrom 105 = .ok (.aaload, 1)) ∧ (decode cX0_copyFrom 106 = .ok (.iconst 0, 1)) ∧ (decode cX0_copyFrom 107 = .ok (.aload_n 0, 1)) := by decide +kernel
theorem dX0_copyFrom_94 : decode cX0_copyFrom 94 = .ok (.getfield 40, 3) := db_X0_copyFrom_94.1
theorem dX0_copyFrom_97 : decode cX0_copyFrom 97 = .ok (.invokestatic 81, 3) := db_X0_copyFrom_94.2.1
theorem dX0_copyFrom_100 : decode cX0_copyFrom 100 = .ok (.aload_n 1, 1) := db_X0_copyFrom_94.2.2.1
theorem dX0_copyFrom_101 : decode cX0_copyFrom 101 = .ok (.getfield 23, 3) := db_X0_copyFrom_94.2.2.2.1
theorem dX0_copyFrom_104 : decode cX0_copyFrom 104 = .ok (.iload_n 2, 1) := db_X0_copyFrom_94.2.2.2.2.1
theorem dX0_copyFrom_105 : decode cX0_copyFrom 105 = .ok (.aaload, 1) := db_X0_copyFrom_94.2.2.2.2.2.1
theorem dX0_copyFrom_106 : decode cX0_copyFrom 106 = .ok (.iconst 0, 1) := db_X0_copyFrom_94.2.2.2.2.2.2.1
theorem dX0_copyFrom_107 : decode cX0_copyFrom 107 = .ok (.aload_n 0, 1) := db_X0_copyFrom_94.2.2.2.2.2.2.2
set_option maxRecDepth 20000 in
theorem db_X0_copyFrom_108 : (decode cX0_copyFrom 108 = .ok (.getfield 23, 3)) ∧ (decode cX0_copyFrom 111 = .ok (.iload_n 2, 1)) ∧ (decode cX0_copyFrom 112 = .ok (.aaload, 1)) ∧ (decode cX0_copyFrom 113 = .ok (.iconst 0, 1)) ∧ (decode cX0_copyFrom 114 = .ok (.bipush 24, 2)) ∧ (decode cX0_copyFrom 116 = .ok (.invokestatic 81, 3)) ∧ (decode cX0_copyFrom 119 = .ok (.iinc 2 1, 3)) ∧ (decode cX0_copyFrom 122 = .ok (.goto (-72), 3)) := by decide +kernel
theorem dX0_copyFrom_108 : decode cX0_copyFrom 108 = .ok (.getfield 23, 3) := db_X0_copyFrom_108.1
theorem dX0_copyFrom_111 : decode cX0_copyFrom 111 = .ok (.iload_n 2, 1) := db_X0_copyFrom_108.2.1
theorem dX0_copyFrom_112 : decode cX0_copyFrom 112 = .ok (.aaload, 1) := db_X0_copyFrom_108.2.2.1
theorem dX0_copyFrom_113 : decode cX0_copyFrom 113 = .ok (.iconst 0, 1) := db_X0_copyFrom_108.2.2.2.1
theorem dX0_copyFrom_114 : decode cX0_copyFrom 114 = .ok (.bipush 24, 2) := db_X0_copyFrom_108.2.2.2.2.1
theorem dX0_copyFrom_116 : decode cX0_copyFrom 116 = .ok (.invokestatic 81, 3) := db_X0_copyFrom_108.2.2.2.2.2.1
theorem dX0_copyFrom_119 : decode cX0_copyFrom 119 = .ok (.iinc 2 1, 3) := db_X0_copyFrom_108.2.2.2.2.2.2.1
theorem dX0_copyFrom_122 : decode cX0_copyFrom 122 = .ok (.goto (-72), 3) := db_X0_copyFrom_108.2.2.2.2.2.2.2
set_option maxRecDepth 20000 in
theorem db_X0_copyFrom_125 : (decode cX0_copyFrom 125 = .ok (.iconst 0, 1)) ∧ (decode cX0_copyFrom 126 = .ok (.istore_n 2, 1)) ∧ (decode cX0_copyFrom 127 = .ok (.iload_n 2, 1)) ∧ (decode cX0_copyFrom 128 = .ok (.aload_n 0, 1)) ∧ (decode cX0_copyFrom 129 = .ok (.getfield 49, 3)) ∧ (decode cX0_copyFrom 132 = .ok (.if_icmp .ge 24, 3)) ∧ (decode cX0_copyFrom 156 = .ok (.return_, 1)) ∧ (decode cX0_copyFrom 135 = .ok (.aload_n 0, 1)) := by decide +kernel
theorem dX0_copyFrom_125 : decode cX0_copyFrom 125 = .ok (.iconst 0, 1) := db_X0_copyFrom_125.1
theorem dX0_copyFrom_126 : decode cX0_copyFrom 126 = .ok (.istore_n 2, 1) := db_X0_copyFrom_125.2.1
theorem dX0_copyFrom_127 : decode cX0_copyFrom 127 = .ok (.iload_n 2, 1) := db_X0_copyFrom_125.2.2.1
theorem dX0_copyFrom_128 : decode cX0_copyFrom 128 = .ok (.aload_n 0, 1) := db_X0_copyFrom_125.2.2.2.1
theorem dX0_copyFrom_129 : decode cX0_copyFrom 129 = .ok (.getfield 49, 3) := db_X0_copyFrom_125.2.2.2.2.1
theorem dX0_copyFrom_132 : decode cX0_copyFrom 132 = .ok (.if_icmp .ge 24, 3) := db_X0_copyFrom_125.2.2.2.2.2.1
theorem dX0_copyFrom_156 : decode cX0_copyFrom 156 = .ok (.return_, 1) := db_X0_copyFrom_125.2.2.2.2.2.2.1
theorem dX0_copyFrom_135 : decode cX0_copyFrom 135 = .ok (.aload_n 0, 1) := db_X0_copyFrom_125.2.2.2.2.2.2.2
set_option maxRecDepth 20000 in
theorem db_X0_copyFrom_136 : (decode cX0_copyFrom 136 = .ok (.getfield 28, 3)) ∧ (decode cX0_copyFrom 139 = .ok (.iload_n 2, 1)) ∧ (decode cX0_copyFrom 140 = .ok (.aaload, 1)) ∧ (decode cX0_copyFrom 141 = .ok (.aload_n 1, 1)) ∧ (decode cX0_copyFrom 142 = .ok (.getfield 28, 3)) ∧ (decode cX0_copyFrom 145 = .ok (.iload_n 2, 1)) ∧ (decode cX0_copyFrom 146 = .ok (.aaload, 1)) ∧ (decode cX0_copyFrom 147 = .ok (.invokevirtual 87, 3)) := by decide +kernel
theorem dX0_copyFrom_136 : decode cX0_copyFrom 136 = .ok (.getfield 28, 3) := db_X0_copyFrom_136.1
theorem dX0_copyFrom_139 : decode cX0_copyFrom 139 = .ok (.iload_n 2, 1) := db_X0_copyFrom_136.2.1
theorem dX0_copyFrom_140 : decode cX0_copyFrom 140 = .ok (.aaload, 1) := db_X0_copyFrom_136.2.2.1
theorem dX0_copyFrom_141 : decode cX0_copyFrom 141 = .ok (.aload_n 1, 1) := db_X0_copyFrom_136.2.2.2.1
theorem dX0_copyFrom_142 : decode cX0_copyFrom 142 = .ok (.getfield 28, 3) := db_X0_copyFrom_136.2.2.2.2.1
theorem dX0_copyFrom_145 : decode cX0_copyFrom 145 = .ok (.iload_n 2, 1) := db_X0_copyFrom_136.2.2.2.2.2.1
theorem dX0_copyFrom_146 : decode cX0_copyFrom 146 = .ok (.aaload, 1) := db_X0_copyFrom_136.2.2.2.2.2.2.1
set_option maxRecDepth 20000 in
theorem ggX0_copyFrom_X6_copyFrom : GoodIn wsX0_copyFrom wsX6_copyFrom := goodIn_r _ [20, 21, 22, 23, 24, 25, 37, 38, 39, 40, 41] rfl (by decide +kernel)
set_option maxRecDepth 20000 in
theorem gX0_copyFrom_X6_copyFrom : GoodIn wsX0_copyFrom (wsV RX0 87 RX6 yX6_copyFrom wsX6_copyFrom) := goodIn_app (goodIn_r _ [16, 17, 18, 19] rfl (by decide +kernel)) ggX0_copyFrom_X6_copyFrom
theorem dX0_copyFrom_147 : decode cX0_copyFrom 147 = .ok (.invokevirtual 87, 3) := db_X0_copyFrom_136.2.2.2.2.2.2.2
set_option maxRecDepth 20000 in
theorem db_X0_copyFrom_150 : (decode cX0_copyFrom 150 = .ok (.iinc 2 1, 3)) ∧ (decode cX0_copyFrom 153 = .ok (.goto (-26), 3)) := by decide +kernel
theorem dX0_copyFrom_150 : decode cX0_copyFrom 150 = .ok (.iinc 2 1, 3) := db_X0_copyFrom_150.1
theorem dX0_copyFrom_153 : decode cX0_copyFrom 153 = .ok (.goto (-26), 3) := db_X0_copyFrom_150.2
set_option maxHeartbeats 4000000 in
set_option maxRecDepth 100000 in
theorem e_X0_copyFrom_a (l : Launch) (dC : Nat → ClassId) (dI : Nat → Nat → Nat) (cy : Nat → ClassId) (sz : Nat) (ad : Nat → Nat) (kv : Value) (N : Nat) (hN : 119 ≤ N) (v : Nat → Nat → Int32) (hv : Iv v) (i : Nat) (hi : i < 6) (hN2 : 225 ≤ N) : Met l yX0_copyFrom wsX0_copyFrom ({ frames := 1, cells := 0, slots := 0, locals := 64 }) (va_Pc [.ref (ad (29 + 15 * i)), .ref (ad (135 + 15 * i))] (ex_Pre dC dI cy sz (wl ad kv cy N v))) (va_Qv (fun (u : Nat → Nat → Int32) => Iv u ∧ (∀ o j : Nat, lvC (v (135 + 15 * i)) o j → u (29 + 15 * i + o) j = v (135 + 15 * i + o) j) ∧ (∀ k : Nat, (k < 29 + 15 * i ∨ 44 + 15 * i ≤ k) → u k = v k)) (fun u t => ex_Pst dC dI (va_A (wl ad kv cy N v) sz) (wl ad kv cy N u) t) (va_A (wl ad kv cy N v) sz)) 0 0 (va_A (wl ad kv cy N v) sz) := by
  refine Met.ofW (cc := cX0_copyFrom) (maxL := 3) (ret := none) (by decide) rfl ?_
  intro p e s m args below meth c s₁ B hml hv
  obtain ⟨rfl, hsz, hE, hP, hK, hD0⟩ := hv
  have hx := B.exec
  have hb := B.bytes
  have hr := B.returns
  have hts := atoms_spec (ws := wsX0_copyFrom) B.pre
  have hown : s.vm.findClass RX0 = some m.cls := findClass_of_methodNamed B.named
  have hlocks := B.notSynchronized
  subst hsz
  have hD := hD0.self (sz := s.heap.size)
  generalize hAe : va_A (wl ad kv cy N v) s.heap.size = A at hD ⊢
  have hA : ∀ q : Nat, s.heap.size ≤ q → A q := fun q h => by rw [← hAe]; exact Or.inr h
  have hS : va_S A s.heap s.heap [] := va_S.rf
  have hP : va_P (dC, dI) vwCl (wl ad kv cy N v) s.heap := hP
  have hl := lv_entry ([.ref (ad (29 + 15 * i)), .ref (ad (135 + 15 * i))]) (n := 3) (Nat.le_of_ble_eq_true rfl)
  rw [lg_entry_eq]
  generalize (lg_sl ([.ref (ad (29 + 15 * i)), .ref (ad (135 + 15 * i))]) ++ List.replicate (3 - (lg_sl ([.ref (ad (29 + 15 * i)), .ref (ad (135 + 15 * i))])).length) Slot.unset).toArray = ls at hl ⊢
  have hl : lv_has ls 3 [(0, .ref (ad (29 + 15 * i))), (1, .ref (ad (135 + 15 * i)))] := hl
  have hv0 := hv
  have hb5 := hv.at (k := 135 + 15 * i) (j := 5) (K := 9) (kd_c _ hi).2.1 rfl
  have hb2 := hv.at (k := 135 + 15 * i) (j := 2) (K := 9) (kd_c _ hi).2.1 rfl
  refine lv_aload_n hx hb dX0_copyFrom_0 rfl (lv_at hl 0 rfl) ?_
  refine lv_aload_n hx hb dX0_copyFrom_1 rfl (lv_at hl 1 rfl) ?_
  refine va_get (D := (dC, dI)) (ci := 0) (v := .int (v (135 + 15 * i) 0)) (C := RX0) (T := TX0) (N := 11) hx hb hts iwX0_copyFrom_X0 hown hK hP (135 + 15 * i) (wl_at (by omega) (ce_9 (kd_c _ hi).2.1)) rfl 0 (by decide) (hts (.fieldLink RX0 33 "QuietStairs$Case" "state" "I") fwX0_copyFrom_1) (fun _ h9 => h9) rfl dX0_copyFrom_2 ?_
  refine lv_topi (fun x_1 ex_1 => ?_)
  have qx_1 : x_1.toInt = (v (135 + 15 * i) (0)).toInt := congrArg Int32.toInt ex_1
  refine va_put (D := (dC, dI)) (ci := 0) (v := .int x_1) (ty := .int) (C := RX0) (T := TX0) (N := 11) hx hb hts iwX0_copyFrom_X0 tyX0 tyX0_ok nmX0 hown hK hP hD hS (29 + 15 * i) (wl_at (by omega) (ce_9 (kd_c _ hi).1.1)) rfl 0 (by decide) (hts (.fieldLink RX0 33 "QuietStairs$Case" "state" "I") fwX0_copyFrom_1) (fun _ h9 => h9) rfl (by decide +kernel) rfl rfl (Nat.le_of_ble_eq_true rfl) dX0_copyFrom_5 (fun H locs hP hD hS => ?_)
  obtain ⟨v_2, ev_2⟩ : ∃ u : Nat → Nat → Int32, u = upr v (29 + 15 * i) (upd (v (29 + 15 * i)) 0 x_1) := ⟨_, rfl⟩
  have hP : va_P (dC, dI) vwCl (wl ad kv cy N v_2) H := by rw [ev_2, ← wl_put (e := _) (ce_9 (kd_c _ hi).1.1)]; exact hP
  have hD : va_D A (wl ad kv cy N v_2) := by rw [ev_2, ← wl_put (e := _) (ce_9 (kd_c _ hi).1.1)]; exact hD
  have hv : Iv v_2 := by rw [ev_2]; exact hv.put (K := 9) (kd_c _ hi).1.1 (fun h q => by simp [bd] at q)
  refine lv_aload_n hx hb dX0_copyFrom_8 rfl (lv_at hl 0 rfl) ?_
  refine lv_aload_n hx hb dX0_copyFrom_9 rfl (lv_at hl 1 rfl) ?_
  refine va_get (D := (dC, dI)) (ci := 0) (v := .int (v_2 (135 + 15 * i) 1)) (C := RX0) (T := TX0) (N := 11) hx hb hts iwX0_copyFrom_X0 hown hK hP (135 + 15 * i) (wl_at (by omega) (ce_9 (kd_c _ hi).2.1)) rfl 1 (by decide) (hts (.fieldLink RX0 37 "QuietStairs$Case" "sum" "I") fwX0_copyFrom_2) (fun _ h9 => h9) rfl dX0_copyFrom_10 ?_
  refine lv_topi (fun x_3 ex_3 => ?_)
  rw [ev_2, upr_n (by omega)] at ex_3
  have qx_3 : x_3.toInt = (v (135 + 15 * i) (1)).toInt := congrArg Int32.toInt ex_3
  refine va_put (D := (dC, dI)) (ci := 0) (v := .int x_3) (ty := .int) (C := RX0) (T := TX0) (N := 11) hx hb hts iwX0_copyFrom_X0 tyX0 tyX0_ok nmX0 hown hK hP hD hS (29 + 15 * i) (wl_at (by omega) (ce_9 (kd_c _ hi).1.1)) rfl 1 (by decide) (hts (.fieldLink RX0 37 "QuietStairs$Case" "sum" "I") fwX0_copyFrom_2) (fun _ h9 => h9) rfl (by decide +kernel) rfl rfl (Nat.le_of_ble_eq_true rfl) dX0_copyFrom_13 (fun H locs hP hD hS => ?_)
  obtain ⟨v_4, ev_4⟩ : ∃ u : Nat → Nat → Int32, u = upr v_2 (29 + 15 * i) (upd (v_2 (29 + 15 * i)) 1 x_3) := ⟨_, rfl⟩
  have hP : va_P (dC, dI) vwCl (wl ad kv cy N v_4) H := by rw [ev_4, ← wl_put (e := _) (ce_9 (kd_c _ hi).1.1)]; exact hP
  have hD : va_D A (wl ad kv cy N v_4) := by rw [ev_4, ← wl_put (e := _) (ce_9 (kd_c _ hi).1.1)]; exact hD
  have hv : Iv v_4 := by rw [ev_4]; exact hv.put (K := 9) (kd_c _ hi).1.1 (fun h q => by simp [bd] at q)
  refine lv_aload_n hx hb dX0_copyFrom_16 rfl (lv_at hl 0 rfl) ?_
  refine lv_aload_n hx hb dX0_copyFrom_17 rfl (lv_at hl 1 rfl) ?_
  refine va_get (D := (dC, dI)) (ci := 0) (v := .int (v_4 (135 + 15 * i) 2)) (C := RX0) (T := TX0) (N := 11) hx hb hts iwX0_copyFrom_X0 hown hK hP (135 + 15 * i) (wl_at (by omega) (ce_9 (kd_c _ hi).2.1)) rfl 2 (by decide) (hts (.fieldLink RX0 40 "QuietStairs$Case" "roundsOver" "I") fwX0_copyFrom_3) (fun _ h9 => h9) rfl dX0_copyFrom_18 ?_
  refine lv_topi (fun x_5 ex_5 => ?_)
  have bzx_5 : 0 ≤ x_5.toInt ∧ x_5.toInt ≤ 5 := by rw [ex_5]; exact hv.at (K := 9) (kd_c _ hi).2.1 rfl
  rw [ev_4, upr_n (by omega), ev_2, upr_n (by omega)] at ex_5
  have qx_5 : x_5.toInt = (v (135 + 15 * i) (2)).toInt := congrArg Int32.toInt ex_5
  refine va_put (D := (dC, dI)) (ci := 0) (v := .int x_5) (ty := .int) (C := RX0) (T := TX0) (N := 11) hx hb hts iwX0_copyFrom_X0 tyX0 tyX0_ok nmX0 hown hK hP hD hS (29 + 15 * i) (wl_at (by omega) (ce_9 (kd_c _ hi).1.1)) rfl 2 (by decide) (hts (.fieldLink RX0 40 "QuietStairs$Case" "roundsOver" "I") fwX0_copyFrom_3) (fun _ h9 => h9) rfl (by decide +kernel) rfl rfl (Nat.le_of_ble_eq_true rfl) dX0_copyFrom_21 (fun H locs hP hD hS => ?_)
  obtain ⟨v_6, ev_6⟩ : ∃ u : Nat → Nat → Int32, u = upr v_4 (29 + 15 * i) (upd (v_4 (29 + 15 * i)) 2 x_5) := ⟨_, rfl⟩
  have hP : va_P (dC, dI) vwCl (wl ad kv cy N v_6) H := by rw [ev_6, ← wl_put (e := _) (ce_9 (kd_c _ hi).1.1)]; exact hP
  have hD : va_D A (wl ad kv cy N v_6) := by rw [ev_6, ← wl_put (e := _) (ce_9 (kd_c _ hi).1.1)]; exact hD
  have hv : Iv v_6 := by rw [ev_6]; exact hv.put (K := 9) (kd_c _ hi).1.1 (fun h q => by cases q; exact ⟨by omega, by omega⟩)
  refine lv_aload_n hx hb dX0_copyFrom_24 rfl (lv_at hl 0 rfl) ?_
  refine lv_aload_n hx hb dX0_copyFrom_25 rfl (lv_at hl 1 rfl) ?_
  refine va_get (D := (dC, dI)) (ci := 0) (v := .int (v_6 (135 + 15 * i) 3)) (C := RX0) (T := TX0) (N := 11) hx hb hts iwX0_copyFrom_X0 hown hK hP (135 + 15 * i) (wl_at (by omega) (ce_9 (kd_c _ hi).2.1)) rfl 3 (by decide) (hts (.fieldLink RX0 43 "QuietStairs$Case" "weight" "I") fwX0_copyFrom_4) (fun _ h9 => h9) rfl dX0_copyFrom_26 ?_
  refine lv_topi (fun x_7 ex_7 => ?_)
  rw [ev_6, upr_n (by omega), ev_4, upr_n (by omega), ev_2, upr_n (by omega)] at ex_7
  have qx_7 : x_7.toInt = (v (135 + 15 * i) (3)).toInt := congrArg Int32.toInt ex_7
  refine va_put (D := (dC, dI)) (ci := 0) (v := .int x_7) (ty := .int) (C := RX0) (T := TX0) (N := 11) hx hb hts iwX0_copyFrom_X0 tyX0 tyX0_ok nmX0 hown hK hP hD hS (29 + 15 * i) (wl_at (by omega) (ce_9 (kd_c _ hi).1.1)) rfl 3 (by decide) (hts (.fieldLink RX0 43 "QuietStairs$Case" "weight" "I") fwX0_copyFrom_4) (fun _ h9 => h9) rfl (by decide +kernel) rfl rfl (Nat.le_of_ble_eq_true rfl) dX0_copyFrom_29 (fun H locs hP hD hS => ?_)
  obtain ⟨v_8, ev_8⟩ : ∃ u : Nat → Nat → Int32, u = upr v_6 (29 + 15 * i) (upd (v_6 (29 + 15 * i)) 3 x_7) := ⟨_, rfl⟩
  have hP : va_P (dC, dI) vwCl (wl ad kv cy N v_8) H := by rw [ev_8, ← wl_put (e := _) (ce_9 (kd_c _ hi).1.1)]; exact hP
  have hD : va_D A (wl ad kv cy N v_8) := by rw [ev_8, ← wl_put (e := _) (ce_9 (kd_c _ hi).1.1)]; exact hD
  have hv : Iv v_8 := by rw [ev_8]; exact hv.put (K := 9) (kd_c _ hi).1.1 (fun h q => by simp [bd] at q)
  refine lv_aload_n hx hb dX0_copyFrom_32 rfl (lv_at hl 0 rfl) ?_
  refine lv_aload_n hx hb dX0_copyFrom_33 rfl (lv_at hl 1 rfl) ?_
  refine va_get (D := (dC, dI)) (ci := 0) (v := .int (v_8 (135 + 15 * i) 4)) (C := RX0) (T := TX0) (N := 11) hx hb hts iwX0_copyFrom_X0 hown hK hP (135 + 15 * i) (wl_at (by omega) (ce_9 (kd_c _ hi).2.1)) rfl 4 (by decide) (hts (.fieldLink RX0 46 "QuietStairs$Case" "markedBits" "I") fwX0_copyFrom_5) (fun _ h9 => h9) rfl dX0_copyFrom_34 ?_
  refine lv_topi (fun x_9 ex_9 => ?_)
  rw [ev_8, upr_n (by omega), ev_6, upr_n (by omega), ev_4, upr_n (by omega), ev_2, upr_n (by omega)] at ex_9
  have qx_9 : x_9.toInt = (v (135 + 15 * i) (4)).toInt := congrArg Int32.toInt ex_9
  refine va_put (D := (dC, dI)) (ci := 0) (v := .int x_9) (ty := .int) (C := RX0) (T := TX0) (N := 11) hx hb hts iwX0_copyFrom_X0 tyX0 tyX0_ok nmX0 hown hK hP hD hS (29 + 15 * i) (wl_at (by omega) (ce_9 (kd_c _ hi).1.1)) rfl 4 (by decide) (hts (.fieldLink RX0 46 "QuietStairs$Case" "markedBits" "I") fwX0_copyFrom_5) (fun _ h9 => h9) rfl (by decide +kernel) rfl rfl (Nat.le_of_ble_eq_true rfl) dX0_copyFrom_37 (fun H locs hP hD hS => ?_)
  obtain ⟨v_10, ev_10⟩ : ∃ u : Nat → Nat → Int32, u = upr v_8 (29 + 15 * i) (upd (v_8 (29 + 15 * i)) 4 x_9) := ⟨_, rfl⟩
  have hP : va_P (dC, dI) vwCl (wl ad kv cy N v_10) H := by rw [ev_10, ← wl_put (e := _) (ce_9 (kd_c _ hi).1.1)]; exact hP
  have hD : va_D A (wl ad kv cy N v_10) := by rw [ev_10, ← wl_put (e := _) (ce_9 (kd_c _ hi).1.1)]; exact hD
  have hv : Iv v_10 := by rw [ev_10]; exact hv.put (K := 9) (kd_c _ hi).1.1 (fun h q => by simp [bd] at q)
  refine lv_aload_n hx hb dX0_copyFrom_40 rfl (lv_at hl 0 rfl) ?_
  refine lv_aload_n hx hb dX0_copyFrom_41 rfl (lv_at hl 1 rfl) ?_
  refine va_get (D := (dC, dI)) (ci := 0) (v := .int (v_10 (135 + 15 * i) 5)) (C := RX0) (T := TX0) (N := 11) hx hb hts iwX0_copyFrom_X0 hown hK hP (135 + 15 * i) (wl_at (by omega) (ce_9 (kd_c _ hi).2.1)) rfl 5 (by decide) (hts (.fieldLink RX0 49 "QuietStairs$Case" "termCount" "I") fwX0_copyFrom_6) (fun _ h9 => h9) rfl dX0_copyFrom_42 ?_
  refine lv_topi (fun x_11 ex_11 => ?_)
  have bzx_11 : 0 ≤ x_11.toInt ∧ x_11.toInt ≤ 5 := by rw [ex_11]; exact hv.at (K := 9) (kd_c _ hi).2.1 rfl
  rw [ev_10, upr_n (by omega), ev_8, upr_n (by omega), ev_6, upr_n (by omega), ev_4, upr_n (by omega), ev_2, upr_n (by omega)] at ex_11
  have qx_11 : x_11.toInt = (v (135 + 15 * i) (5)).toInt := congrArg Int32.toInt ex_11
  refine va_put (D := (dC, dI)) (ci := 0) (v := .int x_11) (ty := .int) (C := RX0) (T := TX0) (N := 11) hx hb hts iwX0_copyFrom_X0 tyX0 tyX0_ok nmX0 hown hK hP hD hS (29 + 15 * i) (wl_at (by omega) (ce_9 (kd_c _ hi).1.1)) rfl 5 (by decide) (hts (.fieldLink RX0 49 "QuietStairs$Case" "termCount" "I") fwX0_copyFrom_6) (fun _ h9 => h9) rfl (by decide +kernel) rfl rfl (Nat.le_of_ble_eq_true rfl) dX0_copyFrom_45 (fun H locs hP hD hS => ?_)
  obtain ⟨v_12, ev_12⟩ : ∃ u : Nat → Nat → Int32, u = upr v_10 (29 + 15 * i) (upd (v_10 (29 + 15 * i)) 5 x_11) := ⟨_, rfl⟩
  have hP : va_P (dC, dI) vwCl (wl ad kv cy N v_12) H := by rw [ev_12, ← wl_put (e := _) (ce_9 (kd_c _ hi).1.1)]; exact hP
  have hD : va_D A (wl ad kv cy N v_12) := by rw [ev_12, ← wl_put (e := _) (ce_9 (kd_c _ hi).1.1)]; exact hD
  have hv : Iv v_12 := by rw [ev_12]; exact hv.put (K := 9) (kd_c _ hi).1.1 (fun h q => by cases q; exact ⟨by omega, by omega⟩)
  refine lv_iconst (v := 0) hx hb dX0_copyFrom_48 (by decide) ?_
  refine lv_istore_n (lv' := [(2, .int 0), (0, .ref (ad (29 + 15 * i))), (1, .ref (ad (135 + 15 * i)))]) hx hb dX0_copyFrom_49 rfl hl (by decide) rfl (fun ls hl => ?_)
  refine lv_iload_n hx hb dX0_copyFrom_50 rfl (lv_at hl 0 rfl) ?_
  refine lv_iconst (v := 2) hx hb dX0_copyFrom_51 (by decide) ?_
  refine lv_icmp_ge (tgt := 125) hx hb dX0_copyFrom_52 (by decide) (fun c9 => absurd c9 (by decide)) (fun _ => ?_)
  refine lv_aload_n hx hb dX0_copyFrom_55 rfl (lv_at hl 1 rfl) ?_
  refine va_get (D := (dC, dI)) (ci := 0) (v := .ref (ad (29 + 15 * i + 1))) (C := RX0) (T := TX0) (N := 11) hx hb hts iwX0_copyFrom_X0 hown hK hP (29 + 15 * i) (wl_at (by omega) (ce_9 (kd_c _ hi).1.1)) rfl 6 (by decide) (hts (.fieldLink RX0 9 "QuietStairs$Case" "parties" "[I") fwX0_copyFrom_7) (fun _ h9 => h9) rfl dX0_copyFrom_56 ?_
  refine W.eq (g2 := F0 m 59 ls [.ref (ad (30 + 15 * i))]) (by rw [show 29 + 15 * i + 1 = 30 + 15 * i from by omega]) ?_
  refine lv_iload_n hx hb dX0_copyFrom_59 rfl (lv_at hl 0 rfl) ?_
  refine lv_aload_n hx hb dX0_copyFrom_60 rfl (lv_at hl 2 rfl) ?_
  refine va_get (D := (dC, dI)) (ci := 0) (v := .ref (ad (135 + 15 * i + 1))) (C := RX0) (T := TX0) (N := 11) hx hb hts iwX0_copyFrom_X0 hown hK hP (135 + 15 * i) (wl_at (by omega) (ce_9 (kd_c _ hi).2.1)) rfl 6 (by decide) (hts (.fieldLink RX0 9 "QuietStairs$Case" "parties" "[I") fwX0_copyFrom_7) (fun _ h9 => h9) rfl dX0_copyFrom_61 ?_
  refine W.eq (g2 := F0 m 64 ls [.ref (ad (136 + 15 * i)), .int 0, .ref (ad (30 + 15 * i))]) (by rw [show 135 + 15 * i + 1 = 136 + 15 * i from by omega]) ?_
  refine lv_iload_n hx hb dX0_copyFrom_64 rfl (lv_at hl 0 rfl) ?_
  have k_0 : (0 : Int32).toInt = 0 := by decide
  refine va_iald hx hb hK hP (136 + 15 * i) 0 (wl_at (by omega) (ce_10 (kd_c _ hi).2.2.1)) rfl (by unfold vp_in; decide) dX0_copyFrom_65 ?_
  refine lv_topi (fun x_13 ex_13 => ?_)
  have ex_13 : x_13 = v_12 (136 + 15 * i) 0 := ex_13
  have bzx_13 : 0 ≤ x_13.toInt ∧ x_13.toInt ≤ 7 := by rw [ex_13]; exact hv.at (K := 10) (kd_c _ hi).2.2.1 rfl
  rw [ev_12, upr_n (by omega), ev_10, upr_n (by omega), ev_8, upr_n (by omega), ev_6, upr_n (by omega), ev_4, upr_n (by omega), ev_2, upr_n (by omega)] at ex_13
  have qx_13 : x_13.toInt = (v (136 + 15 * i) (0)).toInt := congrArg Int32.toInt ex_13
  refine va_iast hx hb hK hP hD hS (30 + 15 * i) 0 (wl_at (by omega) (ce_10 (kd_c _ hi).1.2.1)) rfl (by unfold vp_in; decide) dX0_copyFrom_66 (fun H locs hP hD hS => ?_)
  have hP : va_P (dC, dI) vwCl ((wl ad kv cy N v_12).set (30 + 15 * i) (ad (30 + 15 * i), .inl (cy 0, 2, .inl (upd (v_12 (30 + 15 * i)) 0 x_13)))) H := hP
  have hD : va_D A ((wl ad kv cy N v_12).set (30 + 15 * i) (ad (30 + 15 * i), .inl (cy 0, 2, .inl (upd (v_12 (30 + 15 * i)) 0 x_13)))) := hD
  obtain ⟨v_14, ev_14⟩ : ∃ u : Nat → Nat → Int32, u = upr v_12 (30 + 15 * i) (upd (v_12 (30 + 15 * i)) 0 x_13) := ⟨_, rfl⟩
  have hP : va_P (dC, dI) vwCl (wl ad kv cy N v_14) H := by rw [ev_14, ← wl_put (e := _) (ce_10 (kd_c _ hi).1.2.1)]; exact hP
  have hD : va_D A (wl ad kv cy N v_14) := by rw [ev_14, ← wl_put (e := _) (ce_10 (kd_c _ hi).1.2.1)]; exact hD
  have hv : Iv v_14 := by rw [ev_14]; exact hv.put (K := 10) (kd_c _ hi).1.2.1 (fun h q => by cases q; exact ⟨by omega, by omega⟩)
  refine lv_aload_n hx hb dX0_copyFrom_67 rfl (lv_at hl 1 rfl) ?_
  refine va_get (D := (dC, dI)) (ci := 0) (v := .ref (ad (29 + 15 * i + 2))) (C := RX0) (T := TX0) (N := 11) hx hb hts iwX0_copyFrom_X0 hown hK hP (29 + 15 * i) (wl_at (by omega) (ce_9 (kd_c _ hi).1.1)) rfl 7 (by decide) (hts (.fieldLink RX0 15 "QuietStairs$Case" "box" "[I") fwX0_copyFrom_8) (fun _ h9 => h9) rfl dX0_copyFrom_68 ?_
  refine W.eq (g2 := F0 m 71 ls [.ref (ad (31 + 15 * i))]) (by rw [show 29 + 15 * i + 2 = 31 + 15 * i from by omega]) ?_
  refine lv_iload_n hx hb dX0_copyFrom_71 rfl (lv_at hl 0 rfl) ?_
  refine lv_aload_n hx hb dX0_copyFrom_72 rfl (lv_at hl 2 rfl) ?_
  refine va_get (D := (dC, dI)) (ci := 0) (v := .ref (ad (135 + 15 * i + 2))) (C := RX0) (T := TX0) (N := 11) hx hb hts iwX0_copyFrom_X0 hown hK hP (135 + 15 * i) (wl_at (by omega) (ce_9 (kd_c _ hi).2.1)) rfl 7 (by decide) (hts (.fieldLink RX0 15 "QuietStairs$Case" "box" "[I") fwX0_copyFrom_8) (fun _ h9 => h9) rfl dX0_copyFrom_73 ?_
  refine W.eq (g2 := F0 m 76 ls [.ref (ad (137 + 15 * i)), .int 0, .ref (ad (31 + 15 * i))]) (by rw [show 135 + 15 * i + 2 = 137 + 15 * i from by omega]) ?_
  refine lv_iload_n hx hb dX0_copyFrom_76 rfl (lv_at hl 0 rfl) ?_
  refine va_iald hx hb hK hP (137 + 15 * i) 0 (wl_at (by omega) (ce_20 (kd_c _ hi).2.2.2.1)) rfl (by unfold vp_in; decide) dX0_copyFrom_77 ?_
  refine lv_topi (fun x_15 ex_15 => ?_)
  have ex_15 : x_15 = v_14 (137 + 15 * i) 0 := ex_15
  rw [ev_14, upr_n (by omega), ev_12, upr_n (by omega), ev_10, upr_n (by omega), ev_8, upr_n (by omega), ev_6, upr_n (by omega), ev_4, upr_n (by omega), ev_2, upr_n (by omega)] at ex_15
  have qx_15 : x_15.toInt = (v (137 + 15 * i) (0)).toInt := congrArg Int32.toInt ex_15
  refine va_iast hx hb hK hP hD hS (31 + 15 * i) 0 (wl_at (by omega) (ce_20 (kd_c _ hi).1.2.2.1)) rfl (by unfold vp_in; decide) dX0_copyFrom_78 (fun H locs hP hD hS => ?_)
  have hP : va_P (dC, dI) vwCl ((wl ad kv cy N v_14).set (31 + 15 * i) (ad (31 + 15 * i), .inl (cy 0, 2, .inl (upd (v_14 (31 + 15 * i)) 0 x_15)))) H := hP
  have hD : va_D A ((wl ad kv cy N v_14).set (31 + 15 * i) (ad (31 + 15 * i), .inl (cy 0, 2, .inl (upd (v_14 (31 + 15 * i)) 0 x_15)))) := hD
  obtain ⟨v_16, ev_16⟩ : ∃ u : Nat → Nat → Int32, u = upr v_14 (31 + 15 * i) (upd (v_14 (31 + 15 * i)) 0 x_15) := ⟨_, rfl⟩
  have hP : va_P (dC, dI) vwCl (wl ad kv cy N v_16) H := by rw [ev_16, ← wl_put (e := _) (ce_20 (kd_c _ hi).1.2.2.1)]; exact hP
  have hD : va_D A (wl ad kv cy N v_16) := by rw [ev_16, ← wl_put (e := _) (ce_20 (kd_c _ hi).1.2.2.1)]; exact hD
  have hv : Iv v_16 := by rw [ev_16]; exact hv.put (K := 20) (kd_c _ hi).1.2.2.1 (fun h q => by simp [bd] at q)
  refine lv_aload_n hx hb dX0_copyFrom_79 rfl (lv_at hl 2 rfl) ?_
  refine va_get (D := (dC, dI)) (ci := 0) (v := .ref (ad (135 + 15 * i + 3))) (C := RX0) (T := TX0) (N := 11) hx hb hts iwX0_copyFrom_X0 hown hK hP (135 + 15 * i) (wl_at (by omega) (ce_9 (kd_c _ hi).2.1)) rfl 8 (by decide) (hts (.fieldLink RX0 20 "QuietStairs$Case" "offers" "[[I") fwX0_copyFrom_9) (fun _ h9 => h9) rfl dX0_copyFrom_80 ?_
  refine W.eq (g2 := F0 m 83 ls [.ref (ad (138 + 15 * i))]) (by rw [show 135 + 15 * i + 3 = 138 + 15 * i from by omega]) ?_
  refine lv_iload_n hx hb dX0_copyFrom_83 rfl (lv_at hl 0 rfl) ?_
  refine ya_ald hx hb hK hP (138 + 15 * i) (wl_at (by omega) (ce_11 (kd_c _ hi).2.2.2.2.1)) (by unfold vp_in; decide) dX0_copyFrom_84 ?_
  refine W.eq (g2 := F0 m 85 ls [.ref (ad (139 + 15 * i + 0))]) (by show F0 m 85 ls (.ref (ad (138 + 15 * i + 1 + 0)) :: _) = _; rw [show 138 + 15 * i + 1 + 0 = 139 + 15 * i + 0 from by omega]) ?_
  refine lv_iconst (v := 0) hx hb dX0_copyFrom_85 (by decide) ?_
  refine lv_aload_n hx hb dX0_copyFrom_86 rfl (lv_at hl 1 rfl) ?_
  refine va_get (D := (dC, dI)) (ci := 0) (v := .ref (ad (29 + 15 * i + 3))) (C := RX0) (T := TX0) (N := 11) hx hb hts iwX0_copyFrom_X0 hown hK hP (29 + 15 * i) (wl_at (by omega) (ce_9 (kd_c _ hi).1.1)) rfl 8 (by decide) (hts (.fieldLink RX0 20 "QuietStairs$Case" "offers" "[[I") fwX0_copyFrom_9) (fun _ h9 => h9) rfl dX0_copyFrom_87 ?_
  refine W.eq (g2 := F0 m 90 ls [.ref (ad (32 + 15 * i)), .int 0, .ref (ad (139 + 15 * i + 0))]) (by rw [show 29 + 15 * i + 3 = 32 + 15 * i from by omega]) ?_
  refine lv_iload_n hx hb dX0_copyFrom_90 rfl (lv_at hl 0 rfl) ?_
  refine ya_ald hx hb hK hP (32 + 15 * i) (wl_at (by omega) (ce_11 (kd_c _ hi).1.2.2.2.1)) (by unfold vp_in; decide) dX0_copyFrom_91 ?_
  refine W.eq (g2 := F0 m 92 ls [.ref (ad (33 + 15 * i + 0)), .int 0, .ref (ad (139 + 15 * i + 0))]) (by show F0 m 92 ls (.ref (ad (32 + 15 * i + 1 + 0)) :: _) = _; rw [show 32 + 15 * i + 1 + 0 = 33 + 15 * i + 0 from by omega]) ?_
  refine lv_iconst (v := 0) hx hb dX0_copyFrom_92 (by decide) ?_
  refine lv_aload_n hx hb dX0_copyFrom_93 rfl (lv_at hl 1 rfl) ?_
  refine va_get (D := (dC, dI)) (ci := 0) (v := .int (v_16 (29 + 15 * i) 2)) (C := RX0) (T := TX0) (N := 11) hx hb hts iwX0_copyFrom_X0 hown hK hP (29 + 15 * i) (wl_at (by omega) (ce_9 (kd_c _ hi).1.1)) rfl 2 (by decide) (hts (.fieldLink RX0 40 "QuietStairs$Case" "roundsOver" "I") fwX0_copyFrom_3) (fun _ h9 => h9) rfl dX0_copyFrom_94 ?_
  refine lv_topi (fun x_17 ex_17 => ?_)
  have bzx_17 : 0 ≤ x_17.toInt ∧ x_17.toInt ≤ 5 := by rw [ex_17]; exact hv.at (K := 9) (kd_c _ hi).1.1 rfl
  rw [ev_16, upr_n (by omega), ev_14, upr_n (by omega), ev_12, upr_s, pk_un (by decide), ev_10, upr_s, pk_un (by decide), ev_8, upr_s, pk_un (by decide), ev_6, upr_s, pk_us] at ex_17
  obtain rfl : x_5 = x_17 := ex_17.symm
  have zn_x_5 : (x_5.toNatClampNeg : Int) = x_5.toInt := t_nn (by omega)
  have hn_18 := t_n (x := x_5) (m := 5) ⟨by omega, by omega⟩
  refine va_copyi hx hb (hml.trans hl.1.symm) hown (hts (.methodLink RX0 81 arraycopyName) fwX0_copyFrom_10) (hts (.native arraycopyName) fwX0_copyFrom_11) (hts (.static arraycopyName) fwX0_copyFrom_12) (hts (.initialized "java/lang/System") fwX0_copyFrom_13) hK hP hD hS (139 + 15 * i + 0) (33 + 15 * i + 0) 0 0 (wl_at (by omega) (ce_12 (kd_o _ hi 0 (by decide)).2.1)) (wl_at (by omega) (ce_12 (kd_o _ hi 0 (by decide)).1.1)) rfl rfl rfl (by decide) (by decide) hn_18.1 (by rw [sb_cl0]; have := hn_18.2; omega) (by rw [sb_cl0]; have := hn_18.2; omega) (fun i hi => rfl) (Nat.le_of_ble_eq_true rfl) (Nat.le_of_ble_eq_true rfl) dX0_copyFrom_97 (fun H locs hP hD hS => ?_)
  obtain ⟨v_19, ev_19⟩ : ∃ u : Nat → Nat → Int32, u = upr v_16 (33 + 15 * i + 0) (va_cpy (v_16 (139 + 15 * i + 0)) (v_16 (33 + 15 * i + 0)) (0 : Int32).toNatClampNeg (0 : Int32).toNatClampNeg x_5.toNatClampNeg) := ⟨_, rfl⟩
  have hP : va_P (dC, dI) vwCl (wl ad kv cy N v_19) H := by rw [ev_19, ← wl_put (e := _) (ce_12 (kd_o _ hi 0 (by decide)).1.1)]; exact hP
  have hD : va_D A (wl ad kv cy N v_19) := by rw [ev_19, ← wl_put (e := _) (ce_12 (kd_o _ hi 0 (by decide)).1.1)]; exact hD
  have hv : Iv v_19 := by rw [ev_19]; exact hv.row (K := 12) (kd_o _ hi 0 (by decide)).1.1 (fun j => rfl)
  have hs_19 : v_16 (139 + 15 * i + 0) = v (139 + 15 * i + 0) := by rw [ev_16, upr_n (by omega), ev_14, upr_n (by omega), ev_12, upr_n (by omega), ev_10, upr_n (by omega), ev_8, upr_n (by omega), ev_6, upr_n (by omega), ev_4, upr_n (by omega), ev_2, upr_n (by omega)]
  rw [hs_19] at ev_19
  refine lv_aload_n hx hb dX0_copyFrom_100 rfl (lv_at hl 2 rfl) ?_
  refine va_get (D := (dC, dI)) (ci := 0) (v := .ref (ad (135 + 15 * i + 6))) (C := RX0) (T := TX0) (N := 11) hx hb hts iwX0_copyFrom_X0 hown hK hP (135 + 15 * i) (wl_at (by omega) (ce_9 (kd_c _ hi).2.1)) rfl 9 (by decide) (hts (.fieldLink RX0 23 "QuietStairs$Case" "logs" "[[I") fwX0_copyFrom_14) (fun _ h9 => h9) rfl dX0_copyFrom_101 ?_
  refine W.eq (g2 := F0 m 104 ls [.ref (ad (141 + 15 * i))]) (by rw [show 135 + 15 * i + 6 = 141 + 15 * i from by omega]) ?_
  refine lv_iload_n hx hb dX0_copyFrom_104 rfl (lv_at hl 0 rfl) ?_
  refine ya_ald hx hb hK hP (141 + 15 * i) (wl_at (by omega) (ce_13 (kd_c _ hi).2.2.2.2.2.1)) (by unfold vp_in; decide) dX0_copyFrom_105 ?_
  refine W.eq (g2 := F0 m 106 ls [.ref (ad (142 + 15 * i + 0))]) (by show F0 m 106 ls (.ref (ad (141 + 15 * i + 1 + 0)) :: _) = _; rw [show 141 + 15 * i + 1 + 0 = 142 + 15 * i + 0 from by omega]) ?_
  refine lv_iconst (v := 0) hx hb dX0_copyFrom_106 (by decide) ?_
  refine lv_aload_n hx hb dX0_copyFrom_107 rfl (lv_at hl 1 rfl) ?_
  refine va_get (D := (dC, dI)) (ci := 0) (v := .ref (ad (29 + 15 * i + 6))) (C := RX0) (T := TX0) (N := 11) hx hb hts iwX0_copyFrom_X0 hown hK hP (29 + 15 * i) (wl_at (by omega) (ce_9 (kd_c _ hi).1.1)) rfl 9 (by decide) (hts (.fieldLink RX0 23 "QuietStairs$Case" "logs" "[[I") fwX0_copyFrom_14) (fun _ h9 => h9) rfl dX0_copyFrom_108 ?_
  refine W.eq (g2 := F0 m 111 ls [.ref (ad (35 + 15 * i)), .int 0, .ref (ad (142 + 15 * i + 0))]) (by rw [show 29 + 15 * i + 6 = 35 + 15 * i from by omega]) ?_
  refine lv_iload_n hx hb dX0_copyFrom_111 rfl (lv_at hl 0 rfl) ?_
  refine ya_ald hx hb hK hP (35 + 15 * i) (wl_at (by omega) (ce_13 (kd_c _ hi).1.2.2.2.2.1)) (by unfold vp_in; decide) dX0_copyFrom_112 ?_
  refine W.eq (g2 := F0 m 113 ls [.ref (ad (36 + 15 * i + 0)), .int 0, .ref (ad (142 + 15 * i + 0))]) (by show F0 m 113 ls (.ref (ad (35 + 15 * i + 1 + 0)) :: _) = _; rw [show 35 + 15 * i + 1 + 0 = 36 + 15 * i + 0 from by omega]) ?_
  refine lv_iconst (v := 0) hx hb dX0_copyFrom_113 (by decide) ?_
  refine lv_bipush (v := 24) hx hb dX0_copyFrom_114 (by decide) ?_
  refine va_copyi hx hb (hml.trans hl.1.symm) hown (hts (.methodLink RX0 81 arraycopyName) fwX0_copyFrom_10) (hts (.native arraycopyName) fwX0_copyFrom_11) (hts (.static arraycopyName) fwX0_copyFrom_12) (hts (.initialized "java/lang/System") fwX0_copyFrom_13) hK hP hD hS (142 + 15 * i + 0) (36 + 15 * i + 0) 0 0 (wl_at (by omega) (ce_14 (kd_o _ hi 0 (by decide)).2.2)) (wl_at (by omega) (ce_14 (kd_o _ hi 0 (by decide)).1.2)) rfl rfl rfl (by decide) (by decide) (by decide) (by decide) (by decide) (fun i hi => rfl) (Nat.le_of_ble_eq_true rfl) (Nat.le_of_ble_eq_true rfl) dX0_copyFrom_116 (fun H locs hP hD hS => ?_)
  obtain ⟨v_20, ev_20⟩ : ∃ u : Nat → Nat → Int32, u = upr v_19 (36 + 15 * i + 0) (va_cpy (v_19 (142 + 15 * i + 0)) (v_19 (36 + 15 * i + 0)) (0 : Int32).toNatClampNeg (0 : Int32).toNatClampNeg (24 : Int32).toNatClampNeg) := ⟨_, rfl⟩
  have hP : va_P (dC, dI) vwCl (wl ad kv cy N v_20) H := by rw [ev_20, ← wl_put (e := _) (ce_14 (kd_o _ hi 0 (by decide)).1.2)]; exact hP
  have hD : va_D A (wl ad kv cy N v_20) := by rw [ev_20, ← wl_put (e := _) (ce_14 (kd_o _ hi 0 (by decide)).1.2)]; exact hD
  have hv : Iv v_20 := by rw [ev_20]; exact hv.row (K := 14) (kd_o _ hi 0 (by decide)).1.2 (fun j => rfl)
  have ev_20 : v_20 = upr v_19 (36 + 15 * i + 0) (va_cpy (v_19 (142 + 15 * i + 0)) (v_19 (36 + 15 * i + 0)) (0 : Int32).toNatClampNeg (0 : Int32).toNatClampNeg 24) := ev_20
  have hs_20 : v_19 (142 + 15 * i + 0) = v (142 + 15 * i + 0) := by rw [ev_19, upr_n (by omega), ev_16, upr_n (by omega), ev_14, upr_n (by omega), ev_12, upr_n (by omega), ev_10, upr_n (by omega), ev_8, upr_n (by omega), ev_6, upr_n (by omega), ev_4, upr_n (by omega), ev_2, upr_n (by omega)]
  rw [hs_20] at ev_20
  refine lv_iinc (v := 1) (lv' := [(2, .int 1), (0, .ref (ad (29 + 15 * i))), (1, .ref (ad (135 + 15 * i)))]) hx hb dX0_copyFrom_119 hl (k := 0) rfl (by decide) (by decide) rfl (fun ls hl => ?_)
  refine lv_goto (tgt := 50) hx hb dX0_copyFrom_122 (by decide) ?_
  refine lv_iload_n hx hb dX0_copyFrom_50 rfl (lv_at hl 0 rfl) ?_
  refine lv_iconst (v := 2) hx hb dX0_copyFrom_51 (by decide) ?_
  refine lv_icmp_ge (tgt := 125) hx hb dX0_copyFrom_52 (by decide) (fun c9 => absurd c9 (by decide)) (fun _ => ?_)
  refine lv_aload_n hx hb dX0_copyFrom_55 rfl (lv_at hl 1 rfl) ?_
  refine va_get (D := (dC, dI)) (ci := 0) (v := .ref (ad (29 + 15 * i + 1))) (C := RX0) (T := TX0) (N := 11) hx hb hts iwX0_copyFrom_X0 hown hK hP (29 + 15 * i) (wl_at (by omega) (ce_9 (kd_c _ hi).1.1)) rfl 6 (by decide) (hts (.fieldLink RX0 9 "QuietStairs$Case" "parties" "[I") fwX0_copyFrom_7) (fun _ h9 => h9) rfl dX0_copyFrom_56 ?_
  refine W.eq (g2 := F0 m 59 ls [.ref (ad (30 + 15 * i))]) (by rw [show 29 + 15 * i + 1 = 30 + 15 * i from by omega]) ?_
  refine lv_iload_n hx hb dX0_copyFrom_59 rfl (lv_at hl 0 rfl) ?_
  refine lv_aload_n hx hb dX0_copyFrom_60 rfl (lv_at hl 2 rfl) ?_
  refine va_get (D := (dC, dI)) (ci := 0) (v := .ref (ad (135 + 15 * i + 1))) (C := RX0) (T := TX0) (N := 11) hx hb hts iwX0_copyFrom_X0 hown hK hP (135 + 15 * i) (wl_at (by omega) (ce_9 (kd_c _ hi).2.1)) rfl 6 (by decide) (hts (.fieldLink RX0 9 "QuietStairs$Case" "parties" "[I") fwX0_copyFrom_7) (fun _ h9 => h9) rfl dX0_copyFrom_61 ?_
  refine W.eq (g2 := F0 m 64 ls [.ref (ad (136 + 15 * i)), .int 1, .ref (ad (30 + 15 * i))]) (by rw [show 135 + 15 * i + 1 = 136 + 15 * i from by omega]) ?_
  refine lv_iload_n hx hb dX0_copyFrom_64 rfl (lv_at hl 0 rfl) ?_
  have k_1 : (1 : Int32).toInt = 1 := by decide
  refine va_iald hx hb hK hP (136 + 15 * i) 0 (wl_at (by omega) (ce_10 (kd_c _ hi).2.2.1)) rfl (by unfold vp_in; decide) dX0_copyFrom_65 ?_
  refine lv_topi (fun x_21 ex_21 => ?_)
  have ex_21 : x_21 = v_20 (136 + 15 * i) 1 := ex_21
  have bzx_21 : 0 ≤ x_21.toInt ∧ x_21.toInt ≤ 7 := by rw [ex_21]; exact hv.at (K := 10) (kd_c _ hi).2.2.1 rfl
  rw [ev_20, upr_n (by omega), ev_19, upr_n (by omega), ev_16, upr_n (by omega), ev_14, upr_n (by omega), ev_12, upr_n (by omega), ev_10, upr_n (by omega), ev_8, upr_n (by omega), ev_6, upr_n (by omega), ev_4, upr_n (by omega), ev_2, upr_n (by omega)] at ex_21
  have qx_21 : x_21.toInt = (v (136 + 15 * i) (1)).toInt := congrArg Int32.toInt ex_21
  refine va_iast hx hb hK hP hD hS (30 + 15 * i) 0 (wl_at (by omega) (ce_10 (kd_c _ hi).1.2.1)) rfl (by unfold vp_in; decide) dX0_copyFrom_66 (fun H locs hP hD hS => ?_)
  have hP : va_P (dC, dI) vwCl ((wl ad kv cy N v_20).set (30 + 15 * i) (ad (30 + 15 * i), .inl (cy 0, 2, .inl (upd (v_20 (30 + 15 * i)) 1 x_21)))) H := hP
  have hD : va_D A ((wl ad kv cy N v_20).set (30 + 15 * i) (ad (30 + 15 * i), .inl (cy 0, 2, .inl (upd (v_20 (30 + 15 * i)) 1 x_21)))) := hD
  obtain ⟨v_22, ev_22⟩ : ∃ u : Nat → Nat → Int32, u = upr v_20 (30 + 15 * i) (upd (v_20 (30 + 15 * i)) 1 x_21) := ⟨_, rfl⟩
  have hP : va_P (dC, dI) vwCl (wl ad kv cy N v_22) H := by rw [ev_22, ← wl_put (e := _) (ce_10 (kd_c _ hi).1.2.1)]; exact hP
  have hD : va_D A (wl ad kv cy N v_22) := by rw [ev_22, ← wl_put (e := _) (ce_10 (kd_c _ hi).1.2.1)]; exact hD
  have hv : Iv v_22 := by rw [ev_22]; exact hv.put (K := 10) (kd_c _ hi).1.2.1 (fun h q => by cases q; exact ⟨by omega, by omega⟩)
  refine lv_aload_n hx hb dX0_copyFrom_67 rfl (lv_at hl 1 rfl) ?_
  refine va_get (D := (dC, dI)) (ci := 0) (v := .ref (ad (29 + 15 * i + 2))) (C := RX0) (T := TX0) (N := 11) hx hb hts iwX0_copyFrom_X0 hown hK hP (29 + 15 * i) (wl_at (by omega) (ce_9 (kd_c _ hi).1.1)) rfl 7 (by decide) (hts (.fieldLink RX0 15 "QuietStairs$Case" "box" "[I") fwX0_copyFrom_8) (fun _ h9 => h9) rfl dX0_copyFrom_68 ?_
  refine W.eq (g2 := F0 m 71 ls [.ref (ad (31 + 15 * i))]) (by rw [show 29 + 15 * i + 2 = 31 + 15 * i from by omega]) ?_
  refine lv_iload_n hx hb dX0_copyFrom_71 rfl (lv_at hl 0 rfl) ?_
  refine lv_aload_n hx hb dX0_copyFrom_72 rfl (lv_at hl 2 rfl) ?_
  refine va_get (D := (dC, dI)) (ci := 0) (v := .ref (ad (135 + 15 * i + 2))) (C := RX0) (T := TX0) (N := 11) hx hb hts iwX0_copyFrom_X0 hown hK hP (135 + 15 * i) (wl_at (by omega) (ce_9 (kd_c _ hi).2.1)) rfl 7 (by decide) (hts (.fieldLink RX0 15 "QuietStairs$Case" "box" "[I") fwX0_copyFrom_8) (fun _ h9 => h9) rfl dX0_copyFrom_73 ?_
  refine W.eq (g2 := F0 m 76 ls [.ref (ad (137 + 15 * i)), .int 1, .ref (ad (31 + 15 * i))]) (by rw [show 135 + 15 * i + 2 = 137 + 15 * i from by omega]) ?_
  refine lv_iload_n hx hb dX0_copyFrom_76 rfl (lv_at hl 0 rfl) ?_
  refine va_iald hx hb hK hP (137 + 15 * i) 0 (wl_at (by omega) (ce_20 (kd_c _ hi).2.2.2.1)) rfl (by unfold vp_in; decide) dX0_copyFrom_77 ?_
  refine lv_topi (fun x_23 ex_23 => ?_)
  have ex_23 : x_23 = v_22 (137 + 15 * i) 1 := ex_23
  rw [ev_22, upr_n (by omega), ev_20, upr_n (by omega), ev_19, upr_n (by omega), ev_16, upr_n (by omega), ev_14, upr_n (by omega), ev_12, upr_n (by omega), ev_10, upr_n (by omega), ev_8, upr_n (by omega), ev_6, upr_n (by omega), ev_4, upr_n (by omega), ev_2, upr_n (by omega)] at ex_23
  have qx_23 : x_23.toInt = (v (137 + 15 * i) (1)).toInt := congrArg Int32.toInt ex_23
  refine va_iast hx hb hK hP hD hS (31 + 15 * i) 0 (wl_at (by omega) (ce_20 (kd_c _ hi).1.2.2.1)) rfl (by unfold vp_in; decide) dX0_copyFrom_78 (fun H locs hP hD hS => ?_)
  have hP : va_P (dC, dI) vwCl ((wl ad kv cy N v_22).set (31 + 15 * i) (ad (31 + 15 * i), .inl (cy 0, 2, .inl (upd (v_22 (31 + 15 * i)) 1 x_23)))) H := hP
  have hD : va_D A ((wl ad kv cy N v_22).set (31 + 15 * i) (ad (31 + 15 * i), .inl (cy 0, 2, .inl (upd (v_22 (31 + 15 * i)) 1 x_23)))) := hD
  obtain ⟨v_24, ev_24⟩ : ∃ u : Nat → Nat → Int32, u = upr v_22 (31 + 15 * i) (upd (v_22 (31 + 15 * i)) 1 x_23) := ⟨_, rfl⟩
  have hP : va_P (dC, dI) vwCl (wl ad kv cy N v_24) H := by rw [ev_24, ← wl_put (e := _) (ce_20 (kd_c _ hi).1.2.2.1)]; exact hP
  have hD : va_D A (wl ad kv cy N v_24) := by rw [ev_24, ← wl_put (e := _) (ce_20 (kd_c _ hi).1.2.2.1)]; exact hD
  have hv : Iv v_24 := by rw [ev_24]; exact hv.put (K := 20) (kd_c _ hi).1.2.2.1 (fun h q => by simp [bd] at q)
  refine lv_aload_n hx hb dX0_copyFrom_79 rfl (lv_at hl 2 rfl) ?_
  refine va_get (D := (dC, dI)) (ci := 0) (v := .ref (ad (135 + 15 * i + 3))) (C := RX0) (T := TX0) (N := 11) hx hb hts iwX0_copyFrom_X0 hown hK hP (135 + 15 * i) (wl_at (by omega) (ce_9 (kd_c _ hi).2.1)) rfl 8 (by decide) (hts (.fieldLink RX0 20 "QuietStairs$Case" "offers" "[[I") fwX0_copyFrom_9) (fun _ h9 => h9) rfl dX0_copyFrom_80 ?_
  refine W.eq (g2 := F0 m 83 ls [.ref (ad (138 + 15 * i))]) (by rw [show 135 + 15 * i + 3 = 138 + 15 * i from by omega]) ?_
  refine lv_iload_n hx hb dX0_copyFrom_83 rfl (lv_at hl 0 rfl) ?_
  refine ya_ald hx hb hK hP (138 + 15 * i) (wl_at (by omega) (ce_11 (kd_c _ hi).2.2.2.2.1)) (by unfold vp_in; decide) dX0_copyFrom_84 ?_
  refine W.eq (g2 := F0 m 85 ls [.ref (ad (139 + 15 * i + 1))]) (by show F0 m 85 ls (.ref (ad (138 + 15 * i + 1 + 1)) :: _) = _; rw [show 138 + 15 * i + 1 + 1 = 139 + 15 * i + 1 from by omega]) ?_
  refine lv_iconst (v := 0) hx hb dX0_copyFrom_85 (by decide) ?_
  refine lv_aload_n hx hb dX0_copyFrom_86 rfl (lv_at hl 1 rfl) ?_
  refine va_get (D := (dC, dI)) (ci := 0) (v := .ref (ad (29 + 15 * i + 3))) (C := RX0) (T := TX0) (N := 11) hx hb hts iwX0_copyFrom_X0 hown hK hP (29 + 15 * i) (wl_at (by omega) (ce_9 (kd_c _ hi).1.1)) rfl 8 (by decide) (hts (.fieldLink RX0 20 "QuietStairs$Case" "offers" "[[I") fwX0_copyFrom_9) (fun _ h9 => h9) rfl dX0_copyFrom_87 ?_
  refine W.eq (g2 := F0 m 90 ls [.ref (ad (32 + 15 * i)), .int 0, .ref (ad (139 + 15 * i + 1))]) (by rw [show 29 + 15 * i + 3 = 32 + 15 * i from by omega]) ?_
  refine lv_iload_n hx hb dX0_copyFrom_90 rfl (lv_at hl 0 rfl) ?_
  refine ya_ald hx hb hK hP (32 + 15 * i) (wl_at (by omega) (ce_11 (kd_c _ hi).1.2.2.2.1)) (by unfold vp_in; decide) dX0_copyFrom_91 ?_
  refine W.eq (g2 := F0 m 92 ls [.ref (ad (33 + 15 * i + 1)), .int 0, .ref (ad (139 + 15 * i + 1))]) (by show F0 m 92 ls (.ref (ad (32 + 15 * i + 1 + 1)) :: _) = _; rw [show 32 + 15 * i + 1 + 1 = 33 + 15 * i + 1 from by omega]) ?_
  refine lv_iconst (v := 0) hx hb dX0_copyFrom_92 (by decide) ?_
  refine lv_aload_n hx hb dX0_copyFrom_93 rfl (lv_at hl 1 rfl) ?_
  refine va_get (D := (dC, dI)) (ci := 0) (v := .int (v_24 (29 + 15 * i) 2)) (C := RX0) (T := TX0) (N := 11) hx hb hts iwX0_copyFrom_X0 hown hK hP (29 + 15 * i) (wl_at (by omega) (ce_9 (kd_c _ hi).1.1)) rfl 2 (by decide) (hts (.fieldLink RX0 40 "QuietStairs$Case" "roundsOver" "I") fwX0_copyFrom_3) (fun _ h9 => h9) rfl dX0_copyFrom_94 ?_
  refine lv_topi (fun x_25 ex_25 => ?_)
  have bzx_25 : 0 ≤ x_25.toInt ∧ x_25.toInt ≤ 5 := by rw [ex_25]; exact hv.at (K := 9) (kd_c _ hi).1.1 rfl
  rw [ev_24, upr_n (by omega), ev_22, upr_n (by omega), ev_20, upr_n (by omega), ev_19, upr_n (by omega), ev_16, upr_n (by omega), ev_14, upr_n (by omega), ev_12, upr_s, pk_un (by decide), ev_10, upr_s, pk_un (by decide), ev_8, upr_s, pk_un (by decide), ev_6, upr_s, pk_us] at ex_25
  obtain rfl : x_5 = x_25 := ex_25.symm
  have hn_26 := t_n (x := x_5) (m := 5) ⟨by omega, by omega⟩
  refine va_copyi hx hb (hml.trans hl.1.symm) hown (hts (.methodLink RX0 81 arraycopyName) fwX0_copyFrom_10) (hts (.native arraycopyName) fwX0_copyFrom_11) (hts (.static arraycopyName) fwX0_copyFrom_12) (hts (.initialized "java/lang/System") fwX0_copyFrom_13) hK hP hD hS (139 + 15 * i + 1) (33 + 15 * i + 1) 0 0 (wl_at (by omega) (ce_12 (kd_o _ hi 1 (by decide)).2.1)) (wl_at (by omega) (ce_12 (kd_o _ hi 1 (by decide)).1.1)) rfl rfl rfl (by decide) (by decide) hn_26.1 (by rw [sb_cl0]; have := hn_26.2; omega) (by rw [sb_cl0]; have := hn_26.2; omega) (fun i hi => rfl) (Nat.le_of_ble_eq_true rfl) (Nat.le_of_ble_eq_true rfl) dX0_copyFrom_97 (fun H locs hP hD hS => ?_)
  obtain ⟨v_27, ev_27⟩ : ∃ u : Nat → Nat → Int32, u = upr v_24 (33 + 15 * i + 1) (va_cpy (v_24 (139 + 15 * i + 1)) (v_24 (33 + 15 * i + 1)) (0 : Int32).toNatClampNeg (0 : Int32).toNatClampNeg x_5.toNatClampNeg) := ⟨_, rfl⟩
  have hP : va_P (dC, dI) vwCl (wl ad kv cy N v_27) H := by rw [ev_27, ← wl_put (e := _) (ce_12 (kd_o _ hi 1 (by decide)).1.1)]; exact hP
  have hD : va_D A (wl ad kv cy N v_27) := by rw [ev_27, ← wl_put (e := _) (ce_12 (kd_o _ hi 1 (by decide)).1.1)]; exact hD
  have hv : Iv v_27 := by rw [ev_27]; exact hv.row (K := 12) (kd_o _ hi 1 (by decide)).1.1 (fun j => rfl)
  have hs_27 : v_24 (139 + 15 * i + 1) = v (139 + 15 * i + 1) := by rw [ev_24, upr_n (by omega), ev_22, upr_n (by omega), ev_20, upr_n (by omega), ev_19, upr_n (by omega), ev_16, upr_n (by omega), ev_14, upr_n (by omega), ev_12, upr_n (by omega), ev_10, upr_n (by omega), ev_8, upr_n (by omega), ev_6, upr_n (by omega), ev_4, upr_n (by omega), ev_2, upr_n (by omega)]
  rw [hs_27] at ev_27
  refine lv_aload_n hx hb dX0_copyFrom_100 rfl (lv_at hl 2 rfl) ?_
  refine va_get (D := (dC, dI)) (ci := 0) (v := .ref (ad (135 + 15 * i + 6))) (C := RX0) (T := TX0) (N := 11) hx hb hts iwX0_copyFrom_X0 hown hK hP (135 + 15 * i) (wl_at (by omega) (ce_9 (kd_c _ hi).2.1)) rfl 9 (by decide) (hts (.fieldLink RX0 23 "QuietStairs$Case" "logs" "[[I") fwX0_copyFrom_14) (fun _ h9 => h9) rfl dX0_copyFrom_101 ?_
  refine W.eq (g2 := F0 m 104 ls [.ref (ad (141 + 15 * i))]) (by rw [show 135 + 15 * i + 6 = 141 + 15 * i from by omega]) ?_
  refine lv_iload_n hx hb dX0_copyFrom_104 rfl (lv_at hl 0 rfl) ?_
  refine ya_ald hx hb hK hP (141 + 15 * i) (wl_at (by omega) (ce_13 (kd_c _ hi).2.2.2.2.2.1)) (by unfold vp_in; decide) dX0_copyFrom_105 ?_
  refine W.eq (g2 := F0 m 106 ls [.ref (ad (142 + 15 * i + 1))]) (by show F0 m 106 ls (.ref (ad (141 + 15 * i + 1 + 1)) :: _) = _; rw [show 141 + 15 * i + 1 + 1 = 142 + 15 * i + 1 from by omega]) ?_
  refine lv_iconst (v := 0) hx hb dX0_copyFrom_106 (by decide) ?_
  refine lv_aload_n hx hb dX0_copyFrom_107 rfl (lv_at hl 1 rfl) ?_
  refine va_get (D := (dC, dI)) (ci := 0) (v := .ref (ad (29 + 15 * i + 6))) (C := RX0) (T := TX0) (N := 11) hx hb hts iwX0_copyFrom_X0 hown hK hP (29 + 15 * i) (wl_at (by omega) (ce_9 (kd_c _ hi).1.1)) rfl 9 (by decide) (hts (.fieldLink RX0 23 "QuietStairs$Case" "logs" "[[I") fwX0_copyFrom_14) (fun _ h9 => h9) rfl dX0_copyFrom_108 ?_
  refine W.eq (g2 := F0 m 111 ls [.ref (ad (35 + 15 * i)), .int 0, .ref (ad (142 + 15 * i + 1))]) (by rw [show 29 + 15 * i + 6 = 35 + 15 * i from by omega]) ?_
  refine lv_iload_n hx hb dX0_copyFrom_111 rfl (lv_at hl 0 rfl) ?_
  refine ya_ald hx hb hK hP (35 + 15 * i) (wl_at (by omega) (ce_13 (kd_c _ hi).1.2.2.2.2.1)) (by unfold vp_in; decide) dX0_copyFrom_112 ?_
  refine W.eq (g2 := F0 m 113 ls [.ref (ad (36 + 15 * i + 1)), .int 0, .ref (ad (142 + 15 * i + 1))]) (by show F0 m 113 ls (.ref (ad (35 + 15 * i + 1 + 1)) :: _) = _; rw [show 35 + 15 * i + 1 + 1 = 36 + 15 * i + 1 from by omega]) ?_
  refine lv_iconst (v := 0) hx hb dX0_copyFrom_113 (by decide) ?_
  refine lv_bipush (v := 24) hx hb dX0_copyFrom_114 (by decide) ?_
  refine va_copyi hx hb (hml.trans hl.1.symm) hown (hts (.methodLink RX0 81 arraycopyName) fwX0_copyFrom_10) (hts (.native arraycopyName) fwX0_copyFrom_11) (hts (.static arraycopyName) fwX0_copyFrom_12) (hts (.initialized "java/lang/System") fwX0_copyFrom_13) hK hP hD hS (142 + 15 * i + 1) (36 + 15 * i + 1) 0 0 (wl_at (by omega) (ce_14 (kd_o _ hi 1 (by decide)).2.2)) (wl_at (by omega) (ce_14 (kd_o _ hi 1 (by decide)).1.2)) rfl rfl rfl (by decide) (by decide) (by decide) (by decide) (by decide) (fun i hi => rfl) (Nat.le_of_ble_eq_true rfl) (Nat.le_of_ble_eq_true rfl) dX0_copyFrom_116 (fun H locs hP hD hS => ?_)
  obtain ⟨v_28, ev_28⟩ : ∃ u : Nat → Nat → Int32, u = upr v_27 (36 + 15 * i + 1) (va_cpy (v_27 (142 + 15 * i + 1)) (v_27 (36 + 15 * i + 1)) (0 : Int32).toNatClampNeg (0 : Int32).toNatClampNeg (24 : Int32).toNatClampNeg) := ⟨_, rfl⟩
  have hP : va_P (dC, dI) vwCl (wl ad kv cy N v_28) H := by rw [ev_28, ← wl_put (e := _) (ce_14 (kd_o _ hi 1 (by decide)).1.2)]; exact hP
  have hD : va_D A (wl ad kv cy N v_28) := by rw [ev_28, ← wl_put (e := _) (ce_14 (kd_o _ hi 1 (by decide)).1.2)]; exact hD
  have hv : Iv v_28 := by rw [ev_28]; exact hv.row (K := 14) (kd_o _ hi 1 (by decide)).1.2 (fun j => rfl)
  have ev_28 : v_28 = upr v_27 (36 + 15 * i + 1) (va_cpy (v_27 (142 + 15 * i + 1)) (v_27 (36 + 15 * i + 1)) (0 : Int32).toNatClampNeg (0 : Int32).toNatClampNeg 24) := ev_28
  have hs_28 : v_27 (142 + 15 * i + 1) = v (142 + 15 * i + 1) := by rw [ev_27, upr_n (by omega), ev_24, upr_n (by omega), ev_22, upr_n (by omega), ev_20, upr_n (by omega), ev_19, upr_n (by omega), ev_16, upr_n (by omega), ev_14, upr_n (by omega), ev_12, upr_n (by omega), ev_10, upr_n (by omega), ev_8, upr_n (by omega), ev_6, upr_n (by omega), ev_4, upr_n (by omega), ev_2, upr_n (by omega)]
  rw [hs_28] at ev_28
  refine lv_iinc (v := 2) (lv' := [(2, .int 2), (0, .ref (ad (29 + 15 * i))), (1, .ref (ad (135 + 15 * i)))]) hx hb dX0_copyFrom_119 hl (k := 0) rfl (by decide) (by decide) rfl (fun ls hl => ?_)
  refine lv_goto (tgt := 50) hx hb dX0_copyFrom_122 (by decide) ?_
  refine lv_iload_n hx hb dX0_copyFrom_50 rfl (lv_at hl 0 rfl) ?_
  refine lv_iconst (v := 2) hx hb dX0_copyFrom_51 (by decide) ?_
  refine lv_icmp_ge (tgt := 125) hx hb dX0_copyFrom_52 (by decide) (fun _ => ?_) (fun c9 => absurd c9 (by decide))
  refine lv_iconst (v := 0) hx hb dX0_copyFrom_125 (by decide) ?_
  refine lv_istore_n (lv' := [(2, .int 0), (0, .ref (ad (29 + 15 * i))), (1, .ref (ad (135 + 15 * i)))]) hx hb dX0_copyFrom_126 rfl hl (by decide) rfl (fun ls hl => ?_)
  have hc_29 : ∀ (n : Nat) (y29_2 : Int32) (u29 : Nat → Nat → Int32) (H : Heap) (locs : List Loc), 0 ≤ y29_2.toInt → y29_2.toInt ≤ 5 → (∀ k j : Nat, u29 k j = if 39 + 15 * i ≤ k ∧ (k : Int) < 39 + 15 * (i : Int) + y29_2.toInt ∧ j < 5 then v_28 (k + 106) j else v_28 k j) → (y29_2.toInt ≤ (v (135 + 15 * i) 5).toInt) → (5 - y29_2.toInt).toNat < n → Iv u29 → va_P (dC, dI) vwCl (wl ad kv cy N u29) H → va_D A (wl ad kv cy N u29) → va_S A s.heap H locs → ∀ ls : Array Slot, lv_has ls 3 [(2, .int y29_2), (0, .ref (ad (29 + 15 * i))), (1, .ref (ad (135 + 15 * i)))] → W p l e (headSpec wsX0_copyFrom ({ frames := 1, cells := 0, slots := 0, locals := 64 })).room s m [Value.ref (ad (29 + 15 * i)), Value.ref (ad (135 + 15 * i))].toArray below meth c H locs 0 0 (MQ below (va_Qv (fun (u : Nat → Nat → Int32) => Iv u ∧ (∀ o j : Nat, lvC (v (135 + 15 * i)) o j → u (29 + 15 * i + o) j = v (135 + 15 * i + o) j) ∧ (∀ k : Nat, (k < 29 + 15 * i ∨ 44 + 15 * i ≤ k) → u k = v k)) (fun u t => ex_Pst dC dI A (wl ad kv cy N u) t) A) [Value.ref (ad (29 + 15 * i)), Value.ref (ad (135 + 15 * i))].toArray s 0 0 A) (F0 m 127 ls []) := by
    intro n
    induction n with
    | zero =>
      intro y29_2 u29 H locs ay29_2 by29_2 hi29_0 hi29_1 hm_29 hv hP hD hS ls hl
      exact absurd hm_29 (by omega)
    | succ n ih_29 =>
      intro y29_2 u29 H locs ay29_2 by29_2 hi29_0 hi29_1 hm_29 hv hP hD hS ls hl
      refine lv_iload_n hx hb dX0_copyFrom_127 rfl (lv_at hl 0 rfl) ?_
      refine lv_aload_n hx hb dX0_copyFrom_128 rfl (lv_at hl 1 rfl) ?_
      refine va_get (D := (dC, dI)) (ci := 0) (v := .int (u29 (29 + 15 * i) 5)) (C := RX0) (T := TX0) (N := 11) hx hb hts iwX0_copyFrom_X0 hown hK hP (29 + 15 * i) (wl_at (by omega) (ce_9 (kd_c _ hi).1.1)) rfl 5 (by decide) (hts (.fieldLink RX0 49 "QuietStairs$Case" "termCount" "I") fwX0_copyFrom_6) (fun _ h9 => h9) rfl dX0_copyFrom_129 ?_
      refine lv_topi (fun x_30 ex_30 => ?_)
      have bzx_30 : 0 ≤ x_30.toInt ∧ x_30.toInt ≤ 5 := by rw [ex_30]; exact hv.at (K := 9) (kd_c _ hi).1.1 rfl
      have qx_30 : x_30.toInt = (u29 (29 + 15 * i) (5)).toInt := congrArg Int32.toInt ex_30
      have hkx_30 : x_30 = v_28 (29 + 15 * i) 5 := by rw [ex_30, hi29_0, if_neg (by omega)]
      have hmx_30 : x_30.toInt = (v (135 + 15 * i) 5).toInt := by rw [hkx_30, ev_28, upr_n (by omega), ev_27, upr_n (by omega), ev_24, upr_n (by omega), ev_22, upr_n (by omega), ev_20, upr_n (by omega), ev_19, upr_n (by omega), ev_16, upr_n (by omega), ev_14, upr_n (by omega), ev_12, upr_s, pk_us, ex_11]
      refine lv_icmp_ge (tgt := 156) hx hb dX0_copyFrom_132 (by decide) (fun c_31 => ?_) (fun c_31 => ?_)
      · have tc_31 : y29_2.toInt ≥ x_30.toInt := Int32.le_iff_toInt_le.mp c_31
        have hy : y29_2.toInt = (v (135 + 15 * i) 5).toInt := by omega
        have hz : ∀ k j : Nat, v_28 k j = if k = 36 + 15 * i + 1 ∧ j < 24 then v (142 + 15 * i + 1) j else if k = 33 + 15 * i + 1 ∧ j < (v (135 + 15 * i) 2).toNatClampNeg then v (139 + 15 * i + 1) j else if k = 31 + 15 * i ∧ j = 1 then v (137 + 15 * i) 1 else if k = 30 + 15 * i ∧ j = 1 then v (136 + 15 * i) 1 else if k = 36 + 15 * i + 0 ∧ j < 24 then v (142 + 15 * i + 0) j else if k = 33 + 15 * i + 0 ∧ j < (v (135 + 15 * i) 2).toNatClampNeg then v (139 + 15 * i + 0) j else if k = 31 + 15 * i ∧ j = 0 then v (137 + 15 * i) 0 else if k = 30 + 15 * i ∧ j = 0 then v (136 + 15 * i) 0 else if k = 29 + 15 * i ∧ j = 5 then v (135 + 15 * i) 5 else if k = 29 + 15 * i ∧ j = 4 then v (135 + 15 * i) 4 else if k = 29 + 15 * i ∧ j = 3 then v (135 + 15 * i) 3 else if k = 29 + 15 * i ∧ j = 2 then v (135 + 15 * i) 2 else if k = 29 + 15 * i ∧ j = 1 then v (135 + 15 * i) 1 else if k = 29 + 15 * i ∧ j = 0 then v (135 + 15 * i) 0 else v k j := fun k j => by rw [ev_28, up3, ev_27, up3, ev_24, up2, ev_22, up2, ev_20, up3, ev_19, up3, ev_16, up2, ev_14, up2, ev_12, up2, ev_10, up2, ev_8, up2, ev_6, up2, ev_4, up2, ev_2, up2, ex_5, ex_23, ex_21, ex_15, ex_13, ex_11, ex_9, ex_7, ex_3, ex_1]
        have hpost : (∀ o j : Nat, lvC (v (135 + 15 * i)) o j → u29 (29 + 15 * i + o) j = v (135 + 15 * i + o) j) ∧ (∀ k : Nat, (k < 29 + 15 * i ∨ 44 + 15 * i ≤ k) → u29 k = v k) := by
          refine ⟨fun o j hq => ?_, fun k hk => funext fun j => ?_⟩
          · unfold lvC at hq
            rcases hq with ⟨rfl, hj⟩ | ⟨rfl, hj⟩ | ⟨rfl, hj⟩ | ⟨(rfl | rfl), hj⟩ | ⟨(rfl | rfl), hj⟩ | ⟨ho, ho2, ho3, hj⟩
            · rw [hi29_0, if_neg (by omega), hz]
              rcases (show j = 0 ∨ j = 1 ∨ j = 2 ∨ j = 3 ∨ j = 4 ∨ j = 5 by omega) with rfl | rfl | rfl | rfl | rfl | rfl
              · rw [if_neg (by omega), if_neg (by omega), if_neg (by omega), if_neg (by omega), if_neg (by omega), if_neg (by omega), if_neg (by omega), if_neg (by omega), if_neg (by omega), if_neg (by omega), if_neg (by omega), if_neg (by omega), if_neg (by omega), if_pos ⟨by omega, rfl⟩]
                exact congrFun (congrArg v (by omega)) _
              · rw [if_neg (by omega), if_neg (by omega), if_neg (by omega), if_neg (by omega), if_neg (by omega), if_neg (by omega), if_neg (by omega), if_neg (by omega), if_neg (by omega), if_neg (by omega), if_neg (by omega), if_neg (by omega), if_pos ⟨by omega, rfl⟩]
                exact congrFun (congrArg v (by omega)) _
              · rw [if_neg (by omega), if_neg (by omega), if_neg (by omega), if_neg (by omega), if_neg (by omega), if_neg (by omega), if_neg (by omega), if_neg (by omega), if_neg (by omega), if_neg (by omega), if_neg (by omega), if_pos ⟨by omega, rfl⟩]
                exact congrFun (congrArg v (by omega)) _
              · rw [if_neg (by omega), if_neg (by omega), if_neg (by omega), if_neg (by omega), if_neg (by omega), if_neg (by omega), if_neg (by omega), if_neg (by omega), if_neg (by omega), if_neg (by omega), if_pos ⟨by omega, rfl⟩]
                exact congrFun (congrArg v (by omega)) _
              · rw [if_neg (by omega), if_neg (by omega), if_neg (by omega), if_neg (by omega), if_neg (by omega), if_neg (by omega), if_neg (by omega), if_neg (by omega), if_neg (by omega), if_pos ⟨by omega, rfl⟩]
                exact congrFun (congrArg v (by omega)) _
              · rw [if_neg (by omega), if_neg (by omega), if_neg (by omega), if_neg (by omega), if_neg (by omega), if_neg (by omega), if_neg (by omega), if_neg (by omega), if_pos ⟨by omega, rfl⟩]
                exact congrFun (congrArg v (by omega)) _
            · rw [hi29_0, if_neg (by omega), hz]
              rcases (show j = 0 ∨ j = 1 by omega) with rfl | rfl
              · rw [if_neg (by omega), if_neg (by omega), if_neg (by omega), if_neg (by omega), if_neg (by omega), if_neg (by omega), if_neg (by omega), if_pos ⟨by omega, rfl⟩]
                exact congrFun (congrArg v (by omega)) _
              · rw [if_neg (by omega), if_neg (by omega), if_neg (by omega), if_pos ⟨by omega, rfl⟩]
                exact congrFun (congrArg v (by omega)) _
            · rw [hi29_0, if_neg (by omega), hz]
              rcases (show j = 0 ∨ j = 1 by omega) with rfl | rfl
              · rw [if_neg (by omega), if_neg (by omega), if_neg (by omega), if_neg (by omega), if_neg (by omega), if_neg (by omega), if_pos ⟨by omega, rfl⟩]
                exact congrFun (congrArg v (by omega)) _
              · rw [if_neg (by omega), if_neg (by omega), if_pos ⟨by omega, rfl⟩]
                exact congrFun (congrArg v (by omega)) _
            · rw [hi29_0, if_neg (by omega), hz, if_neg (by omega), if_neg (by omega), if_neg (by omega), if_neg (by omega), if_neg (by omega), if_pos ⟨by omega, by have z8 := t_nn (x := v (135 + 15 * i) 2) hb2.1; omega⟩]
              exact congrFun (congrArg v (by omega)) _
            · rw [hi29_0, if_neg (by omega), hz, if_neg (by omega), if_pos ⟨by omega, by have z8 := t_nn (x := v (135 + 15 * i) 2) hb2.1; omega⟩]
              exact congrFun (congrArg v (by omega)) _
            · rw [hi29_0, if_neg (by omega), hz, if_neg (by omega), if_neg (by omega), if_neg (by omega), if_neg (by omega), if_pos ⟨by omega, hj⟩]
              exact congrFun (congrArg v (by omega)) _
            · rw [hi29_0, if_neg (by omega), hz, if_pos ⟨by omega, hj⟩]
              exact congrFun (congrArg v (by omega)) _
            · rw [hi29_0, if_pos (by omega), show 29 + 15 * i + o + 106 = 135 + 15 * i + o from by omega, hz, if_neg (by omega), if_neg (by omega), if_neg (by omega), if_neg (by omega), if_neg (by omega), if_neg (by omega), if_neg (by omega), if_neg (by omega), if_neg (by omega), if_neg (by omega), if_neg (by omega), if_neg (by omega), if_neg (by omega), if_neg (by omega)]
          · rw [hi29_0, if_neg (by omega), hz, if_neg (by omega), if_neg (by omega), if_neg (by omega), if_neg (by omega), if_neg (by omega), if_neg (by omega), if_neg (by omega), if_neg (by omega), if_neg (by omega), if_neg (by omega), if_neg (by omega), if_neg (by omega), if_neg (by omega), if_neg (by omega)]
        exact W.vret hx hb hr (fun t ht hW => ⟨⟨u29, rfl, ⟨hv, hpost⟩, by rw [ht]; exact hP, hD⟩, hS.F ht⟩) hS.2.2 dX0_copyFrom_156
      · have tc_31 : y29_2.toInt < x_30.toInt := Int32.lt_iff_toInt_lt.mp (Int32.not_le.mp c_31)
        refine lv_aload_n hx hb dX0_copyFrom_135 rfl (lv_at hl 1 rfl) ?_
        refine va_get (D := (dC, dI)) (ci := 0) (v := .ref (ad (29 + 15 * i + 9))) (C := RX0) (T := TX0) (N := 11) hx hb hts iwX0_copyFrom_X0 hown hK hP (29 + 15 * i) (wl_at (by omega) (ce_9 (kd_c _ hi).1.1)) rfl 10 (by decide) (hts (.fieldLink RX0 28 "QuietStairs$Case" "terms" "[LQuietStairs$Term;") fwX0_copyFrom_15) (fun _ h9 => h9) rfl dX0_copyFrom_136 ?_
        refine W.eq (g2 := F0 m 139 ls [.ref (ad (38 + 15 * i))]) (by rw [show 29 + 15 * i + 9 = 38 + 15 * i from by omega]) ?_
        refine lv_iload_n hx hb dX0_copyFrom_139 rfl (lv_at hl 0 rfl) ?_
        have zn_y29_2 : (y29_2.toNatClampNeg : Int) = y29_2.toInt := t_nn (by omega)
        have hx_32 : y29_2.toNatClampNeg < 5 := by omega
        refine va_aldq hx hb hK hP (38 + 15 * i) 4 (wl_at (by omega) (ce_15 (kd_c _ hi).1.2.2.2.2.2)) rfl (vp_in_iff.mpr ⟨by omega, by omega⟩) dX0_copyFrom_140 ?_
        refine W.eq (g2 := F0 m 141 ls [.ref (ad (39 + 15 * i + y29_2.toNatClampNeg))]) (by rw [if_pos hx_32, show 38 + 15 * i + 1 + y29_2.toNatClampNeg = 39 + 15 * i + y29_2.toNatClampNeg from by omega]; rfl) ?_
        refine lv_aload_n hx hb dX0_copyFrom_141 rfl (lv_at hl 2 rfl) ?_
        refine va_get (D := (dC, dI)) (ci := 0) (v := .ref (ad (135 + 15 * i + 9))) (C := RX0) (T := TX0) (N := 11) hx hb hts iwX0_copyFrom_X0 hown hK hP (135 + 15 * i) (wl_at (by omega) (ce_9 (kd_c _ hi).2.1)) rfl 10 (by decide) (hts (.fieldLink RX0 28 "QuietStairs$Case" "terms" "[LQuietStairs$Term;") fwX0_copyFrom_15) (fun _ h9 => h9) rfl dX0_copyFrom_142 ?_
        refine W.eq (g2 := F0 m 145 ls [.ref (ad (144 + 15 * i)), .ref (ad (39 + 15 * i + y29_2.toNatClampNeg))]) (by rw [show 135 + 15 * i + 9 = 144 + 15 * i from by omega]) ?_
        refine lv_iload_n hx hb dX0_copyFrom_145 rfl (lv_at hl 0 rfl) ?_
        refine va_aldq hx hb hK hP (144 + 15 * i) 4 (wl_at (by omega) (ce_15 (kd_c _ hi).2.2.2.2.2.2)) rfl (vp_in_iff.mpr ⟨by omega, by omega⟩) dX0_copyFrom_146 ?_
        refine W.eq (g2 := F0 m 147 ls [.ref (ad (145 + 15 * i + y29_2.toNatClampNeg)), .ref (ad (39 + 15 * i + y29_2.toNatClampNeg))]) (by rw [if_pos hx_32, show 144 + 15 * i + 1 + y29_2.toNatClampNeg = 145 + 15 * i + y29_2.toNatClampNeg from by omega]; rfl) ?_
        refine yw_v (w1 := fun (u : Nat → Nat → Int32) => wl ad kv cy N u) hD hS hA (va_runV (As := [.ref (ad (145 + 15 * i + y29_2.toNatClampNeg))]) (rest := []) ⟨hx, hb, hml, hown, hts⟩ (e_X6_copyFrom_a l dC dI cy _ ad kv N hN u29 hv i hi y29_2.toNatClampNeg hx_32 hN2) (cwV 1 hts gX0_copyFrom_X6_copyFrom rfl rfl rfl hd_V_X6_copyFrom_1 ⟨Nat.le_of_ble_eq_true rfl, Nat.le_of_ble_eq_true rfl⟩) (yw_preV hE hK hP hD (ci := 6) (q0 := (39 + 15 * i + y29_2.toNatClampNeg)) rfl (wl_at (by omega) (ce_16 (kd_t _ hi _ hx_32).1))) rfl rfl hl.1 rfl (lv_room (Nat.le_of_ble_eq_true rfl)) dX0_copyFrom_147 ⟨Nat.le_of_ble_eq_true rfl, Nat.le_of_ble_eq_true rfl⟩) (fun v_33 H locs hw_33 hP hD hS => ?_)
        obtain ⟨hv, hw_33⟩ := hw_33
        obtain ⟨x_34, ex_34⟩ : ∃ y : Int32, y = y29_2 + 1 := ⟨_, rfl⟩
        refine lv_iinc (v := x_34) (lv' := [(2, .int x_34), (0, .ref (ad (29 + 15 * i))), (1, .ref (ad (135 + 15 * i)))]) hx hb dX0_copyFrom_150 hl (k := 0) rfl (by rw [ex_34]; rfl) (by decide) rfl (fun ls hl => ?_)
        have tx_34 : x_34.toInt = y29_2.toInt + (1 : Int32).toInt := by rw [ex_34]; exact t_add ⟨by omega, by omega⟩
        refine lv_goto (tgt := 127) hx hb dX0_copyFrom_153 (by decide) ?_
        exact ih_29 x_34 v_33 _ _ (by omega) (by omega) (fun k j => by rw [hw_33 k j]; by_cases h : k = 39 + 15 * i + y29_2.toNatClampNeg ∧ j < 5; rw [if_pos h, if_pos (by omega), hi29_0, if_neg (by omega), h.1, show 39 + 15 * i + y29_2.toNatClampNeg + 106 = 145 + 15 * i + y29_2.toNatClampNeg from by omega]; rw [if_neg h, hi29_0 k j]; (repeat' split); all_goals first | rfl | (exfalso; omega)) (by omega) (by omega) hv hP hD hS ls (lv_sub hl [0, 1, 2] rfl)
  exact hc_29 ((5 - (0 : Int32).toInt).toNat + 1) 0 v_28 _ _ (by omega) (by omega) (fun k j => by rw [if_neg (by omega)]) (by omega) (by omega) hv hP hD hS ls (lv_sub hl [0, 1, 2] rfl)

set_option maxHeartbeats 4000000 in
set_option maxRecDepth 100000 in
theorem e_X0_copyFrom_b (l : Launch) (dC : Nat → ClassId) (dI : Nat → Nat → Nat) (cy : Nat → ClassId) (sz : Nat) (ad : Nat → Nat) (kv : Value) (N : Nat) (hN : 119 ≤ N) (v : Nat → Nat → Int32) (hv : Iv v) (i : Nat) (hi : i < 6) (hN2 : 225 ≤ N) : Met l yX0_copyFrom wsX0_copyFrom ({ frames := 1, cells := 0, slots := 0, locals := 64 }) (va_Pc [.ref (ad (135 + 15 * i)), .ref (ad (29 + 15 * i))] (ex_Pre dC dI cy sz (wl ad kv cy N v))) (va_Qv (fun (u : Nat → Nat → Int32) => Iv u ∧ (∀ o j : Nat, lvC (v (29 + 15 * i)) o j → u (135 + 15 * i + o) j = v (29 + 15 * i + o) j) ∧ (∀ k : Nat, (k < 135 + 15 * i ∨ 150 + 15 * i ≤ k) → u k = v k)) (fun u t => ex_Pst dC dI (va_A (wl ad kv cy N v) sz) (wl ad kv cy N u) t) (va_A (wl ad kv cy N v) sz)) 0 0 (va_A (wl ad kv cy N v) sz) := by
  refine Met.ofW (cc := cX0_copyFrom) (maxL := 3) (ret := none) (by decide) rfl ?_
  intro p e s m args below meth c s₁ B hml hv
  obtain ⟨rfl, hsz, hE, hP, hK, hD0⟩ := hv
  have hx := B.exec
  have hb := B.bytes
  have hr := B.returns
  have hts := atoms_spec (ws := wsX0_copyFrom) B.pre
  have hown : s.vm.findClass RX0 = some m.cls := findClass_of_methodNamed B.named
  have hlocks := B.notSynchronized
  subst hsz
  have hD := hD0.self (sz := s.heap.size)
  generalize hAe : va_A (wl ad kv cy N v) s.heap.size = A at hD ⊢
  have hA : ∀ q : Nat, s.heap.size ≤ q → A q := fun q h => by rw [← hAe]; exact Or.inr h
  have hS : va_S A s.heap s.heap [] := va_S.rf
  have hP : va_P (dC, dI) vwCl (wl ad kv cy N v) s.heap := hP
  have hl := lv_entry ([.ref (ad (135 + 15 * i)), .ref (ad (29 + 15 * i))]) (n := 3) (Nat.le_of_ble_eq_true rfl)
  rw [lg_entry_eq]
  generalize (lg_sl ([.ref (ad (135 + 15 * i)), .ref (ad (29 + 15 * i))]) ++ List.replicate (3 - (lg_sl ([.ref (ad (135 + 15 * i)), .ref (ad (29 + 15 * i))])).length) Slot.unset).toArray = ls at hl ⊢
  have hl : lv_has ls 3 [(0, .ref (ad (135 + 15 * i))), (1, .ref (ad (29 + 15 * i)))] := hl
  have hv0 := hv
  have hb5 := hv.at (k := 29 + 15 * i) (j := 5) (K := 9) (kd_c _ hi).1.1 rfl
  have hb2 := hv.at (k := 29 + 15 * i) (j := 2) (K := 9) (kd_c _ hi).1.1 rfl
  refine lv_aload_n hx hb dX0_copyFrom_0 rfl (lv_at hl 0 rfl) ?_
  refine lv_aload_n hx hb dX0_copyFrom_1 rfl (lv_at hl 1 rfl) ?_
  refine va_get (D := (dC, dI)) (ci := 0) (v := .int (v (29 + 15 * i) 0)) (C := RX0) (T := TX0) (N := 11) hx hb hts iwX0_copyFrom_X0 hown hK hP (29 + 15 * i) (wl_at (by omega) (ce_9 (kd_c _ hi).1.1)) rfl 0 (by decide) (hts (.fieldLink RX0 33 "QuietStairs$Case" "state" "I") fwX0_copyFrom_1) (fun _ h9 => h9) rfl dX0_copyFrom_2 ?_
  refine lv_topi (fun x_1 ex_1 => ?_)
  have qx_1 : x_1.toInt = (v (29 + 15 * i) (0)).toInt := congrArg Int32.toInt ex_1
  refine va_put (D := (dC, dI)) (ci := 0) (v := .int x_1) (ty := .int) (C := RX0) (T := TX0) (N := 11) hx hb hts iwX0_copyFrom_X0 tyX0 tyX0_ok nmX0 hown hK hP hD hS (135 + 15 * i) (wl_at (by omega) (ce_9 (kd_c _ hi).2.1)) rfl 0 (by decide) (hts (.fieldLink RX0 33 "QuietStairs$Case" "state" "I") fwX0_copyFrom_1) (fun _ h9 => h9) rfl (by decide +kernel) rfl rfl (Nat.le_of_ble_eq_true rfl) dX0_copyFrom_5 (fun H locs hP hD hS => ?_)
  obtain ⟨v_2, ev_2⟩ : ∃ u : Nat → Nat → Int32, u = upr v (135 + 15 * i) (upd (v (135 + 15 * i)) 0 x_1) := ⟨_, rfl⟩
  have hP : va_P (dC, dI) vwCl (wl ad kv cy N v_2) H := by rw [ev_2, ← wl_put (e := _) (ce_9 (kd_c _ hi).2.1)]; exact hP
  have hD : va_D A (wl ad kv cy N v_2) := by rw [ev_2, ← wl_put (e := _) (ce_9 (kd_c _ hi).2.1)]; exact hD
  have hv : Iv v_2 := by rw [ev_2]; exact hv.put (K := 9) (kd_c _ hi).2.1 (fun h q => by simp [bd] at q)
  refine lv_aload_n hx hb dX0_copyFrom_8 rfl (lv_at hl 0 rfl) ?_
  refine lv_aload_n hx hb dX0_copyFrom_9 rfl (lv_at hl 1 rfl) ?_
  refine va_get (D := (dC, dI)) (ci := 0) (v := .int (v_2 (29 + 15 * i) 1)) (C := RX0) (T := TX0) (N := 11) hx hb hts iwX0_copyFrom_X0 hown hK hP (29 + 15 * i) (wl_at (by omega) (ce_9 (kd_c _ hi).1.1)) rfl 1 (by decide) (hts (.fieldLink RX0 37 "QuietStairs$Case" "sum" "I") fwX0_copyFrom_2) (fun _ h9 => h9) rfl dX0_copyFrom_10 ?_
  refine lv_topi (fun x_3 ex_3 => ?_)
  rw [ev_2, upr_n (by omega)] at ex_3
  have qx_3 : x_3.toInt = (v (29 + 15 * i) (1)).toInt := congrArg Int32.toInt ex_3
  refine va_put (D := (dC, dI)) (ci := 0) (v := .int x_3) (ty := .int) (C := RX0) (T := TX0) (N := 11) hx hb hts iwX0_copyFrom_X0 tyX0 tyX0_ok nmX0 hown hK hP hD hS (135 + 15 * i) (wl_at (by omega) (ce_9 (kd_c _ hi).2.1)) rfl 1 (by decide) (hts (.fieldLink RX0 37 "QuietStairs$Case" "sum" "I") fwX0_copyFrom_2) (fun _ h9 => h9) rfl (by decide +kernel) rfl rfl (Nat.le_of_ble_eq_true rfl) dX0_copyFrom_13 (fun H locs hP hD hS => ?_)
  obtain ⟨v_4, ev_4⟩ : ∃ u : Nat → Nat → Int32, u = upr v_2 (135 + 15 * i) (upd (v_2 (135 + 15 * i)) 1 x_3) := ⟨_, rfl⟩
  have hP : va_P (dC, dI) vwCl (wl ad kv cy N v_4) H := by rw [ev_4, ← wl_put (e := _) (ce_9 (kd_c _ hi).2.1)]; exact hP
  have hD : va_D A (wl ad kv cy N v_4) := by rw [ev_4, ← wl_put (e := _) (ce_9 (kd_c _ hi).2.1)]; exact hD
  have hv : Iv v_4 := by rw [ev_4]; exact hv.put (K := 9) (kd_c _ hi).2.1 (fun h q => by simp [bd] at q)
  refine lv_aload_n hx hb dX0_copyFrom_16 rfl (lv_at hl 0 rfl) ?_
  refine lv_aload_n hx hb dX0_copyFrom_17 rfl (lv_at hl 1 rfl) ?_
  refine va_get (D := (dC, dI)) (ci := 0) (v := .int (v_4 (29 + 15 * i) 2)) (C := RX0) (T := TX0) (N := 11) hx hb hts iwX0_copyFrom_X0 hown hK hP (29 + 15 * i) (wl_at (by omega) (ce_9 (kd_c _ hi).1.1)) rfl 2 (by decide) (hts (.fieldLink RX0 40 "QuietStairs$Case" "roundsOver" "I") fwX0_copyFrom_3) (fun _ h9 => h9) rfl dX0_copyFrom_18 ?_
  refine lv_topi (fun x_5 ex_5 => ?_)
  have bzx_5 : 0 ≤ x_5.toInt ∧ x_5.toInt ≤ 5 := by rw [ex_5]; exact hv.at (K := 9) (kd_c _ hi).1.1 rfl
  rw [ev_4, upr_n (by omega), ev_2, upr_n (by omega)] at ex_5
  have qx_5 : x_5.toInt = (v (29 + 15 * i) (2)).toInt := congrArg Int32.toInt ex_5
  refine va_put (D := (dC, dI)) (ci := 0) (v := .int x_5) (ty := .int) (C := RX0) (T := TX0) (N := 11) hx hb hts iwX0_copyFrom_X0 tyX0 tyX0_ok nmX0 hown hK hP hD hS (135 + 15 * i) (wl_at (by omega) (ce_9 (kd_c _ hi).2.1)) rfl 2 (by decide) (hts (.fieldLink RX0 40 "QuietStairs$Case" "roundsOver" "I") fwX0_copyFrom_3) (fun _ h9 => h9) rfl (by decide +kernel) rfl rfl (Nat.le_of_ble_eq_true rfl) dX0_copyFrom_21 (fun H locs hP hD hS => ?_)
  obtain ⟨v_6, ev_6⟩ : ∃ u : Nat → Nat → Int32, u = upr v_4 (135 + 15 * i) (upd (v_4 (135 + 15 * i)) 2 x_5) := ⟨_, rfl⟩
  have hP : va_P (dC, dI) vwCl (wl ad kv cy N v_6) H := by rw [ev_6, ← wl_put (e := _) (ce_9 (kd_c _ hi).2.1)]; exact hP
  have hD : va_D A (wl ad kv cy N v_6) := by rw [ev_6, ← wl_put (e := _) (ce_9 (kd_c _ hi).2.1)]; exact hD
  have hv : Iv v_6 := by rw [ev_6]; exact hv.put (K := 9) (kd_c _ hi).2.1 (fun h q => by cases q; exact ⟨by omega, by omega⟩)
  refine lv_aload_n hx hb dX0_copyFrom_24 rfl (lv_at hl 0 rfl) ?_
  refine lv_aload_n hx hb dX0_copyFrom_25 rfl (lv_at hl 1 rfl) ?_
  refine va_get (D := (dC, dI)) (ci := 0) (v := .int (v_6 (29 + 15 * i) 3)) (C := RX0) (T := TX0) (N := 11) hx hb hts iwX0_copyFrom_X0 hown hK hP (29 + 15 * i) (wl_at (by omega) (ce_9 (kd_c _ hi).1.1)) rfl 3 (by decide) (hts (.fieldLink RX0 43 "QuietStairs$Case" "weight" "I") fwX0_copyFrom_4) (fun _ h9 => h9) rfl dX0_copyFrom_26 ?_
  refine lv_topi (fun x_7 ex_7 => ?_)
  rw [ev_6, upr_n (by omega), ev_4, upr_n (by omega), ev_2, upr_n (by omega)] at ex_7
  have qx_7 : x_7.toInt = (v (29 + 15 * i) (3)).toInt := congrArg Int32.toInt ex_7
  refine va_put (D := (dC, dI)) (ci := 0) (v := .int x_7) (ty := .int) (C := RX0) (T := TX0) (N := 11) hx hb hts iwX0_copyFrom_X0 tyX0 tyX0_ok nmX0 hown hK hP hD hS (135 + 15 * i) (wl_at (by omega) (ce_9 (kd_c _ hi).2.1)) rfl 3 (by decide) (hts (.fieldLink RX0 43 "QuietStairs$Case" "weight" "I") fwX0_copyFrom_4) (fun _ h9 => h9) rfl (by decide +kernel) rfl rfl (Nat.le_of_ble_eq_true rfl) dX0_copyFrom_29 (fun H locs hP hD hS => ?_)
  obtain ⟨v_8, ev_8⟩ : ∃ u : Nat → Nat → Int32, u = upr v_6 (135 + 15 * i) (upd (v_6 (135 + 15 * i)) 3 x_7) := ⟨_, rfl⟩
  have hP : va_P (dC, dI) vwCl (wl ad kv cy N v_8) H := by rw [ev_8, ← wl_put (e := _) (ce_9 (kd_c _ hi).2.1)]; exact hP
  have hD : va_D A (wl ad kv cy N v_8) := by rw [ev_8, ← wl_put (e := _) (ce_9 (kd_c _ hi).2.1)]; exact hD
  have hv : Iv v_8 := by rw [ev_8]; exact hv.put (K := 9) (kd_c _ hi).2.1 (fun h q => by simp [bd] at q)
  refine lv_aload_n hx hb dX0_copyFrom_32 rfl (lv_at hl 0 rfl) ?_
  refine lv_aload_n hx hb dX0_copyFrom_33 rfl (lv_at hl 1 rfl) ?_
  refine va_get (D := (dC, dI)) (ci := 0) (v := .int (v_8 (29 + 15 * i) 4)) (C := RX0) (T := TX0) (N := 11) hx hb hts iwX0_copyFrom_X0 hown hK hP (29 + 15 * i) (wl_at (by omega) (ce_9 (kd_c _ hi).1.1)) rfl 4 (by decide) (hts (.fieldLink RX0 46 "QuietStairs$Case" "markedBits" "I") fwX0_copyFrom_5) (fun _ h9 => h9) rfl dX0_copyFrom_34 ?_
  refine lv_topi (fun x_9 ex_9 => ?_)
  rw [ev_8, upr_n (by omega), ev_6, upr_n (by omega), ev_4, upr_n (by omega), ev_2, upr_n (by omega)] at ex_9
  have qx_9 : x_9.toInt = (v (29 + 15 * i) (4)).toInt := congrArg Int32.toInt ex_9
  refine va_put (D := (dC, dI)) (ci := 0) (v := .int x_9) (ty := .int) (C := RX0) (T := TX0) (N := 11) hx hb hts iwX0_copyFrom_X0 tyX0 tyX0_ok nmX0 hown hK hP hD hS (135 + 15 * i) (wl_at (by omega) (ce_9 (kd_c _ hi).2.1)) rfl 4 (by decide) (hts (.fieldLink RX0 46 "QuietStairs$Case" "markedBits" "I") fwX0_copyFrom_5) (fun _ h9 => h9) rfl (by decide +kernel) rfl rfl (Nat.le_of_ble_eq_true rfl) dX0_copyFrom_37 (fun H locs hP hD hS => ?_)
  obtain ⟨v_10, ev_10⟩ : ∃ u : Nat → Nat → Int32, u = upr v_8 (135 + 15 * i) (upd (v_8 (135 + 15 * i)) 4 x_9) := ⟨_, rfl⟩
  have hP : va_P (dC, dI) vwCl (wl ad kv cy N v_10) H := by rw [ev_10, ← wl_put (e := _) (ce_9 (kd_c _ hi).2.1)]; exact hP
  have hD : va_D A (wl ad kv cy N v_10) := by rw [ev_10, ← wl_put (e := _) (ce_9 (kd_c _ hi).2.1)]; exact hD
  have hv : Iv v_10 := by rw [ev_10]; exact hv.put (K := 9) (kd_c _ hi).2.1 (fun h q => by simp [bd] at q)
  refine lv_aload_n hx hb dX0_copyFrom_40 rfl (lv_at hl 0 rfl) ?_
  refine lv_aload_n hx hb dX0_copyFrom_41 rfl (lv_at hl 1 rfl) ?_
  refine va_get (D := (dC, dI)) (ci := 0) (v := .int (v_10 (29 + 15 * i) 5)) (C := RX0) (T := TX0) (N := 11) hx hb hts iwX0_copyFrom_X0 hown hK hP (29 + 15 * i) (wl_at (by omega) (ce_9 (kd_c _ hi).1.1)) rfl 5 (by decide) (hts (.fieldLink RX0 49 "QuietStairs$Case" "termCount" "I") fwX0_copyFrom_6) (fun _ h9 => h9) rfl dX0_copyFrom_42 ?_
  refine lv_topi (fun x_11 ex_11 => ?_)
  have bzx_11 : 0 ≤ x_11.toInt ∧ x_11.toInt ≤ 5 := by rw [ex_11]; exact hv.at (K := 9) (kd_c _ hi).1.1 rfl
  rw [ev_10, upr_n (by omega), ev_8, upr_n (by omega), ev_6, upr_n (by omega), ev_4, upr_n (by omega), ev_2, upr_n (by omega)] at ex_11
  have qx_11 : x_11.toInt = (v (29 + 15 * i) (5)).toInt := congrArg Int32.toInt ex_11
  refine va_put (D := (dC, dI)) (ci := 0) (v := .int x_11) (ty := .int) (C := RX0) (T := TX0) (N := 11) hx hb hts iwX0_copyFrom_X0 tyX0 tyX0_ok nmX0 hown hK hP hD hS (135 + 15 * i) (wl_at (by omega) (ce_9 (kd_c _ hi).2.1)) rfl 5 (by decide) (hts (.fieldLink RX0 49 "QuietStairs$Case" "termCount" "I") fwX0_copyFrom_6) (fun _ h9 => h9) rfl (by decide +kernel) rfl rfl (Nat.le_of_ble_eq_true rfl) dX0_copyFrom_45 (fun H locs hP hD hS => ?_)
  obtain ⟨v_12, ev_12⟩ : ∃ u : Nat → Nat → Int32, u = upr v_10 (135 + 15 * i) (upd (v_10 (135 + 15 * i)) 5 x_11) := ⟨_, rfl⟩
  have hP : va_P (dC, dI) vwCl (wl ad kv cy N v_12) H := by rw [ev_12, ← wl_put (e := _) (ce_9 (kd_c _ hi).2.1)]; exact hP
  have hD : va_D A (wl ad kv cy N v_12) := by rw [ev_12, ← wl_put (e := _) (ce_9 (kd_c _ hi).2.1)]; exact hD
  have hv : Iv v_12 := by rw [ev_12]; exact hv.put (K := 9) (kd_c _ hi).2.1 (fun h q => by cases q; exact ⟨by omega, by omega⟩)
  refine lv_iconst (v := 0) hx hb dX0_copyFrom_48 (by decide) ?_
  refine lv_istore_n (lv' := [(2, .int 0), (0, .ref (ad (135 + 15 * i))), (1, .ref (ad (29 + 15 * i)))]) hx hb dX0_copyFrom_49 rfl hl (by decide) rfl (fun ls hl => ?_)
  refine lv_iload_n hx hb dX0_copyFrom_50 rfl (lv_at hl 0 rfl) ?_
  refine lv_iconst (v := 2) hx hb dX0_copyFrom_51 (by decide) ?_
  refine lv_icmp_ge (tgt := 125) hx hb dX0_copyFrom_52 (by decide) (fun c9 => absurd c9 (by decide)) (fun _ => ?_)
  refine lv_aload_n hx hb dX0_copyFrom_55 rfl (lv_at hl 1 rfl) ?_
  refine va_get (D := (dC, dI)) (ci := 0) (v := .ref (ad (135 + 15 * i + 1))) (C := RX0) (T := TX0) (N := 11) hx hb hts iwX0_copyFrom_X0 hown hK hP (135 + 15 * i) (wl_at (by omega) (ce_9 (kd_c _ hi).2.1)) rfl 6 (by decide) (hts (.fieldLink RX0 9 "QuietStairs$Case" "parties" "[I") fwX0_copyFrom_7) (fun _ h9 => h9) rfl dX0_copyFrom_56 ?_
  refine W.eq (g2 := F0 m 59 ls [.ref (ad (136 + 15 * i))]) (by rw [show 135 + 15 * i + 1 = 136 + 15 * i from by omega]) ?_
  refine lv_iload_n hx hb dX0_copyFrom_59 rfl (lv_at hl 0 rfl) ?_
  refine lv_aload_n hx hb dX0_copyFrom_60 rfl (lv_at hl 2 rfl) ?_
  refine va_get (D := (dC, dI)) (ci := 0) (v := .ref (ad (29 + 15 * i + 1))) (C := RX0) (T := TX0) (N := 11) hx hb hts iwX0_copyFrom_X0 hown hK hP (29 + 15 * i) (wl_at (by omega) (ce_9 (kd_c _ hi).1.1)) rfl 6 (by decide) (hts (.fieldLink RX0 9 "QuietStairs$Case" "parties" "[I") fwX0_copyFrom_7) (fun _ h9 => h9) rfl dX0_copyFrom_61 ?_
  refine W.eq (g2 := F0 m 64 ls [.ref (ad (30 + 15 * i)), .int 0, .ref (ad (136 + 15 * i))]) (by rw [show 29 + 15 * i + 1 = 30 + 15 * i from by omega]) ?_
  refine lv_iload_n hx hb dX0_copyFrom_64 rfl (lv_at hl 0 rfl) ?_
  have k_0 : (0 : Int32).toInt = 0 := by decide
  refine va_iald hx hb hK hP (30 + 15 * i) 0 (wl_at (by omega) (ce_10 (kd_c _ hi).1.2.1)) rfl (by unfold vp_in; decide) dX0_copyFrom_65 ?_
  refine lv_topi (fun x_13 ex_13 => ?_)
  have ex_13 : x_13 = v_12 (30 + 15 * i) 0 := ex_13
  have bzx_13 : 0 ≤ x_13.toInt ∧ x_13.toInt ≤ 7 := by rw [ex_13]; exact hv.at (K := 10) (kd_c _ hi).1.2.1 rfl
  rw [ev_12, upr_n (by omega), ev_10, upr_n (by omega), ev_8, upr_n (by omega), ev_6, upr_n (by omega), ev_4, upr_n (by omega), ev_2, upr_n (by omega)] at ex_13
  have qx_13 : x_13.toInt = (v (30 + 15 * i) (0)).toInt := congrArg Int32.toInt ex_13
  refine va_iast hx hb hK hP hD hS (136 + 15 * i) 0 (wl_at (by omega) (ce_10 (kd_c _ hi).2.2.1)) rfl (by unfold vp_in; decide) dX0_copyFrom_66 (fun H locs hP hD hS => ?_)
  have hP : va_P (dC, dI) vwCl ((wl ad kv cy N v_12).set (136 + 15 * i) (ad (136 + 15 * i), .inl (cy 0, 2, .inl (upd (v_12 (136 + 15 * i)) 0 x_13)))) H := hP
  have hD : va_D A ((wl ad kv cy N v_12).set (136 + 15 * i) (ad (136 + 15 * i), .inl (cy 0, 2, .inl (upd (v_12 (136 + 15 * i)) 0 x_13)))) := hD
  obtain ⟨v_14, ev_14⟩ : ∃ u : Nat → Nat → Int32, u = upr v_12 (136 + 15 * i) (upd (v_12 (136 + 15 * i)) 0 x_13) := ⟨_, rfl⟩
  have hP : va_P (dC, dI) vwCl (wl ad kv cy N v_14) H := by rw [ev_14, ← wl_put (e := _) (ce_10 (kd_c _ hi).2.2.1)]; exact hP
  have hD : va_D A (wl ad kv cy N v_14) := by rw [ev_14, ← wl_put (e := _) (ce_10 (kd_c _ hi).2.2.1)]; exact hD
  have hv : Iv v_14 := by rw [ev_14]; exact hv.put (K := 10) (kd_c _ hi).2.2.1 (fun h q => by cases q; exact ⟨by omega, by omega⟩)
  refine lv_aload_n hx hb dX0_copyFrom_67 rfl (lv_at hl 1 rfl) ?_
  refine va_get (D := (dC, dI)) (ci := 0) (v := .ref (ad (135 + 15 * i + 2))) (C := RX0) (T := TX0) (N := 11) hx hb hts iwX0_copyFrom_X0 hown hK hP (135 + 15 * i) (wl_at (by omega) (ce_9 (kd_c _ hi).2.1)) rfl 7 (by decide) (hts (.fieldLink RX0 15 "QuietStairs$Case" "box" "[I") fwX0_copyFrom_8) (fun _ h9 => h9) rfl dX0_copyFrom_68 ?_
  refine W.eq (g2 := F0 m 71 ls [.ref (ad (137 + 15 * i))]) (by rw [show 135 + 15 * i + 2 = 137 + 15 * i from by omega]) ?_
  refine lv_iload_n hx hb dX0_copyFrom_71 rfl (lv_at hl 0 rfl) ?_
  refine lv_aload_n hx hb dX0_copyFrom_72 rfl (lv_at hl 2 rfl) ?_
  refine va_get (D := (dC, dI)) (ci := 0) (v := .ref (ad (29 + 15 * i + 2))) (C := RX0) (T := TX0) (N := 11) hx hb hts iwX0_copyFrom_X0 hown hK hP (29 + 15 * i) (wl_at (by omega) (ce_9 (kd_c _ hi).1.1)) rfl 7 (by decide) (hts (.fieldLink RX0 15 "QuietStairs$Case" "box" "[I") fwX0_copyFrom_8) (fun _ h9 => h9) rfl dX0_copyFrom_73 ?_
  refine W.eq (g2 := F0 m 76 ls [.ref (ad (31 + 15 * i)), .int 0, .ref (ad (137 + 15 * i))]) (by rw [show 29 + 15 * i + 2 = 31 + 15 * i from by omega]) ?_
  refine lv_iload_n hx hb dX0_copyFrom_76 rfl (lv_at hl 0 rfl) ?_
  refine va_iald hx hb hK hP (31 + 15 * i) 0 (wl_at (by omega) (ce_20 (kd_c _ hi).1.2.2.1)) rfl (by unfold vp_in; decide) dX0_copyFrom_77 ?_
  refine lv_topi (fun x_15 ex_15 => ?_)
  have ex_15 : x_15 = v_14 (31 + 15 * i) 0 := ex_15
  rw [ev_14, upr_n (by omega), ev_12, upr_n (by omega), ev_10, upr_n (by omega), ev_8, upr_n (by omega), ev_6, upr_n (by omega), ev_4, upr_n (by omega), ev_2, upr_n (by omega)] at ex_15
  have qx_15 : x_15.toInt = (v (31 + 15 * i) (0)).toInt := congrArg Int32.toInt ex_15
  refine va_iast hx hb hK hP hD hS (137 + 15 * i) 0 (wl_at (by omega) (ce_20 (kd_c _ hi).2.2.2.1)) rfl (by unfold vp_in; decide) dX0_copyFrom_78 (fun H locs hP hD hS => ?_)
  have hP : va_P (dC, dI) vwCl ((wl ad kv cy N v_14).set (137 + 15 * i) (ad (137 + 15 * i), .inl (cy 0, 2, .inl (upd (v_14 (137 + 15 * i)) 0 x_15)))) H := hP
  have hD : va_D A ((wl ad kv cy N v_14).set (137 + 15 * i) (ad (137 + 15 * i), .inl (cy 0, 2, .inl (upd (v_14 (137 + 15 * i)) 0 x_15)))) := hD
  obtain ⟨v_16, ev_16⟩ : ∃ u : Nat → Nat → Int32, u = upr v_14 (137 + 15 * i) (upd (v_14 (137 + 15 * i)) 0 x_15) := ⟨_, rfl⟩
  have hP : va_P (dC, dI) vwCl (wl ad kv cy N v_16) H := by rw [ev_16, ← wl_put (e := _) (ce_20 (kd_c _ hi).2.2.2.1)]; exact hP
  have hD : va_D A (wl ad kv cy N v_16) := by rw [ev_16, ← wl_put (e := _) (ce_20 (kd_c _ hi).2.2.2.1)]; exact hD
  have hv : Iv v_16 := by rw [ev_16]; exact hv.put (K := 20) (kd_c _ hi).2.2.2.1 (fun h q => by simp [bd] at q)
  refine lv_aload_n hx hb dX0_copyFrom_79 rfl (lv_at hl 2 rfl) ?_
  refine va_get (D := (dC, dI)) (ci := 0) (v := .ref (ad (29 + 15 * i + 3))) (C := RX0) (T := TX0) (N := 11) hx hb hts iwX0_copyFrom_X0 hown hK hP (29 + 15 * i) (wl_at (by omega) (ce_9 (kd_c _ hi).1.1)) rfl 8 (by decide) (hts (.fieldLink RX0 20 "QuietStairs$Case" "offers" "[[I") fwX0_copyFrom_9) (fun _ h9 => h9) rfl dX0_copyFrom_80 ?_
  refine W.eq (g2 := F0 m 83 ls [.ref (ad (32 + 15 * i))]) (by rw [show 29 + 15 * i + 3 = 32 + 15 * i from by omega]) ?_
  refine lv_iload_n hx hb dX0_copyFrom_83 rfl (lv_at hl 0 rfl) ?_
  refine ya_ald hx hb hK hP (32 + 15 * i) (wl_at (by omega) (ce_11 (kd_c _ hi).1.2.2.2.1)) (by unfold vp_in; decide) dX0_copyFrom_84 ?_
  refine W.eq (g2 := F0 m 85 ls [.ref (ad (33 + 15 * i + 0))]) (by show F0 m 85 ls (.ref (ad (32 + 15 * i + 1 + 0)) :: _) = _; rw [show 32 + 15 * i + 1 + 0 = 33 + 15 * i + 0 from by omega]) ?_
  refine lv_iconst (v := 0) hx hb dX0_copyFrom_85 (by decide) ?_
  refine lv_aload_n hx hb dX0_copyFrom_86 rfl (lv_at hl 1 rfl) ?_
  refine va_get (D := (dC, dI)) (ci := 0) (v := .ref (ad (135 + 15 * i + 3))) (C := RX0) (T := TX0) (N := 11) hx hb hts iwX0_copyFrom_X0 hown hK hP (135 + 15 * i) (wl_at (by omega) (ce_9 (kd_c _ hi).2.1)) rfl 8 (by decide) (hts (.fieldLink RX0 20 "QuietStairs$Case" "offers" "[[I") fwX0_copyFrom_9) (fun _ h9 => h9) rfl dX0_copyFrom_87 ?_
  refine W.eq (g2 := F0 m 90 ls [.ref (ad (138 + 15 * i)), .int 0, .ref (ad (33 + 15 * i + 0))]) (by rw [show 135 + 15 * i + 3 = 138 + 15 * i from by omega]) ?_
  refine lv_iload_n hx hb dX0_copyFrom_90 rfl (lv_at hl 0 rfl) ?_
  refine ya_ald hx hb hK hP (138 + 15 * i) (wl_at (by omega) (ce_11 (kd_c _ hi).2.2.2.2.1)) (by unfold vp_in; decide) dX0_copyFrom_91 ?_
  refine W.eq (g2 := F0 m 92 ls [.ref (ad (139 + 15 * i + 0)), .int 0, .ref (ad (33 + 15 * i + 0))]) (by show F0 m 92 ls (.ref (ad (138 + 15 * i + 1 + 0)) :: _) = _; rw [show 138 + 15 * i + 1 + 0 = 139 + 15 * i + 0 from by omega]) ?_
  refine lv_iconst (v := 0) hx hb dX0_copyFrom_92 (by decide) ?_
  refine lv_aload_n hx hb dX0_copyFrom_93 rfl (lv_at hl 1 rfl) ?_
  refine va_get (D := (dC, dI)) (ci := 0) (v := .int (v_16 (135 + 15 * i) 2)) (C := RX0) (T := TX0) (N := 11) hx hb hts iwX0_copyFrom_X0 hown hK hP (135 + 15 * i) (wl_at (by omega) (ce_9 (kd_c _ hi).2.1)) rfl 2 (by decide) (hts (.fieldLink RX0 40 "QuietStairs$Case" "roundsOver" "I") fwX0_copyFrom_3) (fun _ h9 => h9) rfl dX0_copyFrom_94 ?_
  refine lv_topi (fun x_17 ex_17 => ?_)
  have bzx_17 : 0 ≤ x_17.toInt ∧ x_17.toInt ≤ 5 := by rw [ex_17]; exact hv.at (K := 9) (kd_c _ hi).2.1 rfl
  rw [ev_16, upr_n (by omega), ev_14, upr_n (by omega), ev_12, upr_s, pk_un (by decide), ev_10, upr_s, pk_un (by decide), ev_8, upr_s, pk_un (by decide), ev_6, upr_s, pk_us] at ex_17
  obtain rfl : x_5 = x_17 := ex_17.symm
  have zn_x_5 : (x_5.toNatClampNeg : Int) = x_5.toInt := t_nn (by omega)
  have hn_18 := t_n (x := x_5) (m := 5) ⟨by omega, by omega⟩
  refine va_copyi hx hb (hml.trans hl.1.symm) hown (hts (.methodLink RX0 81 arraycopyName) fwX0_copyFrom_10) (hts (.native arraycopyName) fwX0_copyFrom_11) (hts (.static arraycopyName) fwX0_copyFrom_12) (hts (.initialized "java/lang/System") fwX0_copyFrom_13) hK hP hD hS (33 + 15 * i + 0) (139 + 15 * i + 0) 0 0 (wl_at (by omega) (ce_12 (kd_o _ hi 0 (by decide)).1.1)) (wl_at (by omega) (ce_12 (kd_o _ hi 0 (by decide)).2.1)) rfl rfl rfl (by decide) (by decide) hn_18.1 (by rw [sb_cl0]; have := hn_18.2; omega) (by rw [sb_cl0]; have := hn_18.2; omega) (fun i hi => rfl) (Nat.le_of_ble_eq_true rfl) (Nat.le_of_ble_eq_true rfl) dX0_copyFrom_97 (fun H locs hP hD hS => ?_)
  obtain ⟨v_19, ev_19⟩ : ∃ u : Nat → Nat → Int32, u = upr v_16 (139 + 15 * i + 0) (va_cpy (v_16 (33 + 15 * i + 0)) (v_16 (139 + 15 * i + 0)) (0 : Int32).toNatClampNeg (0 : Int32).toNatClampNeg x_5.toNatClampNeg) := ⟨_, rfl⟩
  have hP : va_P (dC, dI) vwCl (wl ad kv cy N v_19) H := by rw [ev_19, ← wl_put (e := _) (ce_12 (kd_o _ hi 0 (by decide)).2.1)]; exact hP
  have hD : va_D A (wl ad kv cy N v_19) := by rw [ev_19, ← wl_put (e := _) (ce_12 (kd_o _ hi 0 (by decide)).2.1)]; exact hD
  have hv : Iv v_19 := by rw [ev_19]; exact hv.row (K := 12) (kd_o _ hi 0 (by decide)).2.1 (fun j => rfl)
  have hs_19 : v_16 (33 + 15 * i + 0) = v (33 + 15 * i + 0) := by rw [ev_16, upr_n (by omega), ev_14, upr_n (by omega), ev_12, upr_n (by omega), ev_10, upr_n (by omega), ev_8, upr_n (by omega), ev_6, upr_n (by omega), ev_4, upr_n (by omega), ev_2, upr_n (by omega)]
  rw [hs_19] at ev_19
  refine lv_aload_n hx hb dX0_copyFrom_100 rfl (lv_at hl 2 rfl) ?_
  refine va_get (D := (dC, dI)) (ci := 0) (v := .ref (ad (29 + 15 * i + 6))) (C := RX0) (T := TX0) (N := 11) hx hb hts iwX0_copyFrom_X0 hown hK hP (29 + 15 * i) (wl_at (by omega) (ce_9 (kd_c _ hi).1.1)) rfl 9 (by decide) (hts (.fieldLink RX0 23 "QuietStairs$Case" "logs" "[[I") fwX0_copyFrom_14) (fun _ h9 => h9) rfl dX0_copyFrom_101 ?_
  refine W.eq (g2 := F0 m 104 ls [.ref (ad (35 + 15 * i))]) (by rw [show 29 + 15 * i + 6 = 35 + 15 * i from by omega]) ?_
  refine lv_iload_n hx hb dX0_copyFrom_104 rfl (lv_at hl 0 rfl) ?_
  refine ya_ald hx hb hK hP (35 + 15 * i) (wl_at (by omega) (ce_13 (kd_c _ hi).1.2.2.2.2.1)) (by unfold vp_in; decide) dX0_copyFrom_105 ?_
  refine W.eq (g2 := F0 m 106 ls [.ref (ad (36 + 15 * i + 0))]) (by show F0 m 106 ls (.ref (ad (35 + 15 * i + 1 + 0)) :: _) = _; rw [show 35 + 15 * i + 1 + 0 = 36 + 15 * i + 0 from by omega]) ?_
  refine lv_iconst (v := 0) hx hb dX0_copyFrom_106 (by decide) ?_
  refine lv_aload_n hx hb dX0_copyFrom_107 rfl (lv_at hl 1 rfl) ?_
  refine va_get (D := (dC, dI)) (ci := 0) (v := .ref (ad (135 + 15 * i + 6))) (C := RX0) (T := TX0) (N := 11) hx hb hts iwX0_copyFrom_X0 hown hK hP (135 + 15 * i) (wl_at (by omega) (ce_9 (kd_c _ hi).2.1)) rfl 9 (by decide) (hts (.fieldLink RX0 23 "QuietStairs$Case" "logs" "[[I") fwX0_copyFrom_14) (fun _ h9 => h9) rfl dX0_copyFrom_108 ?_
  refine W.eq (g2 := F0 m 111 ls [.ref (ad (141 + 15 * i)), .int 0, .ref (ad (36 + 15 * i + 0))]) (by rw [show 135 + 15 * i + 6 = 141 + 15 * i from by omega]) ?_
  refine lv_iload_n hx hb dX0_copyFrom_111 rfl (lv_at hl 0 rfl) ?_
  refine ya_ald hx hb hK hP (141 + 15 * i) (wl_at (by omega) (ce_13 (kd_c _ hi).2.2.2.2.2.1)) (by unfold vp_in; decide) dX0_copyFrom_112 ?_
  refine W.eq (g2 := F0 m 113 ls [.ref (ad (142 + 15 * i + 0)), .int 0, .ref (ad (36 + 15 * i + 0))]) (by show F0 m 113 ls (.ref (ad (141 + 15 * i + 1 + 0)) :: _) = _; rw [show 141 + 15 * i + 1 + 0 = 142 + 15 * i + 0 from by omega]) ?_
  refine lv_iconst (v := 0) hx hb dX0_copyFrom_113 (by decide) ?_
  refine lv_bipush (v := 24) hx hb dX0_copyFrom_114 (by decide) ?_
  refine va_copyi hx hb (hml.trans hl.1.symm) hown (hts (.methodLink RX0 81 arraycopyName) fwX0_copyFrom_10) (hts (.native arraycopyName) fwX0_copyFrom_11) (hts (.static arraycopyName) fwX0_copyFrom_12) (hts (.initialized "java/lang/System") fwX0_copyFrom_13) hK hP hD hS (36 + 15 * i + 0) (142 + 15 * i + 0) 0 0 (wl_at (by omega) (ce_14 (kd_o _ hi 0 (by decide)).1.2)) (wl_at (by omega) (ce_14 (kd_o _ hi 0 (by decide)).2.2)) rfl rfl rfl (by decide) (by decide) (by decide) (by decide) (by decide) (fun i hi => rfl) (Nat.le_of_ble_eq_true rfl) (Nat.le_of_ble_eq_true rfl) dX0_copyFrom_116 (fun H locs hP hD hS => ?_)
  obtain ⟨v_20, ev_20⟩ : ∃ u : Nat → Nat → Int32, u = upr v_19 (142 + 15 * i + 0) (va_cpy (v_19 (36 + 15 * i + 0)) (v_19 (142 + 15 * i + 0)) (0 : Int32).toNatClampNeg (0 : Int32).toNatClampNeg (24 : Int32).toNatClampNeg) := ⟨_, rfl⟩
  have hP : va_P (dC, dI) vwCl (wl ad kv cy N v_20) H := by rw [ev_20, ← wl_put (e := _) (ce_14 (kd_o _ hi 0 (by decide)).2.2)]; exact hP
  have hD : va_D A (wl ad kv cy N v_20) := by rw [ev_20, ← wl_put (e := _) (ce_14 (kd_o _ hi 0 (by decide)).2.2)]; exact hD
  have hv : Iv v_20 := by rw [ev_20]; exact hv.row (K := 14) (kd_o _ hi 0 (by decide)).2.2 (fun j => rfl)
  have ev_20 : v_20 = upr v_19 (142 + 15 * i + 0) (va_cpy (v_19 (36 + 15 * i + 0)) (v_19 (142 + 15 * i + 0)) (0 : Int32).toNatClampNeg (0 : Int32).toNatClampNeg 24) := ev_20
  have hs_20 : v_19 (36 + 15 * i + 0) = v (36 + 15 * i + 0) := by rw [ev_19, upr_n (by omega), ev_16, upr_n (by omega), ev_14, upr_n (by omega), ev_12, upr_n (by omega), ev_10, upr_n (by omega), ev_8, upr_n (by omega), ev_6, upr_n (by omega), ev_4, upr_n (by omega), ev_2, upr_n (by omega)]
  rw [hs_20] at ev_20
  refine lv_iinc (v := 1) (lv' := [(2, .int 1), (0, .ref (ad (135 + 15 * i))), (1, .ref (ad (29 + 15 * i)))]) hx hb dX0_copyFrom_119 hl (k := 0) rfl (by decide) (by decide) rfl (fun ls hl => ?_)
  refine lv_goto (tgt := 50) hx hb dX0_copyFrom_122 (by decide) ?_
  refine lv_iload_n hx hb dX0_copyFrom_50 rfl (lv_at hl 0 rfl) ?_
  refine lv_iconst (v := 2) hx hb dX0_copyFrom_51 (by decide) ?_
  refine lv_icmp_ge (tgt := 125) hx hb dX0_copyFrom_52 (by decide) (fun c9 => absurd c9 (by decide)) (fun _ => ?_)
  refine lv_aload_n hx hb dX0_copyFrom_55 rfl (lv_at hl 1 rfl) ?_
  refine va_get (D := (dC, dI)) (ci := 0) (v := .ref (ad (135 + 15 * i + 1))) (C := RX0) (T := TX0) (N := 11) hx hb hts iwX0_copyFrom_X0 hown hK hP (135 + 15 * i) (wl_at (by omega) (ce_9 (kd_c _ hi).2.1)) rfl 6 (by decide) (hts (.fieldLink RX0 9 "QuietStairs$Case" "parties" "[I") fwX0_copyFrom_7) (fun _ h9 => h9) rfl dX0_copyFrom_56 ?_
  refine W.eq (g2 := F0 m 59 ls [.ref (ad (136 + 15 * i))]) (by rw [show 135 + 15 * i + 1 = 136 + 15 * i from by omega]) ?_
  refine lv_iload_n hx hb dX0_copyFrom_59 rfl (lv_at hl 0 rfl) ?_
  refine lv_aload_n hx hb dX0_copyFrom_60 rfl (lv_at hl 2 rfl) ?_
  refine va_get (D := (dC, dI)) (ci := 0) (v := .ref (ad (29 + 15 * i + 1))) (C := RX0) (T := TX0) (N := 11) hx hb hts iwX0_copyFrom_X0 hown hK hP (29 + 15 * i) (wl_at (by omega) (ce_9 (kd_c _ hi).1.1)) rfl 6 (by decide) (hts (.fieldLink RX0 9 "QuietStairs$Case" "parties" "[I") fwX0_copyFrom_7) (fun _ h9 => h9) rfl dX0_copyFrom_61 ?_
  refine W.eq (g2 := F0 m 64 ls [.ref (ad (30 + 15 * i)), .int 1, .ref (ad (136 + 15 * i))]) (by rw [show 29 + 15 * i + 1 = 30 + 15 * i from by omega]) ?_
  refine lv_iload_n hx hb dX0_copyFrom_64 rfl (lv_at hl 0 rfl) ?_
  have k_1 : (1 : Int32).toInt = 1 := by decide
  refine va_iald hx hb hK hP (30 + 15 * i) 0 (wl_at (by omega) (ce_10 (kd_c _ hi).1.2.1)) rfl (by unfold vp_in; decide) dX0_copyFrom_65 ?_
  refine lv_topi (fun x_21 ex_21 => ?_)
  have ex_21 : x_21 = v_20 (30 + 15 * i) 1 := ex_21
  have bzx_21 : 0 ≤ x_21.toInt ∧ x_21.toInt ≤ 7 := by rw [ex_21]; exact hv.at (K := 10) (kd_c _ hi).1.2.1 rfl
  rw [ev_20, upr_n (by omega), ev_19, upr_n (by omega), ev_16, upr_n (by omega), ev_14, upr_n (by omega), ev_12, upr_n (by omega), ev_10, upr_n (by omega), ev_8, upr_n (by omega), ev_6, upr_n (by omega), ev_4, upr_n (by omega), ev_2, upr_n (by omega)] at ex_21
  have qx_21 : x_21.toInt = (v (30 + 15 * i) (1)).toInt := congrArg Int32.toInt ex_21
  refine va_iast hx hb hK hP hD hS (136 + 15 * i) 0 (wl_at (by omega) (ce_10 (kd_c _ hi).2.2.1)) rfl (by unfold vp_in; decide) dX0_copyFrom_66 (fun H locs hP hD hS => ?_)
  have hP : va_P (dC, dI) vwCl ((wl ad kv cy N v_20).set (136 + 15 * i) (ad (136 + 15 * i), .inl (cy 0, 2, .inl (upd (v_20 (136 + 15 * i)) 1 x_21)))) H := hP
  have hD : va_D A ((wl ad kv cy N v_20).set (136 + 15 * i) (ad (136 + 15 * i), .inl (cy 0, 2, .inl (upd (v_20 (136 + 15 * i)) 1 x_21)))) := hD
  obtain ⟨v_22, ev_22⟩ : ∃ u : Nat → Nat → Int32, u = upr v_20 (136 + 15 * i) (upd (v_20 (136 + 15 * i)) 1 x_21) := ⟨_, rfl⟩
  have hP : va_P (dC, dI) vwCl (wl ad kv cy N v_22) H := by rw [ev_22, ← wl_put (e := _) (ce_10 (kd_c _ hi).2.2.1)]; exact hP
  have hD : va_D A (wl ad kv cy N v_22) := by rw [ev_22, ← wl_put (e := _) (ce_10 (kd_c _ hi).2.2.1)]; exact hD
  have hv : Iv v_22 := by rw [ev_22]; exact hv.put (K := 10) (kd_c _ hi).2.2.1 (fun h q => by cases q; exact ⟨by omega, by omega⟩)
  refine lv_aload_n hx hb dX0_copyFrom_67 rfl (lv_at hl 1 rfl) ?_
  refine va_get (D := (dC, dI)) (ci := 0) (v := .ref (ad (135 + 15 * i + 2))) (C := RX0) (T := TX0) (N := 11) hx hb hts iwX0_copyFrom_X0 hown hK hP (135 + 15 * i) (wl_at (by omega) (ce_9 (kd_c _ hi).2.1)) rfl 7 (by decide) (hts (.fieldLink RX0 15 "QuietStairs$Case" "box" "[I") fwX0_copyFrom_8) (fun _ h9 => h9) rfl dX0_copyFrom_68 ?_
  refine W.eq (g2 := F0 m 71 ls [.ref (ad (137 + 15 * i))]) (by rw [show 135 + 15 * i + 2 = 137 + 15 * i from by omega]) ?_
  refine lv_iload_n hx hb dX0_copyFrom_71 rfl (lv_at hl 0 rfl) ?_
  refine lv_aload_n hx hb dX0_copyFrom_72 rfl (lv_at hl 2 rfl) ?_
  refine va_get (D := (dC, dI)) (ci := 0) (v := .ref (ad (29 + 15 * i + 2))) (C := RX0) (T := TX0) (N := 11) hx hb hts iwX0_copyFrom_X0 hown hK hP (29 + 15 * i) (wl_at (by omega) (ce_9 (kd_c _ hi).1.1)) rfl 7 (by decide) (hts (.fieldLink RX0 15 "QuietStairs$Case" "box" "[I") fwX0_copyFrom_8) (fun _ h9 => h9) rfl dX0_copyFrom_73 ?_
  refine W.eq (g2 := F0 m 76 ls [.ref (ad (31 + 15 * i)), .int 1, .ref (ad (137 + 15 * i))]) (by rw [show 29 + 15 * i + 2 = 31 + 15 * i from by omega]) ?_
  refine lv_iload_n hx hb dX0_copyFrom_76 rfl (lv_at hl 0 rfl) ?_
  refine va_iald hx hb hK hP (31 + 15 * i) 0 (wl_at (by omega) (ce_20 (kd_c _ hi).1.2.2.1)) rfl (by unfold vp_in; decide) dX0_copyFrom_77 ?_
  refine lv_topi (fun x_23 ex_23 => ?_)
  have ex_23 : x_23 = v_22 (31 + 15 * i) 1 := ex_23
  rw [ev_22, upr_n (by omega), ev_20, upr_n (by omega), ev_19, upr_n (by omega), ev_16, upr_n (by omega), ev_14, upr_n (by omega), ev_12, upr_n (by omega), ev_10, upr_n (by omega), ev_8, upr_n (by omega), ev_6, upr_n (by omega), ev_4, upr_n (by omega), ev_2, upr_n (by omega)] at ex_23
  have qx_23 : x_23.toInt = (v (31 + 15 * i) (1)).toInt := congrArg Int32.toInt ex_23
  refine va_iast hx hb hK hP hD hS (137 + 15 * i) 0 (wl_at (by omega) (ce_20 (kd_c _ hi).2.2.2.1)) rfl (by unfold vp_in; decide) dX0_copyFrom_78 (fun H locs hP hD hS => ?_)
  have hP : va_P (dC, dI) vwCl ((wl ad kv cy N v_22).set (137 + 15 * i) (ad (137 + 15 * i), .inl (cy 0, 2, .inl (upd (v_22 (137 + 15 * i)) 1 x_23)))) H := hP
  have hD : va_D A ((wl ad kv cy N v_22).set (137 + 15 * i) (ad (137 + 15 * i), .inl (cy 0, 2, .inl (upd (v_22 (137 + 15 * i)) 1 x_23)))) := hD
  obtain ⟨v_24, ev_24⟩ : ∃ u : Nat → Nat → Int32, u = upr v_22 (137 + 15 * i) (upd (v_22 (137 + 15 * i)) 1 x_23) := ⟨_, rfl⟩
  have hP : va_P (dC, dI) vwCl (wl ad kv cy N v_24) H := by rw [ev_24, ← wl_put (e := _) (ce_20 (kd_c _ hi).2.2.2.1)]; exact hP
  have hD : va_D A (wl ad kv cy N v_24) := by rw [ev_24, ← wl_put (e := _) (ce_20 (kd_c _ hi).2.2.2.1)]; exact hD
  have hv : Iv v_24 := by rw [ev_24]; exact hv.put (K := 20) (kd_c _ hi).2.2.2.1 (fun h q => by simp [bd] at q)
  refine lv_aload_n hx hb dX0_copyFrom_79 rfl (lv_at hl 2 rfl) ?_
  refine va_get (D := (dC, dI)) (ci := 0) (v := .ref (ad (29 + 15 * i + 3))) (C := RX0) (T := TX0) (N := 11) hx hb hts iwX0_copyFrom_X0 hown hK hP (29 + 15 * i) (wl_at (by omega) (ce_9 (kd_c _ hi).1.1)) rfl 8 (by decide) (hts (.fieldLink RX0 20 "QuietStairs$Case" "offers" "[[I") fwX0_copyFrom_9) (fun _ h9 => h9) rfl dX0_copyFrom_80 ?_
  refine W.eq (g2 := F0 m 83 ls [.ref (ad (32 + 15 * i))]) (by rw [show 29 + 15 * i + 3 = 32 + 15 * i from by omega]) ?_
  refine lv_iload_n hx hb dX0_copyFrom_83 rfl (lv_at hl 0 rfl) ?_
  refine ya_ald hx hb hK hP (32 + 15 * i) (wl_at (by omega) (ce_11 (kd_c _ hi).1.2.2.2.1)) (by unfold vp_in; decide) dX0_copyFrom_84 ?_
  refine W.eq (g2 := F0 m 85 ls [.ref (ad (33 + 15 * i + 1))]) (by show F0 m 85 ls (.ref (ad (32 + 15 * i + 1 + 1)) :: _) = _; rw [show 32 + 15 * i + 1 + 1 = 33 + 15 * i + 1 from by omega]) ?_
  refine lv_iconst (v := 0) hx hb dX0_copyFrom_85 (by decide) ?_
  refine lv_aload_n hx hb dX0_copyFrom_86 rfl (lv_at hl 1 rfl) ?_
  refine va_get (D := (dC, dI)) (ci := 0) (v := .ref (ad (135 + 15 * i + 3))) (C := RX0) (T := TX0) (N := 11) hx hb hts iwX0_copyFrom_X0 hown hK hP (135 + 15 * i) (wl_at (by omega) (ce_9 (kd_c _ hi).2.1)) rfl 8 (by decide) (hts (.fieldLink RX0 20 "QuietStairs$Case" "offers" "[[I") fwX0_copyFrom_9) (fun _ h9 => h9) rfl dX0_copyFrom_87 ?_
  refine W.eq (g2 := F0 m 90 ls [.ref (ad (138 + 15 * i)), .int 0, .ref (ad (33 + 15 * i + 1))]) (by rw [show 135 + 15 * i + 3 = 138 + 15 * i from by omega]) ?_
  refine lv_iload_n hx hb dX0_copyFrom_90 rfl (lv_at hl 0 rfl) ?_
  refine ya_ald hx hb hK hP (138 + 15 * i) (wl_at (by omega) (ce_11 (kd_c _ hi).2.2.2.2.1)) (by unfold vp_in; decide) dX0_copyFrom_91 ?_
  refine W.eq (g2 := F0 m 92 ls [.ref (ad (139 + 15 * i + 1)), .int 0, .ref (ad (33 + 15 * i + 1))]) (by show F0 m 92 ls (.ref (ad (138 + 15 * i + 1 + 1)) :: _) = _; rw [show 138 + 15 * i + 1 + 1 = 139 + 15 * i + 1 from by omega]) ?_
  refine lv_iconst (v := 0) hx hb dX0_copyFrom_92 (by decide) ?_
  refine lv_aload_n hx hb dX0_copyFrom_93 rfl (lv_at hl 1 rfl) ?_
  refine va_get (D := (dC, dI)) (ci := 0) (v := .int (v_24 (135 + 15 * i) 2)) (C := RX0) (T := TX0) (N := 11) hx hb hts iwX0_copyFrom_X0 hown hK hP (135 + 15 * i) (wl_at (by omega) (ce_9 (kd_c _ hi).2.1)) rfl 2 (by decide) (hts (.fieldLink RX0 40 "QuietStairs$Case" "roundsOver" "I") fwX0_copyFrom_3) (fun _ h9 => h9) rfl dX0_copyFrom_94 ?_
  refine lv_topi (fun x_25 ex_25 => ?_)
  have bzx_25 : 0 ≤ x_25.toInt ∧ x_25.toInt ≤ 5 := by rw [ex_25]; exact hv.at (K := 9) (kd_c _ hi).2.1 rfl
  rw [ev_24, upr_n (by omega), ev_22, upr_n (by omega), ev_20, upr_n (by omega), ev_19, upr_n (by omega), ev_16, upr_n (by omega), ev_14, upr_n (by omega), ev_12, upr_s, pk_un (by decide), ev_10, upr_s, pk_un (by decide), ev_8, upr_s, pk_un (by decide), ev_6, upr_s, pk_us] at ex_25
  obtain rfl : x_5 = x_25 := ex_25.symm
  have hn_26 := t_n (x := x_5) (m := 5) ⟨by omega, by omega⟩
  refine va_copyi hx hb (hml.trans hl.1.symm) hown (hts (.methodLink RX0 81 arraycopyName) fwX0_copyFrom_10) (hts (.native arraycopyName) fwX0_copyFrom_11) (hts (.static arraycopyName) fwX0_copyFrom_12) (hts (.initialized "java/lang/System") fwX0_copyFrom_13) hK hP hD hS (33 + 15 * i + 1) (139 + 15 * i + 1) 0 0 (wl_at (by omega) (ce_12 (kd_o _ hi 1 (by decide)).1.1)) (wl_at (by omega) (ce_12 (kd_o _ hi 1 (by decide)).2.1)) rfl rfl rfl (by decide) (by decide) hn_26.1 (by rw [sb_cl0]; have := hn_26.2; omega) (by rw [sb_cl0]; have := hn_26.2; omega) (fun i hi => rfl) (Nat.le_of_ble_eq_true rfl) (Nat.le_of_ble_eq_true rfl) dX0_copyFrom_97 (fun H locs hP hD hS => ?_)
  obtain ⟨v_27, ev_27⟩ : ∃ u : Nat → Nat → Int32, u = upr v_24 (139 + 15 * i + 1) (va_cpy (v_24 (33 + 15 * i + 1)) (v_24 (139 + 15 * i + 1)) (0 : Int32).toNatClampNeg (0 : Int32).toNatClampNeg x_5.toNatClampNeg) := ⟨_, rfl⟩
  have hP : va_P (dC, dI) vwCl (wl ad kv cy N v_27) H := by rw [ev_27, ← wl_put (e := _) (ce_12 (kd_o _ hi 1 (by decide)).2.1)]; exact hP
  have hD : va_D A (wl ad kv cy N v_27) := by rw [ev_27, ← wl_put (e := _) (ce_12 (kd_o _ hi 1 (by decide)).2.1)]; exact hD
  have hv : Iv v_27 := by rw [ev_27]; exact hv.row (K := 12) (kd_o _ hi 1 (by decide)).2.1 (fun j => rfl)
  have hs_27 : v_24 (33 + 15 * i + 1) = v (33 + 15 * i + 1) := by rw [ev_24, upr_n (by omega), ev_22, upr_n (by omega), ev_20, upr_n (by omega), ev_19, upr_n (by omega), ev_16, upr_n (by omega), ev_14, upr_n (by omega), ev_12, upr_n (by omega), ev_10, upr_n (by omega), ev_8, upr_n (by omega), ev_6, upr_n (by omega), ev_4, upr_n (by omega), ev_2, upr_n (by omega)]
  rw [hs_27] at ev_27
  refine lv_aload_n hx hb dX0_copyFrom_100 rfl (lv_at hl 2 rfl) ?_
  refine va_get (D := (dC, dI)) (ci := 0) (v := .ref (ad (29 + 15 * i + 6))) (C := RX0) (T := TX0) (N := 11) hx hb hts iwX0_copyFrom_X0 hown hK hP (29 + 15 * i) (wl_at (by omega) (ce_9 (kd_c _ hi).1.1)) rfl 9 (by decide) (hts (.fieldLink RX0 23 "QuietStairs$Case" "logs" "[[I") fwX0_copyFrom_14) (fun _ h9 => h9) rfl dX0_copyFrom_101 ?_
  refine W.eq (g2 := F0 m 104 ls [.ref (ad (35 + 15 * i))]) (by rw [show 29 + 15 * i + 6 = 35 + 15 * i from by omega]) ?_
  refine lv_iload_n hx hb dX0_copyFrom_104 rfl (lv_at hl 0 rfl) ?_
  refine ya_ald hx hb hK hP (35 + 15 * i) (wl_at (by omega) (ce_13 (kd_c _ hi).1.2.2.2.2.1)) (by unfold vp_in; decide) dX0_copyFrom_105 ?_
  refine W.eq (g2 := F0 m 106 ls [.ref (ad (36 + 15 * i + 1))]) (by show F0 m 106 ls (.ref (ad (35 + 15 * i + 1 + 1)) :: _) = _; rw [show 35 + 15 * i + 1 + 1 = 36 + 15 * i + 1 from by omega]) ?_
  refine lv_iconst (v := 0) hx hb dX0_copyFrom_106 (by decide) ?_
  refine lv_aload_n hx hb dX0_copyFrom_107 rfl (lv_at hl 1 rfl) ?_
  refine va_get (D := (dC, dI)) (ci := 0) (v := .ref (ad (135 + 15 * i + 6))) (C := RX0) (T := TX0) (N := 11) hx hb hts iwX0_copyFrom_X0 hown hK hP (135 + 15 * i) (wl_at (by omega) (ce_9 (kd_c _ hi).2.1)) rfl 9 (by decide) (hts (.fieldLink RX0 23 "QuietStairs$Case" "logs" "[[I") fwX0_copyFrom_14) (fun _ h9 => h9) rfl dX0_copyFrom_108 ?_
  refine W.eq (g2 := F0 m 111 ls [.ref (ad (141 + 15 * i)), .int 0, .ref (ad (36 + 15 * i + 1))]) (by rw [show 135 + 15 * i + 6 = 141 + 15 * i from by omega]) ?_
  refine lv_iload_n hx hb dX0_copyFrom_111 rfl (lv_at hl 0 rfl) ?_
  refine ya_ald hx hb hK hP (141 + 15 * i) (wl_at (by omega) (ce_13 (kd_c _ hi).2.2.2.2.2.1)) (by unfold vp_in; decide) dX0_copyFrom_112 ?_
  refine W.eq (g2 := F0 m 113 ls [.ref (ad (142 + 15 * i + 1)), .int 0, .ref (ad (36 + 15 * i + 1))]) (by show F0 m 113 ls (.ref (ad (141 + 15 * i + 1 + 1)) :: _) = _; rw [show 141 + 15 * i + 1 + 1 = 142 + 15 * i + 1 from by omega]) ?_
  refine lv_iconst (v := 0) hx hb dX0_copyFrom_113 (by decide) ?_
  refine lv_bipush (v := 24) hx hb dX0_copyFrom_114 (by decide) ?_
  refine va_copyi hx hb (hml.trans hl.1.symm) hown (hts (.methodLink RX0 81 arraycopyName) fwX0_copyFrom_10) (hts (.native arraycopyName) fwX0_copyFrom_11) (hts (.static arraycopyName) fwX0_copyFrom_12) (hts (.initialized "java/lang/System") fwX0_copyFrom_13) hK hP hD hS (36 + 15 * i + 1) (142 + 15 * i + 1) 0 0 (wl_at (by omega) (ce_14 (kd_o _ hi 1 (by decide)).1.2)) (wl_at (by omega) (ce_14 (kd_o _ hi 1 (by decide)).2.2)) rfl rfl rfl (by decide) (by decide) (by decide) (by decide) (by decide) (fun i hi => rfl) (Nat.le_of_ble_eq_true rfl) (Nat.le_of_ble_eq_true rfl) dX0_copyFrom_116 (fun H locs hP hD hS => ?_)
  obtain ⟨v_28, ev_28⟩ : ∃ u : Nat → Nat → Int32, u = upr v_27 (142 + 15 * i + 1) (va_cpy (v_27 (36 + 15 * i + 1)) (v_27 (142 + 15 * i + 1)) (0 : Int32).toNatClampNeg (0 : Int32).toNatClampNeg (24 : Int32).toNatClampNeg) := ⟨_, rfl⟩
  have hP : va_P (dC, dI) vwCl (wl ad kv cy N v_28) H := by rw [ev_28, ← wl_put (e := _) (ce_14 (kd_o _ hi 1 (by decide)).2.2)]; exact hP
  have hD : va_D A (wl ad kv cy N v_28) := by rw [ev_28, ← wl_put (e := _) (ce_14 (kd_o _ hi 1 (by decide)).2.2)]; exact hD
  have hv : Iv v_28 := by rw [ev_28]; exact hv.row (K := 14) (kd_o _ hi 1 (by decide)).2.2 (fun j => rfl)
  have ev_28 : v_28 = upr v_27 (142 + 15 * i + 1) (va_cpy (v_27 (36 + 15 * i + 1)) (v_27 (142 + 15 * i + 1)) (0 : Int32).toNatClampNeg (0 : Int32).toNatClampNeg 24) := ev_28
  have hs_28 : v_27 (36 + 15 * i + 1) = v (36 + 15 * i + 1) := by rw [ev_27, upr_n (by omega), ev_24, upr_n (by omega), ev_22, upr_n (by omega), ev_20, upr_n (by omega), ev_19, upr_n (by omega), ev_16, upr_n (by omega), ev_14, upr_n (by omega), ev_12, upr_n (by omega), ev_10, upr_n (by omega), ev_8, upr_n (by omega), ev_6, upr_n (by omega), ev_4, upr_n (by omega), ev_2, upr_n (by omega)]
  rw [hs_28] at ev_28
  refine lv_iinc (v := 2) (lv' := [(2, .int 2), (0, .ref (ad (135 + 15 * i))), (1, .ref (ad (29 + 15 * i)))]) hx hb dX0_copyFrom_119 hl (k := 0) rfl (by decide) (by decide) rfl (fun ls hl => ?_)
  refine lv_goto (tgt := 50) hx hb dX0_copyFrom_122 (by decide) ?_
  refine lv_iload_n hx hb dX0_copyFrom_50 rfl (lv_at hl 0 rfl) ?_
  refine lv_iconst (v := 2) hx hb dX0_copyFrom_51 (by decide) ?_
  refine lv_icmp_ge (tgt := 125) hx hb dX0_copyFrom_52 (by decide) (fun _ => ?_) (fun c9 => absurd c9 (by decide))
  refine lv_iconst (v := 0) hx hb dX0_copyFrom_125 (by decide) ?_
  refine lv_istore_n (lv' := [(2, .int 0), (0, .ref (ad (135 + 15 * i))), (1, .ref (ad (29 + 15 * i)))]) hx hb dX0_copyFrom_126 rfl hl (by decide) rfl (fun ls hl => ?_)
  have hc_29 : ∀ (n : Nat) (y29_2 : Int32) (u29 : Nat → Nat → Int32) (H : Heap) (locs : List Loc), 0 ≤ y29_2.toInt → y29_2.toInt ≤ 5 → (∀ k j : Nat, u29 k j = if 145 + 15 * i ≤ k ∧ (k : Int) < 145 + 15 * (i : Int) + y29_2.toInt ∧ j < 5 then v_28 (k - 106) j else v_28 k j) → (y29_2.toInt ≤ (v (29 + 15 * i) 5).toInt) → (5 - y29_2.toInt).toNat < n → Iv u29 → va_P (dC, dI) vwCl (wl ad kv cy N u29) H → va_D A (wl ad kv cy N u29) → va_S A s.heap H locs → ∀ ls : Array Slot, lv_has ls 3 [(2, .int y29_2), (0, .ref (ad (135 + 15 * i))), (1, .ref (ad (29 + 15 * i)))] → W p l e (headSpec wsX0_copyFrom ({ frames := 1, cells := 0, slots := 0, locals := 64 })).room s m [Value.ref (ad (135 + 15 * i)), Value.ref (ad (29 + 15 * i))].toArray below meth c H locs 0 0 (MQ below (va_Qv (fun (u : Nat → Nat → Int32) => Iv u ∧ (∀ o j : Nat, lvC (v (29 + 15 * i)) o j → u (135 + 15 * i + o) j = v (29 + 15 * i + o) j) ∧ (∀ k : Nat, (k < 135 + 15 * i ∨ 150 + 15 * i ≤ k) → u k = v k)) (fun u t => ex_Pst dC dI A (wl ad kv cy N u) t) A) [Value.ref (ad (135 + 15 * i)), Value.ref (ad (29 + 15 * i))].toArray s 0 0 A) (F0 m 127 ls []) := by
    intro n
    induction n with
    | zero =>
      intro y29_2 u29 H locs ay29_2 by29_2 hi29_0 hi29_1 hm_29 hv hP hD hS ls hl
      exact absurd hm_29 (by omega)
    | succ n ih_29 =>
      intro y29_2 u29 H locs ay29_2 by29_2 hi29_0 hi29_1 hm_29 hv hP hD hS ls hl
      refine lv_iload_n hx hb dX0_copyFrom_127 rfl (lv_at hl 0 rfl) ?_
      refine lv_aload_n hx hb dX0_copyFrom_128 rfl (lv_at hl 1 rfl) ?_
      refine va_get (D := (dC, dI)) (ci := 0) (v := .int (u29 (135 + 15 * i) 5)) (C := RX0) (T := TX0) (N := 11) hx hb hts iwX0_copyFrom_X0 hown hK hP (135 + 15 * i) (wl_at (by omega) (ce_9 (kd_c _ hi).2.1)) rfl 5 (by decide) (hts (.fieldLink RX0 49 "QuietStairs$Case" "termCount" "I") fwX0_copyFrom_6) (fun _ h9 => h9) rfl dX0_copyFrom_129 ?_
      refine lv_topi (fun x_30 ex_30 => ?_)
      have bzx_30 : 0 ≤ x_30.toInt ∧ x_30.toInt ≤ 5 := by rw [ex_30]; exact hv.at (K := 9) (kd_c _ hi).2.1 rfl
      have qx_30 : x_30.toInt = (u29 (135 + 15 * i) (5)).toInt := congrArg Int32.toInt ex_30
      have hkx_30 : x_30 = v_28 (135 + 15 * i) 5 := by rw [ex_30, hi29_0, if_neg (by omega)]
      have hmx_30 : x_30.toInt = (v (29 + 15 * i) 5).toInt := by rw [hkx_30, ev_28, upr_n (by omega), ev_27, upr_n (by omega), ev_24, upr_n (by omega), ev_22, upr_n (by omega), ev_20, upr_n (by omega), ev_19, upr_n (by omega), ev_16, upr_n (by omega), ev_14, upr_n (by omega), ev_12, upr_s, pk_us, ex_11]
      refine lv_icmp_ge (tgt := 156) hx hb dX0_copyFrom_132 (by decide) (fun c_31 => ?_) (fun c_31 => ?_)
      · have tc_31 : y29_2.toInt ≥ x_30.toInt := Int32.le_iff_toInt_le.mp c_31
        have hy : y29_2.toInt = (v (29 + 15 * i) 5).toInt := by omega
        have hz : ∀ k j : Nat, v_28 k j = if k = 142 + 15 * i + 1 ∧ j < 24 then v (36 + 15 * i + 1) j else if k = 139 + 15 * i + 1 ∧ j < (v (29 + 15 * i) 2).toNatClampNeg then v (33 + 15 * i + 1) j else if k = 137 + 15 * i ∧ j = 1 then v (31 + 15 * i) 1 else if k = 136 + 15 * i ∧ j = 1 then v (30 + 15 * i) 1 else if k = 142 + 15 * i + 0 ∧ j < 24 then v (36 + 15 * i + 0) j else if k = 139 + 15 * i + 0 ∧ j < (v (29 + 15 * i) 2).toNatClampNeg then v (33 + 15 * i + 0) j else if k = 137 + 15 * i ∧ j = 0 then v (31 + 15 * i) 0 else if k = 136 + 15 * i ∧ j = 0 then v (30 + 15 * i) 0 else if k = 135 + 15 * i ∧ j = 5 then v (29 + 15 * i) 5 else if k = 135 + 15 * i ∧ j = 4 then v (29 + 15 * i) 4 else if k = 135 + 15 * i ∧ j = 3 then v (29 + 15 * i) 3 else if k = 135 + 15 * i ∧ j = 2 then v (29 + 15 * i) 2 else if k = 135 + 15 * i ∧ j = 1 then v (29 + 15 * i) 1 else if k = 135 + 15 * i ∧ j = 0 then v (29 + 15 * i) 0 else v k j := fun k j => by rw [ev_28, up3, ev_27, up3, ev_24, up2, ev_22, up2, ev_20, up3, ev_19, up3, ev_16, up2, ev_14, up2, ev_12, up2, ev_10, up2, ev_8, up2, ev_6, up2, ev_4, up2, ev_2, up2, ex_5, ex_23, ex_21, ex_15, ex_13, ex_11, ex_9, ex_7, ex_3, ex_1]
        have hpost : (∀ o j : Nat, lvC (v (29 + 15 * i)) o j → u29 (135 + 15 * i + o) j = v (29 + 15 * i + o) j) ∧ (∀ k : Nat, (k < 135 + 15 * i ∨ 150 + 15 * i ≤ k) → u29 k = v k) := by
          refine ⟨fun o j hq => ?_, fun k hk => funext fun j => ?_⟩
          · unfold lvC at hq
            rcases hq with ⟨rfl, hj⟩ | ⟨rfl, hj⟩ | ⟨rfl, hj⟩ | ⟨(rfl | rfl), hj⟩ | ⟨(rfl | rfl), hj⟩ | ⟨ho, ho2, ho3, hj⟩
            · rw [hi29_0, if_neg (by omega), hz]
              rcases (show j = 0 ∨ j = 1 ∨ j = 2 ∨ j = 3 ∨ j = 4 ∨ j = 5 by omega) with rfl | rfl | rfl | rfl | rfl | rfl
              · rw [if_neg (by omega), if_neg (by omega), if_neg (by omega), if_neg (by omega), if_neg (by omega), if_neg (by omega), if_neg (by omega), if_neg (by omega), if_neg (by omega), if_neg (by omega), if_neg (by omega), if_neg (by omega), if_neg (by omega), if_pos ⟨by omega, rfl⟩]
                exact congrFun (congrArg v (by omega)) _
              · rw [if_neg (by omega), if_neg (by omega), if_neg (by omega), if_neg (by omega), if_neg (by omega), if_neg (by omega), if_neg (by omega), if_neg (by omega), if_neg (by omega), if_neg (by omega), if_neg (by omega), if_neg (by omega), if_pos ⟨by omega, rfl⟩]
                exact congrFun (congrArg v (by omega)) _
              · rw [if_neg (by omega), if_neg (by omega), if_neg (by omega), if_neg (by omega), if_neg (by omega), if_neg (by omega), if_neg (by omega), if_neg (by omega), if_neg (by omega), if_neg (by omega), if_neg (by omega), if_pos ⟨by omega, rfl⟩]
                exact congrFun (congrArg v (by omega)) _
              · rw [if_neg (by omega), if_neg (by omega), if_neg (by omega), if_neg (by omega), if_neg (by omega), if_neg (by omega), if_neg (by omega), if_neg (by omega), if_neg (by omega), if_neg (by omega), if_pos ⟨by omega, rfl⟩]
                exact congrFun (congrArg v (by omega)) _
              · rw [if_neg (by omega), if_neg (by omega), if_neg (by omega), if_neg (by omega), if_neg (by omega), if_neg (by omega), if_neg (by omega), if_neg (by omega), if_neg (by omega), if_pos ⟨by omega, rfl⟩]
                exact congrFun (congrArg v (by omega)) _
              · rw [if_neg (by omega), if_neg (by omega), if_neg (by omega), if_neg (by omega), if_neg (by omega), if_neg (by omega), if_neg (by omega), if_neg (by omega), if_pos ⟨by omega, rfl⟩]
                exact congrFun (congrArg v (by omega)) _
            · rw [hi29_0, if_neg (by omega), hz]
              rcases (show j = 0 ∨ j = 1 by omega) with rfl | rfl
              · rw [if_neg (by omega), if_neg (by omega), if_neg (by omega), if_neg (by omega), if_neg (by omega), if_neg (by omega), if_neg (by omega), if_pos ⟨by omega, rfl⟩]
                exact congrFun (congrArg v (by omega)) _
              · rw [if_neg (by omega), if_neg (by omega), if_neg (by omega), if_pos ⟨by omega, rfl⟩]
                exact congrFun (congrArg v (by omega)) _
            · rw [hi29_0, if_neg (by omega), hz]
              rcases (show j = 0 ∨ j = 1 by omega) with rfl | rfl
              · rw [if_neg (by omega), if_neg (by omega), if_neg (by omega), if_neg (by omega), if_neg (by omega), if_neg (by omega), if_pos ⟨by omega, rfl⟩]
                exact congrFun (congrArg v (by omega)) _
              · rw [if_neg (by omega), if_neg (by omega), if_pos ⟨by omega, rfl⟩]
                exact congrFun (congrArg v (by omega)) _
            · rw [hi29_0, if_neg (by omega), hz, if_neg (by omega), if_neg (by omega), if_neg (by omega), if_neg (by omega), if_neg (by omega), if_pos ⟨by omega, by have z8 := t_nn (x := v (29 + 15 * i) 2) hb2.1; omega⟩]
              exact congrFun (congrArg v (by omega)) _
            · rw [hi29_0, if_neg (by omega), hz, if_neg (by omega), if_pos ⟨by omega, by have z8 := t_nn (x := v (29 + 15 * i) 2) hb2.1; omega⟩]
              exact congrFun (congrArg v (by omega)) _
            · rw [hi29_0, if_neg (by omega), hz, if_neg (by omega), if_neg (by omega), if_neg (by omega), if_neg (by omega), if_pos ⟨by omega, hj⟩]
              exact congrFun (congrArg v (by omega)) _
            · rw [hi29_0, if_neg (by omega), hz, if_pos ⟨by omega, hj⟩]
              exact congrFun (congrArg v (by omega)) _
            · rw [hi29_0, if_pos (by omega), show 135 + 15 * i + o - 106 = 29 + 15 * i + o from by omega, hz, if_neg (by omega), if_neg (by omega), if_neg (by omega), if_neg (by omega), if_neg (by omega), if_neg (by omega), if_neg (by omega), if_neg (by omega), if_neg (by omega), if_neg (by omega), if_neg (by omega), if_neg (by omega), if_neg (by omega), if_neg (by omega)]
          · rw [hi29_0, if_neg (by omega), hz, if_neg (by omega), if_neg (by omega), if_neg (by omega), if_neg (by omega), if_neg (by omega), if_neg (by omega), if_neg (by omega), if_neg (by omega), if_neg (by omega), if_neg (by omega), if_neg (by omega), if_neg (by omega), if_neg (by omega), if_neg (by omega)]
        exact W.vret hx hb hr (fun t ht hW => ⟨⟨u29, rfl, ⟨hv, hpost⟩, by rw [ht]; exact hP, hD⟩, hS.F ht⟩) hS.2.2 dX0_copyFrom_156
      · have tc_31 : y29_2.toInt < x_30.toInt := Int32.lt_iff_toInt_lt.mp (Int32.not_le.mp c_31)
        refine lv_aload_n hx hb dX0_copyFrom_135 rfl (lv_at hl 1 rfl) ?_
        refine va_get (D := (dC, dI)) (ci := 0) (v := .ref (ad (135 + 15 * i + 9))) (C := RX0) (T := TX0) (N := 11) hx hb hts iwX0_copyFrom_X0 hown hK hP (135 + 15 * i) (wl_at (by omega) (ce_9 (kd_c _ hi).2.1)) rfl 10 (by decide) (hts (.fieldLink RX0 28 "QuietStairs$Case" "terms" "[LQuietStairs$Term;") fwX0_copyFrom_15) (fun _ h9 => h9) rfl dX0_copyFrom_136 ?_
        refine W.eq (g2 := F0 m 139 ls [.ref (ad (144 + 15 * i))]) (by rw [show 135 + 15 * i + 9 = 144 + 15 * i from by omega]) ?_
        refine lv_iload_n hx hb dX0_copyFrom_139 rfl (lv_at hl 0 rfl) ?_
        have zn_y29_2 : (y29_2.toNatClampNeg : Int) = y29_2.toInt := t_nn (by omega)
        have hx_32 : y29_2.toNatClampNeg < 5 := by omega
        refine va_aldq hx hb hK hP (144 + 15 * i) 4 (wl_at (by omega) (ce_15 (kd_c _ hi).2.2.2.2.2.2)) rfl (vp_in_iff.mpr ⟨by omega, by omega⟩) dX0_copyFrom_140 ?_
        refine W.eq (g2 := F0 m 141 ls [.ref (ad (145 + 15 * i + y29_2.toNatClampNeg))]) (by rw [if_pos hx_32, show 144 + 15 * i + 1 + y29_2.toNatClampNeg = 145 + 15 * i + y29_2.toNatClampNeg from by omega]; rfl) ?_
        refine lv_aload_n hx hb dX0_copyFrom_141 rfl (lv_at hl 2 rfl) ?_
        refine va_get (D := (dC, dI)) (ci := 0) (v := .ref (ad (29 + 15 * i + 9))) (C := RX0) (T := TX0) (N := 11) hx hb hts iwX0_copyFrom_X0 hown hK hP (29 + 15 * i) (wl_at (by omega) (ce_9 (kd_c _ hi).1.1)) rfl 10 (by decide) (hts (.fieldLink RX0 28 "QuietStairs$Case" "terms" "[LQuietStairs$Term;") fwX0_copyFrom_15) (fun _ h9 => h9) rfl dX0_copyFrom_142 ?_
        refine W.eq (g2 := F0 m 145 ls [.ref (ad (38 + 15 * i)), .ref (ad (145 + 15 * i + y29_2.toNatClampNeg))]) (by rw [show 29 + 15 * i + 9 = 38 + 15 * i from by omega]) ?_
        refine lv_iload_n hx hb dX0_copyFrom_145 rfl (lv_at hl 0 rfl) ?_
        refine va_aldq hx hb hK hP (38 + 15 * i) 4 (wl_at (by omega) (ce_15 (kd_c _ hi).1.2.2.2.2.2)) rfl (vp_in_iff.mpr ⟨by omega, by omega⟩) dX0_copyFrom_146 ?_
        refine W.eq (g2 := F0 m 147 ls [.ref (ad (39 + 15 * i + y29_2.toNatClampNeg)), .ref (ad (145 + 15 * i + y29_2.toNatClampNeg))]) (by rw [if_pos hx_32, show 38 + 15 * i + 1 + y29_2.toNatClampNeg = 39 + 15 * i + y29_2.toNatClampNeg from by omega]; rfl) ?_
        refine yw_v (w1 := fun (u : Nat → Nat → Int32) => wl ad kv cy N u) hD hS hA (va_runV (As := [.ref (ad (39 + 15 * i + y29_2.toNatClampNeg))]) (rest := []) ⟨hx, hb, hml, hown, hts⟩ (e_X6_copyFrom_b l dC dI cy _ ad kv N hN u29 hv i hi y29_2.toNatClampNeg hx_32 hN2) (cwV 1 hts gX0_copyFrom_X6_copyFrom rfl rfl rfl hd_V_X6_copyFrom_1 ⟨Nat.le_of_ble_eq_true rfl, Nat.le_of_ble_eq_true rfl⟩) (yw_preV hE hK hP hD (ci := 6) (q0 := (145 + 15 * i + y29_2.toNatClampNeg)) rfl (wl_at (by omega) (ce_16 (kd_t _ hi _ hx_32).2))) rfl rfl hl.1 rfl (lv_room (Nat.le_of_ble_eq_true rfl)) dX0_copyFrom_147 ⟨Nat.le_of_ble_eq_true rfl, Nat.le_of_ble_eq_true rfl⟩) (fun v_33 H locs hw_33 hP hD hS => ?_)
        obtain ⟨hv, hw_33⟩ := hw_33
        obtain ⟨x_34, ex_34⟩ : ∃ y : Int32, y = y29_2 + 1 := ⟨_, rfl⟩
        refine lv_iinc (v := x_34) (lv' := [(2, .int x_34), (0, .ref (ad (135 + 15 * i))), (1, .ref (ad (29 + 15 * i)))]) hx hb dX0_copyFrom_150 hl (k := 0) rfl (by rw [ex_34]; rfl) (by decide) rfl (fun ls hl => ?_)
        have tx_34 : x_34.toInt = y29_2.toInt + (1 : Int32).toInt := by rw [ex_34]; exact t_add ⟨by omega, by omega⟩
        refine lv_goto (tgt := 127) hx hb dX0_copyFrom_153 (by decide) ?_
        exact ih_29 x_34 v_33 _ _ (by omega) (by omega) (fun k j => by rw [hw_33 k j]; by_cases h : k = 145 + 15 * i + y29_2.toNatClampNeg ∧ j < 5; rw [if_pos h, if_pos (by omega), hi29_0, if_neg (by omega), h.1, show 145 + 15 * i + y29_2.toNatClampNeg - 106 = 39 + 15 * i + y29_2.toNatClampNeg from by omega]; rw [if_neg h, hi29_0 k j]; (repeat' split); all_goals first | rfl | (exfalso; omega)) (by omega) (by omega) hv hP hD hS ls (lv_sub hl [0, 1, 2] rfl)
  exact hc_29 ((5 - (0 : Int32).toInt).toNat + 1) 0 v_28 _ _ (by omega) (by omega) (fun k j => by rw [if_neg (by omega)]) (by omega) (by omega) hv hP hD hS ls (lv_sub hl [0, 1, 2] rfl)
