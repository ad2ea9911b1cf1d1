set_option maxRecDepth 20000 in
theorem db_X8_isOwn_0 : (decode cX8_isOwn 0 = .ok (.aload_n 0, 1)) ∧ (decode cX8_isOwn 1 = .ok (.getfield 7, 3)) ∧ (decode cX8_isOwn 4 = .ok (.iload_n 1, 1)) ∧ (decode cX8_isOwn 5 = .ok (.iload_n 3, 1)) ∧ (decode cX8_isOwn 6 = .ok (.invokestatic 98, 3)) ∧ (decode cX8_isOwn 9 = .ok (.iaload, 1)) ∧ (decode cX8_isOwn 10 = .ok (.iload_n 2, 1)) ∧ (decode cX8_isOwn 11 = .ok (.if_icmp .ne 23, 3)) := by decide +kernel
theorem dX8_isOwn_0 : decode cX8_isOwn 0 = .ok (.aload_n 0, 1) := db_X8_isOwn_0.1
theorem dX8_isOwn_1 : decode cX8_isOwn 1 = .ok (.getfield 7, 3) := db_X8_isOwn_0.2.1
theorem dX8_isOwn_4 : decode cX8_isOwn 4 = .ok (.iload_n 1, 1) := db_X8_isOwn_0.2.2.1
theorem dX8_isOwn_5 : decode cX8_isOwn 5 = .ok (.iload_n 3, 1) := db_X8_isOwn_0.2.2.2.1
set_option maxRecDepth 20000 in
theorem ggX8_isOwn_X8_termAt : GoodIn wsX8_isOwn wsX8_termAt := goodIn_r _ [5] rfl (by decide +kernel)
set_option maxRecDepth 20000 in
theorem gX8_isOwn_X8_termAt : GoodIn wsX8_isOwn (va_wsS RX8 98 yX8_termAt wsX8_termAt) := goodIn_app (goodIn_r _ [2, 3, 4] rfl (by decide +kernel)) ggX8_isOwn_X8_termAt
theorem dX8_isOwn_6 : decode cX8_isOwn 6 = .ok (.invokestatic 98, 3) := db_X8_isOwn_0.2.2.2.2.1
theorem dX8_isOwn_9 : decode cX8_isOwn 9 = .ok (.iaload, 1) := db_X8_isOwn_0.2.2.2.2.2.1
theorem dX8_isOwn_10 : decode cX8_isOwn 10 = .ok (.iload_n 2, 1) := db_X8_isOwn_0.2.2.2.2.2.2.1
theorem dX8_isOwn_11 : decode cX8_isOwn 11 = .ok (.if_icmp .ne 23, 3) := db_X8_isOwn_0.2.2.2.2.2.2.2
set_option maxRecDepth 20000 in
theorem db_X8_isOwn_34 : (decode cX8_isOwn 34 = .ok (.iconst 0, 1)) ∧ (decode cX8_isOwn 35 = .ok (.ireturn, 1)) ∧ (decode cX8_isOwn 14 = .ok (.aload_n 0, 1)) ∧ (decode cX8_isOwn 15 = .ok (.getfield 7, 3)) ∧ (decode cX8_isOwn 18 = .ok (.iload_n 1, 1)) ∧ (decode cX8_isOwn 19 = .ok (.iload_n 3, 1)) ∧ (decode cX8_isOwn 20 = .ok (.invokestatic 98, 3)) ∧ (decode cX8_isOwn 23 = .ok (.iconst 1, 1)) := by decide +kernel
theorem dX8_isOwn_34 : decode cX8_isOwn 34 = .ok (.iconst 0, 1) := db_X8_isOwn_34.1
theorem dX8_isOwn_35 : decode cX8_isOwn 35 = .ok (.ireturn, 1) := db_X8_isOwn_34.2.1
theorem dX8_isOwn_14 : decode cX8_isOwn 14 = .ok (.aload_n 0, 1) := db_X8_isOwn_34.2.2.1
theorem dX8_isOwn_15 : decode cX8_isOwn 15 = .ok (.getfield 7, 3) := db_X8_isOwn_34.2.2.2.1
theorem dX8_isOwn_18 : decode cX8_isOwn 18 = .ok (.iload_n 1, 1) := db_X8_isOwn_34.2.2.2.2.1
theorem dX8_isOwn_19 : decode cX8_isOwn 19 = .ok (.iload_n 3, 1) := db_X8_isOwn_34.2.2.2.2.2.1
theorem dX8_isOwn_20 : decode cX8_isOwn 20 = .ok (.invokestatic 98, 3) := db_X8_isOwn_34.2.2.2.2.2.2.1
theorem dX8_isOwn_23 : decode cX8_isOwn 23 = .ok (.iconst 1, 1) := db_X8_isOwn_34.2.2.2.2.2.2.2
set_option maxRecDepth 20000 in
theorem db_X8_isOwn_24 : (decode cX8_isOwn 24 = .ok (.iadd, 1)) ∧ (decode cX8_isOwn 25 = .ok (.iaload, 1)) ∧ (decode cX8_isOwn 26 = .ok (.iconst 1, 1)) ∧ (decode cX8_isOwn 27 = .ok (.if_icmp .ne 7, 3)) ∧ (decode cX8_isOwn 30 = .ok (.iconst 1, 1)) ∧ (decode cX8_isOwn 31 = .ok (.goto 4, 3)) := by decide +kernel
theorem dX8_isOwn_24 : decode cX8_isOwn 24 = .ok (.iadd, 1) := db_X8_isOwn_24.1
theorem dX8_isOwn_25 : decode cX8_isOwn 25 = .ok (.iaload, 1) := db_X8_isOwn_24.2.1
theorem dX8_isOwn_26 : decode cX8_isOwn 26 = .ok (.iconst 1, 1) := db_X8_isOwn_24.2.2.1
theorem dX8_isOwn_27 : decode cX8_isOwn 27 = .ok (.if_icmp .ne 7, 3) := db_X8_isOwn_24.2.2.2.1
theorem dX8_isOwn_30 : decode cX8_isOwn 30 = .ok (.iconst 1, 1) := db_X8_isOwn_24.2.2.2.2.1
theorem dX8_isOwn_31 : decode cX8_isOwn 31 = .ok (.goto 4, 3) := db_X8_isOwn_24.2.2.2.2.2
set_option maxRecDepth 20000 in
theorem db_X8_mayBe_0 : (decode cX8_mayBe 0 = .ok (.iload_n 1, 1)) ∧ (decode cX8_mayBe 1 = .ok (.iload_n 3, 1)) ∧ (decode cX8_mayBe 2 = .ok (.invokestatic 98, 3)) ∧ (decode cX8_mayBe 5 = .ok (.istore 5, 2)) ∧ (decode cX8_mayBe 7 = .ok (.iconst 0, 1)) ∧ (decode cX8_mayBe 8 = .ok (.istore 6, 2)) ∧ (decode cX8_mayBe 10 = .ok (.iload 6, 2)) ∧ (decode cX8_mayBe 12 = .ok (.iload 4, 2)) := by decide +kernel
theorem dX8_mayBe_0 : decode cX8_mayBe 0 = .ok (.iload_n 1, 1) := db_X8_mayBe_0.1
theorem dX8_mayBe_1 : decode cX8_mayBe 1 = .ok (.iload_n 3, 1) := db_X8_mayBe_0.2.1
set_option maxRecDepth 20000 in
theorem ggX8_mayBe_X8_termAt : GoodIn wsX8_mayBe wsX8_termAt := goodIn_r _ [6] rfl (by decide +kernel)
set_option maxRecDepth 20000 in
theorem gX8_mayBe_X8_termAt : GoodIn wsX8_mayBe (va_wsS RX8 98 yX8_termAt wsX8_termAt) := goodIn_app (goodIn_r _ [3, 4, 5] rfl (by decide +kernel)) ggX8_mayBe_X8_termAt
theorem dX8_mayBe_2 : decode cX8_mayBe 2 = .ok (.invokestatic 98, 3) := db_X8_mayBe_0.2.2.1
theorem dX8_mayBe_5 : decode cX8_mayBe 5 = .ok (.istore 5, 2) := db_X8_mayBe_0.2.2.2.1
theorem dX8_mayBe_7 : decode cX8_mayBe 7 = .ok (.iconst 0, 1) := db_X8_mayBe_0.2.2.2.2.1
theorem dX8_mayBe_8 : decode cX8_mayBe 8 = .ok (.istore 6, 2) := db_X8_mayBe_0.2.2.2.2.2.1
theorem dX8_mayBe_10 : decode cX8_mayBe 10 = .ok (.iload 6, 2) := db_X8_mayBe_0.2.2.2.2.2.2.1
theorem dX8_mayBe_12 : decode cX8_mayBe 12 = .ok (.iload 4, 2) := db_X8_mayBe_0.2.2.2.2.2.2.2
set_option maxRecDepth 20000 in
theorem db_X8_mayBe_14 : (decode cX8_mayBe 14 = .ok (.if_icmp .ge 143, 3)) ∧ (decode cX8_mayBe 157 = .ok (.iconst 1, 1)) ∧ (decode cX8_mayBe 158 = .ok (.ireturn, 1)) ∧ (decode cX8_mayBe 17 = .ok (.iload_n 1, 1)) ∧ (decode cX8_mayBe 18 = .ok (.iload 6, 2)) ∧ (decode cX8_mayBe 20 = .ok (.invokestatic 98, 3)) ∧ (decode cX8_mayBe 23 = .ok (.istore 7, 2)) ∧ (decode cX8_mayBe 25 = .ok (.aload_n 0, 1)) := by decide +kernel
theorem dX8_mayBe_14 : decode cX8_mayBe 14 = .ok (.if_icmp .ge 143, 3) := db_X8_mayBe_14.1
theorem dX8_mayBe_157 : decode cX8_mayBe 157 = .ok (.iconst 1, 1) := db_X8_mayBe_14.2.1
theorem dX8_mayBe_158 : decode cX8_mayBe 158 = .ok (.ireturn, 1) := db_X8_mayBe_14.2.2.1
theorem dX8_mayBe_17 : decode cX8_mayBe 17 = .ok (.iload_n 1, 1) := db_X8_mayBe_14.2.2.2.1
theorem dX8_mayBe_18 : decode cX8_mayBe 18 = .ok (.iload 6, 2) := db_X8_mayBe_14.2.2.2.2.1
theorem dX8_mayBe_20 : decode cX8_mayBe 20 = .ok (.invokestatic 98, 3) := db_X8_mayBe_14.2.2.2.2.2.1
theorem dX8_mayBe_23 : decode cX8_mayBe 23 = .ok (.istore 7, 2) := db_X8_mayBe_14.2.2.2.2.2.2.1
theorem dX8_mayBe_25 : decode cX8_mayBe 25 = .ok (.aload_n 0, 1) := db_X8_mayBe_14.2.2.2.2.2.2.2
set_option maxRecDepth 20000 in
theorem db_X8_mayBe_26 : (decode cX8_mayBe 26 = .ok (.getfield 7, 3)) ∧ (decode cX8_mayBe 29 = .ok (.iload 7, 2)) ∧ (decode cX8_mayBe 31 = .ok (.iaload, 1)) ∧ (decode cX8_mayBe 32 = .ok (.iload_n 2, 1)) ∧ (decode cX8_mayBe 33 = .ok (.if_icmp .eq 6, 3)) ∧ (decode cX8_mayBe 39 = .ok (.aload_n 0, 1)) ∧ (decode cX8_mayBe 40 = .ok (.getfield 7, 3)) ∧ (decode cX8_mayBe 43 = .ok (.iload 7, 2)) := by decide +kernel
theorem dX8_mayBe_26 : decode cX8_mayBe 26 = .ok (.getfield 7, 3) := db_X8_mayBe_26.1
theorem dX8_mayBe_29 : decode cX8_mayBe 29 = .ok (.iload 7, 2) := db_X8_mayBe_26.2.1
theorem dX8_mayBe_31 : decode cX8_mayBe 31 = .ok (.iaload, 1) := db_X8_mayBe_26.2.2.1
theorem dX8_mayBe_32 : decode cX8_mayBe 32 = .ok (.iload_n 2, 1) := db_X8_mayBe_26.2.2.2.1
theorem dX8_mayBe_33 : decode cX8_mayBe 33 = .ok (.if_icmp .eq 6, 3) := db_X8_mayBe_26.2.2.2.2.1
theorem dX8_mayBe_39 : decode cX8_mayBe 39 = .ok (.aload_n 0, 1) := db_X8_mayBe_26.2.2.2.2.2.1
theorem dX8_mayBe_40 : decode cX8_mayBe 40 = .ok (.getfield 7, 3) := db_X8_mayBe_26.2.2.2.2.2.2.1
theorem dX8_mayBe_43 : decode cX8_mayBe 43 = .ok (.iload 7, 2) := db_X8_mayBe_26.2.2.2.2.2.2.2
set_option maxRecDepth 20000 in
theorem db_X8_mayBe_45 : (decode cX8_mayBe 45 = .ok (.iconst 1, 1)) ∧ (decode cX8_mayBe 46 = .ok (.iadd, 1)) ∧ (decode cX8_mayBe 47 = .ok (.iaload, 1)) ∧ (decode cX8_mayBe 48 = .ok (.ifCond .ne 58, 3)) ∧ (decode cX8_mayBe 106 = .ok (.iconst 0, 1)) ∧ (decode cX8_mayBe 107 = .ok (.istore 8, 2)) ∧ (decode cX8_mayBe 109 = .ok (.iload 8, 2)) ∧ (decode cX8_mayBe 111 = .ok (.ifCond .ne 38, 3)) := by decide +kernel
theorem dX8_mayBe_45 : decode cX8_mayBe 45 = .ok (.iconst 1, 1) := db_X8_mayBe_45.1
theorem dX8_mayBe_46 : decode cX8_mayBe 46 = .ok (.iadd, 1) := db_X8_mayBe_45.2.1
theorem dX8_mayBe_47 : decode cX8_mayBe 47 = .ok (.iaload, 1) := db_X8_mayBe_45.2.2.1
theorem dX8_mayBe_48 : decode cX8_mayBe 48 = .ok (.ifCond .ne 58, 3) := db_X8_mayBe_45.2.2.2.1
theorem dX8_mayBe_106 : decode cX8_mayBe 106 = .ok (.iconst 0, 1) := db_X8_mayBe_45.2.2.2.2.1
theorem dX8_mayBe_107 : decode cX8_mayBe 107 = .ok (.istore 8, 2) := db_X8_mayBe_45.2.2.2.2.2.1
theorem dX8_mayBe_109 : decode cX8_mayBe 109 = .ok (.iload 8, 2) := db_X8_mayBe_45.2.2.2.2.2.2.1
theorem dX8_mayBe_111 : decode cX8_mayBe 111 = .ok (.ifCond .ne 38, 3) := db_X8_mayBe_45.2.2.2.2.2.2.2
set_option maxRecDepth 20000 in
theorem db_X8_mayBe_114 : (decode cX8_mayBe 114 = .ok (.aload_n 0, 1)) ∧ (decode cX8_mayBe 115 = .ok (.getfield 7, 3)) ∧ (decode cX8_mayBe 118 = .ok (.iload 7, 2)) ∧ (decode cX8_mayBe 120 = .ok (.iconst 1, 1)) ∧ (decode cX8_mayBe 121 = .ok (.iadd, 1)) ∧ (decode cX8_mayBe 122 = .ok (.iaload, 1)) ∧ (decode cX8_mayBe 123 = .ok (.iconst 1, 1)) ∧ (decode cX8_mayBe 124 = .ok (.if_icmp .ne 27, 3)) := by decide +kernel
theorem dX8_mayBe_114 : decode cX8_mayBe 114 = .ok (.aload_n 0, 1) := db_X8_mayBe_114.1
theorem dX8_mayBe_115 : decode cX8_mayBe 115 = .ok (.getfield 7, 3) := db_X8_mayBe_114.2.1
theorem dX8_mayBe_118 : decode cX8_mayBe 118 = .ok (.iload 7, 2) := db_X8_mayBe_114.2.2.1
theorem dX8_mayBe_120 : decode cX8_mayBe 120 = .ok (.iconst 1, 1) := db_X8_mayBe_114.2.2.2.1
theorem dX8_mayBe_121 : decode cX8_mayBe 121 = .ok (.iadd, 1) := db_X8_mayBe_114.2.2.2.2.1
theorem dX8_mayBe_122 : decode cX8_mayBe 122 = .ok (.iaload, 1) := db_X8_mayBe_114.2.2.2.2.2.1
theorem dX8_mayBe_123 : decode cX8_mayBe 123 = .ok (.iconst 1, 1) := db_X8_mayBe_114.2.2.2.2.2.2.1
theorem dX8_mayBe_124 : decode cX8_mayBe 124 = .ok (.if_icmp .ne 27, 3) := db_X8_mayBe_114.2.2.2.2.2.2.2
set_option maxRecDepth 20000 in
theorem db_X8_mayBe_127 : (decode cX8_mayBe 127 = .ok (.iload 6, 2)) ∧ (decode cX8_mayBe 129 = .ok (.iload_n 3, 1)) ∧ (decode cX8_mayBe 130 = .ok (.if_icmp .ge 21, 3)) ∧ (decode cX8_mayBe 151 = .ok (.iinc 6 1, 3)) ∧ (decode cX8_mayBe 154 = .ok (.goto (-144), 3)) ∧ (decode cX8_mayBe 133 = .ok (.aload_n 0, 1)) ∧ (decode cX8_mayBe 134 = .ok (.getfield 32, 3)) ∧ (decode cX8_mayBe 137 = .ok (.iload 6, 2)) := by decide +kernel
theorem dX8_mayBe_127 : decode cX8_mayBe 127 = .ok (.iload 6, 2) := db_X8_mayBe_127.1
theorem dX8_mayBe_129 : decode cX8_mayBe 129 = .ok (.iload_n 3, 1) := db_X8_mayBe_127.2.1
theorem dX8_mayBe_130 : decode cX8_mayBe 130 = .ok (.if_icmp .ge 21, 3) := db_X8_mayBe_127.2.2.1
theorem dX8_mayBe_151 : decode cX8_mayBe 151 = .ok (.iinc 6 1, 3) := db_X8_mayBe_127.2.2.2.1
theorem dX8_mayBe_154 : decode cX8_mayBe 154 = .ok (.goto (-144), 3) := db_X8_mayBe_127.2.2.2.2.1
theorem dX8_mayBe_133 : decode cX8_mayBe 133 = .ok (.aload_n 0, 1) := db_X8_mayBe_127.2.2.2.2.2.1
theorem dX8_mayBe_134 : decode cX8_mayBe 134 = .ok (.getfield 32, 3) := db_X8_mayBe_127.2.2.2.2.2.2.1
theorem dX8_mayBe_137 : decode cX8_mayBe 137 = .ok (.iload 6, 2) := db_X8_mayBe_127.2.2.2.2.2.2.2
set_option maxRecDepth 20000 in
theorem db_X8_mayBe_139 : (decode cX8_mayBe 139 = .ok (.iaload, 1)) ∧ (decode cX8_mayBe 140 = .ok (.aload_n 0, 1)) ∧ (decode cX8_mayBe 141 = .ok (.getfield 32, 3)) ∧ (decode cX8_mayBe 144 = .ok (.iload_n 3, 1)) ∧ (decode cX8_mayBe 145 = .ok (.iaload, 1)) ∧ (decode cX8_mayBe 146 = .ok (.if_icmp .ne 5, 3)) ∧ (decode cX8_mayBe 149 = .ok (.iconst 0, 1)) ∧ (decode cX8_mayBe 150 = .ok (.ireturn, 1)) := by decide +kernel
theorem dX8_mayBe_139 : decode cX8_mayBe 139 = .ok (.iaload, 1) := db_X8_mayBe_139.1
theorem dX8_mayBe_140 : decode cX8_mayBe 140 = .ok (.aload_n 0, 1) := db_X8_mayBe_139.2.1
theorem dX8_mayBe_141 : decode cX8_mayBe 141 = .ok (.getfield 32, 3) := db_X8_mayBe_139.2.2.1
theorem dX8_mayBe_144 : decode cX8_mayBe 144 = .ok (.iload_n 3, 1) := db_X8_mayBe_139.2.2.2.1
theorem dX8_mayBe_145 : decode cX8_mayBe 145 = .ok (.iaload, 1) := db_X8_mayBe_139.2.2.2.2.1
theorem dX8_mayBe_146 : decode cX8_mayBe 146 = .ok (.if_icmp .ne 5, 3) := db_X8_mayBe_139.2.2.2.2.2.1
theorem dX8_mayBe_149 : decode cX8_mayBe 149 = .ok (.iconst 0, 1) := db_X8_mayBe_139.2.2.2.2.2.2.1
theorem dX8_mayBe_150 : decode cX8_mayBe 150 = .ok (.ireturn, 1) := db_X8_mayBe_139.2.2.2.2.2.2.2
set_option maxRecDepth 20000 in
theorem db_X8_mayBe_51 : (decode cX8_mayBe 51 = .ok (.aload_n 0, 1)) ∧ (decode cX8_mayBe 52 = .ok (.getfield 7, 3)) ∧ (decode cX8_mayBe 55 = .ok (.iload 7, 2)) ∧ (decode cX8_mayBe 57 = .ok (.iconst 2, 1)) ∧ (decode cX8_mayBe 58 = .ok (.iadd, 1)) ∧ (decode cX8_mayBe 59 = .ok (.iaload, 1)) ∧ (decode cX8_mayBe 60 = .ok (.aload_n 0, 1)) ∧ (decode cX8_mayBe 61 = .ok (.getfield 7, 3)) := by decide +kernel
theorem dX8_mayBe_51 : decode cX8_mayBe 51 = .ok (.aload_n 0, 1) := db_X8_mayBe_51.1
theorem dX8_mayBe_52 : decode cX8_mayBe 52 = .ok (.getfield 7, 3) := db_X8_mayBe_51.2.1
theorem dX8_mayBe_55 : decode cX8_mayBe 55 = .ok (.iload 7, 2) := db_X8_mayBe_51.2.2.1
theorem dX8_mayBe_57 : decode cX8_mayBe 57 = .ok (.iconst 2, 1) := db_X8_mayBe_51.2.2.2.1
theorem dX8_mayBe_58 : decode cX8_mayBe 58 = .ok (.iadd, 1) := db_X8_mayBe_51.2.2.2.2.1
theorem dX8_mayBe_59 : decode cX8_mayBe 59 = .ok (.iaload, 1) := db_X8_mayBe_51.2.2.2.2.2.1
theorem dX8_mayBe_60 : decode cX8_mayBe 60 = .ok (.aload_n 0, 1) := db_X8_mayBe_51.2.2.2.2.2.2.1
theorem dX8_mayBe_61 : decode cX8_mayBe 61 = .ok (.getfield 7, 3) := db_X8_mayBe_51.2.2.2.2.2.2.2
set_option maxRecDepth 20000 in
theorem db_X8_mayBe_64 : (decode cX8_mayBe 64 = .ok (.iload 5, 2)) ∧ (decode cX8_mayBe 66 = .ok (.iconst 2, 1)) ∧ (decode cX8_mayBe 67 = .ok (.iadd, 1)) ∧ (decode cX8_mayBe 68 = .ok (.iaload, 1)) ∧ (decode cX8_mayBe 69 = .ok (.if_icmp .ne 37, 3)) ∧ (decode cX8_mayBe 72 = .ok (.aload_n 0, 1)) ∧ (decode cX8_mayBe 73 = .ok (.getfield 32, 3)) ∧ (decode cX8_mayBe 76 = .ok (.iload_n 3, 1)) := by decide +kernel
theorem dX8_mayBe_64 : decode cX8_mayBe 64 = .ok (.iload 5, 2) := db_X8_mayBe_64.1
theorem dX8_mayBe_66 : decode cX8_mayBe 66 = .ok (.iconst 2, 1) := db_X8_mayBe_64.2.1
theorem dX8_mayBe_67 : decode cX8_mayBe 67 = .ok (.iadd, 1) := db_X8_mayBe_64.2.2.1
theorem dX8_mayBe_68 : decode cX8_mayBe 68 = .ok (.iaload, 1) := db_X8_mayBe_64.2.2.2.1
theorem dX8_mayBe_69 : decode cX8_mayBe 69 = .ok (.if_icmp .ne 37, 3) := db_X8_mayBe_64.2.2.2.2.1
theorem dX8_mayBe_72 : decode cX8_mayBe 72 = .ok (.aload_n 0, 1) := db_X8_mayBe_64.2.2.2.2.2.1
theorem dX8_mayBe_73 : decode cX8_mayBe 73 = .ok (.getfield 32, 3) := db_X8_mayBe_64.2.2.2.2.2.2.1
theorem dX8_mayBe_76 : decode cX8_mayBe 76 = .ok (.iload_n 3, 1) := db_X8_mayBe_64.2.2.2.2.2.2.2
set_option maxRecDepth 20000 in
theorem db_X8_mayBe_77 : (decode cX8_mayBe 77 = .ok (.iaload, 1)) ∧ (decode cX8_mayBe 78 = .ok (.aload_n 0, 1)) ∧ (decode cX8_mayBe 79 = .ok (.getfield 7, 3)) ∧ (decode cX8_mayBe 82 = .ok (.iload 7, 2)) ∧ (decode cX8_mayBe 84 = .ok (.iconst 3, 1)) ∧ (decode cX8_mayBe 85 = .ok (.iadd, 1)) ∧ (decode cX8_mayBe 86 = .ok (.iaload, 1)) ∧ (decode cX8_mayBe 87 = .ok (.aload_n 0, 1)) := by decide +kernel
theorem dX8_mayBe_77 : decode cX8_mayBe 77 = .ok (.iaload, 1) := db_X8_mayBe_77.1
theorem dX8_mayBe_78 : decode cX8_mayBe 78 = .ok (.aload_n 0, 1) := db_X8_mayBe_77.2.1
theorem dX8_mayBe_79 : decode cX8_mayBe 79 = .ok (.getfield 7, 3) := db_X8_mayBe_77.2.2.1
theorem dX8_mayBe_82 : decode cX8_mayBe 82 = .ok (.iload 7, 2) := db_X8_mayBe_77.2.2.2.1
theorem dX8_mayBe_84 : decode cX8_mayBe 84 = .ok (.iconst 3, 1) := db_X8_mayBe_77.2.2.2.2.1
theorem dX8_mayBe_85 : decode cX8_mayBe 85 = .ok (.iadd, 1) := db_X8_mayBe_77.2.2.2.2.2.1
theorem dX8_mayBe_86 : decode cX8_mayBe 86 = .ok (.iaload, 1) := db_X8_mayBe_77.2.2.2.2.2.2.1
theorem dX8_mayBe_87 : decode cX8_mayBe 87 = .ok (.aload_n 0, 1) := db_X8_mayBe_77.2.2.2.2.2.2.2
set_option maxRecDepth 20000 in
theorem db_X8_mayBe_88 : (decode cX8_mayBe 88 = .ok (.getfield 7, 3)) ∧ (decode cX8_mayBe 91 = .ok (.iload 7, 2)) ∧ (decode cX8_mayBe 93 = .ok (.iconst 4, 1)) ∧ (decode cX8_mayBe 94 = .ok (.iadd, 1)) ∧ (decode cX8_mayBe 95 = .ok (.iaload, 1)) ∧ (decode cX8_mayBe 96 = .ok (.invokestatic 35, 3)) ∧ (decode cX8_mayBe 99 = .ok (.ifCond .eq 7, 3)) ∧ (decode cX8_mayBe 102 = .ok (.iconst 1, 1)) := by decide +kernel
theorem dX8_mayBe_88 : decode cX8_mayBe 88 = .ok (.getfield 7, 3) := db_X8_mayBe_88.1
theorem dX8_mayBe_91 : decode cX8_mayBe 91 = .ok (.iload 7, 2) := db_X8_mayBe_88.2.1
theorem dX8_mayBe_93 : decode cX8_mayBe 93 = .ok (.iconst 4, 1) := db_X8_mayBe_88.2.2.1
theorem dX8_mayBe_94 : decode cX8_mayBe 94 = .ok (.iadd, 1) := db_X8_mayBe_88.2.2.2.1
theorem dX8_mayBe_95 : decode cX8_mayBe 95 = .ok (.iaload, 1) := db_X8_mayBe_88.2.2.2.2.1
set_option maxRecDepth 20000 in
theorem ggX8_mayBe_X8_in : GoodIn wsX8_mayBe wsX8_in := goodIn_r _ [9] rfl (by decide +kernel)
set_option maxRecDepth 20000 in
theorem gX8_mayBe_X8_in : GoodIn wsX8_mayBe (va_wsS RX8 35 yX8_in wsX8_in) := goodIn_app (goodIn_r _ [7, 8, 5] rfl (by decide +kernel)) ggX8_mayBe_X8_in
theorem dX8_mayBe_96 : decode cX8_mayBe 96 = .ok (.invokestatic 35, 3) := db_X8_mayBe_88.2.2.2.2.2.1
theorem dX8_mayBe_99 : decode cX8_mayBe 99 = .ok (.ifCond .eq 7, 3) := db_X8_mayBe_88.2.2.2.2.2.2.1
theorem dX8_mayBe_102 : decode cX8_mayBe 102 = .ok (.iconst 1, 1) := db_X8_mayBe_88.2.2.2.2.2.2.2
set_option maxRecDepth 20000 in
theorem db_X8_mayBe_103 : (decode cX8_mayBe 103 = .ok (.goto 4, 3)) ∧ (decode cX8_mayBe 36 = .ok (.goto 115, 3)) := by decide +kernel
theorem dX8_mayBe_103 : decode cX8_mayBe 103 = .ok (.goto 4, 3) := db_X8_mayBe_103.1
theorem dX8_mayBe_36 : decode cX8_mayBe 36 = .ok (.goto 115, 3) := db_X8_mayBe_103.2
set_option maxRecDepth 20000 in
theorem db_X8_fits_0 : (decode cX8_fits 0 = .ok (.aload_n 0, 1)) ∧ (decode cX8_fits 1 = .ok (.getfield 26, 3)) ∧ (decode cX8_fits 4 = .ok (.iload_n 1, 1)) ∧ (decode cX8_fits 5 = .ok (.iaload, 1)) ∧ (decode cX8_fits 6 = .ok (.istore_n 2, 1)) ∧ (decode cX8_fits 7 = .ok (.iload_n 2, 1)) ∧ (decode cX8_fits 8 = .ok (.bipush 18, 2)) ∧ (decode cX8_fits 10 = .ok (.if_icmp .ne 5, 3)) := by decide +kernel
theorem dX8_fits_0 : decode cX8_fits 0 = .ok (.aload_n 0, 1) := db_X8_fits_0.1
theorem dX8_fits_1 : decode cX8_fits 1 = .ok (.getfield 26, 3) := db_X8_fits_0.2.1
theorem dX8_fits_4 : decode cX8_fits 4 = .ok (.iload_n 1, 1) := db_X8_fits_0.2.2.1
theorem dX8_fits_5 : decode cX8_fits 5 = .ok (.iaload, 1) := db_X8_fits_0.2.2.2.1
theorem dX8_fits_6 : decode cX8_fits 6 = .ok (.istore_n 2, 1) := db_X8_fits_0.2.2.2.2.1
theorem dX8_fits_7 : decode cX8_fits 7 = .ok (.iload_n 2, 1) := db_X8_fits_0.2.2.2.2.2.1
theorem dX8_fits_8 : decode cX8_fits 8 = .ok (.bipush 18, 2) := db_X8_fits_0.2.2.2.2.2.2.1
theorem dX8_fits_10 : decode cX8_fits 10 = .ok (.if_icmp .ne 5, 3) := db_X8_fits_0.2.2.2.2.2.2.2
set_option maxRecDepth 20000 in
theorem db_X8_fits_15 : (decode cX8_fits 15 = .ok (.iload_n 2, 1)) ∧ (decode cX8_fits 16 = .ok (.bipush 6, 2)) ∧ (decode cX8_fits 18 = .ok (.irem, 1)) ∧ (decode cX8_fits 19 = .ok (.istore_n 3, 1)) ∧ (decode cX8_fits 20 = .ok (.aload_n 0, 1)) ∧ (decode cX8_fits 21 = .ok (.iload_n 3, 1)) ∧ (decode cX8_fits 22 = .ok (.invokevirtual 73, 3)) ∧ (decode cX8_fits 25 = .ok (.ifCond .eq 17, 3)) := by decide +kernel
theorem dX8_fits_15 : decode cX8_fits 15 = .ok (.iload_n 2, 1) := db_X8_fits_15.1
theorem dX8_fits_16 : decode cX8_fits 16 = .ok (.bipush 6, 2) := db_X8_fits_15.2.1
theorem dX8_fits_18 : decode cX8_fits 18 = .ok (.irem, 1) := db_X8_fits_15.2.2.1
theorem dX8_fits_19 : decode cX8_fits 19 = .ok (.istore_n 3, 1) := db_X8_fits_15.2.2.2.1
theorem dX8_fits_20 : decode cX8_fits 20 = .ok (.aload_n 0, 1) := db_X8_fits_15.2.2.2.2.1
theorem dX8_fits_21 : decode cX8_fits 21 = .ok (.iload_n 3, 1) := db_X8_fits_15.2.2.2.2.2.1
set_option maxRecDepth 20000 in
theorem ggX8_fits_X8_isPair : GoodIn wsX8_fits wsX8_isPair := goodIn_r _ [8, 9, 10, 7, 11, 12, 13, 14, 15, 16, 17, 18, 19, 34, 35, 36, 37, 38, 39, 40, 41, 42, 43, 44] rfl (by decide +kernel)
set_option maxRecDepth 20000 in
theorem gX8_fits_X8_isPair : GoodIn wsX8_fits (wsV RX8 73 RX8 yX8_isPair wsX8_isPair) := goodIn_app (goodIn_r _ [4, 5, 6, 7] rfl (by decide +kernel)) ggX8_fits_X8_isPair
theorem dX8_fits_22 : decode cX8_fits 22 = .ok (.invokevirtual 73, 3) := db_X8_fits_15.2.2.2.2.2.2.1
theorem dX8_fits_25 : decode cX8_fits 25 = .ok (.ifCond .eq 17, 3) := db_X8_fits_15.2.2.2.2.2.2.2
set_option maxRecDepth 20000 in
theorem db_X8_fits_28 : (decode cX8_fits 28 = .ok (.aload_n 0, 1)) ∧ (decode cX8_fits 29 = .ok (.iload_n 3, 1)) ∧ (decode cX8_fits 30 = .ok (.aload_n 0, 1)) ∧ (decode cX8_fits 31 = .ok (.getfield 23, 3)) ∧ (decode cX8_fits 34 = .ok (.iload_n 1, 1)) ∧ (decode cX8_fits 35 = .ok (.iaload, 1)) ∧ (decode cX8_fits 36 = .ok (.invokevirtual 76, 3)) ∧ (decode cX8_fits 39 = .ok (.ifCond .ne 5, 3)) := by decide +kernel
theorem dX8_fits_28 : decode cX8_fits 28 = .ok (.aload_n 0, 1) := db_X8_fits_28.1
theorem dX8_fits_29 : decode cX8_fits 29 = .ok (.iload_n 3, 1) := db_X8_fits_28.2.1
theorem dX8_fits_30 : decode cX8_fits 30 = .ok (.aload_n 0, 1) := db_X8_fits_28.2.2.1
theorem dX8_fits_31 : decode cX8_fits 31 = .ok (.getfield 23, 3) := db_X8_fits_28.2.2.2.1
theorem dX8_fits_34 : decode cX8_fits 34 = .ok (.iload_n 1, 1) := db_X8_fits_28.2.2.2.2.1
theorem dX8_fits_35 : decode cX8_fits 35 = .ok (.iaload, 1) := db_X8_fits_28.2.2.2.2.2.1
set_option maxRecDepth 20000 in
theorem ggX8_fits_X8_may : GoodIn wsX8_fits wsX8_may := goodIn_r _ [23, 19, 24, 25, 7, 26, 12, 13, 14, 27, 28, 29, 30, 31, 32, 33, 34, 35, 36, 37, 38, 39, 40, 41, 42, 43, 44] rfl (by decide +kernel)
set_option maxRecDepth 20000 in
theorem gX8_fits_X8_may : GoodIn wsX8_fits (wsV RX8 76 RX8 yX8_may wsX8_may) := goodIn_app (goodIn_r _ [20, 21, 22, 7] rfl (by decide +kernel)) ggX8_fits_X8_may
theorem dX8_fits_36 : decode cX8_fits 36 = .ok (.invokevirtual 76, 3) := db_X8_fits_28.2.2.2.2.2.2.1
theorem dX8_fits_39 : decode cX8_fits 39 = .ok (.ifCond .ne 5, 3) := db_X8_fits_28.2.2.2.2.2.2.2
set_option maxRecDepth 20000 in
theorem db_X8_fits_42 : (decode cX8_fits 42 = .ok (.iconst 0, 1)) ∧ (decode cX8_fits 43 = .ok (.ireturn, 1)) ∧ (decode cX8_fits 44 = .ok (.iconst 0, 1)) ∧ (decode cX8_fits 45 = .ok (.istore 4, 2)) ∧ (decode cX8_fits 47 = .ok (.iconst 0, 1)) ∧ (decode cX8_fits 48 = .ok (.istore 5, 2)) ∧ (decode cX8_fits 50 = .ok (.iload 5, 2)) ∧ (decode cX8_fits 52 = .ok (.iload_n 1, 1)) := by decide +kernel
theorem dX8_fits_42 : decode cX8_fits 42 = .ok (.iconst 0, 1) := db_X8_fits_42.1
theorem dX8_fits_43 : decode cX8_fits 43 = .ok (.ireturn, 1) := db_X8_fits_42.2.1
theorem dX8_fits_44 : decode cX8_fits 44 = .ok (.iconst 0, 1) := db_X8_fits_42.2.2.1
theorem dX8_fits_45 : decode cX8_fits 45 = .ok (.istore 4, 2) := db_X8_fits_42.2.2.2.1
theorem dX8_fits_47 : decode cX8_fits 47 = .ok (.iconst 0, 1) := db_X8_fits_42.2.2.2.2.1
theorem dX8_fits_48 : decode cX8_fits 48 = .ok (.istore 5, 2) := db_X8_fits_42.2.2.2.2.2.1
theorem dX8_fits_50 : decode cX8_fits 50 = .ok (.iload 5, 2) := db_X8_fits_42.2.2.2.2.2.2.1
theorem dX8_fits_52 : decode cX8_fits 52 = .ok (.iload_n 1, 1) := db_X8_fits_42.2.2.2.2.2.2.2
set_option maxRecDepth 20000 in
theorem db_X8_fits_53 : (decode cX8_fits 53 = .ok (.if_icmp .ge 118, 3)) ∧ (decode cX8_fits 171 = .ok (.iload 4, 2)) ∧ (decode cX8_fits 173 = .ok (.aload_n 0, 1)) ∧ (decode cX8_fits 174 = .ok (.getfield 16, 3)) ∧ (decode cX8_fits 177 = .ok (.if_icmp .ge 7, 3)) ∧ (decode cX8_fits 184 = .ok (.iconst 0, 1)) ∧ (decode cX8_fits 185 = .ok (.ireturn, 1)) ∧ (decode cX8_fits 180 = .ok (.iconst 1, 1)) := by decide +kernel
theorem dX8_fits_53 : decode cX8_fits 53 = .ok (.if_icmp .ge 118, 3) := db_X8_fits_53.1
theorem dX8_fits_171 : decode cX8_fits 171 = .ok (.iload 4, 2) := db_X8_fits_53.2.1
theorem dX8_fits_173 : decode cX8_fits 173 = .ok (.aload_n 0, 1) := db_X8_fits_53.2.2.1
theorem dX8_fits_174 : decode cX8_fits 174 = .ok (.getfield 16, 3) := db_X8_fits_53.2.2.2.1
theorem dX8_fits_177 : decode cX8_fits 177 = .ok (.if_icmp .ge 7, 3) := db_X8_fits_53.2.2.2.2.1
theorem dX8_fits_184 : decode cX8_fits 184 = .ok (.iconst 0, 1) := db_X8_fits_53.2.2.2.2.2.1
theorem dX8_fits_185 : decode cX8_fits 185 = .ok (.ireturn, 1) := db_X8_fits_53.2.2.2.2.2.2.1
theorem dX8_fits_180 : decode cX8_fits 180 = .ok (.iconst 1, 1) := db_X8_fits_53.2.2.2.2.2.2.2
set_option maxRecDepth 20000 in
theorem db_X8_fits_181 : (decode cX8_fits 181 = .ok (.goto 4, 3)) ∧ (decode cX8_fits 56 = .ok (.aload_n 0, 1)) ∧ (decode cX8_fits 57 = .ok (.getfield 26, 3)) ∧ (decode cX8_fits 60 = .ok (.iload 5, 2)) ∧ (decode cX8_fits 62 = .ok (.iaload, 1)) ∧ (decode cX8_fits 63 = .ok (.bipush 18, 2)) ∧ (decode cX8_fits 65 = .ok (.if_icmp .eq 100, 3)) ∧ (decode cX8_fits 165 = .ok (.iinc 5 1, 3)) := by decide +kernel
theorem dX8_fits_181 : decode cX8_fits 181 = .ok (.goto 4, 3) := db_X8_fits_181.1
theorem dX8_fits_56 : decode cX8_fits 56 = .ok (.aload_n 0, 1) := db_X8_fits_181.2.1
theorem dX8_fits_57 : decode cX8_fits 57 = .ok (.getfield 26, 3) := db_X8_fits_181.2.2.1
theorem dX8_fits_60 : decode cX8_fits 60 = .ok (.iload 5, 2) := db_X8_fits_181.2.2.2.1
theorem dX8_fits_62 : decode cX8_fits 62 = .ok (.iaload, 1) := db_X8_fits_181.2.2.2.2.1
theorem dX8_fits_63 : decode cX8_fits 63 = .ok (.bipush 18, 2) := db_X8_fits_181.2.2.2.2.2.1
theorem dX8_fits_65 : decode cX8_fits 65 = .ok (.if_icmp .eq 100, 3) := db_X8_fits_181.2.2.2.2.2.2.1
theorem dX8_fits_165 : decode cX8_fits 165 = .ok (.iinc 5 1, 3) := db_X8_fits_181.2.2.2.2.2.2.2
set_option maxRecDepth 20000 in
theorem db_X8_fits_168 : (decode cX8_fits 168 = .ok (.goto (-118), 3)) ∧ (decode cX8_fits 68 = .ok (.aload_n 0, 1)) ∧ (decode cX8_fits 69 = .ok (.getfield 26, 3)) ∧ (decode cX8_fits 72 = .ok (.iload 5, 2)) ∧ (decode cX8_fits 74 = .ok (.iaload, 1)) ∧ (decode cX8_fits 75 = .ok (.bipush 6, 2)) ∧ (decode cX8_fits 77 = .ok (.idiv, 1)) ∧ (decode cX8_fits 78 = .ok (.iload_n 2, 1)) := by decide +kernel
theorem dX8_fits_168 : decode cX8_fits 168 = .ok (.goto (-118), 3) := db_X8_fits_168.1
theorem dX8_fits_68 : decode cX8_fits 68 = .ok (.aload_n 0, 1) := db_X8_fits_168.2.1
theorem dX8_fits_69 : decode cX8_fits 69 = .ok (.getfield 26, 3) := db_X8_fits_168.2.2.1
theorem dX8_fits_72 : decode cX8_fits 72 = .ok (.iload 5, 2) := db_X8_fits_168.2.2.2.1
theorem dX8_fits_74 : decode cX8_fits 74 = .ok (.iaload, 1) := db_X8_fits_168.2.2.2.2.1
theorem dX8_fits_75 : decode cX8_fits 75 = .ok (.bipush 6, 2) := db_X8_fits_168.2.2.2.2.2.1
theorem dX8_fits_77 : decode cX8_fits 77 = .ok (.idiv, 1) := db_X8_fits_168.2.2.2.2.2.2.1
theorem dX8_fits_78 : decode cX8_fits 78 = .ok (.iload_n 2, 1) := db_X8_fits_168.2.2.2.2.2.2.2
set_option maxRecDepth 20000 in
theorem db_X8_fits_79 : (decode cX8_fits 79 = .ok (.bipush 6, 2)) ∧ (decode cX8_fits 81 = .ok (.idiv, 1)) ∧ (decode cX8_fits 82 = .ok (.if_icmp .eq 6, 3)) ∧ (decode cX8_fits 88 = .ok (.aload_n 0, 1)) ∧ (decode cX8_fits 89 = .ok (.getfield 26, 3)) ∧ (decode cX8_fits 92 = .ok (.iload 5, 2)) ∧ (decode cX8_fits 94 = .ok (.iaload, 1)) ∧ (decode cX8_fits 95 = .ok (.bipush 6, 2)) := by decide +kernel
theorem dX8_fits_79 : decode cX8_fits 79 = .ok (.bipush 6, 2) := db_X8_fits_79.1
theorem dX8_fits_81 : decode cX8_fits 81 = .ok (.idiv, 1) := db_X8_fits_79.2.1
theorem dX8_fits_82 : decode cX8_fits 82 = .ok (.if_icmp .eq 6, 3) := db_X8_fits_79.2.2.1
theorem dX8_fits_88 : decode cX8_fits 88 = .ok (.aload_n 0, 1) := db_X8_fits_79.2.2.2.1
theorem dX8_fits_89 : decode cX8_fits 89 = .ok (.getfield 26, 3) := db_X8_fits_79.2.2.2.2.1
theorem dX8_fits_92 : decode cX8_fits 92 = .ok (.iload 5, 2) := db_X8_fits_79.2.2.2.2.2.1
theorem dX8_fits_94 : decode cX8_fits 94 = .ok (.iaload, 1) := db_X8_fits_79.2.2.2.2.2.2.1
theorem dX8_fits_95 : decode cX8_fits 95 = .ok (.bipush 6, 2) := db_X8_fits_79.2.2.2.2.2.2.2
set_option maxRecDepth 20000 in
theorem db_X8_fits_97 : (decode cX8_fits 97 = .ok (.irem, 1)) ∧ (decode cX8_fits 98 = .ok (.istore 6, 2)) ∧ (decode cX8_fits 100 = .ok (.iload 6, 2)) ∧ (decode cX8_fits 102 = .ok (.invokestatic 66, 3)) ∧ (decode cX8_fits 105 = .ok (.iload_n 3, 1)) ∧ (decode cX8_fits 106 = .ok (.invokestatic 66, 3)) ∧ (decode cX8_fits 109 = .ok (.if_icmp .eq 39, 3)) ∧ (decode cX8_fits 148 = .ok (.iconst 1, 1)) := by decide +kernel
theorem dX8_fits_97 : decode cX8_fits 97 = .ok (.irem, 1) := db_X8_fits_97.1
theorem dX8_fits_98 : decode cX8_fits 98 = .ok (.istore 6, 2) := db_X8_fits_97.2.1
theorem dX8_fits_100 : decode cX8_fits 100 = .ok (.iload 6, 2) := db_X8_fits_97.2.2.1
set_option maxRecDepth 20000 in
theorem ggX8_fits_X8_oneOf : GoodIn wsX8_fits wsX8_oneOf := goodIn_r _ [26] rfl (by decide +kernel)
set_option maxRecDepth 20000 in
theorem gX8_fits_X8_oneOf : GoodIn wsX8_fits (va_wsS RX8 66 yX8_oneOf wsX8_oneOf) := goodIn_app (goodIn_r _ [24, 25, 7] rfl (by decide +kernel)) ggX8_fits_X8_oneOf
theorem dX8_fits_102 : decode cX8_fits 102 = .ok (.invokestatic 66, 3) := db_X8_fits_97.2.2.2.1
theorem dX8_fits_105 : decode cX8_fits 105 = .ok (.iload_n 3, 1) := db_X8_fits_97.2.2.2.2.1
theorem dX8_fits_106 : decode cX8_fits 106 = .ok (.invokestatic 66, 3) := db_X8_fits_97.2.2.2.2.2.1
theorem dX8_fits_109 : decode cX8_fits 109 = .ok (.if_icmp .eq 39, 3) := db_X8_fits_97.2.2.2.2.2.2.1
theorem dX8_fits_148 : decode cX8_fits 148 = .ok (.iconst 1, 1) := db_X8_fits_97.2.2.2.2.2.2.2
set_option maxRecDepth 20000 in
theorem db_X8_fits_149 : (decode cX8_fits 149 = .ok (.goto 4, 3)) ∧ (decode cX8_fits 153 = .ok (.istore 7, 2)) ∧ (decode cX8_fits 155 = .ok (.iload 7, 2)) ∧ (decode cX8_fits 157 = .ok (.ifCond .eq 5, 3)) ∧ (decode cX8_fits 160 = .ok (.iconst 0, 1)) ∧ (decode cX8_fits 161 = .ok (.ireturn, 1)) ∧ (decode cX8_fits 112 = .ok (.iload 6, 2)) ∧ (decode cX8_fits 114 = .ok (.invokestatic 66, 3)) := by decide +kernel
theorem dX8_fits_149 : decode cX8_fits 149 = .ok (.goto 4, 3) := db_X8_fits_149.1
theorem dX8_fits_153 : decode cX8_fits 153 = .ok (.istore 7, 2) := db_X8_fits_149.2.1
theorem dX8_fits_155 : decode cX8_fits 155 = .ok (.iload 7, 2) := db_X8_fits_149.2.2.1
theorem dX8_fits_157 : decode cX8_fits 157 = .ok (.ifCond .eq 5, 3) := db_X8_fits_149.2.2.2.1
theorem dX8_fits_160 : decode cX8_fits 160 = .ok (.iconst 0, 1) := db_X8_fits_149.2.2.2.2.1
theorem dX8_fits_161 : decode cX8_fits 161 = .ok (.ireturn, 1) := db_X8_fits_149.2.2.2.2.2.1
theorem dX8_fits_112 : decode cX8_fits 112 = .ok (.iload 6, 2) := db_X8_fits_149.2.2.2.2.2.2.1
theorem dX8_fits_114 : decode cX8_fits 114 = .ok (.invokestatic 66, 3) := db_X8_fits_149.2.2.2.2.2.2.2
set_option maxRecDepth 20000 in
theorem db_X8_fits_117 : (decode cX8_fits 117 = .ok (.iload_n 3, 1)) ∧ (decode cX8_fits 118 = .ok (.invokestatic 63, 3)) ∧ (decode cX8_fits 121 = .ok (.if_icmp .eq 27, 3)) ∧ (decode cX8_fits 124 = .ok (.iload 6, 2)) ∧ (decode cX8_fits 126 = .ok (.invokestatic 63, 3)) ∧ (decode cX8_fits 129 = .ok (.iload_n 3, 1)) ∧ (decode cX8_fits 130 = .ok (.invokestatic 66, 3)) ∧ (decode cX8_fits 133 = .ok (.if_icmp .eq 15, 3)) := by decide +kernel
theorem dX8_fits_117 : decode cX8_fits 117 = .ok (.iload_n 3, 1) := db_X8_fits_117.1
set_option maxRecDepth 20000 in
theorem ggX8_fits_X8_otherOf : GoodIn wsX8_fits wsX8_otherOf := goodIn_r _ [14] rfl (by decide +kernel)
set_option maxRecDepth 20000 in
theorem gX8_fits_X8_otherOf : GoodIn wsX8_fits (va_wsS RX8 63 yX8_otherOf wsX8_otherOf) := goodIn_app (goodIn_r _ [12, 13, 7] rfl (by decide +kernel)) ggX8_fits_X8_otherOf
theorem dX8_fits_118 : decode cX8_fits 118 = .ok (.invokestatic 63, 3) := db_X8_fits_117.2.1
theorem dX8_fits_121 : decode cX8_fits 121 = .ok (.if_icmp .eq 27, 3) := db_X8_fits_117.2.2.1
theorem dX8_fits_124 : decode cX8_fits 124 = .ok (.iload 6, 2) := db_X8_fits_117.2.2.2.1
theorem dX8_fits_126 : decode cX8_fits 126 = .ok (.invokestatic 63, 3) := db_X8_fits_117.2.2.2.2.1
theorem dX8_fits_129 : decode cX8_fits 129 = .ok (.iload_n 3, 1) := db_X8_fits_117.2.2.2.2.2.1
theorem dX8_fits_130 : decode cX8_fits 130 = .ok (.invokestatic 66, 3) := db_X8_fits_117.2.2.2.2.2.2.1
theorem dX8_fits_133 : decode cX8_fits 133 = .ok (.if_icmp .eq 15, 3) := db_X8_fits_117.2.2.2.2.2.2.2
set_option maxRecDepth 20000 in
theorem db_X8_fits_136 : (decode cX8_fits 136 = .ok (.iload 6, 2)) ∧ (decode cX8_fits 138 = .ok (.invokestatic 63, 3)) ∧ (decode cX8_fits 141 = .ok (.iload_n 3, 1)) ∧ (decode cX8_fits 142 = .ok (.invokestatic 63, 3)) ∧ (decode cX8_fits 145 = .ok (.if_icmp .ne 7, 3)) ∧ (decode cX8_fits 152 = .ok (.iconst 0, 1)) ∧ (decode cX8_fits 162 = .ok (.iinc 4 1, 3)) ∧ (decode cX8_fits 85 = .ok (.goto 80, 3)) := by decide +kernel
theorem dX8_fits_136 : decode cX8_fits 136 = .ok (.iload 6, 2) := db_X8_fits_136.1
theorem dX8_fits_138 : decode cX8_fits 138 = .ok (.invokestatic 63, 3) := db_X8_fits_136.2.1
theorem dX8_fits_141 : decode cX8_fits 141 = .ok (.iload_n 3, 1) := db_X8_fits_136.2.2.1
theorem dX8_fits_142 : decode cX8_fits 142 = .ok (.invokestatic 63, 3) := db_X8_fits_136.2.2.2.1
theorem dX8_fits_145 : decode cX8_fits 145 = .ok (.if_icmp .ne 7, 3) := db_X8_fits_136.2.2.2.2.1
theorem dX8_fits_152 : decode cX8_fits 152 = .ok (.iconst 0, 1) := db_X8_fits_136.2.2.2.2.2.1
theorem dX8_fits_162 : decode cX8_fits 162 = .ok (.iinc 4 1, 3) := db_X8_fits_136.2.2.2.2.2.2.1
theorem dX8_fits_85 : decode cX8_fits 85 = .ok (.goto 80, 3) := db_X8_fits_136.2.2.2.2.2.2.2
set_option maxRecDepth 20000 in
theorem db_X8_fits_13 : (decode cX8_fits 13 = .ok (.iconst 1, 1)) ∧ (decode cX8_fits 14 = .ok (.ireturn, 1)) := by decide +kernel
theorem dX8_fits_13 : decode cX8_fits 13 = .ok (.iconst 1, 1) := db_X8_fits_13.1
theorem dX8_fits_14 : decode cX8_fits 14 = .ok (.ireturn, 1) := db_X8_fits_13.2
set_option maxRecDepth 20000 in
theorem db_X8_waitsOf_0 : (decode cX8_waitsOf 0 = .ok (.iconst 0, 1)) ∧ (decode cX8_waitsOf 1 = .ok (.istore_n 2, 1)) ∧ (decode cX8_waitsOf 2 = .ok (.iconst 0, 1)) ∧ (decode cX8_waitsOf 3 = .ok (.istore_n 3, 1)) ∧ (decode cX8_waitsOf 4 = .ok (.iload_n 3, 1)) ∧ (decode cX8_waitsOf 5 = .ok (.iload_n 1, 1)) ∧ (decode cX8_waitsOf 6 = .ok (.if_icmp .gt 52, 3)) ∧ (decode cX8_waitsOf 58 = .ok (.iload_n 2, 1)) := by decide +kernel
theorem dX8_waitsOf_0 : decode cX8_waitsOf 0 = .ok (.iconst 0, 1) := db_X8_waitsOf_0.1
theorem dX8_waitsOf_1 : decode cX8_waitsOf 1 = .ok (.istore_n 2, 1) := db_X8_waitsOf_0.2.1
theorem dX8_waitsOf_2 : decode cX8_waitsOf 2 = .ok (.iconst 0, 1) := db_X8_waitsOf_0.2.2.1
theorem dX8_waitsOf_3 : decode cX8_waitsOf 3 = .ok (.istore_n 3, 1) := db_X8_waitsOf_0.2.2.2.1
theorem dX8_waitsOf_4 : decode cX8_waitsOf 4 = .ok (.iload_n 3, 1) := db_X8_waitsOf_0.2.2.2.2.1
theorem dX8_waitsOf_5 : decode cX8_waitsOf 5 = .ok (.iload_n 1, 1) := db_X8_waitsOf_0.2.2.2.2.2.1
theorem dX8_waitsOf_6 : decode cX8_waitsOf 6 = .ok (.if_icmp .gt 52, 3) := db_X8_waitsOf_0.2.2.2.2.2.2.1
theorem dX8_waitsOf_58 : decode cX8_waitsOf 58 = .ok (.iload_n 2, 1) := db_X8_waitsOf_0.2.2.2.2.2.2.2
set_option maxRecDepth 20000 in
theorem db_X8_waitsOf_59 : (decode cX8_waitsOf 59 = .ok (.ireturn, 1)) ∧ (decode cX8_waitsOf 9 = .ok (.iload_n 2, 1)) ∧ (decode cX8_waitsOf 10 = .ok (.aload_n 0, 1)) ∧ (decode cX8_waitsOf 11 = .ok (.getfield 7, 3)) ∧ (decode cX8_waitsOf 14 = .ok (.aload_n 0, 1)) ∧ (decode cX8_waitsOf 15 = .ok (.getfield 23, 3)) ∧ (decode cX8_waitsOf 18 = .ok (.iload_n 3, 1)) ∧ (decode cX8_waitsOf 19 = .ok (.iaload, 1)) := by decide +kernel
theorem dX8_waitsOf_59 : decode cX8_waitsOf 59 = .ok (.ireturn, 1) := db_X8_waitsOf_59.1
theorem dX8_waitsOf_9 : decode cX8_waitsOf 9 = .ok (.iload_n 2, 1) := db_X8_waitsOf_59.2.1
theorem dX8_waitsOf_10 : decode cX8_waitsOf 10 = .ok (.aload_n 0, 1) := db_X8_waitsOf_59.2.2.1
theorem dX8_waitsOf_11 : decode cX8_waitsOf 11 = .ok (.getfield 7, 3) := db_X8_waitsOf_59.2.2.2.1
theorem dX8_waitsOf_14 : decode cX8_waitsOf 14 = .ok (.aload_n 0, 1) := db_X8_waitsOf_59.2.2.2.2.1
theorem dX8_waitsOf_15 : decode cX8_waitsOf 15 = .ok (.getfield 23, 3) := db_X8_waitsOf_59.2.2.2.2.2.1
theorem dX8_waitsOf_18 : decode cX8_waitsOf 18 = .ok (.iload_n 3, 1) := db_X8_waitsOf_59.2.2.2.2.2.2.1
theorem dX8_waitsOf_19 : decode cX8_waitsOf 19 = .ok (.iaload, 1) := db_X8_waitsOf_59.2.2.2.2.2.2.2
set_option maxRecDepth 20000 in
theorem db_X8_waitsOf_20 : (decode cX8_waitsOf 20 = .ok (.iconst 5, 1)) ∧ (decode cX8_waitsOf 21 = .ok (.invokestatic 46, 3)) ∧ (decode cX8_waitsOf 24 = .ok (.iaload, 1)) ∧ (decode cX8_waitsOf 25 = .ok (.aload_n 0, 1)) ∧ (decode cX8_waitsOf 26 = .ok (.getfield 26, 3)) ∧ (decode cX8_waitsOf 29 = .ok (.iload_n 3, 1)) ∧ (decode cX8_waitsOf 30 = .ok (.iaload, 1)) ∧ (decode cX8_waitsOf 31 = .ok (.bipush 18, 2)) := by decide +kernel
theorem dX8_waitsOf_20 : decode cX8_waitsOf 20 = .ok (.iconst 5, 1) := db_X8_waitsOf_20.1
set_option maxRecDepth 20000 in
theorem ggX8_waitsOf_X8_at : GoodIn wsX8_waitsOf wsX8_at := goodIn_r _ [7] rfl (by decide +kernel)
set_option maxRecDepth 20000 in
theorem gX8_waitsOf_X8_at : GoodIn wsX8_waitsOf (va_wsS RX8 46 yX8_at wsX8_at) := goodIn_app (goodIn_r _ [4, 5, 6] rfl (by decide +kernel)) ggX8_waitsOf_X8_at
theorem dX8_waitsOf_21 : decode cX8_waitsOf 21 = .ok (.invokestatic 46, 3) := db_X8_waitsOf_20.2.1
theorem dX8_waitsOf_24 : decode cX8_waitsOf 24 = .ok (.iaload, 1) := db_X8_waitsOf_20.2.2.1
theorem dX8_waitsOf_25 : decode cX8_waitsOf 25 = .ok (.aload_n 0, 1) := db_X8_waitsOf_20.2.2.2.1
theorem dX8_waitsOf_26 : decode cX8_waitsOf 26 = .ok (.getfield 26, 3) := db_X8_waitsOf_20.2.2.2.2.1
theorem dX8_waitsOf_29 : decode cX8_waitsOf 29 = .ok (.iload_n 3, 1) := db_X8_waitsOf_20.2.2.2.2.2.1
theorem dX8_waitsOf_30 : decode cX8_waitsOf 30 = .ok (.iaload, 1) := db_X8_waitsOf_20.2.2.2.2.2.2.1
theorem dX8_waitsOf_31 : decode cX8_waitsOf 31 = .ok (.bipush 18, 2) := db_X8_waitsOf_20.2.2.2.2.2.2.2
set_option maxRecDepth 20000 in
theorem db_X8_waitsOf_33 : (decode cX8_waitsOf 33 = .ok (.if_icmp .ne 7, 3)) ∧ (decode cX8_waitsOf 40 = .ok (.aload_n 0, 1)) ∧ (decode cX8_waitsOf 41 = .ok (.getfield 26, 3)) ∧ (decode cX8_waitsOf 44 = .ok (.iload_n 3, 1)) ∧ (decode cX8_waitsOf 45 = .ok (.iaload, 1)) ∧ (decode cX8_waitsOf 46 = .ok (.bipush 6, 2)) ∧ (decode cX8_waitsOf 48 = .ok (.idiv, 1)) ∧ (decode cX8_waitsOf 49 = .ok (.imul, 1)) := by decide +kernel
theorem dX8_waitsOf_33 : decode cX8_waitsOf 33 = .ok (.if_icmp .ne 7, 3) := db_X8_waitsOf_33.1
theorem dX8_waitsOf_40 : decode cX8_waitsOf 40 = .ok (.aload_n 0, 1) := db_X8_waitsOf_33.2.1
theorem dX8_waitsOf_41 : decode cX8_waitsOf 41 = .ok (.getfield 26, 3) := db_X8_waitsOf_33.2.2.1
theorem dX8_waitsOf_44 : decode cX8_waitsOf 44 = .ok (.iload_n 3, 1) := db_X8_waitsOf_33.2.2.2.1
theorem dX8_waitsOf_45 : decode cX8_waitsOf 45 = .ok (.iaload, 1) := db_X8_waitsOf_33.2.2.2.2.1
theorem dX8_waitsOf_46 : decode cX8_waitsOf 46 = .ok (.bipush 6, 2) := db_X8_waitsOf_33.2.2.2.2.2.1
theorem dX8_waitsOf_48 : decode cX8_waitsOf 48 = .ok (.idiv, 1) := db_X8_waitsOf_33.2.2.2.2.2.2.1
theorem dX8_waitsOf_49 : decode cX8_waitsOf 49 = .ok (.imul, 1) := db_X8_waitsOf_33.2.2.2.2.2.2.2
set_option maxRecDepth 20000 in
theorem db_X8_waitsOf_50 : (decode cX8_waitsOf 50 = .ok (.iadd, 1)) ∧ (decode cX8_waitsOf 51 = .ok (.istore_n 2, 1)) ∧ (decode cX8_waitsOf 52 = .ok (.iinc 3 1, 3)) ∧ (decode cX8_waitsOf 55 = .ok (.goto (-51), 3)) ∧ (decode cX8_waitsOf 36 = .ok (.iconst 4, 1)) ∧ (decode cX8_waitsOf 37 = .ok (.goto 12, 3)) := by decide +kernel
theorem dX8_waitsOf_50 : decode cX8_waitsOf 50 = .ok (.iadd, 1) := db_X8_waitsOf_50.1
theorem dX8_waitsOf_51 : decode cX8_waitsOf 51 = .ok (.istore_n 2, 1) := db_X8_waitsOf_50.2.1
theorem dX8_waitsOf_52 : decode cX8_waitsOf 52 = .ok (.iinc 3 1, 3) := db_X8_waitsOf_50.2.2.1
theorem dX8_waitsOf_55 : decode cX8_waitsOf 55 = .ok (.goto (-51), 3) := db_X8_waitsOf_50.2.2.2.1
theorem dX8_waitsOf_36 : decode cX8_waitsOf 36 = .ok (.iconst 4, 1) := db_X8_waitsOf_50.2.2.2.2.1
theorem dX8_waitsOf_37 : decode cX8_waitsOf 37 = .ok (.goto 12, 3) := db_X8_waitsOf_50.2.2.2.2.2
set_option maxRecDepth 20000 in
theorem db_X8_next_0 : (decode cX8_next 0 = .ok (.iload_n 3, 1)) ∧ (decode cX8_next 1 = .ok (.iload 4, 2)) ∧ (decode cX8_next 3 = .ok (.iadd, 1)) ∧ (decode cX8_next 4 = .ok (.istore 6, 2)) ∧ (decode cX8_next 6 = .ok (.iload 6, 2)) ∧ (decode cX8_next 8 = .ok (.iconst 0, 1)) ∧ (decode cX8_next 9 = .ok (.iload 5, 2)) ∧ (decode cX8_next 11 = .ok (.iconst 1, 1)) := by decide +kernel
theorem dX8_next_0 : decode cX8_next 0 = .ok (.iload_n 3, 1) := db_X8_next_0.1
theorem dX8_next_1 : decode cX8_next 1 = .ok (.iload 4, 2) := db_X8_next_0.2.1
theorem dX8_next_3 : decode cX8_next 3 = .ok (.iadd, 1) := db_X8_next_0.2.2.1
theorem dX8_next_4 : decode cX8_next 4 = .ok (.istore 6, 2) := db_X8_next_0.2.2.2.1
theorem dX8_next_6 : decode cX8_next 6 = .ok (.iload 6, 2) := db_X8_next_0.2.2.2.2.1
theorem dX8_next_8 : decode cX8_next 8 = .ok (.iconst 0, 1) := db_X8_next_0.2.2.2.2.2.1
theorem dX8_next_9 : decode cX8_next 9 = .ok (.iload 5, 2) := db_X8_next_0.2.2.2.2.2.2.1
theorem dX8_next_11 : decode cX8_next 11 = .ok (.iconst 1, 1) := db_X8_next_0.2.2.2.2.2.2.2
set_option maxRecDepth 20000 in
theorem db_X8_next_12 : (decode cX8_next 12 = .ok (.isub, 1)) ∧ (decode cX8_next 13 = .ok (.invokestatic 35, 3)) ∧ (decode cX8_next 16 = .ok (.ifCond .eq 24, 3)) ∧ (decode cX8_next 19 = .ok (.aload_n 0, 1)) ∧ (decode cX8_next 20 = .ok (.iload_n 1, 1)) ∧ (decode cX8_next 21 = .ok (.iload_n 2, 1)) ∧ (decode cX8_next 22 = .ok (.iload 6, 2)) ∧ (decode cX8_next 24 = .ok (.invokevirtual 108, 3)) := by decide +kernel
theorem dX8_next_12 : decode cX8_next 12 = .ok (.isub, 1) := db_X8_next_12.1
set_option maxRecDepth 20000 in
theorem ggX8_next_X8_in : GoodIn wsX8_next wsX8_in := goodIn_r _ [4] rfl (by decide +kernel)
set_option maxRecDepth 20000 in
theorem gX8_next_X8_in : GoodIn wsX8_next (va_wsS RX8 35 yX8_in wsX8_in) := goodIn_app (goodIn_r _ [1, 2, 3] rfl (by decide +kernel)) ggX8_next_X8_in
theorem dX8_next_13 : decode cX8_next 13 = .ok (.invokestatic 35, 3) := db_X8_next_12.2.1
theorem dX8_next_16 : decode cX8_next 16 = .ok (.ifCond .eq 24, 3) := db_X8_next_12.2.2.1
theorem dX8_next_19 : decode cX8_next 19 = .ok (.aload_n 0, 1) := db_X8_next_12.2.2.2.1
theorem dX8_next_20 : decode cX8_next 20 = .ok (.iload_n 1, 1) := db_X8_next_12.2.2.2.2.1
theorem dX8_next_21 : decode cX8_next 21 = .ok (.iload_n 2, 1) := db_X8_next_12.2.2.2.2.2.1
theorem dX8_next_22 : decode cX8_next 22 = .ok (.iload 6, 2) := db_X8_next_12.2.2.2.2.2.2.1
set_option maxRecDepth 20000 in
theorem ggX8_next_X8_isOwn : GoodIn wsX8_next wsX8_isOwn := goodIn_r _ [8, 9, 10, 11, 3, 12, 13, 14, 15, 16, 17, 18, 19, 20, 21, 22, 23] rfl (by decide +kernel)
set_option maxRecDepth 20000 in
theorem gX8_next_X8_isOwn : GoodIn wsX8_next (wsV RX8 108 RX8 yX8_isOwn wsX8_isOwn) := goodIn_app (goodIn_r _ [5, 6, 7, 3] rfl (by decide +kernel)) ggX8_next_X8_isOwn
theorem dX8_next_24 : decode cX8_next 24 = .ok (.invokevirtual 108, 3) := db_X8_next_12.2.2.2.2.2.2.2
set_option maxRecDepth 20000 in
theorem db_X8_next_27 : (decode cX8_next 27 = .ok (.ifCond .ne 13, 3)) ∧ (decode cX8_next 40 = .ok (.iload 6, 2)) ∧ (decode cX8_next 42 = .ok (.ireturn, 1)) ∧ (decode cX8_next 30 = .ok (.iload 6, 2)) ∧ (decode cX8_next 32 = .ok (.iload 4, 2)) ∧ (decode cX8_next 34 = .ok (.iadd, 1)) ∧ (decode cX8_next 35 = .ok (.istore 6, 2)) ∧ (decode cX8_next 37 = .ok (.goto (-31), 3)) := by decide +kernel
theorem dX8_next_27 : decode cX8_next 27 = .ok (.ifCond .ne 13, 3) := db_X8_next_27.1
theorem dX8_next_40 : decode cX8_next 40 = .ok (.iload 6, 2) := db_X8_next_27.2.1
theorem dX8_next_42 : decode cX8_next 42 = .ok (.ireturn, 1) := db_X8_next_27.2.2.1
theorem dX8_next_30 : decode cX8_next 30 = .ok (.iload 6, 2) := db_X8_next_27.2.2.2.1
theorem dX8_next_32 : decode cX8_next 32 = .ok (.iload 4, 2) := db_X8_next_27.2.2.2.2.1
theorem dX8_next_34 : decode cX8_next 34 = .ok (.iadd, 1) := db_X8_next_27.2.2.2.2.2.1
theorem dX8_next_35 : decode cX8_next 35 = .ok (.istore 6, 2) := db_X8_next_27.2.2.2.2.2.2.1
theorem dX8_next_37 : decode cX8_next 37 = .ok (.goto (-31), 3) := db_X8_next_27.2.2.2.2.2.2.2
set_option maxRecDepth 20000 in
theorem db_X8_hourFrom_0 : (decode cX8_hourFrom 0 = .ok (.aload_n 0, 1)) ∧ (decode cX8_hourFrom 1 = .ok (.getfield 32, 3)) ∧ (decode cX8_hourFrom 4 = .ok (.iload_n 3, 1)) ∧ (decode cX8_hourFrom 5 = .ok (.iload 4, 2)) ∧ (decode cX8_hourFrom 7 = .ok (.iastore, 1)) ∧ (decode cX8_hourFrom 8 = .ok (.aload_n 0, 1)) ∧ (decode cX8_hourFrom 9 = .ok (.getfield 32, 3)) ∧ (decode cX8_hourFrom 12 = .ok (.iload_n 3, 1)) := by decide +kernel
theorem dX8_hourFrom_0 : decode cX8_hourFrom 0 = .ok (.aload_n 0, 1) := db_X8_hourFrom_0.1
theorem dX8_hourFrom_1 : decode cX8_hourFrom 1 = .ok (.getfield 32, 3) := db_X8_hourFrom_0.2.1
theorem dX8_hourFrom_4 : decode cX8_hourFrom 4 = .ok (.iload_n 3, 1) := db_X8_hourFrom_0.2.2.1
theorem dX8_hourFrom_5 : decode cX8_hourFrom 5 = .ok (.iload 4, 2) := db_X8_hourFrom_0.2.2.2.1
theorem dX8_hourFrom_7 : decode cX8_hourFrom 7 = .ok (.iastore, 1) := db_X8_hourFrom_0.2.2.2.2.1
theorem dX8_hourFrom_8 : decode cX8_hourFrom 8 = .ok (.aload_n 0, 1) := db_X8_hourFrom_0.2.2.2.2.2.1
theorem dX8_hourFrom_9 : decode cX8_hourFrom 9 = .ok (.getfield 32, 3) := db_X8_hourFrom_0.2.2.2.2.2.2.1
theorem dX8_hourFrom_12 : decode cX8_hourFrom 12 = .ok (.iload_n 3, 1) := db_X8_hourFrom_0.2.2.2.2.2.2.2
set_option maxRecDepth 20000 in
theorem db_X8_hourFrom_13 : (decode cX8_hourFrom 13 = .ok (.iaload, 1)) ∧ (decode cX8_hourFrom 14 = .ok (.aload_n 0, 1)) ∧ (decode cX8_hourFrom 15 = .ok (.getfield 7, 3)) ∧ (decode cX8_hourFrom 18 = .ok (.iload_n 1, 1)) ∧ (decode cX8_hourFrom 19 = .ok (.iload_n 3, 1)) ∧ (decode cX8_hourFrom 20 = .ok (.invokestatic 98, 3)) ∧ (decode cX8_hourFrom 23 = .ok (.iconst 4, 1)) ∧ (decode cX8_hourFrom 24 = .ok (.iadd, 1)) := by decide +kernel
theorem dX8_hourFrom_13 : decode cX8_hourFrom 13 = .ok (.iaload, 1) := db_X8_hourFrom_13.1
theorem dX8_hourFrom_14 : decode cX8_hourFrom 14 = .ok (.aload_n 0, 1) := db_X8_hourFrom_13.2.1
theorem dX8_hourFrom_15 : decode cX8_hourFrom 15 = .ok (.getfield 7, 3) := db_X8_hourFrom_13.2.2.1
theorem dX8_hourFrom_18 : decode cX8_hourFrom 18 = .ok (.iload_n 1, 1) := db_X8_hourFrom_13.2.2.2.1
theorem dX8_hourFrom_19 : decode cX8_hourFrom 19 = .ok (.iload_n 3, 1) := db_X8_hourFrom_13.2.2.2.2.1
set_option maxRecDepth 20000 in
theorem ggX8_hourFrom_X8_termAt : GoodIn wsX8_hourFrom wsX8_termAt := goodIn_r _ [6] rfl (by decide +kernel)
set_option maxRecDepth 20000 in
theorem gX8_hourFrom_X8_termAt : GoodIn wsX8_hourFrom (va_wsS RX8 98 yX8_termAt wsX8_termAt) := goodIn_app (goodIn_r _ [3, 4, 5] rfl (by decide +kernel)) ggX8_hourFrom_X8_termAt
theorem dX8_hourFrom_20 : decode cX8_hourFrom 20 = .ok (.invokestatic 98, 3) := db_X8_hourFrom_13.2.2.2.2.2.1
theorem dX8_hourFrom_23 : decode cX8_hourFrom 23 = .ok (.iconst 4, 1) := db_X8_hourFrom_13.2.2.2.2.2.2.1
theorem dX8_hourFrom_24 : decode cX8_hourFrom 24 = .ok (.iadd, 1) := db_X8_hourFrom_13.2.2.2.2.2.2.2
set_option maxRecDepth 20000 in
theorem db_X8_hourFrom_25 : (decode cX8_hourFrom 25 = .ok (.iaload, 1)) ∧ (decode cX8_hourFrom 26 = .ok (.if_icmp .gt 35, 3)) ∧ (decode cX8_hourFrom 61 = .ok (.iconst (-1), 1)) ∧ (decode cX8_hourFrom 62 = .ok (.ireturn, 1)) ∧ (decode cX8_hourFrom 29 = .ok (.aload_n 0, 1)) ∧ (decode cX8_hourFrom 30 = .ok (.iload_n 1, 1)) ∧ (decode cX8_hourFrom 31 = .ok (.iload_n 2, 1)) ∧ (decode cX8_hourFrom 32 = .ok (.iload_n 3, 1)) := by decide +kernel
theorem dX8_hourFrom_25 : decode cX8_hourFrom 25 = .ok (.iaload, 1) := db_X8_hourFrom_25.1
theorem dX8_hourFrom_26 : decode cX8_hourFrom 26 = .ok (.if_icmp .gt 35, 3) := db_X8_hourFrom_25.2.1
theorem dX8_hourFrom_61 : decode cX8_hourFrom 61 = .ok (.iconst (-1), 1) := db_X8_hourFrom_25.2.2.1
theorem dX8_hourFrom_62 : decode cX8_hourFrom 62 = .ok (.ireturn, 1) := db_X8_hourFrom_25.2.2.2.1
theorem dX8_hourFrom_29 : decode cX8_hourFrom 29 = .ok (.aload_n 0, 1) := db_X8_hourFrom_25.2.2.2.2.1
theorem dX8_hourFrom_30 : decode cX8_hourFrom 30 = .ok (.iload_n 1, 1) := db_X8_hourFrom_25.2.2.2.2.2.1
theorem dX8_hourFrom_31 : decode cX8_hourFrom 31 = .ok (.iload_n 2, 1) := db_X8_hourFrom_25.2.2.2.2.2.2.1
theorem dX8_hourFrom_32 : decode cX8_hourFrom 32 = .ok (.iload_n 3, 1) := db_X8_hourFrom_25.2.2.2.2.2.2.2
set_option maxRecDepth 20000 in
theorem db_X8_hourFrom_33 : (decode cX8_hourFrom 33 = .ok (.iload 5, 2)) ∧ (decode cX8_hourFrom 35 = .ok (.invokevirtual 104, 3)) ∧ (decode cX8_hourFrom 38 = .ok (.ifCond .eq 10, 3)) ∧ (decode cX8_hourFrom 48 = .ok (.aload_n 0, 1)) ∧ (decode cX8_hourFrom 49 = .ok (.getfield 32, 3)) ∧ (decode cX8_hourFrom 52 = .ok (.iload_n 3, 1)) ∧ (decode cX8_hourFrom 53 = .ok (.dup2, 1)) ∧ (decode cX8_hourFrom 54 = .ok (.iaload, 1)) := by decide +kernel
theorem dX8_hourFrom_33 : decode cX8_hourFrom 33 = .ok (.iload 5, 2) := db_X8_hourFrom_33.1
set_option maxRecDepth 20000 in
theorem ggX8_hourFrom_X8_mayBe : GoodIn wsX8_hourFrom wsX8_mayBe := goodIn_r _ [10, 2, 1, 3, 4, 5, 6, 11, 12, 13, 14, 15, 16, 17, 18, 19, 20, 21, 22, 23, 24] rfl (by decide +kernel)
set_option maxRecDepth 20000 in
theorem gX8_hourFrom_X8_mayBe : GoodIn wsX8_hourFrom (wsV RX8 104 RX8 yX8_mayBe wsX8_mayBe) := goodIn_app (goodIn_r _ [7, 8, 9, 5] rfl (by decide +kernel)) ggX8_hourFrom_X8_mayBe
theorem dX8_hourFrom_35 : decode cX8_hourFrom 35 = .ok (.invokevirtual 104, 3) := db_X8_hourFrom_33.2.1
theorem dX8_hourFrom_38 : decode cX8_hourFrom 38 = .ok (.ifCond .eq 10, 3) := db_X8_hourFrom_33.2.2.1
theorem dX8_hourFrom_48 : decode cX8_hourFrom 48 = .ok (.aload_n 0, 1) := db_X8_hourFrom_33.2.2.2.1
theorem dX8_hourFrom_49 : decode cX8_hourFrom 49 = .ok (.getfield 32, 3) := db_X8_hourFrom_33.2.2.2.2.1
theorem dX8_hourFrom_52 : decode cX8_hourFrom 52 = .ok (.iload_n 3, 1) := db_X8_hourFrom_33.2.2.2.2.2.1
theorem dX8_hourFrom_53 : decode cX8_hourFrom 53 = .ok (.dup2, 1) := db_X8_hourFrom_33.2.2.2.2.2.2.1
theorem dX8_hourFrom_54 : decode cX8_hourFrom 54 = .ok (.iaload, 1) := db_X8_hourFrom_33.2.2.2.2.2.2.2
set_option maxRecDepth 20000 in
theorem db_X8_hourFrom_55 : (decode cX8_hourFrom 55 = .ok (.iconst 1, 1)) ∧ (decode cX8_hourFrom 56 = .ok (.iadd, 1)) ∧ (decode cX8_hourFrom 57 = .ok (.iastore, 1)) ∧ (decode cX8_hourFrom 58 = .ok (.goto (-50), 3)) ∧ (decode cX8_hourFrom 41 = .ok (.aload_n 0, 1)) ∧ (decode cX8_hourFrom 42 = .ok (.getfield 32, 3)) ∧ (decode cX8_hourFrom 45 = .ok (.iload_n 3, 1)) ∧ (decode cX8_hourFrom 46 = .ok (.iaload, 1)) := by decide +kernel
theorem dX8_hourFrom_55 : decode cX8_hourFrom 55 = .ok (.iconst 1, 1) := db_X8_hourFrom_55.1
theorem dX8_hourFrom_56 : decode cX8_hourFrom 56 = .ok (.iadd, 1) := db_X8_hourFrom_55.2.1
theorem dX8_hourFrom_57 : decode cX8_hourFrom 57 = .ok (.iastore, 1) := db_X8_hourFrom_55.2.2.1
theorem dX8_hourFrom_58 : decode cX8_hourFrom 58 = .ok (.goto (-50), 3) := db_X8_hourFrom_55.2.2.2.1
theorem dX8_hourFrom_41 : decode cX8_hourFrom 41 = .ok (.aload_n 0, 1) := db_X8_hourFrom_55.2.2.2.2.1
theorem dX8_hourFrom_42 : decode cX8_hourFrom 42 = .ok (.getfield 32, 3) := db_X8_hourFrom_55.2.2.2.2.2.1
theorem dX8_hourFrom_45 : decode cX8_hourFrom 45 = .ok (.iload_n 3, 1) := db_X8_hourFrom_55.2.2.2.2.2.2.1
theorem dX8_hourFrom_46 : decode cX8_hourFrom 46 = .ok (.iaload, 1) := db_X8_hourFrom_55.2.2.2.2.2.2.2
theorem dX8_hourFrom_47 : decode cX8_hourFrom 47 = .ok (.ireturn, 1) := by decide +kernel
set_option maxHeartbeats 4000000 in
set_option maxRecDepth 100000 in
theorem q_X8_isOwn (l : Launch) (dC : Nat → ClassId) (dI : Nat → Nat → Nat) (cy : Nat → ClassId) (sz : Nat) (ad : Nat → Nat) (v : Nat → Nat → Int32) (hv : Ir v) (x0 x1 x2 : Int32) (h0 : 0 ≤ x0.toInt ∧ x0.toInt ≤ 5) (h2 : 0 ≤ x2.toInt ∧ x2.toInt ≤ 4) : Met l yX8_isOwn wsX8_isOwn ({ frames := 1, cells := 0, slots := 0, locals := 64 }) (va_Pc [.ref (ad 0), .int x0, .int x1, .int x2] (ex_Pre dC dI cy sz (wm ad cy v))) (va_Qi (fun (r : Int32) (u : Nat → Nat → Int32) => Ir u ∧ u = v ∧ ((r = 1 ∧ ow (v 1) (158 + 25 * x0.toNatClampNeg) x1 x2.toNatClampNeg) ∨ (r = 0 ∧ ¬ ow (v 1) (158 + 25 * x0.toNatClampNeg) x1 x2.toNatClampNeg))) (fun u t => ex_Pst dC dI (va_A (wm ad cy v) sz) (wm ad cy u) t) (va_A (wm ad cy v) sz)) 0 0 (va_A (wm ad cy v) sz) := by
  refine Met.ofW (cc := cX8_isOwn) (maxL := 4) (ret := (some .boolean)) (by decide) rfl ?_
  intro p e s m args below meth c s₁ B hml hv
  obtain ⟨rfl, hsz, hE, hP, hK, hD0⟩ := hv
  have hx := B.exec
  have hb := B.bytes
  have hr := B.returns
  have hts := atoms_spec (ws := wsX8_isOwn) B.pre
  have hown : s.vm.findClass RX8 = some m.cls := findClass_of_methodNamed B.named
  have hlocks := B.notSynchronized
  subst hsz
  have hD := hD0.self (sz := s.heap.size)
  generalize hAe : va_A (wm ad cy v) s.heap.size = A at hD ⊢
  have hA : ∀ q : Nat, s.heap.size ≤ q → A q := fun q h => by rw [← hAe]; exact Or.inr h
  have hS : va_S A s.heap s.heap [] := va_S.rf
  have hP : va_P (dC, dI) vwCl (wm ad cy v) s.heap := hP
  have hl := lv_entry ([.ref (ad 0), .int x0, .int x1, .int x2]) (n := 4) (Nat.le_of_ble_eq_true rfl)
  rw [lg_entry_eq]
  generalize (lg_sl ([.ref (ad 0), .int x0, .int x1, .int x2]) ++ List.replicate (4 - (lg_sl ([.ref (ad 0), .int x0, .int x1, .int x2])).length) Slot.unset).toArray = ls at hl ⊢
  have hl : lv_has ls 4 [(0, .ref (ad 0)), (1, .int x0), (2, .int x1), (3, .int x2)] := hl
  refine lv_aload_n hx hb dX8_isOwn_0 rfl (lv_at hl 0 rfl) ?_
  refine va_get (D := (dC, dI)) (ci := 8) (v := .ref (ad 1)) (C := RX8) (T := TX8) (N := 11) hx hb hts iwX8_isOwn_X8 hown hK hP (0) (wm_at (by decide) rc_0) rfl 0 (by decide) (hts (.fieldLink RX8 7 "QuietStairsModel" "s" "[I") fwX8_isOwn_1) (fun _ h9 => h9) rfl dX8_isOwn_1 ?_
  refine lv_iload_n hx hb dX8_isOwn_4 rfl (lv_at hl 1 rfl) ?_
  refine lv_iload_n hx hb dX8_isOwn_5 rfl (lv_at hl 3 rfl) ?_
  refine yc_p hP hS (va_runS (As := [.int x0, .int x2]) (rest := [.ref (ad 1)]) ⟨hx, hb, hml, hown, hts⟩ (c_X8_termAt l x0 x2) (cwS 2 hts gX8_isOwn_X8_termAt rfl rfl rfl hd_S_X8_termAt_2 ⟨Nat.le_of_ble_eq_true rfl, Nat.le_of_ble_eq_true rfl⟩) ex_preP rfl rfl hl.1 rfl (lv_room (Nat.le_of_ble_eq_true rfl)) dX8_isOwn_6 ⟨Nat.le_of_ble_eq_true rfl, Nat.le_of_ble_eq_true rfl⟩) (fun r_1 H locs hw_1 hP hS => ?_)
  have tr_1 : r_1.toInt = 158 + 25 * x0.toInt + 5 * x2.toInt := t_tm hw_1 ⟨by omega, by omega⟩ ⟨by omega, by omega⟩
  refine va_iald hx hb hK hP (1) 0 (wm_at (by decide) rc_1) rfl (vp_in_iff.mpr ⟨by omega, by omega⟩) dX8_isOwn_9 ?_
  refine lv_topi (fun x_2 ex_2 => ?_)
  have bzx_2 : 0 ≤ x_2.toInt ∧ x_2.toInt ≤ 1 := by rw [ex_2]; exact hv 1 _ 1 (bx_t0 (i := 5 * x0.toInt + x2.toInt) (s := 0) (by omega) ⟨by omega, by omega⟩ (by omega))
  refine lv_iload_n hx hb dX8_isOwn_10 rfl (lv_at hl 2 rfl) ?_
  refine lv_icmp_ne (tgt := 34) hx hb dX8_isOwn_11 (by decide) (fun c_3 => ?_) (fun c_3 => ?_)
  · have tc_3 : x_2.toInt ≠ x1.toInt := fun q => absurd (Int32.toInt_inj.mp q) c_3
    refine lv_iconst (v := 0) hx hb dX8_isOwn_34 (by decide) ?_
    exact W.zret (ty := .boolean) (v := 0) hx hb hr rfl (fun t ht hW => ⟨⟨0, v, rfl, ⟨hv, rfl, Or.inr ⟨rfl, ow_n h0 h2 (by omega) ex_2 (by omega)⟩⟩, by rw [ht]; exact hP, hD⟩, hS.F ht⟩) hS.2.2 dX8_isOwn_35
  · have tc_3 : x_2.toInt = x1.toInt := by rw [c_3]
    refine lv_aload_n hx hb dX8_isOwn_14 rfl (lv_at hl 0 rfl) ?_
    refine va_get (D := (dC, dI)) (ci := 8) (v := .ref (ad 1)) (C := RX8) (T := TX8) (N := 11) hx hb hts iwX8_isOwn_X8 hown hK hP (0) (wm_at (by decide) rc_0) rfl 0 (by decide) (hts (.fieldLink RX8 7 "QuietStairsModel" "s" "[I") fwX8_isOwn_1) (fun _ h9 => h9) rfl dX8_isOwn_15 ?_
    refine lv_iload_n hx hb dX8_isOwn_18 rfl (lv_at hl 1 rfl) ?_
    refine lv_iload_n hx hb dX8_isOwn_19 rfl (lv_at hl 3 rfl) ?_
    refine yc_p hP hS (va_runS (As := [.int x0, .int x2]) (rest := [.ref (ad 1)]) ⟨hx, hb, hml, hown, hts⟩ (c_X8_termAt l x0 x2) (cwS 2 hts gX8_isOwn_X8_termAt rfl rfl rfl hd_S_X8_termAt_2 ⟨Nat.le_of_ble_eq_true rfl, Nat.le_of_ble_eq_true rfl⟩) ex_preP rfl rfl hl.1 rfl (lv_room (Nat.le_of_ble_eq_true rfl)) dX8_isOwn_20 ⟨Nat.le_of_ble_eq_true rfl, Nat.le_of_ble_eq_true rfl⟩) (fun r_4 H locs hw_4 hP hS => ?_)
    obtain rfl : r_1 = r_4 := hw_1.trans hw_4.symm
    refine lv_iconst (v := 1) hx hb dX8_isOwn_23 (by decide) ?_
    refine lv_iadd hx hb dX8_isOwn_24 ?_
    refine lv_topi (fun x_5 ex_5 => ?_)
    have k_1 : (1 : Int32).toInt = 1 := by decide
    have tx_5 : x_5.toInt = r_1.toInt + (1 : Int32).toInt := by rw [ex_5]; exact t_add ⟨by omega, by omega⟩
    refine va_iald hx hb hK hP (1) 0 (wm_at (by decide) rc_1) rfl (vp_in_iff.mpr ⟨by omega, by omega⟩) dX8_isOwn_25 ?_
    refine lv_topi (fun x_6 ex_6 => ?_)
    have bzx_6 : 0 ≤ x_6.toInt ∧ x_6.toInt ≤ 1 := by rw [ex_6]; exact hv 1 _ 1 (bx_t0 (i := 5 * x0.toInt + x2.toInt) (s := 1) (by omega) ⟨by omega, by omega⟩ (by omega))
    refine lv_iconst (v := 1) hx hb dX8_isOwn_26 (by decide) ?_
    refine lv_icmp_ne (tgt := 34) hx hb dX8_isOwn_27 (by decide) (fun c_7 => ?_) (fun c_7 => ?_)
    · have tc_7 : x_6.toInt ≠ (1 : Int32).toInt := fun q => absurd (Int32.toInt_inj.mp q) c_7
      refine lv_iconst (v := 0) hx hb dX8_isOwn_34 (by decide) ?_
      exact W.zret (ty := .boolean) (v := 0) hx hb hr rfl (fun t ht hW => ⟨⟨0, v, rfl, ⟨hv, rfl, Or.inr ⟨rfl, ow_m h0 h2 (i := r_1) (j := x_5) (by omega) (by omega) ex_6 (by omega)⟩⟩, by rw [ht]; exact hP, hD⟩, hS.F ht⟩) hS.2.2 dX8_isOwn_35
    · have tc_7 : x_6.toInt = (1 : Int32).toInt := by rw [c_7]
      refine lv_iconst (v := 1) hx hb dX8_isOwn_30 (by decide) ?_
      refine lv_goto (tgt := 35) hx hb dX8_isOwn_31 (by decide) ?_
      exact W.zret (ty := .boolean) (v := 1) hx hb hr rfl (fun t ht hW => ⟨⟨1, v, rfl, ⟨hv, rfl, Or.inl ⟨rfl, ow_y h0 h2 (i := r_1) (j := x_5) (by omega) (by omega) ex_2 ex_6 (by omega) (by omega)⟩⟩, by rw [ht]; exact hP, hD⟩, hS.F ht⟩) hS.2.2 dX8_isOwn_35

set_option maxHeartbeats 4000000 in
set_option maxRecDepth 100000 in
theorem q_X8_mayBe (l : Launch) (dC : Nat → ClassId) (dI : Nat → Nat → Nat) (cy : Nat → ClassId) (sz : Nat) (ad : Nat → Nat) (v : Nat → Nat → Int32) (hv : Ir v) (x0 x1 x2 x3 : Int32) (h0 : 0 ≤ x0.toInt ∧ x0.toInt ≤ 5) (h2 : 0 ≤ x2.toInt ∧ x2.toInt ≤ 4) (h3 : 0 ≤ x3.toInt ∧ x3.toInt ≤ 5) : Met l yX8_mayBe wsX8_mayBe ({ frames := 1, cells := 0, slots := 0, locals := 64 }) (va_Pc [.ref (ad 0), .int x0, .int x1, .int x2, .int x3] (ex_Pre dC dI cy sz (wm ad cy v))) (va_Qi (fun (r : Int32) (u : Nat → Nat → Int32) => Ir u ∧ u = v ∧ (r = 0 ∨ r = 1)) (fun u t => ex_Pst dC dI (va_A (wm ad cy v) sz) (wm ad cy u) t) (va_A (wm ad cy v) sz)) 0 0 (va_A (wm ad cy v) sz) := by
  refine Met.ofW (cc := cX8_mayBe) (maxL := 9) (ret := (some .boolean)) (by decide) rfl ?_
  intro p e s m args below meth c s₁ B hml hv
  obtain ⟨rfl, hsz, hE, hP, hK, hD0⟩ := hv
  have hx := B.exec
  have hb := B.bytes
  have hr := B.returns
  have hts := atoms_spec (ws := wsX8_mayBe) B.pre
  have hown : s.vm.findClass RX8 = some m.cls := findClass_of_methodNamed B.named
  have hlocks := B.notSynchronized
  subst hsz
  have hD := hD0.self (sz := s.heap.size)
  generalize hAe : va_A (wm ad cy v) s.heap.size = A at hD ⊢
  have hA : ∀ q : Nat, s.heap.size ≤ q → A q := fun q h => by rw [← hAe]; exact Or.inr h
  have hS : va_S A s.heap s.heap [] := va_S.rf
  have hP : va_P (dC, dI) vwCl (wm ad cy v) s.heap := hP
  have hl := lv_entry ([.ref (ad 0), .int x0, .int x1, .int x2, .int x3]) (n := 9) (Nat.le_of_ble_eq_true rfl)
  rw [lg_entry_eq]
  generalize (lg_sl ([.ref (ad 0), .int x0, .int x1, .int x2, .int x3]) ++ List.replicate (9 - (lg_sl ([.ref (ad 0), .int x0, .int x1, .int x2, .int x3])).length) Slot.unset).toArray = ls at hl ⊢
  have hl : lv_has ls 9 [(0, .ref (ad 0)), (1, .int x0), (2, .int x1), (3, .int x2), (4, .int x3)] := hl
  refine lv_iload_n hx hb dX8_mayBe_0 rfl (lv_at hl 1 rfl) ?_
  refine lv_iload_n hx hb dX8_mayBe_1 rfl (lv_at hl 3 rfl) ?_
  refine yc_p hP hS (va_runS (As := [.int x0, .int x2]) (rest := []) ⟨hx, hb, hml, hown, hts⟩ (c_X8_termAt l x0 x2) (cwS 2 hts gX8_mayBe_X8_termAt rfl rfl rfl hd_S_X8_termAt_2 ⟨Nat.le_of_ble_eq_true rfl, Nat.le_of_ble_eq_true rfl⟩) ex_preP rfl rfl hl.1 rfl (lv_room (Nat.le_of_ble_eq_true rfl)) dX8_mayBe_2 ⟨Nat.le_of_ble_eq_true rfl, Nat.le_of_ble_eq_true rfl⟩) (fun r_1 H locs hw_1 hP hS => ?_)
  have tr_1 : r_1.toInt = 158 + 25 * x0.toInt + 5 * x2.toInt := t_tm hw_1 ⟨by omega, by omega⟩ ⟨by omega, by omega⟩
  refine lv_istore (lv' := [(5, .int r_1), (0, .ref (ad 0)), (1, .int x0), (2, .int x1), (3, .int x2), (4, .int x3)]) hx hb dX8_mayBe_5 hl (by decide) rfl (fun ls hl => ?_)
  refine lv_iconst (v := 0) hx hb dX8_mayBe_7 (by decide) ?_
  refine lv_istore (lv' := [(6, .int 0), (5, .int r_1), (0, .ref (ad 0)), (1, .int x0), (2, .int x1), (3, .int x2), (4, .int x3)]) hx hb dX8_mayBe_8 hl (by decide) rfl (fun ls hl => ?_)
  have hc_2 : ∀ (n : Nat) (y2_6 : Int32) (H : Heap) (locs : List Loc), 0 ≤ y2_6.toInt → y2_6.toInt ≤ 5 → (5 - y2_6.toInt).toNat < n → va_P (dC, dI) vwCl (wm ad cy v) H → va_D A (wm ad cy v) → va_S A s.heap H locs → ∀ ls : Array Slot, lv_has ls 9 [(6, .int y2_6), (5, .int r_1), (0, .ref (ad 0)), (1, .int x0), (2, .int x1), (3, .int x2), (4, .int x3)] → W p l e (headSpec wsX8_mayBe ({ frames := 1, cells := 0, slots := 0, locals := 64 })).room s m [Value.ref (ad 0), Value.int x0, Value.int x1, Value.int x2, Value.int x3].toArray below meth c H locs 0 0 (MQ below (va_Qi (fun (r : Int32) (u : Nat → Nat → Int32) => Ir u ∧ u = v ∧ (r = 0 ∨ r = 1)) (fun u t => ex_Pst dC dI A (wm ad cy u) t) A) [Value.ref (ad 0), Value.int x0, Value.int x1, Value.int x2, Value.int x3].toArray s 0 0 A) (F0 m 10 ls []) := by
    intro n
    induction n with
    | zero =>
      intro y2_6 H locs ay2_6 by2_6 hm_2 hP hD hS ls hl
      exact absurd hm_2 (by omega)
    | succ n ih_2 =>
      intro y2_6 H locs ay2_6 by2_6 hm_2 hP hD hS ls hl
      refine lv_iload hx hb dX8_mayBe_10 (lv_at hl 0 rfl) ?_
      refine lv_iload hx hb dX8_mayBe_12 (lv_at hl 6 rfl) ?_
      refine lv_icmp_ge (tgt := 157) hx hb dX8_mayBe_14 (by decide) (fun c_3 => ?_) (fun c_3 => ?_)
      · have tc_3 : y2_6.toInt ≥ x3.toInt := Int32.le_iff_toInt_le.mp c_3
        refine lv_iconst (v := 1) hx hb dX8_mayBe_157 (by decide) ?_
        exact W.zret (ty := .boolean) (v := 1) hx hb hr rfl (fun t ht hW => ⟨⟨1, v, rfl, ⟨hv, rfl, by decide⟩, by rw [ht]; exact hP, hD⟩, hS.F ht⟩) hS.2.2 dX8_mayBe_158
      · have tc_3 : y2_6.toInt < x3.toInt := Int32.lt_iff_toInt_lt.mp (Int32.not_le.mp c_3)
        refine lv_iload_n hx hb dX8_mayBe_17 rfl (lv_at hl 3 rfl) ?_
        refine lv_iload hx hb dX8_mayBe_18 (lv_at hl 0 rfl) ?_
        refine yc_p hP hS (va_runS (As := [.int x0, .int y2_6]) (rest := []) ⟨hx, hb, hml, hown, hts⟩ (c_X8_termAt l x0 y2_6) (cwS 2 hts gX8_mayBe_X8_termAt rfl rfl rfl hd_S_X8_termAt_2 ⟨Nat.le_of_ble_eq_true rfl, Nat.le_of_ble_eq_true rfl⟩) ex_preP rfl rfl hl.1 rfl (lv_room (Nat.le_of_ble_eq_true rfl)) dX8_mayBe_20 ⟨Nat.le_of_ble_eq_true rfl, Nat.le_of_ble_eq_true rfl⟩) (fun r_4 H locs hw_4 hP hS => ?_)
        have tr_4 : r_4.toInt = 158 + 25 * x0.toInt + 5 * y2_6.toInt := t_tm hw_4 ⟨by omega, by omega⟩ ⟨by omega, by omega⟩
        refine lv_istore (lv' := [(7, .int r_4), (6, .int y2_6), (5, .int r_1), (0, .ref (ad 0)), (1, .int x0), (2, .int x1), (3, .int x2), (4, .int x3)]) hx hb dX8_mayBe_23 hl (by decide) rfl (fun ls hl => ?_)
        refine lv_aload_n hx hb dX8_mayBe_25 rfl (lv_at hl 3 rfl) ?_
        refine va_get (D := (dC, dI)) (ci := 8) (v := .ref (ad 1)) (C := RX8) (T := TX8) (N := 11) hx hb hts iwX8_mayBe_X8 hown hK hP (0) (wm_at (by decide) rc_0) rfl 0 (by decide) (hts (.fieldLink RX8 7 "QuietStairsModel" "s" "[I") fwX8_mayBe_1) (fun _ h9 => h9) rfl dX8_mayBe_26 ?_
        refine lv_iload hx hb dX8_mayBe_29 (lv_at hl 0 rfl) ?_
        refine va_iald hx hb hK hP (1) 0 (wm_at (by decide) rc_1) rfl (vp_in_iff.mpr ⟨by omega, by omega⟩) dX8_mayBe_31 ?_
        refine lv_topi (fun x_5 ex_5 => ?_)
        have bzx_5 : 0 ≤ x_5.toInt ∧ x_5.toInt ≤ 1 := by rw [ex_5]; exact hv 1 _ 1 (bx_t0 (i := 5 * x0.toInt + y2_6.toInt) (s := 0) (by omega) ⟨by omega, by omega⟩ (by omega))
        refine lv_iload_n hx hb dX8_mayBe_32 rfl (lv_at hl 5 rfl) ?_
        refine lv_icmp_eq (tgt := 39) hx hb dX8_mayBe_33 (by decide) (fun c_6 => ?_) (fun c_6 => ?_)
        · have tc_6 : x_5.toInt = x1.toInt := by rw [c_6]
          refine lv_aload_n hx hb dX8_mayBe_39 rfl (lv_at hl 3 rfl) ?_
          refine va_get (D := (dC, dI)) (ci := 8) (v := .ref (ad 1)) (C := RX8) (T := TX8) (N := 11) hx hb hts iwX8_mayBe_X8 hown hK hP (0) (wm_at (by decide) rc_0) rfl 0 (by decide) (hts (.fieldLink RX8 7 "QuietStairsModel" "s" "[I") fwX8_mayBe_1) (fun _ h9 => h9) rfl dX8_mayBe_40 ?_
          refine lv_iload hx hb dX8_mayBe_43 (lv_at hl 0 rfl) ?_
          refine lv_iconst (v := 1) hx hb dX8_mayBe_45 (by decide) ?_
          refine lv_iadd hx hb dX8_mayBe_46 ?_
          refine lv_topi (fun x_7 ex_7 => ?_)
          have k_1 : (1 : Int32).toInt = 1 := by decide
          have tx_7 : x_7.toInt = r_4.toInt + (1 : Int32).toInt := by rw [ex_7]; exact t_add ⟨by omega, by omega⟩
          refine va_iald hx hb hK hP (1) 0 (wm_at (by decide) rc_1) rfl (vp_in_iff.mpr ⟨by omega, by omega⟩) dX8_mayBe_47 ?_
          refine lv_topi (fun x_8 ex_8 => ?_)
          have bzx_8 : 0 ≤ x_8.toInt ∧ x_8.toInt ≤ 1 := by rw [ex_8]; exact hv 1 _ 1 (bx_t0 (i := 5 * x0.toInt + y2_6.toInt) (s := 1) (by omega) ⟨by omega, by omega⟩ (by omega))
          have k_0 : (0 : Int32).toInt = 0 := by decide
          refine lv_if_ne (tgt := 106) hx hb dX8_mayBe_48 (by decide) (fun c_9 => ?_) (fun c_9 => ?_)
          · have tc_9 : x_8.toInt ≠ (0 : Int32).toInt := fun q => absurd (Int32.toInt_inj.mp q) c_9
            refine lv_iconst (v := 0) hx hb dX8_mayBe_106 (by decide) ?_
            refine lv_istore (lv' := [(8, .int 0), (7, .int r_4), (6, .int y2_6), (5, .int r_1), (0, .ref (ad 0)), (1, .int x0), (2, .int x1), (3, .int x2), (4, .int x3)]) hx hb dX8_mayBe_107 hl (by decide) rfl (fun ls hl => ?_)
            refine lv_iload hx hb dX8_mayBe_109 (lv_at hl 0 rfl) ?_
            refine lv_if_ne (tgt := 149) hx hb dX8_mayBe_111 (by decide) (fun c9 => absurd c9 (by decide)) (fun _ => ?_)
            refine lv_aload_n hx hb dX8_mayBe_114 rfl (lv_at hl 4 rfl) ?_
            refine va_get (D := (dC, dI)) (ci := 8) (v := .ref (ad 1)) (C := RX8) (T := TX8) (N := 11) hx hb hts iwX8_mayBe_X8 hown hK hP (0) (wm_at (by decide) rc_0) rfl 0 (by decide) (hts (.fieldLink RX8 7 "QuietStairsModel" "s" "[I") fwX8_mayBe_1) (fun _ h9 => h9) rfl dX8_mayBe_115 ?_
            refine lv_iload hx hb dX8_mayBe_118 (lv_at hl 1 rfl) ?_
            refine lv_iconst (v := 1) hx hb dX8_mayBe_120 (by decide) ?_
            refine lv_iadd hx hb dX8_mayBe_121 ?_
            refine lv_topi (fun x_10 ex_10 => ?_)
            obtain rfl : x_7 = x_10 := ex_7.trans ex_10.symm
            refine va_iald hx hb hK hP (1) 0 (wm_at (by decide) rc_1) rfl (vp_in_iff.mpr ⟨by omega, by omega⟩) dX8_mayBe_122 ?_
            refine lv_topi (fun x_11 ex_11 => ?_)
            obtain rfl : x_8 = x_11 := (ex_11.trans ex_8.symm).symm
            refine lv_iconst (v := 1) hx hb dX8_mayBe_123 (by decide) ?_
            refine lv_icmp_ne (tgt := 151) hx hb dX8_mayBe_124 (by decide) (fun c_12 => ?_) (fun c_12 => ?_)
            · have tc_12 : x_8.toInt ≠ (1 : Int32).toInt := fun q => absurd (Int32.toInt_inj.mp q) c_12
              exfalso
              omega
            · have tc_12 : x_8.toInt = (1 : Int32).toInt := by rw [c_12]
              refine lv_iload hx hb dX8_mayBe_127 (lv_at hl 2 rfl) ?_
              refine lv_iload_n hx hb dX8_mayBe_129 rfl (lv_at hl 7 rfl) ?_
              refine lv_icmp_ge (tgt := 151) hx hb dX8_mayBe_130 (by decide) (fun c_13 => ?_) (fun c_13 => ?_)
              · have tc_13 : y2_6.toInt ≥ x2.toInt := Int32.le_iff_toInt_le.mp c_13
                obtain ⟨x_14, ex_14⟩ : ∃ y : Int32, y = y2_6 + 1 := ⟨_, rfl⟩
                refine lv_iinc (v := x_14) (lv' := [(6, .int x_14), (8, .int 0), (7, .int r_4), (5, .int r_1), (0, .ref (ad 0)), (1, .int x0), (2, .int x1), (3, .int x2), (4, .int x3)]) hx hb dX8_mayBe_151 hl (k := 2) rfl (by rw [ex_14]; rfl) (by decide) rfl (fun ls hl => ?_)
                have tx_14 : x_14.toInt = y2_6.toInt + (1 : Int32).toInt := by rw [ex_14]; exact t_add ⟨by omega, by omega⟩
                refine lv_goto (tgt := 10) hx hb dX8_mayBe_154 (by decide) ?_
                exact ih_2 x_14 _ _ (by omega) (by omega) (by omega) hP hD hS ls (lv_sub hl [0, 3, 4, 5, 6, 7, 8] rfl)
              · have tc_13 : y2_6.toInt < x2.toInt := Int32.lt_iff_toInt_lt.mp (Int32.not_le.mp c_13)
                refine lv_aload_n hx hb dX8_mayBe_133 rfl (lv_at hl 4 rfl) ?_
                refine va_get (D := (dC, dI)) (ci := 8) (v := .ref (ad 7)) (C := RX8) (T := TX8) (N := 11) hx hb hts iwX8_mayBe_X8 hown hK hP (0) (wm_at (by decide) rc_0) rfl 10 (by decide) (hts (.fieldLink RX8 32 "QuietStairsModel" "hours" "[I") fwX8_mayBe_2) (fun _ h9 => h9) rfl dX8_mayBe_134 ?_
                refine lv_iload hx hb dX8_mayBe_137 (lv_at hl 2 rfl) ?_
                refine va_iald hx hb hK hP (7) 0 (wm_at (by decide) rc_7) rfl (vp_in_iff.mpr ⟨by omega, by omega⟩) dX8_mayBe_139 ?_
                refine lv_topi (fun x_14 ex_14 => ?_)
                refine lv_aload_n hx hb dX8_mayBe_140 rfl (lv_at hl 4 rfl) ?_
                refine va_get (D := (dC, dI)) (ci := 8) (v := .ref (ad 7)) (C := RX8) (T := TX8) (N := 11) hx hb hts iwX8_mayBe_X8 hown hK hP (0) (wm_at (by decide) rc_0) rfl 10 (by decide) (hts (.fieldLink RX8 32 "QuietStairsModel" "hours" "[I") fwX8_mayBe_2) (fun _ h9 => h9) rfl dX8_mayBe_141 ?_
                refine lv_iload_n hx hb dX8_mayBe_144 rfl (lv_at hl 7 rfl) ?_
                refine va_iald hx hb hK hP (7) 0 (wm_at (by decide) rc_7) rfl (vp_in_iff.mpr ⟨by omega, by omega⟩) dX8_mayBe_145 ?_
                refine lv_topi (fun x_15 ex_15 => ?_)
                refine lv_icmp_ne (tgt := 151) hx hb dX8_mayBe_146 (by decide) (fun c_16 => ?_) (fun c_16 => ?_)
                · have tc_16 : x_14.toInt ≠ x_15.toInt := fun q => absurd (Int32.toInt_inj.mp q) c_16
                  obtain ⟨x_17, ex_17⟩ : ∃ y : Int32, y = y2_6 + 1 := ⟨_, rfl⟩
                  refine lv_iinc (v := x_17) (lv' := [(6, .int x_17), (8, .int 0), (7, .int r_4), (5, .int r_1), (0, .ref (ad 0)), (1, .int x0), (2, .int x1), (3, .int x2), (4, .int x3)]) hx hb dX8_mayBe_151 hl (k := 2) rfl (by rw [ex_17]; rfl) (by decide) rfl (fun ls hl => ?_)
                  have tx_17 : x_17.toInt = y2_6.toInt + (1 : Int32).toInt := by rw [ex_17]; exact t_add ⟨by omega, by omega⟩
                  refine lv_goto (tgt := 10) hx hb dX8_mayBe_154 (by decide) ?_
                  exact ih_2 x_17 _ _ (by omega) (by omega) (by omega) hP hD hS ls (lv_sub hl [0, 3, 4, 5, 6, 7, 8] rfl)
                · have tc_16 : x_14.toInt = x_15.toInt := by rw [c_16]
                  refine lv_iconst (v := 0) hx hb dX8_mayBe_149 (by decide) ?_
                  exact W.zret (ty := .boolean) (v := 0) hx hb hr rfl (fun t ht hW => ⟨⟨0, v, rfl, ⟨hv, rfl, by decide⟩, by rw [ht]; exact hP, hD⟩, hS.F ht⟩) hS.2.2 dX8_mayBe_150
          · have tc_9 : x_8.toInt = (0 : Int32).toInt := by rw [c_9]
            refine lv_aload_n hx hb dX8_mayBe_51 rfl (lv_at hl 3 rfl) ?_
            refine va_get (D := (dC, dI)) (ci := 8) (v := .ref (ad 1)) (C := RX8) (T := TX8) (N := 11) hx hb hts iwX8_mayBe_X8 hown hK hP (0) (wm_at (by decide) rc_0) rfl 0 (by decide) (hts (.fieldLink RX8 7 "QuietStairsModel" "s" "[I") fwX8_mayBe_1) (fun _ h9 => h9) rfl dX8_mayBe_52 ?_
            refine lv_iload hx hb dX8_mayBe_55 (lv_at hl 0 rfl) ?_
            refine lv_iconst (v := 2) hx hb dX8_mayBe_57 (by decide) ?_
            refine lv_iadd hx hb dX8_mayBe_58 ?_
            refine lv_topi (fun x_10 ex_10 => ?_)
            have k_2 : (2 : Int32).toInt = 2 := by decide
            have tx_10 : x_10.toInt = r_4.toInt + (2 : Int32).toInt := by rw [ex_10]; exact t_add ⟨by omega, by omega⟩
            refine va_iald hx hb hK hP (1) 0 (wm_at (by decide) rc_1) rfl (vp_in_iff.mpr ⟨by omega, by omega⟩) dX8_mayBe_59 ?_
            refine lv_topi (fun x_11 ex_11 => ?_)
            refine lv_aload_n hx hb dX8_mayBe_60 rfl (lv_at hl 3 rfl) ?_
            refine va_get (D := (dC, dI)) (ci := 8) (v := .ref (ad 1)) (C := RX8) (T := TX8) (N := 11) hx hb hts iwX8_mayBe_X8 hown hK hP (0) (wm_at (by decide) rc_0) rfl 0 (by decide) (hts (.fieldLink RX8 7 "QuietStairsModel" "s" "[I") fwX8_mayBe_1) (fun _ h9 => h9) rfl dX8_mayBe_61 ?_
            refine lv_iload hx hb dX8_mayBe_64 (lv_at hl 2 rfl) ?_
            refine lv_iconst (v := 2) hx hb dX8_mayBe_66 (by decide) ?_
            refine lv_iadd hx hb dX8_mayBe_67 ?_
            refine lv_topi (fun x_12 ex_12 => ?_)
            have tx_12 : x_12.toInt = r_1.toInt + (2 : Int32).toInt := by rw [ex_12]; exact t_add ⟨by omega, by omega⟩
            refine va_iald hx hb hK hP (1) 0 (wm_at (by decide) rc_1) rfl (vp_in_iff.mpr ⟨by omega, by omega⟩) dX8_mayBe_68 ?_
            refine lv_topi (fun x_13 ex_13 => ?_)
            refine lv_icmp_ne (tgt := 106) hx hb dX8_mayBe_69 (by decide) (fun c_14 => ?_) (fun c_14 => ?_)
            · have tc_14 : x_11.toInt ≠ x_13.toInt := fun q => absurd (Int32.toInt_inj.mp q) c_14
              refine lv_iconst (v := 0) hx hb dX8_mayBe_106 (by decide) ?_
              refine lv_istore (lv' := [(8, .int 0), (7, .int r_4), (6, .int y2_6), (5, .int r_1), (0, .ref (ad 0)), (1, .int x0), (2, .int x1), (3, .int x2), (4, .int x3)]) hx hb dX8_mayBe_107 hl (by decide) rfl (fun ls hl => ?_)
              refine lv_iload hx hb dX8_mayBe_109 (lv_at hl 0 rfl) ?_
              refine lv_if_ne (tgt := 149) hx hb dX8_mayBe_111 (by decide) (fun c9 => absurd c9 (by decide)) (fun _ => ?_)
              refine lv_aload_n hx hb dX8_mayBe_114 rfl (lv_at hl 4 rfl) ?_
              refine va_get (D := (dC, dI)) (ci := 8) (v := .ref (ad 1)) (C := RX8) (T := TX8) (N := 11) hx hb hts iwX8_mayBe_X8 hown hK hP (0) (wm_at (by decide) rc_0) rfl 0 (by decide) (hts (.fieldLink RX8 7 "QuietStairsModel" "s" "[I") fwX8_mayBe_1) (fun _ h9 => h9) rfl dX8_mayBe_115 ?_
              refine lv_iload hx hb dX8_mayBe_118 (lv_at hl 1 rfl) ?_
              refine lv_iconst (v := 1) hx hb dX8_mayBe_120 (by decide) ?_
              refine lv_iadd hx hb dX8_mayBe_121 ?_
              refine lv_topi (fun x_15 ex_15 => ?_)
              obtain rfl : x_7 = x_15 := ex_7.trans ex_15.symm
              refine va_iald hx hb hK hP (1) 0 (wm_at (by decide) rc_1) rfl (vp_in_iff.mpr ⟨by omega, by omega⟩) dX8_mayBe_122 ?_
              refine lv_topi (fun x_16 ex_16 => ?_)
              obtain rfl : x_8 = x_16 := (ex_16.trans ex_8.symm).symm
              refine lv_iconst (v := 1) hx hb dX8_mayBe_123 (by decide) ?_
              refine lv_icmp_ne (tgt := 151) hx hb dX8_mayBe_124 (by decide) (fun c_17 => ?_) (fun c_17 => ?_)
              · have tc_17 : x_8.toInt ≠ (1 : Int32).toInt := fun q => absurd (Int32.toInt_inj.mp q) c_17
                obtain ⟨x_18, ex_18⟩ : ∃ y : Int32, y = y2_6 + 1 := ⟨_, rfl⟩
                refine lv_iinc (v := x_18) (lv' := [(6, .int x_18), (8, .int 0), (7, .int r_4), (5, .int r_1), (0, .ref (ad 0)), (1, .int x0), (2, .int x1), (3, .int x2), (4, .int x3)]) hx hb dX8_mayBe_151 hl (k := 2) rfl (by rw [ex_18]; rfl) (by decide) rfl (fun ls hl => ?_)
                have tx_18 : x_18.toInt = y2_6.toInt + (1 : Int32).toInt := by rw [ex_18]; exact t_add ⟨by omega, by omega⟩
                refine lv_goto (tgt := 10) hx hb dX8_mayBe_154 (by decide) ?_
                exact ih_2 x_18 _ _ (by omega) (by omega) (by omega) hP hD hS ls (lv_sub hl [0, 3, 4, 5, 6, 7, 8] rfl)
              · have tc_17 : x_8.toInt = (1 : Int32).toInt := by rw [c_17]
                exfalso
                omega
            · have tc_14 : x_11.toInt = x_13.toInt := by rw [c_14]
              refine lv_aload_n hx hb dX8_mayBe_72 rfl (lv_at hl 3 rfl) ?_
              refine va_get (D := (dC, dI)) (ci := 8) (v := .ref (ad 7)) (C := RX8) (T := TX8) (N := 11) hx hb hts iwX8_mayBe_X8 hown hK hP (0) (wm_at (by decide) rc_0) rfl 10 (by decide) (hts (.fieldLink RX8 32 "QuietStairsModel" "hours" "[I") fwX8_mayBe_2) (fun _ h9 => h9) rfl dX8_mayBe_73 ?_
              refine lv_iload_n hx hb dX8_mayBe_76 rfl (lv_at hl 6 rfl) ?_
              refine va_iald hx hb hK hP (7) 0 (wm_at (by decide) rc_7) rfl (vp_in_iff.mpr ⟨by omega, by omega⟩) dX8_mayBe_77 ?_
              refine lv_topi (fun x_15 ex_15 => ?_)
              refine lv_aload_n hx hb dX8_mayBe_78 rfl (lv_at hl 3 rfl) ?_
              refine va_get (D := (dC, dI)) (ci := 8) (v := .ref (ad 1)) (C := RX8) (T := TX8) (N := 11) hx hb hts iwX8_mayBe_X8 hown hK hP (0) (wm_at (by decide) rc_0) rfl 0 (by decide) (hts (.fieldLink RX8 7 "QuietStairsModel" "s" "[I") fwX8_mayBe_1) (fun _ h9 => h9) rfl dX8_mayBe_79 ?_
              refine lv_iload hx hb dX8_mayBe_82 (lv_at hl 0 rfl) ?_
              refine lv_iconst (v := 3) hx hb dX8_mayBe_84 (by decide) ?_
              refine lv_iadd hx hb dX8_mayBe_85 ?_
              refine lv_topi (fun x_16 ex_16 => ?_)
              have k_3 : (3 : Int32).toInt = 3 := by decide
              have tx_16 : x_16.toInt = r_4.toInt + (3 : Int32).toInt := by rw [ex_16]; exact t_add ⟨by omega, by omega⟩
              refine va_iald hx hb hK hP (1) 0 (wm_at (by decide) rc_1) rfl (vp_in_iff.mpr ⟨by omega, by omega⟩) dX8_mayBe_86 ?_
              refine lv_topi (fun x_17 ex_17 => ?_)
              have bzx_17 : 0 ≤ x_17.toInt ∧ x_17.toInt ≤ 23 := by rw [ex_17]; exact hv 1 _ 23 (bx_t3 (i := 5 * x0.toInt + y2_6.toInt) (s := 3) (by omega) ⟨by omega, by omega⟩ (by omega))
              refine lv_aload_n hx hb dX8_mayBe_87 rfl (lv_at hl 3 rfl) ?_
              refine va_get (D := (dC, dI)) (ci := 8) (v := .ref (ad 1)) (C := RX8) (T := TX8) (N := 11) hx hb hts iwX8_mayBe_X8 hown hK hP (0) (wm_at (by decide) rc_0) rfl 0 (by decide) (hts (.fieldLink RX8 7 "QuietStairsModel" "s" "[I") fwX8_mayBe_1) (fun _ h9 => h9) rfl dX8_mayBe_88 ?_
              refine lv_iload hx hb dX8_mayBe_91 (lv_at hl 0 rfl) ?_
              refine lv_iconst (v := 4) hx hb dX8_mayBe_93 (by decide) ?_
              refine lv_iadd hx hb dX8_mayBe_94 ?_
              refine lv_topi (fun x_18 ex_18 => ?_)
              have k_4 : (4 : Int32).toInt = 4 := by decide
              have tx_18 : x_18.toInt = r_4.toInt + (4 : Int32).toInt := by rw [ex_18]; exact t_add ⟨by omega, by omega⟩
              refine va_iald hx hb hK hP (1) 0 (wm_at (by decide) rc_1) rfl (vp_in_iff.mpr ⟨by omega, by omega⟩) dX8_mayBe_95 ?_
              refine lv_topi (fun x_19 ex_19 => ?_)
              have bzx_19 : 0 ≤ x_19.toInt ∧ x_19.toInt ≤ 23 := by rw [ex_19]; exact hv 1 _ 23 (bx_t3 (i := 5 * x0.toInt + y2_6.toInt) (s := 4) (by omega) ⟨by omega, by omega⟩ (by omega))
              refine yc_p hP hS (va_runS (As := [.int x_15, .int x_17, .int x_19]) (rest := []) ⟨hx, hb, hml, hown, hts⟩ (c_X8_in l x_15 x_17 x_19) (cwS 3 hts gX8_mayBe_X8_in rfl rfl rfl hd_S_X8_in_3 ⟨Nat.le_of_ble_eq_true rfl, Nat.le_of_ble_eq_true rfl⟩) ex_preP rfl rfl hl.1 rfl (lv_room (Nat.le_of_ble_eq_true rfl)) dX8_mayBe_96 ⟨Nat.le_of_ble_eq_true rfl, Nat.le_of_ble_eq_true rfl⟩) (fun r_20 H locs hw_20 hP hS => ?_)
              rcases wi_ca hw_20 with ⟨rfl, hc_21⟩ | ⟨rfl, hc_21⟩
              · have tc_21 := wi_tl hc_21
                refine lv_if_eq (tgt := 106) hx hb dX8_mayBe_99 (by decide) (fun c9 => absurd c9 (by decide)) (fun _ => ?_)
                refine lv_iconst (v := 1) hx hb dX8_mayBe_102 (by decide) ?_
                refine lv_goto (tgt := 107) hx hb dX8_mayBe_103 (by decide) ?_
                refine lv_istore (lv' := [(8, .int 1), (7, .int r_4), (6, .int y2_6), (5, .int r_1), (0, .ref (ad 0)), (1, .int x0), (2, .int x1), (3, .int x2), (4, .int x3)]) hx hb dX8_mayBe_107 hl (by decide) rfl (fun ls hl => ?_)
                refine lv_iload hx hb dX8_mayBe_109 (lv_at hl 0 rfl) ?_
                refine lv_if_ne (tgt := 149) hx hb dX8_mayBe_111 (by decide) (fun _ => ?_) (fun c9 => absurd c9 (by decide))
                refine lv_iconst (v := 0) hx hb dX8_mayBe_149 (by decide) ?_
                exact W.zret (ty := .boolean) (v := 0) hx hb hr rfl (fun t ht hW => ⟨⟨0, v, rfl, ⟨hv, rfl, by decide⟩, by rw [ht]; exact hP, hD⟩, hS.F ht⟩) hS.2.2 dX8_mayBe_150
              · have tc_21 : ¬ (x_17.toInt ≤ x_15.toInt ∧ x_15.toInt ≤ x_19.toInt) := fun q => hc_21 ⟨Int32.le_iff_toInt_le.mpr q.1, Int32.le_iff_toInt_le.mpr q.2⟩
                refine lv_if_eq (tgt := 106) hx hb dX8_mayBe_99 (by decide) (fun _ => ?_) (fun c9 => absurd c9 (by decide))
                refine lv_iconst (v := 0) hx hb dX8_mayBe_106 (by decide) ?_
                refine lv_istore (lv' := [(8, .int 0), (7, .int r_4), (6, .int y2_6), (5, .int r_1), (0, .ref (ad 0)), (1, .int x0), (2, .int x1), (3, .int x2), (4, .int x3)]) hx hb dX8_mayBe_107 hl (by decide) rfl (fun ls hl => ?_)
                refine lv_iload hx hb dX8_mayBe_109 (lv_at hl 0 rfl) ?_
                refine lv_if_ne (tgt := 149) hx hb dX8_mayBe_111 (by decide) (fun c9 => absurd c9 (by decide)) (fun _ => ?_)
                refine lv_aload_n hx hb dX8_mayBe_114 rfl (lv_at hl 4 rfl) ?_
                refine va_get (D := (dC, dI)) (ci := 8) (v := .ref (ad 1)) (C := RX8) (T := TX8) (N := 11) hx hb hts iwX8_mayBe_X8 hown hK hP (0) (wm_at (by decide) rc_0) rfl 0 (by decide) (hts (.fieldLink RX8 7 "QuietStairsModel" "s" "[I") fwX8_mayBe_1) (fun _ h9 => h9) rfl dX8_mayBe_115 ?_
                refine lv_iload hx hb dX8_mayBe_118 (lv_at hl 1 rfl) ?_
                refine lv_iconst (v := 1) hx hb dX8_mayBe_120 (by decide) ?_
                refine lv_iadd hx hb dX8_mayBe_121 ?_
                refine lv_topi (fun x_22 ex_22 => ?_)
                obtain rfl : x_7 = x_22 := ex_7.trans ex_22.symm
                refine va_iald hx hb hK hP (1) 0 (wm_at (by decide) rc_1) rfl (vp_in_iff.mpr ⟨by omega, by omega⟩) dX8_mayBe_122 ?_
                refine lv_topi (fun x_23 ex_23 => ?_)
                obtain rfl : x_8 = x_23 := (ex_23.trans ex_8.symm).symm
                refine lv_iconst (v := 1) hx hb dX8_mayBe_123 (by decide) ?_
                refine lv_icmp_ne (tgt := 151) hx hb dX8_mayBe_124 (by decide) (fun c_24 => ?_) (fun c_24 => ?_)
                · have tc_24 : x_8.toInt ≠ (1 : Int32).toInt := fun q => absurd (Int32.toInt_inj.mp q) c_24
                  obtain ⟨x_25, ex_25⟩ : ∃ y : Int32, y = y2_6 + 1 := ⟨_, rfl⟩
                  refine lv_iinc (v := x_25) (lv' := [(6, .int x_25), (8, .int 0), (7, .int r_4), (5, .int r_1), (0, .ref (ad 0)), (1, .int x0), (2, .int x1), (3, .int x2), (4, .int x3)]) hx hb dX8_mayBe_151 hl (k := 2) rfl (by rw [ex_25]; rfl) (by decide) rfl (fun ls hl => ?_)
                  have tx_25 : x_25.toInt = y2_6.toInt + (1 : Int32).toInt := by rw [ex_25]; exact t_add ⟨by omega, by omega⟩
                  refine lv_goto (tgt := 10) hx hb dX8_mayBe_154 (by decide) ?_
                  exact ih_2 x_25 _ _ (by omega) (by omega) (by omega) hP hD hS ls (lv_sub hl [0, 3, 4, 5, 6, 7, 8] rfl)
                · have tc_24 : x_8.toInt = (1 : Int32).toInt := by rw [c_24]
                  exfalso
                  omega
        · have tc_6 : x_5.toInt ≠ x1.toInt := fun q => absurd (Int32.toInt_inj.mp q) c_6
          refine lv_goto (tgt := 151) hx hb dX8_mayBe_36 (by decide) ?_
          obtain ⟨x_7, ex_7⟩ : ∃ y : Int32, y = y2_6 + 1 := ⟨_, rfl⟩
          refine lv_iinc (v := x_7) (lv' := [(6, .int x_7), (7, .int r_4), (5, .int r_1), (0, .ref (ad 0)), (1, .int x0), (2, .int x1), (3, .int x2), (4, .int x3)]) hx hb dX8_mayBe_151 hl (k := 1) rfl (by rw [ex_7]; rfl) (by decide) rfl (fun ls hl => ?_)
          have k_1 : (1 : Int32).toInt = 1 := by decide
          have tx_7 : x_7.toInt = y2_6.toInt + (1 : Int32).toInt := by rw [ex_7]; exact t_add ⟨by omega, by omega⟩
          refine lv_goto (tgt := 10) hx hb dX8_mayBe_154 (by decide) ?_
          exact ih_2 x_7 _ _ (by omega) (by omega) (by omega) hP hD hS ls (lv_sub hl [0, 2, 3, 4, 5, 6, 7] rfl)
  have k_0 : (0 : Int32).toInt = 0 := by decide
  exact hc_2 ((5 - (0 : Int32).toInt).toNat + 1) 0 _ _ (by omega) (by omega) (by omega) hP hD hS ls (lv_sub hl [0, 1, 2, 3, 4, 5, 6] rfl)

set_option maxHeartbeats 4000000 in
set_option maxRecDepth 100000 in
theorem q_X8_fits (l : Launch) (dC : Nat → ClassId) (dI : Nat → Nat → Nat) (cy : Nat → ClassId) (sz : Nat) (ad : Nat → Nat) (v : Nat → Nat → Int32) (hv : Ir v) (x0 : Int32) (h0 : 0 ≤ x0.toInt ∧ x0.toInt ≤ 3) : Met l yX8_fits wsX8_fits ({ frames := 3, cells := 0, slots := 0, locals := 192 }) (va_Pc [.ref (ad 0), .int x0] (ex_Pre dC dI cy sz (wm ad cy v))) (va_Qi (fun (r : Int32) (u : Nat → Nat → Int32) => Ir u ∧ u = v ∧ (r = 0 ∨ r = 1)) (fun u t => ex_Pst dC dI (va_A (wm ad cy v) sz) (wm ad cy u) t) (va_A (wm ad cy v) sz)) 0 0 (va_A (wm ad cy v) sz) := by
  refine Met.ofW (cc := cX8_fits) (maxL := 8) (ret := (some .boolean)) (by decide) rfl ?_
  intro p e s m args below meth c s₁ B hml hv
  obtain ⟨rfl, hsz, hE, hP, hK, hD0⟩ := hv
  have hx := B.exec
  have hb := B.bytes
  have hr := B.returns
  have hts := atoms_spec (ws := wsX8_fits) B.pre
  have hown : s.vm.findClass RX8 = some m.cls := findClass_of_methodNamed B.named
  have hlocks := B.notSynchronized
  subst hsz
  have hD := hD0.self (sz := s.heap.size)
  generalize hAe : va_A (wm ad cy v) s.heap.size = A at hD ⊢
  have hA : ∀ q : Nat, s.heap.size ≤ q → A q := fun q h => by rw [← hAe]; exact Or.inr h
  have hS : va_S A s.heap s.heap [] := va_S.rf
  have hP : va_P (dC, dI) vwCl (wm ad cy v) s.heap := hP
  have hl := lv_entry ([.ref (ad 0), .int x0]) (n := 8) (Nat.le_of_ble_eq_true rfl)
  rw [lg_entry_eq]
  generalize (lg_sl ([.ref (ad 0), .int x0]) ++ List.replicate (8 - (lg_sl ([.ref (ad 0), .int x0])).length) Slot.unset).toArray = ls at hl ⊢
  have hl : lv_has ls 8 [(0, .ref (ad 0)), (1, .int x0)] := hl
  refine lv_aload_n hx hb dX8_fits_0 rfl (lv_at hl 0 rfl) ?_
  refine va_get (D := (dC, dI)) (ci := 8) (v := .ref (ad 5)) (C := RX8) (T := TX8) (N := 11) hx hb hts iwX8_fits_X8 hown hK hP (0) (wm_at (by decide) rc_0) rfl 7 (by decide) (hts (.fieldLink RX8 26 "QuietStairsModel" "tried" "[I") fwX8_fits_1) (fun _ h9 => h9) rfl dX8_fits_1 ?_
  refine lv_iload_n hx hb dX8_fits_4 rfl (lv_at hl 1 rfl) ?_
  refine va_iald hx hb hK hP (5) 0 (wm_at (by decide) rc_5) rfl (vp_in_iff.mpr ⟨by omega, by omega⟩) dX8_fits_5 ?_
  refine lv_topi (fun x_1 ex_1 => ?_)
  refine lv_istore_n (lv' := [(2, .int x_1), (0, .ref (ad 0)), (1, .int x0)]) hx hb dX8_fits_6 rfl hl (by decide) rfl (fun ls hl => ?_)
  refine lv_iload_n hx hb dX8_fits_7 rfl (lv_at hl 0 rfl) ?_
  refine lv_bipush (v := 18) hx hb dX8_fits_8 (by decide) ?_
  have k_18 : (18 : Int32).toInt = 18 := by decide
  refine lv_icmp_ne (tgt := 15) hx hb dX8_fits_10 (by decide) (fun c_2 => ?_) (fun c_2 => ?_)
  · have tc_2 : x_1.toInt ≠ (18 : Int32).toInt := fun q => absurd (Int32.toInt_inj.mp q) c_2
    refine lv_iload_n hx hb dX8_fits_15 rfl (lv_at hl 0 rfl) ?_
    refine lv_bipush (v := 6) hx hb dX8_fits_16 (by decide) ?_
    refine lv_irem hx hb dX8_fits_18 (by decide) ?_
    refine lv_topi (fun x_3 ex_3 => ?_)
    refine lv_istore_n (lv' := [(3, .int x_3), (2, .int x_1), (0, .ref (ad 0)), (1, .int x0)]) hx hb dX8_fits_19 rfl hl (by decide) rfl (fun ls hl => ?_)
    refine lv_aload_n hx hb dX8_fits_20 rfl (lv_at hl 2 rfl) ?_
    refine lv_iload_n hx hb dX8_fits_21 rfl (lv_at hl 0 rfl) ?_
    refine yw_i (w1 := fun (u : Nat → Nat → Int32) => wm ad cy u) hD hS hA (va_runV (As := [.int x_3]) (rest := []) ⟨hx, hb, hml, hown, hts⟩ (q_X8_isPair l dC dI cy _ ad v hv x_3) (cwV 1 hts gX8_fits_X8_isPair rfl rfl rfl hd_V_X8_isPair_1 ⟨Nat.le_of_ble_eq_true rfl, Nat.le_of_ble_eq_true rfl⟩) (yw_preV hE hK hP hD (ci := 8) (q := (RX8, TX8, 11)) (q0 := 0) rfl (wm_at (by decide) rc_0)) rfl rfl hl.1 rfl (lv_room (Nat.le_of_ble_eq_true rfl)) dX8_fits_22 ⟨Nat.le_of_ble_eq_true rfl, Nat.le_of_ble_eq_true rfl⟩) (fun r_4 v_4 H locs hw_4 hP hD hS => ?_)
    obtain ⟨-, hu_4, hw_4⟩ := hw_4
    replace hu_4 := hu_4.symm
    subst hu_4
    rcases hw_4 with ⟨rfl, ha_5⟩ | ⟨rfl, ha_5⟩
    · have hb_5 := ha_5.1
      refine lv_if_eq (tgt := 42) hx hb dX8_fits_25 (by decide) (fun c9 => absurd c9 (by decide)) (fun _ => ?_)
      refine lv_aload_n hx hb dX8_fits_28 rfl (lv_at hl 2 rfl) ?_
      refine lv_iload_n hx hb dX8_fits_29 rfl (lv_at hl 0 rfl) ?_
      refine lv_aload_n hx hb dX8_fits_30 rfl (lv_at hl 2 rfl) ?_
      refine va_get (D := (dC, dI)) (ci := 8) (v := .ref (ad 4)) (C := RX8) (T := TX8) (N := 11) hx hb hts iwX8_fits_X8 hown hK hP (0) (wm_at (by decide) rc_0) rfl 6 (by decide) (hts (.fieldLink RX8 23 "QuietStairsModel" "planned" "[I") fwX8_fits_2) (fun _ h9 => h9) rfl dX8_fits_31 ?_
      refine lv_iload_n hx hb dX8_fits_34 rfl (lv_at hl 3 rfl) ?_
      refine va_iald hx hb hK hP (4) 0 (wm_at (by decide) rc_4) rfl (vp_in_iff.mpr ⟨by omega, by omega⟩) dX8_fits_35 ?_
      refine lv_topi (fun x_6 ex_6 => ?_)
      have bzx_6 : 0 ≤ x_6.toInt ∧ x_6.toInt ≤ 5 := by rw [ex_6]; exact hv 4 _ 5 rfl
      refine yw_i (w1 := fun (u : Nat → Nat → Int32) => wm ad cy u) hD hS hA (va_runV (As := [.int x_3, .int x_6]) (rest := []) ⟨hx, hb, hml, hown, hts⟩ (q_X8_may l dC dI cy _ ad v hv x_3 x_6 ⟨by omega, by omega⟩ ⟨by omega, by omega⟩) (cwV 2 hts gX8_fits_X8_may rfl rfl rfl hd_V_X8_may_2 ⟨Nat.le_of_ble_eq_true rfl, Nat.le_of_ble_eq_true rfl⟩) (yw_preV hE hK hP hD (ci := 8) (q := (RX8, TX8, 11)) (q0 := 0) rfl (wm_at (by decide) rc_0)) rfl rfl hl.1 rfl (lv_room (Nat.le_of_ble_eq_true rfl)) dX8_fits_36 ⟨Nat.le_of_ble_eq_true rfl, Nat.le_of_ble_eq_true rfl⟩) (fun r_7 v_7 H locs hw_7 hP hD hS => ?_)
      obtain ⟨-, hu_7, hw_7⟩ := hw_7
      replace hu_7 := hu_7.symm
      subst hu_7
      rcases hw_7 with rfl | rfl
      · refine lv_if_ne (tgt := 44) hx hb dX8_fits_39 (by decide) (fun c9 => absurd c9 (by decide)) (fun _ => ?_)
        refine lv_iconst (v := 0) hx hb dX8_fits_42 (by decide) ?_
        exact W.zret (ty := .boolean) (v := 0) hx hb hr rfl (fun t ht hW => ⟨⟨0, v, rfl, ⟨hv, rfl, by decide⟩, by rw [ht]; exact hP, hD⟩, hS.F ht⟩) hS.2.2 dX8_fits_43
      · refine lv_if_ne (tgt := 44) hx hb dX8_fits_39 (by decide) (fun _ => ?_) (fun c9 => absurd c9 (by decide))
        refine lv_iconst (v := 0) hx hb dX8_fits_44 (by decide) ?_
        refine lv_istore (lv' := [(4, .int 0), (3, .int x_3), (2, .int x_1), (0, .ref (ad 0)), (1, .int x0)]) hx hb dX8_fits_45 hl (by decide) rfl (fun ls hl => ?_)
        refine lv_iconst (v := 0) hx hb dX8_fits_47 (by decide) ?_
        refine lv_istore (lv' := [(5, .int 0), (4, .int 0), (3, .int x_3), (2, .int x_1), (0, .ref (ad 0)), (1, .int x0)]) hx hb dX8_fits_48 hl (by decide) rfl (fun ls hl => ?_)
        have hc_8 : ∀ (n : Nat) (y8_5 y8_4 : Int32) (H : Heap) (locs : List Loc), 0 ≤ y8_5.toInt → y8_5.toInt ≤ 3 → (3 - y8_5.toInt).toNat < n → va_P (dC, dI) vwCl (wm ad cy v) H → va_D A (wm ad cy v) → va_S A s.heap H locs → ∀ ls : Array Slot, lv_has ls 8 [(5, .int y8_5), (4, .int y8_4), (3, .int x_3), (2, .int x_1), (0, .ref (ad 0)), (1, .int x0)] → W p l e (headSpec wsX8_fits ({ frames := 3, cells := 0, slots := 0, locals := 192 })).room s m [Value.ref (ad 0), Value.int x0].toArray below meth c H locs 0 0 (MQ below (va_Qi (fun (r : Int32) (u : Nat → Nat → Int32) => Ir u ∧ u = v ∧ (r = 0 ∨ r = 1)) (fun u t => ex_Pst dC dI A (wm ad cy u) t) A) [Value.ref (ad 0), Value.int x0].toArray s 0 0 A) (F0 m 50 ls []) := by
          intro n
          induction n with
          | zero =>
            intro y8_5 y8_4 H locs ay8_5 by8_5 hm_8 hP hD hS ls hl
            exact absurd hm_8 (by omega)
          | succ n ih_8 =>
            intro y8_5 y8_4 H locs ay8_5 by8_5 hm_8 hP hD hS ls hl
            refine lv_iload hx hb dX8_fits_50 (lv_at hl 0 rfl) ?_
            refine lv_iload_n hx hb dX8_fits_52 rfl (lv_at hl 5 rfl) ?_
            refine lv_icmp_ge (tgt := 171) hx hb dX8_fits_53 (by decide) (fun c_9 => ?_) (fun c_9 => ?_)
            · have tc_9 : y8_5.toInt ≥ x0.toInt := Int32.le_iff_toInt_le.mp c_9
              refine lv_iload hx hb dX8_fits_171 (lv_at hl 1 rfl) ?_
              refine lv_aload_n hx hb dX8_fits_173 rfl (lv_at hl 4 rfl) ?_
              refine va_get (D := (dC, dI)) (ci := 8) (v := .int (v 0 3)) (C := RX8) (T := TX8) (N := 11) hx hb hts iwX8_fits_X8 hown hK hP (0) (wm_at (by decide) rc_0) rfl 3 (by decide) (hts (.fieldLink RX8 16 "QuietStairsModel" "rooms" "I") fwX8_fits_3) (fun _ h9 => h9) rfl dX8_fits_174 ?_
              refine lv_topi (fun x_10 ex_10 => ?_)
              refine lv_icmp_ge (tgt := 184) hx hb dX8_fits_177 (by decide) (fun c_11 => ?_) (fun c_11 => ?_)
              · have tc_11 : y8_4.toInt ≥ x_10.toInt := Int32.le_iff_toInt_le.mp c_11
                refine lv_iconst (v := 0) hx hb dX8_fits_184 (by decide) ?_
                exact W.zret (ty := .boolean) (v := 0) hx hb hr rfl (fun t ht hW => ⟨⟨0, v, rfl, ⟨hv, rfl, by decide⟩, by rw [ht]; exact hP, hD⟩, hS.F ht⟩) hS.2.2 dX8_fits_185
              · have tc_11 : y8_4.toInt < x_10.toInt := Int32.lt_iff_toInt_lt.mp (Int32.not_le.mp c_11)
                refine lv_iconst (v := 1) hx hb dX8_fits_180 (by decide) ?_
                refine lv_goto (tgt := 185) hx hb dX8_fits_181 (by decide) ?_
                exact W.zret (ty := .boolean) (v := 1) hx hb hr rfl (fun t ht hW => ⟨⟨1, v, rfl, ⟨hv, rfl, by decide⟩, by rw [ht]; exact hP, hD⟩, hS.F ht⟩) hS.2.2 dX8_fits_185
            · have tc_9 : y8_5.toInt < x0.toInt := Int32.lt_iff_toInt_lt.mp (Int32.not_le.mp c_9)
              refine lv_aload_n hx hb dX8_fits_56 rfl (lv_at hl 4 rfl) ?_
              refine va_get (D := (dC, dI)) (ci := 8) (v := .ref (ad 5)) (C := RX8) (T := TX8) (N := 11) hx hb hts iwX8_fits_X8 hown hK hP (0) (wm_at (by decide) rc_0) rfl 7 (by decide) (hts (.fieldLink RX8 26 "QuietStairsModel" "tried" "[I") fwX8_fits_1) (fun _ h9 => h9) rfl dX8_fits_57 ?_
              refine lv_iload hx hb dX8_fits_60 (lv_at hl 0 rfl) ?_
              refine va_iald hx hb hK hP (5) 0 (wm_at (by decide) rc_5) rfl (vp_in_iff.mpr ⟨by omega, by omega⟩) dX8_fits_62 ?_
              refine lv_topi (fun x_10 ex_10 => ?_)
              refine lv_bipush (v := 18) hx hb dX8_fits_63 (by decide) ?_
              refine lv_icmp_eq (tgt := 165) hx hb dX8_fits_65 (by decide) (fun c_11 => ?_) (fun c_11 => ?_)
              · have tc_11 : x_10.toInt = (18 : Int32).toInt := by rw [c_11]
                obtain ⟨x_12, ex_12⟩ : ∃ y : Int32, y = y8_5 + 1 := ⟨_, rfl⟩
                refine lv_iinc (v := x_12) (lv' := [(5, .int x_12), (4, .int y8_4), (3, .int x_3), (2, .int x_1), (0, .ref (ad 0)), (1, .int x0)]) hx hb dX8_fits_165 hl (k := 0) rfl (by rw [ex_12]; rfl) (by decide) rfl (fun ls hl => ?_)
                have k_1 : (1 : Int32).toInt = 1 := by decide
                have tx_12 : x_12.toInt = y8_5.toInt + (1 : Int32).toInt := by rw [ex_12]; exact t_add ⟨by omega, by omega⟩
                refine lv_goto (tgt := 50) hx hb dX8_fits_168 (by decide) ?_
                exact ih_8 x_12 y8_4 _ _ (by omega) (by omega) (by omega) hP hD hS ls (lv_sub hl [0, 1, 2, 3, 4, 5] rfl)
              · have tc_11 : x_10.toInt ≠ (18 : Int32).toInt := fun q => absurd (Int32.toInt_inj.mp q) c_11
                refine lv_aload_n hx hb dX8_fits_68 rfl (lv_at hl 4 rfl) ?_
                refine va_get (D := (dC, dI)) (ci := 8) (v := .ref (ad 5)) (C := RX8) (T := TX8) (N := 11) hx hb hts iwX8_fits_X8 hown hK hP (0) (wm_at (by decide) rc_0) rfl 7 (by decide) (hts (.fieldLink RX8 26 "QuietStairsModel" "tried" "[I") fwX8_fits_1) (fun _ h9 => h9) rfl dX8_fits_69 ?_
                refine lv_iload hx hb dX8_fits_72 (lv_at hl 0 rfl) ?_
                refine va_iald hx hb hK hP (5) 0 (wm_at (by decide) rc_5) rfl (vp_in_iff.mpr ⟨by omega, by omega⟩) dX8_fits_74 ?_
                refine lv_topi (fun x_12 ex_12 => ?_)
                obtain rfl : x_10 = x_12 := (ex_12.trans ex_10.symm).symm
                refine lv_bipush (v := 6) hx hb dX8_fits_75 (by decide) ?_
                refine lv_idiv hx hb dX8_fits_77 (by decide) ?_
                refine lv_topi (fun x_13 ex_13 => ?_)
                refine lv_iload_n hx hb dX8_fits_78 rfl (lv_at hl 3 rfl) ?_
                refine lv_bipush (v := 6) hx hb dX8_fits_79 (by decide) ?_
                refine lv_idiv hx hb dX8_fits_81 (by decide) ?_
                refine lv_topi (fun x_14 ex_14 => ?_)
                refine lv_icmp_eq (tgt := 88) hx hb dX8_fits_82 (by decide) (fun c_15 => ?_) (fun c_15 => ?_)
                · have tc_15 : x_13.toInt = x_14.toInt := by rw [c_15]
                  refine lv_aload_n hx hb dX8_fits_88 rfl (lv_at hl 4 rfl) ?_
                  refine va_get (D := (dC, dI)) (ci := 8) (v := .ref (ad 5)) (C := RX8) (T := TX8) (N := 11) hx hb hts iwX8_fits_X8 hown hK hP (0) (wm_at (by decide) rc_0) rfl 7 (by decide) (hts (.fieldLink RX8 26 "QuietStairsModel" "tried" "[I") fwX8_fits_1) (fun _ h9 => h9) rfl dX8_fits_89 ?_
                  refine lv_iload hx hb dX8_fits_92 (lv_at hl 0 rfl) ?_
                  refine va_iald hx hb hK hP (5) 0 (wm_at (by decide) rc_5) rfl (vp_in_iff.mpr ⟨by omega, by omega⟩) dX8_fits_94 ?_
                  refine lv_topi (fun x_16 ex_16 => ?_)
                  obtain rfl : x_10 = x_16 := (ex_16.trans ex_10.symm).symm
                  refine lv_bipush (v := 6) hx hb dX8_fits_95 (by decide) ?_
                  refine lv_irem hx hb dX8_fits_97 (by decide) ?_
                  refine lv_topi (fun x_17 ex_17 => ?_)
                  refine lv_istore (lv' := [(6, .int x_17), (5, .int y8_5), (4, .int y8_4), (3, .int x_3), (2, .int x_1), (0, .ref (ad 0)), (1, .int x0)]) hx hb dX8_fits_98 hl (by decide) rfl (fun ls hl => ?_)
                  refine lv_iload hx hb dX8_fits_100 (lv_at hl 0 rfl) ?_
                  refine yc_p hP hS (va_runS (As := [.int x_17]) (rest := []) ⟨hx, hb, hml, hown, hts⟩ (c_X8_oneOf l x_17) (cwS 1 hts gX8_fits_X8_oneOf rfl rfl rfl hd_S_X8_oneOf_1 ⟨Nat.le_of_ble_eq_true rfl, Nat.le_of_ble_eq_true rfl⟩) ex_preP rfl rfl hl.1 rfl (lv_room (Nat.le_of_ble_eq_true rfl)) dX8_fits_102 ⟨Nat.le_of_ble_eq_true rfl, Nat.le_of_ble_eq_true rfl⟩) (fun r_18 H locs hw_18 hP hS => ?_)
                  have qr_18 : r_18.toInt = pn x_17.toInt := hw_18
                  refine lv_iload_n hx hb dX8_fits_105 rfl (lv_at hl 3 rfl) ?_
                  refine yc_p hP hS (va_runS (As := [.int x_3]) (rest := [.int r_18]) ⟨hx, hb, hml, hown, hts⟩ (c_X8_oneOf l x_3) (cwS 1 hts gX8_fits_X8_oneOf rfl rfl rfl hd_S_X8_oneOf_1 ⟨Nat.le_of_ble_eq_true rfl, Nat.le_of_ble_eq_true rfl⟩) ex_preP rfl rfl hl.1 rfl (lv_room (Nat.le_of_ble_eq_true rfl)) dX8_fits_106 ⟨Nat.le_of_ble_eq_true rfl, Nat.le_of_ble_eq_true rfl⟩) (fun r_19 H locs hw_19 hP hS => ?_)
                  have pr_19 := pn_b x_3.toInt
                  have qr_19 : r_19.toInt = pn x_3.toInt := hw_19
                  refine lv_icmp_eq (tgt := 148) hx hb dX8_fits_109 (by decide) (fun c_20 => ?_) (fun c_20 => ?_)
                  · have tc_20 : r_18.toInt = r_19.toInt := by rw [c_20]
                    refine lv_iconst (v := 1) hx hb dX8_fits_148 (by decide) ?_
                    refine lv_goto (tgt := 153) hx hb dX8_fits_149 (by decide) ?_
                    refine lv_istore (lv' := [(7, .int 1), (6, .int x_17), (5, .int y8_5), (4, .int y8_4), (3, .int x_3), (2, .int x_1), (0, .ref (ad 0)), (1, .int x0)]) hx hb dX8_fits_153 hl (by decide) rfl (fun ls hl => ?_)
                    refine lv_iload hx hb dX8_fits_155 (lv_at hl 0 rfl) ?_
                    refine lv_if_eq (tgt := 162) hx hb dX8_fits_157 (by decide) (fun c9 => absurd c9 (by decide)) (fun _ => ?_)
                    refine lv_iconst (v := 0) hx hb dX8_fits_160 (by decide) ?_
                    exact W.zret (ty := .boolean) (v := 0) hx hb hr rfl (fun t ht hW => ⟨⟨0, v, rfl, ⟨hv, rfl, by decide⟩, by rw [ht]; exact hP, hD⟩, hS.F ht⟩) hS.2.2 dX8_fits_161
                  · have tc_20 : r_18.toInt ≠ r_19.toInt := fun q => absurd (Int32.toInt_inj.mp q) c_20
                    refine lv_iload hx hb dX8_fits_112 (lv_at hl 0 rfl) ?_
                    refine yc_p hP hS (va_runS (As := [.int x_17]) (rest := []) ⟨hx, hb, hml, hown, hts⟩ (c_X8_oneOf l x_17) (cwS 1 hts gX8_fits_X8_oneOf rfl rfl rfl hd_S_X8_oneOf_1 ⟨Nat.le_of_ble_eq_true rfl, Nat.le_of_ble_eq_true rfl⟩) ex_preP rfl rfl hl.1 rfl (lv_room (Nat.le_of_ble_eq_true rfl)) dX8_fits_114 ⟨Nat.le_of_ble_eq_true rfl, Nat.le_of_ble_eq_true rfl⟩) (fun r_21 H locs hw_21 hP hS => ?_)
                    have qr_21 : r_21.toInt = pn x_17.toInt := hw_21
                    refine lv_iload_n hx hb dX8_fits_117 rfl (lv_at hl 3 rfl) ?_
                    refine yc_p hP hS (va_runS (As := [.int x_3]) (rest := [.int r_21]) ⟨hx, hb, hml, hown, hts⟩ (c_X8_otherOf l x_3) (cwS 1 hts gX8_fits_X8_otherOf rfl rfl rfl hd_S_X8_otherOf_1 ⟨Nat.le_of_ble_eq_true rfl, Nat.le_of_ble_eq_true rfl⟩) ex_preP rfl rfl hl.1 rfl (lv_room (Nat.le_of_ble_eq_true rfl)) dX8_fits_118 ⟨Nat.le_of_ble_eq_true rfl, Nat.le_of_ble_eq_true rfl⟩) (fun r_22 H locs hw_22 hP hS => ?_)
                    have pr_22 := pt_b x_3.toInt (by omega)
                    have qr_22 : r_22.toInt = pt x_3.toInt := hw_22
                    refine lv_icmp_eq (tgt := 148) hx hb dX8_fits_121 (by decide) (fun c_23 => ?_) (fun c_23 => ?_)
                    · have tc_23 : r_21.toInt = r_22.toInt := by rw [c_23]
                      refine lv_iconst (v := 1) hx hb dX8_fits_148 (by decide) ?_
                      refine lv_goto (tgt := 153) hx hb dX8_fits_149 (by decide) ?_
                      refine lv_istore (lv' := [(7, .int 1), (6, .int x_17), (5, .int y8_5), (4, .int y8_4), (3, .int x_3), (2, .int x_1), (0, .ref (ad 0)), (1, .int x0)]) hx hb dX8_fits_153 hl (by decide) rfl (fun ls hl => ?_)
                      refine lv_iload hx hb dX8_fits_155 (lv_at hl 0 rfl) ?_
                      refine lv_if_eq (tgt := 162) hx hb dX8_fits_157 (by decide) (fun c9 => absurd c9 (by decide)) (fun _ => ?_)
                      refine lv_iconst (v := 0) hx hb dX8_fits_160 (by decide) ?_
                      exact W.zret (ty := .boolean) (v := 0) hx hb hr rfl (fun t ht hW => ⟨⟨0, v, rfl, ⟨hv, rfl, by decide⟩, by rw [ht]; exact hP, hD⟩, hS.F ht⟩) hS.2.2 dX8_fits_161
                    · have tc_23 : r_21.toInt ≠ r_22.toInt := fun q => absurd (Int32.toInt_inj.mp q) c_23
                      refine lv_iload hx hb dX8_fits_124 (lv_at hl 0 rfl) ?_
                      refine yc_p hP hS (va_runS (As := [.int x_17]) (rest := []) ⟨hx, hb, hml, hown, hts⟩ (c_X8_otherOf l x_17) (cwS 1 hts gX8_fits_X8_otherOf rfl rfl rfl hd_S_X8_otherOf_1 ⟨Nat.le_of_ble_eq_true rfl, Nat.le_of_ble_eq_true rfl⟩) ex_preP rfl rfl hl.1 rfl (lv_room (Nat.le_of_ble_eq_true rfl)) dX8_fits_126 ⟨Nat.le_of_ble_eq_true rfl, Nat.le_of_ble_eq_true rfl⟩) (fun r_24 H locs hw_24 hP hS => ?_)
                      have qr_24 : r_24.toInt = pt x_17.toInt := hw_24
                      refine lv_iload_n hx hb dX8_fits_129 rfl (lv_at hl 3 rfl) ?_
                      refine yc_p hP hS (va_runS (As := [.int x_3]) (rest := [.int r_24]) ⟨hx, hb, hml, hown, hts⟩ (c_X8_oneOf l x_3) (cwS 1 hts gX8_fits_X8_oneOf rfl rfl rfl hd_S_X8_oneOf_1 ⟨Nat.le_of_ble_eq_true rfl, Nat.le_of_ble_eq_true rfl⟩) ex_preP rfl rfl hl.1 rfl (lv_room (Nat.le_of_ble_eq_true rfl)) dX8_fits_130 ⟨Nat.le_of_ble_eq_true rfl, Nat.le_of_ble_eq_true rfl⟩) (fun r_25 H locs hw_25 hP hS => ?_)
                      have pr_25 := pn_b x_3.toInt
                      have qr_25 : r_25.toInt = pn x_3.toInt := hw_25
                      refine lv_icmp_eq (tgt := 148) hx hb dX8_fits_133 (by decide) (fun c_26 => ?_) (fun c_26 => ?_)
                      · have tc_26 : r_24.toInt = r_25.toInt := by rw [c_26]
                        refine lv_iconst (v := 1) hx hb dX8_fits_148 (by decide) ?_
                        refine lv_goto (tgt := 153) hx hb dX8_fits_149 (by decide) ?_
                        refine lv_istore (lv' := [(7, .int 1), (6, .int x_17), (5, .int y8_5), (4, .int y8_4), (3, .int x_3), (2, .int x_1), (0, .ref (ad 0)), (1, .int x0)]) hx hb dX8_fits_153 hl (by decide) rfl (fun ls hl => ?_)
                        refine lv_iload hx hb dX8_fits_155 (lv_at hl 0 rfl) ?_
                        refine lv_if_eq (tgt := 162) hx hb dX8_fits_157 (by decide) (fun c9 => absurd c9 (by decide)) (fun _ => ?_)
                        refine lv_iconst (v := 0) hx hb dX8_fits_160 (by decide) ?_
                        exact W.zret (ty := .boolean) (v := 0) hx hb hr rfl (fun t ht hW => ⟨⟨0, v, rfl, ⟨hv, rfl, by decide⟩, by rw [ht]; exact hP, hD⟩, hS.F ht⟩) hS.2.2 dX8_fits_161
                      · have tc_26 : r_24.toInt ≠ r_25.toInt := fun q => absurd (Int32.toInt_inj.mp q) c_26
                        refine lv_iload hx hb dX8_fits_136 (lv_at hl 0 rfl) ?_
                        refine yc_p hP hS (va_runS (As := [.int x_17]) (rest := []) ⟨hx, hb, hml, hown, hts⟩ (c_X8_otherOf l x_17) (cwS 1 hts gX8_fits_X8_otherOf rfl rfl rfl hd_S_X8_otherOf_1 ⟨Nat.le_of_ble_eq_true rfl, Nat.le_of_ble_eq_true rfl⟩) ex_preP rfl rfl hl.1 rfl (lv_room (Nat.le_of_ble_eq_true rfl)) dX8_fits_138 ⟨Nat.le_of_ble_eq_true rfl, Nat.le_of_ble_eq_true rfl⟩) (fun r_27 H locs hw_27 hP hS => ?_)
                        have qr_27 : r_27.toInt = pt x_17.toInt := hw_27
                        refine lv_iload_n hx hb dX8_fits_141 rfl (lv_at hl 3 rfl) ?_
                        refine yc_p hP hS (va_runS (As := [.int x_3]) (rest := [.int r_27]) ⟨hx, hb, hml, hown, hts⟩ (c_X8_otherOf l x_3) (cwS 1 hts gX8_fits_X8_otherOf rfl rfl rfl hd_S_X8_otherOf_1 ⟨Nat.le_of_ble_eq_true rfl, Nat.le_of_ble_eq_true rfl⟩) ex_preP rfl rfl hl.1 rfl (lv_room (Nat.le_of_ble_eq_true rfl)) dX8_fits_142 ⟨Nat.le_of_ble_eq_true rfl, Nat.le_of_ble_eq_true rfl⟩) (fun r_28 H locs hw_28 hP hS => ?_)
                        have pr_28 := pt_b x_3.toInt (by omega)
                        have qr_28 : r_28.toInt = pt x_3.toInt := hw_28
                        refine lv_icmp_ne (tgt := 152) hx hb dX8_fits_145 (by decide) (fun c_29 => ?_) (fun c_29 => ?_)
                        · have tc_29 : r_27.toInt ≠ r_28.toInt := fun q => absurd (Int32.toInt_inj.mp q) c_29
                          refine lv_iconst (v := 0) hx hb dX8_fits_152 (by decide) ?_
                          refine lv_istore (lv' := [(7, .int 0), (6, .int x_17), (5, .int y8_5), (4, .int y8_4), (3, .int x_3), (2, .int x_1), (0, .ref (ad 0)), (1, .int x0)]) hx hb dX8_fits_153 hl (by decide) rfl (fun ls hl => ?_)
                          refine lv_iload hx hb dX8_fits_155 (lv_at hl 0 rfl) ?_
                          refine lv_if_eq (tgt := 162) hx hb dX8_fits_157 (by decide) (fun _ => ?_) (fun c9 => absurd c9 (by decide))
                          obtain ⟨x_30, ex_30⟩ : ∃ y : Int32, y = y8_4 + 1 := ⟨_, rfl⟩
                          refine lv_iinc (v := x_30) (lv' := [(4, .int x_30), (7, .int 0), (6, .int x_17), (5, .int y8_5), (3, .int x_3), (2, .int x_1), (0, .ref (ad 0)), (1, .int x0)]) hx hb dX8_fits_162 hl (k := 3) rfl (by rw [ex_30]; rfl) (by decide) rfl (fun ls hl => ?_)
                          have k_1 : (1 : Int32).toInt = 1 := by decide
                          obtain ⟨x_31, ex_31⟩ : ∃ y : Int32, y = y8_5 + 1 := ⟨_, rfl⟩
                          refine lv_iinc (v := x_31) (lv' := [(5, .int x_31), (4, .int x_30), (7, .int 0), (6, .int x_17), (3, .int x_3), (2, .int x_1), (0, .ref (ad 0)), (1, .int x0)]) hx hb dX8_fits_165 hl (k := 3) rfl (by rw [ex_31]; rfl) (by decide) rfl (fun ls hl => ?_)
                          have tx_31 : x_31.toInt = y8_5.toInt + (1 : Int32).toInt := by rw [ex_31]; exact t_add ⟨by omega, by omega⟩
                          refine lv_goto (tgt := 50) hx hb dX8_fits_168 (by decide) ?_
                          exact ih_8 x_31 x_30 _ _ (by omega) (by omega) (by omega) hP hD hS ls (lv_sub hl [0, 1, 4, 5, 6, 7] rfl)
                        · have tc_29 : r_27.toInt = r_28.toInt := by rw [c_29]
                          refine lv_iconst (v := 1) hx hb dX8_fits_148 (by decide) ?_
                          refine lv_goto (tgt := 153) hx hb dX8_fits_149 (by decide) ?_
                          refine lv_istore (lv' := [(7, .int 1), (6, .int x_17), (5, .int y8_5), (4, .int y8_4), (3, .int x_3), (2, .int x_1), (0, .ref (ad 0)), (1, .int x0)]) hx hb dX8_fits_153 hl (by decide) rfl (fun ls hl => ?_)
                          refine lv_iload hx hb dX8_fits_155 (lv_at hl 0 rfl) ?_
                          refine lv_if_eq (tgt := 162) hx hb dX8_fits_157 (by decide) (fun c9 => absurd c9 (by decide)) (fun _ => ?_)
                          refine lv_iconst (v := 0) hx hb dX8_fits_160 (by decide) ?_
                          exact W.zret (ty := .boolean) (v := 0) hx hb hr rfl (fun t ht hW => ⟨⟨0, v, rfl, ⟨hv, rfl, by decide⟩, by rw [ht]; exact hP, hD⟩, hS.F ht⟩) hS.2.2 dX8_fits_161
                · have tc_15 : x_13.toInt ≠ x_14.toInt := fun q => absurd (Int32.toInt_inj.mp q) c_15
                  refine lv_goto (tgt := 165) hx hb dX8_fits_85 (by decide) ?_
                  obtain ⟨x_16, ex_16⟩ : ∃ y : Int32, y = y8_5 + 1 := ⟨_, rfl⟩
                  refine lv_iinc (v := x_16) (lv' := [(5, .int x_16), (4, .int y8_4), (3, .int x_3), (2, .int x_1), (0, .ref (ad 0)), (1, .int x0)]) hx hb dX8_fits_165 hl (k := 0) rfl (by rw [ex_16]; rfl) (by decide) rfl (fun ls hl => ?_)
                  have k_1 : (1 : Int32).toInt = 1 := by decide
                  have tx_16 : x_16.toInt = y8_5.toInt + (1 : Int32).toInt := by rw [ex_16]; exact t_add ⟨by omega, by omega⟩
                  refine lv_goto (tgt := 50) hx hb dX8_fits_168 (by decide) ?_
                  exact ih_8 x_16 y8_4 _ _ (by omega) (by omega) (by omega) hP hD hS ls (lv_sub hl [0, 1, 2, 3, 4, 5] rfl)
        have k_0 : (0 : Int32).toInt = 0 := by decide
        exact hc_8 ((3 - (0 : Int32).toInt).toNat + 1) 0 0 _ _ (by omega) (by omega) (by omega) hP hD hS ls (lv_sub hl [0, 1, 2, 3, 4, 5] rfl)
    · refine lv_if_eq (tgt := 42) hx hb dX8_fits_25 (by decide) (fun _ => ?_) (fun c9 => absurd c9 (by decide))
      refine lv_iconst (v := 0) hx hb dX8_fits_42 (by decide) ?_
      exact W.zret (ty := .boolean) (v := 0) hx hb hr rfl (fun t ht hW => ⟨⟨0, v, rfl, ⟨hv, rfl, by decide⟩, by rw [ht]; exact hP, hD⟩, hS.F ht⟩) hS.2.2 dX8_fits_43
  · have tc_2 : x_1.toInt = (18 : Int32).toInt := by rw [c_2]
    refine lv_iconst (v := 1) hx hb dX8_fits_13 (by decide) ?_
    exact W.zret (ty := .boolean) (v := 1) hx hb hr rfl (fun t ht hW => ⟨⟨1, v, rfl, ⟨hv, rfl, by decide⟩, by rw [ht]; exact hP, hD⟩, hS.F ht⟩) hS.2.2 dX8_fits_14

set_option maxHeartbeats 4000000 in
set_option maxRecDepth 100000 in
theorem q_X8_waitsOf (l : Launch) (dC : Nat → ClassId) (dI : Nat → Nat → Nat) (cy : Nat → ClassId) (sz : Nat) (ad : Nat → Nat) (v : Nat → Nat → Int32) (hv : Ir v) (x0 : Int32) (h0 : -1 ≤ x0.toInt ∧ x0.toInt ≤ 3) : Met l yX8_waitsOf wsX8_waitsOf ({ frames := 1, cells := 0, slots := 0, locals := 64 }) (va_Pc [.ref (ad 0), .int x0] (ex_Pre dC dI cy sz (wm ad cy v))) (va_Qi (fun (r : Int32) (u : Nat → Nat → Int32) => Ir u ∧ u = v) (fun u t => ex_Pst dC dI (va_A (wm ad cy v) sz) (wm ad cy u) t) (va_A (wm ad cy v) sz)) 0 0 (va_A (wm ad cy v) sz) := by
  refine Met.ofW (cc := cX8_waitsOf) (maxL := 4) (ret := (some .int)) (by decide) rfl ?_
  intro p e s m args below meth c s₁ B hml hv
  obtain ⟨rfl, hsz, hE, hP, hK, hD0⟩ := hv
  have hx := B.exec
  have hb := B.bytes
  have hr := B.returns
  have hts := atoms_spec (ws := wsX8_waitsOf) B.pre
  have hown : s.vm.findClass RX8 = some m.cls := findClass_of_methodNamed B.named
  have hlocks := B.notSynchronized
  subst hsz
  have hD := hD0.self (sz := s.heap.size)
  generalize hAe : va_A (wm ad cy v) s.heap.size = A at hD ⊢
  have hA : ∀ q : Nat, s.heap.size ≤ q → A q := fun q h => by rw [← hAe]; exact Or.inr h
  have hS : va_S A s.heap s.heap [] := va_S.rf
  have hP : va_P (dC, dI) vwCl (wm ad cy v) s.heap := hP
  have hl := lv_entry ([.ref (ad 0), .int x0]) (n := 4) (Nat.le_of_ble_eq_true rfl)
  rw [lg_entry_eq]
  generalize (lg_sl ([.ref (ad 0), .int x0]) ++ List.replicate (4 - (lg_sl ([.ref (ad 0), .int x0])).length) Slot.unset).toArray = ls at hl ⊢
  have hl : lv_has ls 4 [(0, .ref (ad 0)), (1, .int x0)] := hl
  refine lv_iconst (v := 0) hx hb dX8_waitsOf_0 (by decide) ?_
  refine lv_istore_n (lv' := [(2, .int 0), (0, .ref (ad 0)), (1, .int x0)]) hx hb dX8_waitsOf_1 rfl hl (by decide) rfl (fun ls hl => ?_)
  refine lv_iconst (v := 0) hx hb dX8_waitsOf_2 (by decide) ?_
  refine lv_istore_n (lv' := [(3, .int 0), (2, .int 0), (0, .ref (ad 0)), (1, .int x0)]) hx hb dX8_waitsOf_3 rfl hl (by decide) rfl (fun ls hl => ?_)
  have hc_1 : ∀ (n : Nat) (y1_3 y1_2 : Int32) (H : Heap) (locs : List Loc), 0 ≤ y1_3.toInt → y1_3.toInt ≤ 4 → (4 - y1_3.toInt).toNat < n → va_P (dC, dI) vwCl (wm ad cy v) H → va_D A (wm ad cy v) → va_S A s.heap H locs → ∀ ls : Array Slot, lv_has ls 4 [(3, .int y1_3), (2, .int y1_2), (0, .ref (ad 0)), (1, .int x0)] → W p l e (headSpec wsX8_waitsOf ({ frames := 1, cells := 0, slots := 0, locals := 64 })).room s m [Value.ref (ad 0), Value.int x0].toArray below meth c H locs 0 0 (MQ below (va_Qi (fun (r : Int32) (u : Nat → Nat → Int32) => Ir u ∧ u = v) (fun u t => ex_Pst dC dI A (wm ad cy u) t) A) [Value.ref (ad 0), Value.int x0].toArray s 0 0 A) (F0 m 4 ls []) := by
    intro n
    induction n with
    | zero =>
      intro y1_3 y1_2 H locs ay1_3 by1_3 hm_1 hP hD hS ls hl
      exact absurd hm_1 (by omega)
    | succ n ih_1 =>
      intro y1_3 y1_2 H locs ay1_3 by1_3 hm_1 hP hD hS ls hl
      refine lv_iload_n hx hb dX8_waitsOf_4 rfl (lv_at hl 0 rfl) ?_
      refine lv_iload_n hx hb dX8_waitsOf_5 rfl (lv_at hl 3 rfl) ?_
      refine lv_icmp_gt (tgt := 58) hx hb dX8_waitsOf_6 (by decide) (fun c_2 => ?_) (fun c_2 => ?_)
      · have tc_2 : y1_3.toInt > x0.toInt := Int32.lt_iff_toInt_lt.mp c_2
        refine lv_iload_n hx hb dX8_waitsOf_58 rfl (lv_at hl 1 rfl) ?_
        exact W.iret (v := y1_2) hx hb hr (fun t ht hW => ⟨⟨y1_2, v, rfl, ⟨hv, rfl⟩, by rw [ht]; exact hP, hD⟩, hS.F ht⟩) hS.2.2 dX8_waitsOf_59
      · have tc_2 : y1_3.toInt ≤ x0.toInt := Int32.le_iff_toInt_le.mp (Int32.not_lt.mp c_2)
        refine lv_iload_n hx hb dX8_waitsOf_9 rfl (lv_at hl 1 rfl) ?_
        refine lv_aload_n hx hb dX8_waitsOf_10 rfl (lv_at hl 2 rfl) ?_
        refine va_get (D := (dC, dI)) (ci := 8) (v := .ref (ad 1)) (C := RX8) (T := TX8) (N := 11) hx hb hts iwX8_waitsOf_X8 hown hK hP (0) (wm_at (by decide) rc_0) rfl 0 (by decide) (hts (.fieldLink RX8 7 "QuietStairsModel" "s" "[I") fwX8_waitsOf_1) (fun _ h9 => h9) rfl dX8_waitsOf_11 ?_
        refine lv_aload_n hx hb dX8_waitsOf_14 rfl (lv_at hl 2 rfl) ?_
        refine va_get (D := (dC, dI)) (ci := 8) (v := .ref (ad 4)) (C := RX8) (T := TX8) (N := 11) hx hb hts iwX8_waitsOf_X8 hown hK hP (0) (wm_at (by decide) rc_0) rfl 6 (by decide) (hts (.fieldLink RX8 23 "QuietStairsModel" "planned" "[I") fwX8_waitsOf_2) (fun _ h9 => h9) rfl dX8_waitsOf_15 ?_
        refine lv_iload_n hx hb dX8_waitsOf_18 rfl (lv_at hl 0 rfl) ?_
        refine va_iald hx hb hK hP (4) 0 (wm_at (by decide) rc_4) rfl (vp_in_iff.mpr ⟨by omega, by omega⟩) dX8_waitsOf_19 ?_
        refine lv_topi (fun x_3 ex_3 => ?_)
        have bzx_3 : 0 ≤ x_3.toInt ∧ x_3.toInt ≤ 5 := by rw [ex_3]; exact hv 4 _ 5 rfl
        refine lv_iconst (v := 5) hx hb dX8_waitsOf_20 (by decide) ?_
        refine yc_p hP hS (va_runS (As := [.int x_3, .int 5]) (rest := [.ref (ad 1), .int y1_2]) ⟨hx, hb, hml, hown, hts⟩ (c_X8_at l x_3 5) (cwS 2 hts gX8_waitsOf_X8_at rfl rfl rfl hd_S_X8_at_2 ⟨Nat.le_of_ble_eq_true rfl, Nat.le_of_ble_eq_true rfl⟩) ex_preP rfl rfl hl.1 rfl (lv_room (Nat.le_of_ble_eq_true rfl)) dX8_waitsOf_21 ⟨Nat.le_of_ble_eq_true rfl, Nat.le_of_ble_eq_true rfl⟩) (fun r_4 H locs hw_4 hP hS => ?_)
        have k_5 : (5 : Int32).toInt = 5 := by decide
        have tr_4 : r_4.toInt = 32 + 7 * x_3.toInt + (5 : Int32).toInt := t_at hw_4 ⟨by omega, by omega⟩ ⟨by omega, by omega⟩
        refine va_iald hx hb hK hP (1) 0 (wm_at (by decide) rc_1) rfl (vp_in_iff.mpr ⟨by omega, by omega⟩) dX8_waitsOf_24 ?_
        refine lv_topi (fun x_5 ex_5 => ?_)
        refine lv_aload_n hx hb dX8_waitsOf_25 rfl (lv_at hl 2 rfl) ?_
        refine va_get (D := (dC, dI)) (ci := 8) (v := .ref (ad 5)) (C := RX8) (T := TX8) (N := 11) hx hb hts iwX8_waitsOf_X8 hown hK hP (0) (wm_at (by decide) rc_0) rfl 7 (by decide) (hts (.fieldLink RX8 26 "QuietStairsModel" "tried" "[I") fwX8_waitsOf_3) (fun _ h9 => h9) rfl dX8_waitsOf_26 ?_
        refine lv_iload_n hx hb dX8_waitsOf_29 rfl (lv_at hl 0 rfl) ?_
        refine va_iald hx hb hK hP (5) 0 (wm_at (by decide) rc_5) rfl (vp_in_iff.mpr ⟨by omega, by omega⟩) dX8_waitsOf_30 ?_
        refine lv_topi (fun x_6 ex_6 => ?_)
        refine lv_bipush (v := 18) hx hb dX8_waitsOf_31 (by decide) ?_
        have k_18 : (18 : Int32).toInt = 18 := by decide
        refine lv_icmp_ne (tgt := 40) hx hb dX8_waitsOf_33 (by decide) (fun c_7 => ?_) (fun c_7 => ?_)
        · have tc_7 : x_6.toInt ≠ (18 : Int32).toInt := fun q => absurd (Int32.toInt_inj.mp q) c_7
          refine lv_aload_n hx hb dX8_waitsOf_40 rfl (lv_at hl 2 rfl) ?_
          refine va_get (D := (dC, dI)) (ci := 8) (v := .ref (ad 5)) (C := RX8) (T := TX8) (N := 11) hx hb hts iwX8_waitsOf_X8 hown hK hP (0) (wm_at (by decide) rc_0) rfl 7 (by decide) (hts (.fieldLink RX8 26 "QuietStairsModel" "tried" "[I") fwX8_waitsOf_3) (fun _ h9 => h9) rfl dX8_waitsOf_41 ?_
          refine lv_iload_n hx hb dX8_waitsOf_44 rfl (lv_at hl 0 rfl) ?_
          refine va_iald hx hb hK hP (5) 0 (wm_at (by decide) rc_5) rfl (vp_in_iff.mpr ⟨by omega, by omega⟩) dX8_waitsOf_45 ?_
          refine lv_topi (fun x_8 ex_8 => ?_)
          obtain rfl : x_6 = x_8 := (ex_8.trans ex_6.symm).symm
          refine lv_bipush (v := 6) hx hb dX8_waitsOf_46 (by decide) ?_
          refine lv_idiv hx hb dX8_waitsOf_48 (by decide) ?_
          refine lv_topi (fun x_9 ex_9 => ?_)
          refine lv_imul hx hb dX8_waitsOf_49 ?_
          refine lv_topi (fun x_10 ex_10 => ?_)
          refine lv_iadd hx hb dX8_waitsOf_50 ?_
          refine lv_topi (fun x_11 ex_11 => ?_)
          refine lv_istore_n (lv' := [(2, .int x_11), (3, .int y1_3), (0, .ref (ad 0)), (1, .int x0)]) hx hb dX8_waitsOf_51 rfl hl (by decide) rfl (fun ls hl => ?_)
          obtain ⟨x_12, ex_12⟩ : ∃ y : Int32, y = y1_3 + 1 := ⟨_, rfl⟩
          refine lv_iinc (v := x_12) (lv' := [(3, .int x_12), (2, .int x_11), (0, .ref (ad 0)), (1, .int x0)]) hx hb dX8_waitsOf_52 hl (k := 1) rfl (by rw [ex_12]; rfl) (by decide) rfl (fun ls hl => ?_)
          have k_1 : (1 : Int32).toInt = 1 := by decide
          have tx_12 : x_12.toInt = y1_3.toInt + (1 : Int32).toInt := by rw [ex_12]; exact t_add ⟨by omega, by omega⟩
          refine lv_goto (tgt := 4) hx hb dX8_waitsOf_55 (by decide) ?_
          exact ih_1 x_12 x_11 _ _ (by omega) (by omega) (by omega) hP hD hS ls (lv_sub hl [0, 1, 2, 3] rfl)
        · have tc_7 : x_6.toInt = (18 : Int32).toInt := by rw [c_7]
          refine lv_iconst (v := 4) hx hb dX8_waitsOf_36 (by decide) ?_
          refine lv_goto (tgt := 49) hx hb dX8_waitsOf_37 (by decide) ?_
          refine lv_imul hx hb dX8_waitsOf_49 ?_
          refine lv_topi (fun x_8 ex_8 => ?_)
          have k_4 : (4 : Int32).toInt = 4 := by decide
          refine lv_iadd hx hb dX8_waitsOf_50 ?_
          refine lv_topi (fun x_9 ex_9 => ?_)
          refine lv_istore_n (lv' := [(2, .int x_9), (3, .int y1_3), (0, .ref (ad 0)), (1, .int x0)]) hx hb dX8_waitsOf_51 rfl hl (by decide) rfl (fun ls hl => ?_)
          obtain ⟨x_10, ex_10⟩ : ∃ y : Int32, y = y1_3 + 1 := ⟨_, rfl⟩
          refine lv_iinc (v := x_10) (lv' := [(3, .int x_10), (2, .int x_9), (0, .ref (ad 0)), (1, .int x0)]) hx hb dX8_waitsOf_52 hl (k := 1) rfl (by rw [ex_10]; rfl) (by decide) rfl (fun ls hl => ?_)
          have k_1 : (1 : Int32).toInt = 1 := by decide
          have tx_10 : x_10.toInt = y1_3.toInt + (1 : Int32).toInt := by rw [ex_10]; exact t_add ⟨by omega, by omega⟩
          refine lv_goto (tgt := 4) hx hb dX8_waitsOf_55 (by decide) ?_
          exact ih_1 x_10 x_9 _ _ (by omega) (by omega) (by omega) hP hD hS ls (lv_sub hl [0, 1, 2, 3] rfl)
  have k_0 : (0 : Int32).toInt = 0 := by decide
  exact hc_1 ((4 - (0 : Int32).toInt).toNat + 1) 0 0 _ _ (by omega) (by omega) (by omega) hP hD hS ls (lv_sub hl [0, 1, 2, 3] rfl)

set_option maxHeartbeats 4000000 in
set_option maxRecDepth 100000 in
theorem q_X8_next_f (l : Launch) (dC : Nat → ClassId) (dI : Nat → Nat → Nat) (cy : Nat → ClassId) (sz : Nat) (ad : Nat → Nat) (v : Nat → Nat → Int32) (hv : Ir v)  (x0 x1 x2 x4 : Int32) (h0 : 0 ≤ x0.toInt ∧ x0.toInt ≤ 5) (h2 : -1 ≤ x2.toInt ∧ x2.toInt < x4.toInt) (h4 : 0 ≤ x4.toInt ∧ x4.toInt ≤ 5) : Met l yX8_next wsX8_next ({ frames := 2, cells := 0, slots := 0, locals := 128 }) (va_Pc [.ref (ad 0), .int x0, .int x1, .int x2, .int 1, .int x4] (ex_Pre dC dI cy sz (wm ad cy v))) (va_Qi (fun (r : Int32) (u : Nat → Nat → Int32) => Ir u ∧ u = v ∧ x2.toInt < r.toInt ∧ r.toInt ≤ x4.toInt ∧ ∀ i : Nat, x2.toInt < (i : Int) → (i : Int) < r.toInt → ¬ ow (v 1) (158 + 25 * x0.toNatClampNeg) x1 i) (fun u t => ex_Pst dC dI (va_A (wm ad cy v) sz) (wm ad cy u) t) (va_A (wm ad cy v) sz)) 0 0 (va_A (wm ad cy v) sz) := by
  refine Met.ofW (cc := cX8_next) (maxL := 7) (ret := (some .int)) (by decide) rfl ?_
  intro p e s m args below meth c s₁ B hml hv
  obtain ⟨rfl, hsz, hE, hP, hK, hD0⟩ := hv
  have hx := B.exec
  have hb := B.bytes
  have hr := B.returns
  have hts := atoms_spec (ws := wsX8_next) B.pre
  have hown : s.vm.findClass RX8 = some m.cls := findClass_of_methodNamed B.named
  have hlocks := B.notSynchronized
  subst hsz
  have hD := hD0.self (sz := s.heap.size)
  generalize hAe : va_A (wm ad cy v) s.heap.size = A at hD ⊢
  have hA : ∀ q : Nat, s.heap.size ≤ q → A q := fun q h => by rw [← hAe]; exact Or.inr h
  have hS : va_S A s.heap s.heap [] := va_S.rf
  have hP : va_P (dC, dI) vwCl (wm ad cy v) s.heap := hP
  have hl := lv_entry ([.ref (ad 0), .int x0, .int x1, .int x2, .int 1, .int x4]) (n := 7) (Nat.le_of_ble_eq_true rfl)
  rw [lg_entry_eq]
  generalize (lg_sl ([.ref (ad 0), .int x0, .int x1, .int x2, .int 1, .int x4]) ++ List.replicate (7 - (lg_sl ([.ref (ad 0), .int x0, .int x1, .int x2, .int 1, .int x4])).length) Slot.unset).toArray = ls at hl ⊢
  have hl : lv_has ls 7 [(0, .ref (ad 0)), (1, .int x0), (2, .int x1), (3, .int x2), (4, .int 1), (5, .int x4)] := hl
  refine lv_iload_n hx hb dX8_next_0 rfl (lv_at hl 3 rfl) ?_
  refine lv_iload hx hb dX8_next_1 (lv_at hl 4 rfl) ?_
  refine lv_iadd hx hb dX8_next_3 ?_
  refine lv_topi (fun x_1 ex_1 => ?_)
  have k_1 : (1 : Int32).toInt = 1 := by decide
  have tx_1 : x_1.toInt = x2.toInt + (1 : Int32).toInt := by rw [ex_1]; exact t_add ⟨by omega, by omega⟩
  refine lv_istore (lv' := [(6, .int x_1), (0, .ref (ad 0)), (1, .int x0), (2, .int x1), (3, .int x2), (4, .int 1), (5, .int x4)]) hx hb dX8_next_4 hl (by decide) rfl (fun ls hl => ?_)
  have hc_2 : ∀ (n : Nat) (y2_6 : Int32) (H : Heap) (locs : List Loc), 0 ≤ y2_6.toInt → y2_6.toInt ≤ 5 → (∀ i : Nat, x2.toInt < (i : Int) → (i : Int) < y2_6.toInt → ¬ ow (v 1) (158 + 25 * x0.toNatClampNeg) x1 i) → (x2.toInt < y2_6.toInt) → (y2_6.toInt ≤ x4.toInt) → (6 - y2_6.toInt).toNat < n → va_P (dC, dI) vwCl (wm ad cy v) H → va_D A (wm ad cy v) → va_S A s.heap H locs → ∀ ls : Array Slot, lv_has ls 7 [(6, .int y2_6), (0, .ref (ad 0)), (1, .int x0), (2, .int x1), (3, .int x2), (4, .int 1), (5, .int x4)] → W p l e (headSpec wsX8_next ({ frames := 2, cells := 0, slots := 0, locals := 128 })).room s m [Value.ref (ad 0), Value.int x0, Value.int x1, Value.int x2, Value.int 1, Value.int x4].toArray below meth c H locs 0 0 (MQ below (va_Qi (fun (r : Int32) (u : Nat → Nat → Int32) => Ir u ∧ u = v ∧ x2.toInt < r.toInt ∧ r.toInt ≤ x4.toInt ∧ ∀ i : Nat, x2.toInt < (i : Int) → (i : Int) < r.toInt → ¬ ow (v 1) (158 + 25 * x0.toNatClampNeg) x1 i) (fun u t => ex_Pst dC dI A (wm ad cy u) t) A) [Value.ref (ad 0), Value.int x0, Value.int x1, Value.int x2, Value.int 1, Value.int x4].toArray s 0 0 A) (F0 m 6 ls []) := by
    intro n
    induction n with
    | zero =>
      intro y2_6 H locs ay2_6 by2_6 hi2_0 hi2_1 hi2_2 hm_2 hP hD hS ls hl
      exact absurd hm_2 (by omega)
    | succ n ih_2 =>
      intro y2_6 H locs ay2_6 by2_6 hi2_0 hi2_1 hi2_2 hm_2 hP hD hS ls hl
      refine lv_iload hx hb dX8_next_6 (lv_at hl 0 rfl) ?_
      refine lv_iconst (v := 0) hx hb dX8_next_8 (by decide) ?_
      refine lv_iload hx hb dX8_next_9 (lv_at hl 6 rfl) ?_
      refine lv_iconst (v := 1) hx hb dX8_next_11 (by decide) ?_
      refine lv_isub hx hb dX8_next_12 ?_
      refine lv_topi (fun x_3 ex_3 => ?_)
      have tx_3 : x_3.toInt = x4.toInt - (1 : Int32).toInt := by rw [ex_3]; exact t_sub ⟨by omega, by omega⟩
      refine yc_p hP hS (va_runS (As := [.int y2_6, .int 0, .int x_3]) (rest := []) ⟨hx, hb, hml, hown, hts⟩ (c_X8_in l y2_6 0 x_3) (cwS 3 hts gX8_next_X8_in rfl rfl rfl hd_S_X8_in_3 ⟨Nat.le_of_ble_eq_true rfl, Nat.le_of_ble_eq_true rfl⟩) ex_preP rfl rfl hl.1 rfl (lv_room (Nat.le_of_ble_eq_true rfl)) dX8_next_13 ⟨Nat.le_of_ble_eq_true rfl, Nat.le_of_ble_eq_true rfl⟩) (fun r_4 H locs hw_4 hP hS => ?_)
      rcases wi_ca hw_4 with ⟨rfl, hc_5⟩ | ⟨rfl, hc_5⟩
      · have k_0 : (0 : Int32).toInt = 0 := by decide
        have tc_5 := wi_tl hc_5
        refine lv_if_eq (tgt := 40) hx hb dX8_next_16 (by decide) (fun c9 => absurd c9 (by decide)) (fun _ => ?_)
        refine lv_aload_n hx hb dX8_next_19 rfl (lv_at hl 1 rfl) ?_
        refine lv_iload_n hx hb dX8_next_20 rfl (lv_at hl 2 rfl) ?_
        refine lv_iload_n hx hb dX8_next_21 rfl (lv_at hl 3 rfl) ?_
        refine lv_iload hx hb dX8_next_22 (lv_at hl 0 rfl) ?_
        refine yw_i (w1 := fun (u : Nat → Nat → Int32) => wm ad cy u) hD hS hA (va_runV (As := [.int x0, .int x1, .int y2_6]) (rest := []) ⟨hx, hb, hml, hown, hts⟩ (q_X8_isOwn l dC dI cy _ ad v hv x0 x1 y2_6 ⟨by omega, by omega⟩ ⟨by omega, by omega⟩) (cwV 3 hts gX8_next_X8_isOwn rfl rfl rfl hd_V_X8_isOwn_3 ⟨Nat.le_of_ble_eq_true rfl, Nat.le_of_ble_eq_true rfl⟩) (yw_preV hE hK hP hD (ci := 8) (q := (RX8, TX8, 11)) (q0 := 0) rfl (wm_at (by decide) rc_0)) rfl rfl hl.1 rfl (lv_room (Nat.le_of_ble_eq_true rfl)) dX8_next_24 ⟨Nat.le_of_ble_eq_true rfl, Nat.le_of_ble_eq_true rfl⟩) (fun r_6 v_6 H locs hw_6 hP hD hS => ?_)
        obtain ⟨-, hu_6, hw_6⟩ := hw_6
        replace hu_6 := hu_6.symm
        subst hu_6
        rcases hw_6 with ⟨rfl, ho_7⟩ | ⟨rfl, ho_7⟩
        · refine lv_if_ne (tgt := 40) hx hb dX8_next_27 (by decide) (fun _ => ?_) (fun c9 => absurd c9 (by decide))
          refine lv_iload hx hb dX8_next_40 (lv_at hl 0 rfl) ?_
          exact W.iret (v := y2_6) hx hb hr (fun t ht hW => ⟨⟨y2_6, v, rfl, ⟨hv, rfl, by omega, by omega, hi2_0⟩, by rw [ht]; exact hP, hD⟩, hS.F ht⟩) hS.2.2 dX8_next_42
        · refine lv_if_ne (tgt := 40) hx hb dX8_next_27 (by decide) (fun c9 => absurd c9 (by decide)) (fun _ => ?_)
          refine lv_iload hx hb dX8_next_30 (lv_at hl 0 rfl) ?_
          refine lv_iload hx hb dX8_next_32 (lv_at hl 5 rfl) ?_
          refine lv_iadd hx hb dX8_next_34 ?_
          refine lv_topi (fun x_8 ex_8 => ?_)
          have tx_8 : x_8.toInt = y2_6.toInt + (1 : Int32).toInt := by rw [ex_8]; exact t_add ⟨by omega, by omega⟩
          refine lv_istore (lv' := [(6, .int x_8), (0, .ref (ad 0)), (1, .int x0), (2, .int x1), (3, .int x2), (4, .int 1), (5, .int x4)]) hx hb dX8_next_35 hl (by decide) rfl (fun ls hl => ?_)
          refine lv_goto (tgt := 6) hx hb dX8_next_37 (by decide) ?_
          exact ih_2 x_8 _ _ (by omega) (by omega) (fun i h1 h2 => by by_cases hq : (i : Int) < y2_6.toInt; exact hi2_0 i h1 hq; have z1 := t_nn (x := y2_6) (by omega); rw [show i = y2_6.toNatClampNeg from by omega]; exact ho_7) (by omega) (by omega) (by omega) hP hD hS ls (lv_sub hl [0, 1, 2, 3, 4, 5, 6] rfl)
      · have k_0 : (0 : Int32).toInt = 0 := by decide
        have tc_5 : ¬ ((0 : Int32).toInt ≤ y2_6.toInt ∧ y2_6.toInt ≤ x_3.toInt) := fun q => hc_5 ⟨Int32.le_iff_toInt_le.mpr q.1, Int32.le_iff_toInt_le.mpr q.2⟩
        refine lv_if_eq (tgt := 40) hx hb dX8_next_16 (by decide) (fun _ => ?_) (fun c9 => absurd c9 (by decide))
        refine lv_iload hx hb dX8_next_40 (lv_at hl 0 rfl) ?_
        exact W.iret (v := y2_6) hx hb hr (fun t ht hW => ⟨⟨y2_6, v, rfl, ⟨hv, rfl, by omega, by omega, hi2_0⟩, by rw [ht]; exact hP, hD⟩, hS.F ht⟩) hS.2.2 dX8_next_42
  exact hc_2 ((6 - x_1.toInt).toNat + 1) x_1 _ _ (by omega) (by omega) (fun i h1 h2 => absurd h2 (by omega)) (by omega) (by omega) (by omega) hP hD hS ls (lv_sub hl [0, 1, 2, 3, 4, 5, 6] rfl)

set_option maxHeartbeats 4000000 in
set_option maxRecDepth 100000 in
theorem q_X8_next_b (l : Launch) (dC : Nat → ClassId) (dI : Nat → Nat → Nat) (cy : Nat → ClassId) (sz : Nat) (ad : Nat → Nat) (v : Nat → Nat → Int32) (hv : Ir v)  (x0 x1 x2 x4 : Int32) (h0 : 0 ≤ x0.toInt ∧ x0.toInt ≤ 5) (h2 : 0 ≤ x2.toInt ∧ x2.toInt < x4.toInt) (h4 : 0 ≤ x4.toInt ∧ x4.toInt ≤ 5) : Met l yX8_next wsX8_next ({ frames := 2, cells := 0, slots := 0, locals := 128 }) (va_Pc [.ref (ad 0), .int x0, .int x1, .int x2, .int (-1), .int x4] (ex_Pre dC dI cy sz (wm ad cy v))) (va_Qi (fun (r : Int32) (u : Nat → Nat → Int32) => Ir u ∧ u = v ∧ -1 ≤ r.toInt ∧ r.toInt < x2.toInt ∧ (0 ≤ r.toInt → ow (v 1) (158 + 25 * x0.toNatClampNeg) x1 r.toNatClampNeg)) (fun u t => ex_Pst dC dI (va_A (wm ad cy v) sz) (wm ad cy u) t) (va_A (wm ad cy v) sz)) 0 0 (va_A (wm ad cy v) sz) := by
  refine Met.ofW (cc := cX8_next) (maxL := 7) (ret := (some .int)) (by decide) rfl ?_
  intro p e s m args below meth c s₁ B hml hv
  obtain ⟨rfl, hsz, hE, hP, hK, hD0⟩ := hv
  have hx := B.exec
  have hb := B.bytes
  have hr := B.returns
  have hts := atoms_spec (ws := wsX8_next) B.pre
  have hown : s.vm.findClass RX8 = some m.cls := findClass_of_methodNamed B.named
  have hlocks := B.notSynchronized
  subst hsz
  have hD := hD0.self (sz := s.heap.size)
  generalize hAe : va_A (wm ad cy v) s.heap.size = A at hD ⊢
  have hA : ∀ q : Nat, s.heap.size ≤ q → A q := fun q h => by rw [← hAe]; exact Or.inr h
  have hS : va_S A s.heap s.heap [] := va_S.rf
  have hP : va_P (dC, dI) vwCl (wm ad cy v) s.heap := hP
  have hl := lv_entry ([.ref (ad 0), .int x0, .int x1, .int x2, .int (-1), .int x4]) (n := 7) (Nat.le_of_ble_eq_true rfl)
  rw [lg_entry_eq]
  generalize (lg_sl ([.ref (ad 0), .int x0, .int x1, .int x2, .int (-1), .int x4]) ++ List.replicate (7 - (lg_sl ([.ref (ad 0), .int x0, .int x1, .int x2, .int (-1), .int x4])).length) Slot.unset).toArray = ls at hl ⊢
  have hl : lv_has ls 7 [(0, .ref (ad 0)), (1, .int x0), (2, .int x1), (3, .int x2), (4, .int (-1)), (5, .int x4)] := hl
  refine lv_iload_n hx hb dX8_next_0 rfl (lv_at hl 3 rfl) ?_
  refine lv_iload hx hb dX8_next_1 (lv_at hl 4 rfl) ?_
  refine lv_iadd hx hb dX8_next_3 ?_
  refine lv_topi (fun x_1 ex_1 => ?_)
  have k_m1 : ((-1) : Int32).toInt = -1 := by decide
  have tx_1 : x_1.toInt = x2.toInt + ((-1) : Int32).toInt := by rw [ex_1]; exact t_add ⟨by omega, by omega⟩
  refine lv_istore (lv' := [(6, .int x_1), (0, .ref (ad 0)), (1, .int x0), (2, .int x1), (3, .int x2), (4, .int (-1)), (5, .int x4)]) hx hb dX8_next_4 hl (by decide) rfl (fun ls hl => ?_)
  have hc_2 : ∀ (n : Nat) (y2_6 : Int32) (H : Heap) (locs : List Loc), -1 ≤ y2_6.toInt → y2_6.toInt ≤ 4 → (y2_6.toInt < x2.toInt) → (y2_6.toInt + 1).toNat < n → va_P (dC, dI) vwCl (wm ad cy v) H → va_D A (wm ad cy v) → va_S A s.heap H locs → ∀ ls : Array Slot, lv_has ls 7 [(6, .int y2_6), (0, .ref (ad 0)), (1, .int x0), (2, .int x1), (3, .int x2), (4, .int (-1)), (5, .int x4)] → W p l e (headSpec wsX8_next ({ frames := 2, cells := 0, slots := 0, locals := 128 })).room s m [Value.ref (ad 0), Value.int x0, Value.int x1, Value.int x2, Value.int (-1), Value.int x4].toArray below meth c H locs 0 0 (MQ below (va_Qi (fun (r : Int32) (u : Nat → Nat → Int32) => Ir u ∧ u = v ∧ -1 ≤ r.toInt ∧ r.toInt < x2.toInt ∧ (0 ≤ r.toInt → ow (v 1) (158 + 25 * x0.toNatClampNeg) x1 r.toNatClampNeg)) (fun u t => ex_Pst dC dI A (wm ad cy u) t) A) [Value.ref (ad 0), Value.int x0, Value.int x1, Value.int x2, Value.int (-1), Value.int x4].toArray s 0 0 A) (F0 m 6 ls []) := by
    intro n
    induction n with
    | zero =>
      intro y2_6 H locs ay2_6 by2_6 hi2_0 hm_2 hP hD hS ls hl
      exact absurd hm_2 (by omega)
    | succ n ih_2 =>
      intro y2_6 H locs ay2_6 by2_6 hi2_0 hm_2 hP hD hS ls hl
      refine lv_iload hx hb dX8_next_6 (lv_at hl 0 rfl) ?_
      refine lv_iconst (v := 0) hx hb dX8_next_8 (by decide) ?_
      refine lv_iload hx hb dX8_next_9 (lv_at hl 6 rfl) ?_
      refine lv_iconst (v := 1) hx hb dX8_next_11 (by decide) ?_
      refine lv_isub hx hb dX8_next_12 ?_
      refine lv_topi (fun x_3 ex_3 => ?_)
      have k_1 : (1 : Int32).toInt = 1 := by decide
      have tx_3 : x_3.toInt = x4.toInt - (1 : Int32).toInt := by rw [ex_3]; exact t_sub ⟨by omega, by omega⟩
      refine yc_p hP hS (va_runS (As := [.int y2_6, .int 0, .int x_3]) (rest := []) ⟨hx, hb, hml, hown, hts⟩ (c_X8_in l y2_6 0 x_3) (cwS 3 hts gX8_next_X8_in rfl rfl rfl hd_S_X8_in_3 ⟨Nat.le_of_ble_eq_true rfl, Nat.le_of_ble_eq_true rfl⟩) ex_preP rfl rfl hl.1 rfl (lv_room (Nat.le_of_ble_eq_true rfl)) dX8_next_13 ⟨Nat.le_of_ble_eq_true rfl, Nat.le_of_ble_eq_true rfl⟩) (fun r_4 H locs hw_4 hP hS => ?_)
      rcases wi_ca hw_4 with ⟨rfl, hc_5⟩ | ⟨rfl, hc_5⟩
      · have k_0 : (0 : Int32).toInt = 0 := by decide
        have tc_5 := wi_tl hc_5
        refine lv_if_eq (tgt := 40) hx hb dX8_next_16 (by decide) (fun c9 => absurd c9 (by decide)) (fun _ => ?_)
        refine lv_aload_n hx hb dX8_next_19 rfl (lv_at hl 1 rfl) ?_
        refine lv_iload_n hx hb dX8_next_20 rfl (lv_at hl 2 rfl) ?_
        refine lv_iload_n hx hb dX8_next_21 rfl (lv_at hl 3 rfl) ?_
        refine lv_iload hx hb dX8_next_22 (lv_at hl 0 rfl) ?_
        refine yw_i (w1 := fun (u : Nat → Nat → Int32) => wm ad cy u) hD hS hA (va_runV (As := [.int x0, .int x1, .int y2_6]) (rest := []) ⟨hx, hb, hml, hown, hts⟩ (q_X8_isOwn l dC dI cy _ ad v hv x0 x1 y2_6 ⟨by omega, by omega⟩ ⟨by omega, by omega⟩) (cwV 3 hts gX8_next_X8_isOwn rfl rfl rfl hd_V_X8_isOwn_3 ⟨Nat.le_of_ble_eq_true rfl, Nat.le_of_ble_eq_true rfl⟩) (yw_preV hE hK hP hD (ci := 8) (q := (RX8, TX8, 11)) (q0 := 0) rfl (wm_at (by decide) rc_0)) rfl rfl hl.1 rfl (lv_room (Nat.le_of_ble_eq_true rfl)) dX8_next_24 ⟨Nat.le_of_ble_eq_true rfl, Nat.le_of_ble_eq_true rfl⟩) (fun r_6 v_6 H locs hw_6 hP hD hS => ?_)
        obtain ⟨-, hu_6, hw_6⟩ := hw_6
        replace hu_6 := hu_6.symm
        subst hu_6
        rcases hw_6 with ⟨rfl, ho_7⟩ | ⟨rfl, ho_7⟩
        · refine lv_if_ne (tgt := 40) hx hb dX8_next_27 (by decide) (fun _ => ?_) (fun c9 => absurd c9 (by decide))
          refine lv_iload hx hb dX8_next_40 (lv_at hl 0 rfl) ?_
          exact W.iret (v := y2_6) hx hb hr (fun t ht hW => ⟨⟨y2_6, v, rfl, ⟨hv, rfl, by omega, by omega, fun _ => ho_7⟩, by rw [ht]; exact hP, hD⟩, hS.F ht⟩) hS.2.2 dX8_next_42
        · refine lv_if_ne (tgt := 40) hx hb dX8_next_27 (by decide) (fun c9 => absurd c9 (by decide)) (fun _ => ?_)
          refine lv_iload hx hb dX8_next_30 (lv_at hl 0 rfl) ?_
          refine lv_iload hx hb dX8_next_32 (lv_at hl 5 rfl) ?_
          refine lv_iadd hx hb dX8_next_34 ?_
          refine lv_topi (fun x_8 ex_8 => ?_)
          have tx_8 : x_8.toInt = y2_6.toInt + ((-1) : Int32).toInt := by rw [ex_8]; exact t_add ⟨by omega, by omega⟩
          refine lv_istore (lv' := [(6, .int x_8), (0, .ref (ad 0)), (1, .int x0), (2, .int x1), (3, .int x2), (4, .int (-1)), (5, .int x4)]) hx hb dX8_next_35 hl (by decide) rfl (fun ls hl => ?_)
          refine lv_goto (tgt := 6) hx hb dX8_next_37 (by decide) ?_
          exact ih_2 x_8 _ _ (by omega) (by omega) (by omega) (by omega) hP hD hS ls (lv_sub hl [0, 1, 2, 3, 4, 5, 6] rfl)
      · have k_0 : (0 : Int32).toInt = 0 := by decide
        have tc_5 : ¬ ((0 : Int32).toInt ≤ y2_6.toInt ∧ y2_6.toInt ≤ x_3.toInt) := fun q => hc_5 ⟨Int32.le_iff_toInt_le.mpr q.1, Int32.le_iff_toInt_le.mpr q.2⟩
        refine lv_if_eq (tgt := 40) hx hb dX8_next_16 (by decide) (fun _ => ?_) (fun c9 => absurd c9 (by decide))
        refine lv_iload hx hb dX8_next_40 (lv_at hl 0 rfl) ?_
        exact W.iret (v := y2_6) hx hb hr (fun t ht hW => ⟨⟨y2_6, v, rfl, ⟨hv, rfl, by omega, by omega, fun q => absurd q (by omega)⟩, by rw [ht]; exact hP, hD⟩, hS.F ht⟩) hS.2.2 dX8_next_42
  exact hc_2 ((x_1.toInt + 1).toNat + 1) x_1 _ _ (by omega) (by omega) (by omega) (by omega) hP hD hS ls (lv_sub hl [0, 1, 2, 3, 4, 5, 6] rfl)

set_option maxHeartbeats 4000000 in
set_option maxRecDepth 100000 in
theorem q_X8_hourFrom (l : Launch) (dC : Nat → ClassId) (dI : Nat → Nat → Nat) (cy : Nat → ClassId) (sz : Nat) (ad : Nat → Nat) (v : Nat → Nat → Int32) (hv : Ir v) (x0 x1 x2 x3 x4 : Int32) (h0 : 0 ≤ x0.toInt ∧ x0.toInt ≤ 5) (h2 : 0 ≤ x2.toInt ∧ x2.toInt ≤ 4) (h3 : 0 ≤ x3.toInt ∧ x3.toInt ≤ 24) (h4 : 0 ≤ x4.toInt ∧ x4.toInt ≤ 5) : Met l yX8_hourFrom wsX8_hourFrom ({ frames := 2, cells := 0, slots := 0, locals := 128 }) (va_Pc [.ref (ad 0), .int x0, .int x1, .int x2, .int x3, .int x4] (ex_Pre dC dI cy sz (wm ad cy v))) (va_Qi (fun (r : Int32) (u : Nat → Nat → Int32) => Ir u ∧ Fq v u ∧ (∀ i : Nat, i ≠ x2.toNatClampNeg → u 7 i = v 7 i) ∧ (r.toInt = -1 ∨ (x3.toInt ≤ r.toInt ∧ r.toInt ≤ 23 ∧ (u 7 x2.toNatClampNeg).toInt = r.toInt))) (fun u t => ex_Pst dC dI (va_A (wm ad cy v) sz) (wm ad cy u) t) (va_A (wm ad cy v) sz)) 0 0 (va_A (wm ad cy v) sz) := by
  refine Met.ofW (cc := cX8_hourFrom) (maxL := 6) (ret := (some .int)) (by decide) rfl ?_
  intro p e s m args below meth c s₁ B hml hv
  obtain ⟨rfl, hsz, hE, hP, hK, hD0⟩ := hv
  have hx := B.exec
  have hb := B.bytes
  have hr := B.returns
  have hts := atoms_spec (ws := wsX8_hourFrom) B.pre
  have hown : s.vm.findClass RX8 = some m.cls := findClass_of_methodNamed B.named
  have hlocks := B.notSynchronized
  subst hsz
  have hD := hD0.self (sz := s.heap.size)
  generalize hAe : va_A (wm ad cy v) s.heap.size = A at hD ⊢
  have hA : ∀ q : Nat, s.heap.size ≤ q → A q := fun q h => by rw [← hAe]; exact Or.inr h
  have hS : va_S A s.heap s.heap [] := va_S.rf
  have hP : va_P (dC, dI) vwCl (wm ad cy v) s.heap := hP
  have hl := lv_entry ([.ref (ad 0), .int x0, .int x1, .int x2, .int x3, .int x4]) (n := 6) (Nat.le_of_ble_eq_true rfl)
  rw [lg_entry_eq]
  generalize (lg_sl ([.ref (ad 0), .int x0, .int x1, .int x2, .int x3, .int x4]) ++ List.replicate (6 - (lg_sl ([.ref (ad 0), .int x0, .int x1, .int x2, .int x3, .int x4])).length) Slot.unset).toArray = ls at hl ⊢
  have hl : lv_has ls 6 [(0, .ref (ad 0)), (1, .int x0), (2, .int x1), (3, .int x2), (4, .int x3), (5, .int x4)] := hl
  have hfr : Fq v v := Fq.rf
  refine lv_aload_n hx hb dX8_hourFrom_0 rfl (lv_at hl 0 rfl) ?_
  refine va_get (D := (dC, dI)) (ci := 8) (v := .ref (ad 7)) (C := RX8) (T := TX8) (N := 11) hx hb hts iwX8_hourFrom_X8 hown hK hP (0) (wm_at (by decide) rc_0) rfl 10 (by decide) (hts (.fieldLink RX8 32 "QuietStairsModel" "hours" "[I") fwX8_hourFrom_1) (fun _ h9 => h9) rfl dX8_hourFrom_1 ?_
  refine lv_iload_n hx hb dX8_hourFrom_4 rfl (lv_at hl 3 rfl) ?_
  refine lv_iload hx hb dX8_hourFrom_5 (lv_at hl 4 rfl) ?_
  refine va_iast hx hb hK hP hD hS (7) 0 (wm_at (by decide) rc_7) rfl (vp_in_iff.mpr ⟨by omega, by omega⟩) dX8_hourFrom_7 (fun H locs hP hD hS => ?_)
  obtain ⟨v_1, ev_1⟩ : ∃ u : Nat → Nat → Int32, u = upr v 7 (upd (v 7) (x2.toNatClampNeg) x3) := ⟨_, rfl⟩
  have hP : va_P (dC, dI) vwCl (wm ad cy v_1) H := by rw [ev_1, ← wm_put (e := _) rc_7]; exact hP
  have hD : va_D A (wm ad cy v_1) := by rw [ev_1, ← wm_put (e := _) rc_7]; exact hD
  have hv : Ir v_1 := by rw [ev_1]; exact hv.put (k := 7) (fun h q => by rw [(show br 7 _ = none from rfl)] at q; cases q)
  have hfr : Fq v v_1 := by rw [ev_1]; exact hfr.row (by decide)
  have hc_2 : ∀ (n : Nat) (u2 : Nat → Nat → Int32) (H : Heap) (locs : List Loc), (x3.toInt ≤ (u2 7 x2.toNatClampNeg).toInt) → ((u2 7 x2.toNatClampNeg).toInt ≤ 24) → (∀ i : Nat, i ≠ x2.toNatClampNeg → u2 7 i = v 7 i) → (25 - (u2 7 x2.toNatClampNeg).toInt).toNat < n → Ir u2 → Fq v u2 → va_P (dC, dI) vwCl (wm ad cy u2) H → va_D A (wm ad cy u2) → va_S A s.heap H locs → ∀ ls : Array Slot, lv_has ls 6 [(0, .ref (ad 0)), (1, .int x0), (2, .int x1), (3, .int x2), (4, .int x3), (5, .int x4)] → W p l e (headSpec wsX8_hourFrom ({ frames := 2, cells := 0, slots := 0, locals := 128 })).room s m [Value.ref (ad 0), Value.int x0, Value.int x1, Value.int x2, Value.int x3, Value.int x4].toArray below meth c H locs 0 0 (MQ below (va_Qi (fun (r : Int32) (u : Nat → Nat → Int32) => Ir u ∧ Fq v u ∧ (∀ i : Nat, i ≠ x2.toNatClampNeg → u 7 i = v 7 i) ∧ (r.toInt = -1 ∨ (x3.toInt ≤ r.toInt ∧ r.toInt ≤ 23 ∧ (u 7 x2.toNatClampNeg).toInt = r.toInt))) (fun u t => ex_Pst dC dI A (wm ad cy u) t) A) [Value.ref (ad 0), Value.int x0, Value.int x1, Value.int x2, Value.int x3, Value.int x4].toArray s 0 0 A) (F0 m 8 ls []) := by
    intro n
    induction n with
    | zero =>
      intro u2 H locs hi2_0 hi2_1 hi2_2 hm_2 hv hfr hP hD hS ls hl
      exact absurd hm_2 (by omega)
    | succ n ih_2 =>
      intro u2 H locs hi2_0 hi2_1 hi2_2 hm_2 hv hfr hP hD hS ls hl
      refine lv_aload_n hx hb dX8_hourFrom_8 rfl (lv_at hl 0 rfl) ?_
      refine va_get (D := (dC, dI)) (ci := 8) (v := .ref (ad 7)) (C := RX8) (T := TX8) (N := 11) hx hb hts iwX8_hourFrom_X8 hown hK hP (0) (wm_at (by decide) rc_0) rfl 10 (by decide) (hts (.fieldLink RX8 32 "QuietStairsModel" "hours" "[I") fwX8_hourFrom_1) (fun _ h9 => h9) rfl dX8_hourFrom_9 ?_
      refine lv_iload_n hx hb dX8_hourFrom_12 rfl (lv_at hl 3 rfl) ?_
      refine va_iald hx hb hK hP (7) 0 (wm_at (by decide) rc_7) rfl (vp_in_iff.mpr ⟨by omega, by omega⟩) dX8_hourFrom_13 ?_
      refine lv_topi (fun x_3 ex_3 => ?_)
      have bzx_3 : x3.toInt ≤ x_3.toInt ∧ x_3.toInt ≤ 24 := by rw [ex_3]; exact ⟨hi2_0, hi2_1⟩
      refine lv_aload_n hx hb dX8_hourFrom_14 rfl (lv_at hl 0 rfl) ?_
      refine va_get (D := (dC, dI)) (ci := 8) (v := .ref (ad 1)) (C := RX8) (T := TX8) (N := 11) hx hb hts iwX8_hourFrom_X8 hown hK hP (0) (wm_at (by decide) rc_0) rfl 0 (by decide) (hts (.fieldLink RX8 7 "QuietStairsModel" "s" "[I") fwX8_hourFrom_2) (fun _ h9 => h9) rfl dX8_hourFrom_15 ?_
      refine lv_iload_n hx hb dX8_hourFrom_18 rfl (lv_at hl 1 rfl) ?_
      refine lv_iload_n hx hb dX8_hourFrom_19 rfl (lv_at hl 3 rfl) ?_
      refine yc_p hP hS (va_runS (As := [.int x0, .int x2]) (rest := [.ref (ad 1), .int x_3]) ⟨hx, hb, hml, hown, hts⟩ (c_X8_termAt l x0 x2) (cwS 2 hts gX8_hourFrom_X8_termAt rfl rfl rfl hd_S_X8_termAt_2 ⟨Nat.le_of_ble_eq_true rfl, Nat.le_of_ble_eq_true rfl⟩) ex_preP rfl rfl hl.1 rfl (lv_room (Nat.le_of_ble_eq_true rfl)) dX8_hourFrom_20 ⟨Nat.le_of_ble_eq_true rfl, Nat.le_of_ble_eq_true rfl⟩) (fun r_4 H locs hw_4 hP hS => ?_)
      have tr_4 : r_4.toInt = 158 + 25 * x0.toInt + 5 * x2.toInt := t_tm hw_4 ⟨by omega, by omega⟩ ⟨by omega, by omega⟩
      refine lv_iconst (v := 4) hx hb dX8_hourFrom_23 (by decide) ?_
      refine lv_iadd hx hb dX8_hourFrom_24 ?_
      refine lv_topi (fun x_5 ex_5 => ?_)
      have k_4 : (4 : Int32).toInt = 4 := by decide
      have tx_5 : x_5.toInt = r_4.toInt + (4 : Int32).toInt := by rw [ex_5]; exact t_add ⟨by omega, by omega⟩
      refine va_iald hx hb hK hP (1) 0 (wm_at (by decide) rc_1) rfl (vp_in_iff.mpr ⟨by omega, by omega⟩) dX8_hourFrom_25 ?_
      refine lv_topi (fun x_6 ex_6 => ?_)
      have bzx_6 : 0 ≤ x_6.toInt ∧ x_6.toInt ≤ 23 := by rw [ex_6]; exact hv 1 _ 23 (bx_t3 (i := 5 * x0.toInt + x2.toInt) (s := 4) (by omega) ⟨by omega, by omega⟩ (by omega))
      refine lv_icmp_gt (tgt := 61) hx hb dX8_hourFrom_26 (by decide) (fun c_7 => ?_) (fun c_7 => ?_)
      · have tc_7 : x_3.toInt > x_6.toInt := Int32.lt_iff_toInt_lt.mp c_7
        refine lv_iconst (v := (-1)) hx hb dX8_hourFrom_61 (by decide) ?_
        exact W.iret (v := (-1)) hx hb hr (fun t ht hW => ⟨⟨(-1), u2, rfl, ⟨hv, hfr, hi2_2, Or.inl (by decide)⟩, by rw [ht]; exact hP, hD⟩, hS.F ht⟩) hS.2.2 dX8_hourFrom_62
      · have tc_7 : x_3.toInt ≤ x_6.toInt := Int32.le_iff_toInt_le.mp (Int32.not_lt.mp c_7)
        refine lv_aload_n hx hb dX8_hourFrom_29 rfl (lv_at hl 0 rfl) ?_
        refine lv_iload_n hx hb dX8_hourFrom_30 rfl (lv_at hl 1 rfl) ?_
        refine lv_iload_n hx hb dX8_hourFrom_31 rfl (lv_at hl 2 rfl) ?_
        refine lv_iload_n hx hb dX8_hourFrom_32 rfl (lv_at hl 3 rfl) ?_
        refine lv_iload hx hb dX8_hourFrom_33 (lv_at hl 5 rfl) ?_
        refine yw_i (w1 := fun (u : Nat → Nat → Int32) => wm ad cy u) hD hS hA (va_runV (As := [.int x0, .int x1, .int x2, .int x4]) (rest := []) ⟨hx, hb, hml, hown, hts⟩ (q_X8_mayBe l dC dI cy _ ad u2 hv x0 x1 x2 x4 ⟨by omega, by omega⟩ ⟨by omega, by omega⟩ ⟨by omega, by omega⟩) (cwV 4 hts gX8_hourFrom_X8_mayBe rfl rfl rfl hd_V_X8_mayBe_4 ⟨Nat.le_of_ble_eq_true rfl, Nat.le_of_ble_eq_true rfl⟩) (yw_preV hE hK hP hD (ci := 8) (q := (RX8, TX8, 11)) (q0 := 0) rfl (wm_at (by decide) rc_0)) rfl rfl hl.1 rfl (lv_room (Nat.le_of_ble_eq_true rfl)) dX8_hourFrom_35 ⟨Nat.le_of_ble_eq_true rfl, Nat.le_of_ble_eq_true rfl⟩) (fun r_8 v_8 H locs hw_8 hP hD hS => ?_)
        obtain ⟨-, hu_8, hw_8⟩ := hw_8
        replace hu_8 := hu_8.symm
        subst hu_8
        rcases hw_8 with rfl | rfl
        · refine lv_if_eq (tgt := 48) hx hb dX8_hourFrom_38 (by decide) (fun _ => ?_) (fun c9 => absurd c9 (by decide))
          refine lv_aload_n hx hb dX8_hourFrom_48 rfl (lv_at hl 0 rfl) ?_
          refine va_get (D := (dC, dI)) (ci := 8) (v := .ref (ad 7)) (C := RX8) (T := TX8) (N := 11) hx hb hts iwX8_hourFrom_X8 hown hK hP (0) (wm_at (by decide) rc_0) rfl 10 (by decide) (hts (.fieldLink RX8 32 "QuietStairsModel" "hours" "[I") fwX8_hourFrom_1) (fun _ h9 => h9) rfl dX8_hourFrom_49 ?_
          refine lv_iload_n hx hb dX8_hourFrom_52 rfl (lv_at hl 3 rfl) ?_
          refine lv_dup2_11 hx hb dX8_hourFrom_53 rfl rfl ?_
          refine va_iald hx hb hK hP (7) 0 (wm_at (by decide) rc_7) rfl (vp_in_iff.mpr ⟨by omega, by omega⟩) dX8_hourFrom_54 ?_
          refine lv_topi (fun x_9 ex_9 => ?_)
          obtain rfl : x_3 = x_9 := (ex_9.trans ex_3.symm).symm
          refine lv_iconst (v := 1) hx hb dX8_hourFrom_55 (by decide) ?_
          refine lv_iadd hx hb dX8_hourFrom_56 ?_
          refine lv_topi (fun x_10 ex_10 => ?_)
          have k_1 : (1 : Int32).toInt = 1 := by decide
          have tx_10 : x_10.toInt = x_3.toInt + (1 : Int32).toInt := by rw [ex_10]; exact t_add ⟨by omega, by omega⟩
          refine va_iast hx hb hK hP hD hS (7) 0 (wm_at (by decide) rc_7) rfl (vp_in_iff.mpr ⟨by omega, by omega⟩) dX8_hourFrom_57 (fun H locs hP hD hS => ?_)
          obtain ⟨v_11, ev_11⟩ : ∃ u : Nat → Nat → Int32, u = upr u2 7 (upd (u2 7) (x2.toNatClampNeg) x_10) := ⟨_, rfl⟩
          have hP : va_P (dC, dI) vwCl (wm ad cy v_11) H := by rw [ev_11, ← wm_put (e := _) rc_7]; exact hP
          have hD : va_D A (wm ad cy v_11) := by rw [ev_11, ← wm_put (e := _) rc_7]; exact hD
          have hv : Ir v_11 := by rw [ev_11]; exact hv.put (k := 7) (fun h q => by rw [(show br 7 _ = none from rfl)] at q; cases q)
          have hfr : Fq v v_11 := by rw [ev_11]; exact hfr.row (by decide)
          refine lv_goto (tgt := 8) hx hb dX8_hourFrom_58 (by decide) ?_
          exact ih_2 v_11 _ _  (by rw [ev_11, upr_s, pk_us]; omega) (by rw [ev_11, upr_s, pk_us]; omega) (fun i hi => by rw [ev_11, upr_s, pk_un hi]; exact hi2_2 i hi) (by rw [ev_11, upr_s, pk_us]; have z1 := ex_3; rw [← ex_3] at hm_2; omega) hv hfr hP hD hS ls (lv_sub hl [0, 1, 2, 3, 4, 5] rfl)
        · refine lv_if_eq (tgt := 48) hx hb dX8_hourFrom_38 (by decide) (fun c9 => absurd c9 (by decide)) (fun _ => ?_)
          refine lv_aload_n hx hb dX8_hourFrom_41 rfl (lv_at hl 0 rfl) ?_
          refine va_get (D := (dC, dI)) (ci := 8) (v := .ref (ad 7)) (C := RX8) (T := TX8) (N := 11) hx hb hts iwX8_hourFrom_X8 hown hK hP (0) (wm_at (by decide) rc_0) rfl 10 (by decide) (hts (.fieldLink RX8 32 "QuietStairsModel" "hours" "[I") fwX8_hourFrom_1) (fun _ h9 => h9) rfl dX8_hourFrom_42 ?_
          refine lv_iload_n hx hb dX8_hourFrom_45 rfl (lv_at hl 3 rfl) ?_
          refine va_iald hx hb hK hP (7) 0 (wm_at (by decide) rc_7) rfl (vp_in_iff.mpr ⟨by omega, by omega⟩) dX8_hourFrom_46 ?_
          refine lv_topi (fun x_9 ex_9 => ?_)
          obtain rfl : x_3 = x_9 := (ex_9.trans ex_3.symm).symm
          exact W.iret (v := x_3) hx hb hr (fun t ht hW => ⟨⟨x_3, u2, rfl, ⟨hv, hfr, hi2_2, Or.inr ⟨by omega, by omega, by rw [ex_3]⟩⟩, by rw [ht]; exact hP, hD⟩, hS.F ht⟩) hS.2.2 dX8_hourFrom_47
  exact hc_2 ((25 - (v_1 7 x2.toNatClampNeg).toInt).toNat + 1) v_1 _ _  (by rw [ev_1, upr_s, pk_us]; omega) (by rw [ev_1, upr_s, pk_us]; omega) (fun i hi => by rw [ev_1, upr_s, pk_un hi]) (by omega) hv hfr hP hD hS ls (lv_sub hl [0, 1, 2, 3, 4, 5] rfl)
set_option maxRecDepth 20000 in
theorem db_X8_findHeads_0 : (decode cX8_findHeads 0 = .ok (.iconst 0, 1)) ∧ (decode cX8_findHeads 1 = .ok (.istore_n 1, 1)) ∧ (decode cX8_findHeads 2 = .ok (.iload_n 1, 1)) ∧ (decode cX8_findHeads 3 = .ok (.aload_n 0, 1)) ∧ (decode cX8_findHeads 4 = .ok (.getfield 7, 3)) ∧ (decode cX8_findHeads 7 = .ok (.iconst 2, 1)) ∧ (decode cX8_findHeads 8 = .ok (.iaload, 1)) ∧ (decode cX8_findHeads 9 = .ok (.if_icmp .ge 16, 3)) := by decide +kernel
theorem dX8_findHeads_0 : decode cX8_findHeads 0 = .ok (.iconst 0, 1) := db_X8_findHeads_0.1
theorem dX8_findHeads_1 : decode cX8_findHeads 1 = .ok (.istore_n 1, 1) := db_X8_findHeads_0.2.1
theorem dX8_findHeads_2 : decode cX8_findHeads 2 = .ok (.iload_n 1, 1) := db_X8_findHeads_0.2.2.1
theorem dX8_findHeads_3 : decode cX8_findHeads 3 = .ok (.aload_n 0, 1) := db_X8_findHeads_0.2.2.2.1
theorem dX8_findHeads_4 : decode cX8_findHeads 4 = .ok (.getfield 7, 3) := db_X8_findHeads_0.2.2.2.2.1
theorem dX8_findHeads_7 : decode cX8_findHeads 7 = .ok (.iconst 2, 1) := db_X8_findHeads_0.2.2.2.2.2.1
theorem dX8_findHeads_8 : decode cX8_findHeads 8 = .ok (.iaload, 1) := db_X8_findHeads_0.2.2.2.2.2.2.1
theorem dX8_findHeads_9 : decode cX8_findHeads 9 = .ok (.if_icmp .ge 16, 3) := db_X8_findHeads_0.2.2.2.2.2.2.2
set_option maxRecDepth 20000 in
theorem db_X8_findHeads_25 : (decode cX8_findHeads 25 = .ok (.iconst 1, 1)) ∧ (decode cX8_findHeads 26 = .ok (.istore_n 1, 1)) ∧ (decode cX8_findHeads 27 = .ok (.iload_n 1, 1)) ∧ (decode cX8_findHeads 28 = .ok (.ifCond .eq 124, 3)) ∧ (decode cX8_findHeads 152 = .ok (.return_, 1)) ∧ (decode cX8_findHeads 31 = .ok (.iconst 0, 1)) ∧ (decode cX8_findHeads 32 = .ok (.istore_n 1, 1)) ∧ (decode cX8_findHeads 33 = .ok (.iconst 0, 1)) := by decide +kernel
theorem dX8_findHeads_25 : decode cX8_findHeads 25 = .ok (.iconst 1, 1) := db_X8_findHeads_25.1
theorem dX8_findHeads_26 : decode cX8_findHeads 26 = .ok (.istore_n 1, 1) := db_X8_findHeads_25.2.1
theorem dX8_findHeads_27 : decode cX8_findHeads 27 = .ok (.iload_n 1, 1) := db_X8_findHeads_25.2.2.1
theorem dX8_findHeads_28 : decode cX8_findHeads 28 = .ok (.ifCond .eq 124, 3) := db_X8_findHeads_25.2.2.2.1
theorem dX8_findHeads_152 : decode cX8_findHeads 152 = .ok (.return_, 1) := db_X8_findHeads_25.2.2.2.2.1
theorem dX8_findHeads_31 : decode cX8_findHeads 31 = .ok (.iconst 0, 1) := db_X8_findHeads_25.2.2.2.2.2.1
theorem dX8_findHeads_32 : decode cX8_findHeads 32 = .ok (.istore_n 1, 1) := db_X8_findHeads_25.2.2.2.2.2.2.1
theorem dX8_findHeads_33 : decode cX8_findHeads 33 = .ok (.iconst 0, 1) := db_X8_findHeads_25.2.2.2.2.2.2.2
set_option maxRecDepth 20000 in
theorem db_X8_findHeads_34 : (decode cX8_findHeads 34 = .ok (.istore_n 2, 1)) ∧ (decode cX8_findHeads 35 = .ok (.iload_n 2, 1)) ∧ (decode cX8_findHeads 36 = .ok (.aload_n 0, 1)) ∧ (decode cX8_findHeads 37 = .ok (.getfield 7, 3)) ∧ (decode cX8_findHeads 40 = .ok (.iconst 3, 1)) ∧ (decode cX8_findHeads 41 = .ok (.iaload, 1)) ∧ (decode cX8_findHeads 42 = .ok (.if_icmp .ge 107, 3)) ∧ (decode cX8_findHeads 149 = .ok (.goto (-122), 3)) := by decide +kernel
theorem dX8_findHeads_34 : decode cX8_findHeads 34 = .ok (.istore_n 2, 1) := db_X8_findHeads_34.1
theorem dX8_findHeads_35 : decode cX8_findHeads 35 = .ok (.iload_n 2, 1) := db_X8_findHeads_34.2.1
theorem dX8_findHeads_36 : decode cX8_findHeads 36 = .ok (.aload_n 0, 1) := db_X8_findHeads_34.2.2.1
theorem dX8_findHeads_37 : decode cX8_findHeads 37 = .ok (.getfield 7, 3) := db_X8_findHeads_34.2.2.2.1
theorem dX8_findHeads_40 : decode cX8_findHeads 40 = .ok (.iconst 3, 1) := db_X8_findHeads_34.2.2.2.2.1
theorem dX8_findHeads_41 : decode cX8_findHeads 41 = .ok (.iaload, 1) := db_X8_findHeads_34.2.2.2.2.2.1
theorem dX8_findHeads_42 : decode cX8_findHeads 42 = .ok (.if_icmp .ge 107, 3) := db_X8_findHeads_34.2.2.2.2.2.2.1
theorem dX8_findHeads_149 : decode cX8_findHeads 149 = .ok (.goto (-122), 3) := db_X8_findHeads_34.2.2.2.2.2.2.2
set_option maxRecDepth 20000 in
theorem db_X8_findHeads_45 : (decode cX8_findHeads 45 = .ok (.aload_n 0, 1)) ∧ (decode cX8_findHeads 46 = .ok (.getfield 7, 3)) ∧ (decode cX8_findHeads 49 = .ok (.sipush 146, 3)) ∧ (decode cX8_findHeads 52 = .ok (.iconst 2, 1)) ∧ (decode cX8_findHeads 53 = .ok (.iload_n 2, 1)) ∧ (decode cX8_findHeads 54 = .ok (.imul, 1)) ∧ (decode cX8_findHeads 55 = .ok (.iadd, 1)) ∧ (decode cX8_findHeads 56 = .ok (.iaload, 1)) := by decide +kernel
theorem dX8_findHeads_45 : decode cX8_findHeads 45 = .ok (.aload_n 0, 1) := db_X8_findHeads_45.1
theorem dX8_findHeads_46 : decode cX8_findHeads 46 = .ok (.getfield 7, 3) := db_X8_findHeads_45.2.1
theorem dX8_findHeads_49 : decode cX8_findHeads 49 = .ok (.sipush 146, 3) := db_X8_findHeads_45.2.2.1
theorem dX8_findHeads_52 : decode cX8_findHeads 52 = .ok (.iconst 2, 1) := db_X8_findHeads_45.2.2.2.1
theorem dX8_findHeads_53 : decode cX8_findHeads 53 = .ok (.iload_n 2, 1) := db_X8_findHeads_45.2.2.2.2.1
theorem dX8_findHeads_54 : decode cX8_findHeads 54 = .ok (.imul, 1) := db_X8_findHeads_45.2.2.2.2.2.1
theorem dX8_findHeads_55 : decode cX8_findHeads 55 = .ok (.iadd, 1) := db_X8_findHeads_45.2.2.2.2.2.2.1
theorem dX8_findHeads_56 : decode cX8_findHeads 56 = .ok (.iaload, 1) := db_X8_findHeads_45.2.2.2.2.2.2.2
set_option maxRecDepth 20000 in
theorem db_X8_findHeads_57 : (decode cX8_findHeads 57 = .ok (.istore_n 3, 1)) ∧ (decode cX8_findHeads 58 = .ok (.aload_n 0, 1)) ∧ (decode cX8_findHeads 59 = .ok (.getfield 7, 3)) ∧ (decode cX8_findHeads 62 = .ok (.sipush 146, 3)) ∧ (decode cX8_findHeads 65 = .ok (.iconst 2, 1)) ∧ (decode cX8_findHeads 66 = .ok (.iload_n 2, 1)) ∧ (decode cX8_findHeads 67 = .ok (.imul, 1)) ∧ (decode cX8_findHeads 68 = .ok (.iadd, 1)) := by decide +kernel
theorem dX8_findHeads_57 : decode cX8_findHeads 57 = .ok (.istore_n 3, 1) := db_X8_findHeads_57.1
theorem dX8_findHeads_58 : decode cX8_findHeads 58 = .ok (.aload_n 0, 1) := db_X8_findHeads_57.2.1
theorem dX8_findHeads_59 : decode cX8_findHeads 59 = .ok (.getfield 7, 3) := db_X8_findHeads_57.2.2.1
theorem dX8_findHeads_62 : decode cX8_findHeads 62 = .ok (.sipush 146, 3) := db_X8_findHeads_57.2.2.2.1
theorem dX8_findHeads_65 : decode cX8_findHeads 65 = .ok (.iconst 2, 1) := db_X8_findHeads_57.2.2.2.2.1
theorem dX8_findHeads_66 : decode cX8_findHeads 66 = .ok (.iload_n 2, 1) := db_X8_findHeads_57.2.2.2.2.2.1
theorem dX8_findHeads_67 : decode cX8_findHeads 67 = .ok (.imul, 1) := db_X8_findHeads_57.2.2.2.2.2.2.1
theorem dX8_findHeads_68 : decode cX8_findHeads 68 = .ok (.iadd, 1) := db_X8_findHeads_57.2.2.2.2.2.2.2
set_option maxRecDepth 20000 in
theorem db_X8_findHeads_69 : (decode cX8_findHeads 69 = .ok (.iconst 1, 1)) ∧ (decode cX8_findHeads 70 = .ok (.iadd, 1)) ∧ (decode cX8_findHeads 71 = .ok (.iaload, 1)) ∧ (decode cX8_findHeads 72 = .ok (.istore 4, 2)) ∧ (decode cX8_findHeads 74 = .ok (.aload_n 0, 1)) ∧ (decode cX8_findHeads 75 = .ok (.getfield 20, 3)) ∧ (decode cX8_findHeads 78 = .ok (.iload_n 3, 1)) ∧ (decode cX8_findHeads 79 = .ok (.iaload, 1)) := by decide +kernel
theorem dX8_findHeads_69 : decode cX8_findHeads 69 = .ok (.iconst 1, 1) := db_X8_findHeads_69.1
theorem dX8_findHeads_70 : decode cX8_findHeads 70 = .ok (.iadd, 1) := db_X8_findHeads_69.2.1
theorem dX8_findHeads_71 : decode cX8_findHeads 71 = .ok (.iaload, 1) := db_X8_findHeads_69.2.2.1
theorem dX8_findHeads_72 : decode cX8_findHeads 72 = .ok (.istore 4, 2) := db_X8_findHeads_69.2.2.2.1
theorem dX8_findHeads_74 : decode cX8_findHeads 74 = .ok (.aload_n 0, 1) := db_X8_findHeads_69.2.2.2.2.1
theorem dX8_findHeads_75 : decode cX8_findHeads 75 = .ok (.getfield 20, 3) := db_X8_findHeads_69.2.2.2.2.2.1
theorem dX8_findHeads_78 : decode cX8_findHeads 78 = .ok (.iload_n 3, 1) := db_X8_findHeads_69.2.2.2.2.2.2.1
theorem dX8_findHeads_79 : decode cX8_findHeads 79 = .ok (.iaload, 1) := db_X8_findHeads_69.2.2.2.2.2.2.2
set_option maxRecDepth 20000 in
theorem db_X8_findHeads_80 : (decode cX8_findHeads 80 = .ok (.aload_n 0, 1)) ∧ (decode cX8_findHeads 81 = .ok (.getfield 20, 3)) ∧ (decode cX8_findHeads 84 = .ok (.iload 4, 2)) ∧ (decode cX8_findHeads 86 = .ok (.iaload, 1)) ∧ (decode cX8_findHeads 87 = .ok (.if_icmp .eq 56, 3)) ∧ (decode cX8_findHeads 143 = .ok (.iinc 2 1, 3)) ∧ (decode cX8_findHeads 146 = .ok (.goto (-111), 3)) ∧ (decode cX8_findHeads 90 = .ok (.aload_n 0, 1)) := by decide +kernel
theorem dX8_findHeads_80 : decode cX8_findHeads 80 = .ok (.aload_n 0, 1) := db_X8_findHeads_80.1
theorem dX8_findHeads_81 : decode cX8_findHeads 81 = .ok (.getfield 20, 3) := db_X8_findHeads_80.2.1
theorem dX8_findHeads_84 : decode cX8_findHeads 84 = .ok (.iload 4, 2) := db_X8_findHeads_80.2.2.1
theorem dX8_findHeads_86 : decode cX8_findHeads 86 = .ok (.iaload, 1) := db_X8_findHeads_80.2.2.2.1
theorem dX8_findHeads_87 : decode cX8_findHeads 87 = .ok (.if_icmp .eq 56, 3) := db_X8_findHeads_80.2.2.2.2.1
theorem dX8_findHeads_143 : decode cX8_findHeads 143 = .ok (.iinc 2 1, 3) := db_X8_findHeads_80.2.2.2.2.2.1
theorem dX8_findHeads_146 : decode cX8_findHeads 146 = .ok (.goto (-111), 3) := db_X8_findHeads_80.2.2.2.2.2.2.1
theorem dX8_findHeads_90 : decode cX8_findHeads 90 = .ok (.aload_n 0, 1) := db_X8_findHeads_80.2.2.2.2.2.2.2
set_option maxRecDepth 20000 in
theorem db_X8_findHeads_91 : (decode cX8_findHeads 91 = .ok (.getfield 20, 3)) ∧ (decode cX8_findHeads 94 = .ok (.iload_n 3, 1)) ∧ (decode cX8_findHeads 95 = .ok (.iaload, 1)) ∧ (decode cX8_findHeads 96 = .ok (.aload_n 0, 1)) ∧ (decode cX8_findHeads 97 = .ok (.getfield 20, 3)) ∧ (decode cX8_findHeads 100 = .ok (.iload 4, 2)) ∧ (decode cX8_findHeads 102 = .ok (.iaload, 1)) ∧ (decode cX8_findHeads 103 = .ok (.if_icmp .ge 12, 3)) := by decide +kernel
theorem dX8_findHeads_91 : decode cX8_findHeads 91 = .ok (.getfield 20, 3) := db_X8_findHeads_91.1
theorem dX8_findHeads_94 : decode cX8_findHeads 94 = .ok (.iload_n 3, 1) := db_X8_findHeads_91.2.1
theorem dX8_findHeads_95 : decode cX8_findHeads 95 = .ok (.iaload, 1) := db_X8_findHeads_91.2.2.1
theorem dX8_findHeads_96 : decode cX8_findHeads 96 = .ok (.aload_n 0, 1) := db_X8_findHeads_91.2.2.2.1
theorem dX8_findHeads_97 : decode cX8_findHeads 97 = .ok (.getfield 20, 3) := db_X8_findHeads_91.2.2.2.2.1
theorem dX8_findHeads_100 : decode cX8_findHeads 100 = .ok (.iload 4, 2) := db_X8_findHeads_91.2.2.2.2.2.1
theorem dX8_findHeads_102 : decode cX8_findHeads 102 = .ok (.iaload, 1) := db_X8_findHeads_91.2.2.2.2.2.2.1
theorem dX8_findHeads_103 : decode cX8_findHeads 103 = .ok (.if_icmp .ge 12, 3) := db_X8_findHeads_91.2.2.2.2.2.2.2
set_option maxRecDepth 20000 in
theorem db_X8_findHeads_115 : (decode cX8_findHeads 115 = .ok (.aload_n 0, 1)) ∧ (decode cX8_findHeads 116 = .ok (.getfield 20, 3)) ∧ (decode cX8_findHeads 119 = .ok (.iload 4, 2)) ∧ (decode cX8_findHeads 121 = .ok (.iaload, 1)) ∧ (decode cX8_findHeads 122 = .ok (.istore 5, 2)) ∧ (decode cX8_findHeads 124 = .ok (.aload_n 0, 1)) ∧ (decode cX8_findHeads 125 = .ok (.getfield 20, 3)) ∧ (decode cX8_findHeads 128 = .ok (.iload_n 3, 1)) := by decide +kernel
theorem dX8_findHeads_115 : decode cX8_findHeads 115 = .ok (.aload_n 0, 1) := db_X8_findHeads_115.1
theorem dX8_findHeads_116 : decode cX8_findHeads 116 = .ok (.getfield 20, 3) := db_X8_findHeads_115.2.1
theorem dX8_findHeads_119 : decode cX8_findHeads 119 = .ok (.iload 4, 2) := db_X8_findHeads_115.2.2.1
theorem dX8_findHeads_121 : decode cX8_findHeads 121 = .ok (.iaload, 1) := db_X8_findHeads_115.2.2.2.1
theorem dX8_findHeads_122 : decode cX8_findHeads 122 = .ok (.istore 5, 2) := db_X8_findHeads_115.2.2.2.2.1
theorem dX8_findHeads_124 : decode cX8_findHeads 124 = .ok (.aload_n 0, 1) := db_X8_findHeads_115.2.2.2.2.2.1
theorem dX8_findHeads_125 : decode cX8_findHeads 125 = .ok (.getfield 20, 3) := db_X8_findHeads_115.2.2.2.2.2.2.1
theorem dX8_findHeads_128 : decode cX8_findHeads 128 = .ok (.iload_n 3, 1) := db_X8_findHeads_115.2.2.2.2.2.2.2
set_option maxRecDepth 20000 in
theorem db_X8_findHeads_129 : (decode cX8_findHeads 129 = .ok (.iload 5, 2)) ∧ (decode cX8_findHeads 131 = .ok (.iastore, 1)) ∧ (decode cX8_findHeads 132 = .ok (.aload_n 0, 1)) ∧ (decode cX8_findHeads 133 = .ok (.getfield 20, 3)) ∧ (decode cX8_findHeads 136 = .ok (.iload 4, 2)) ∧ (decode cX8_findHeads 138 = .ok (.iload 5, 2)) ∧ (decode cX8_findHeads 140 = .ok (.iastore, 1)) ∧ (decode cX8_findHeads 141 = .ok (.iconst 1, 1)) := by decide +kernel
theorem dX8_findHeads_129 : decode cX8_findHeads 129 = .ok (.iload 5, 2) := db_X8_findHeads_129.1
theorem dX8_findHeads_131 : decode cX8_findHeads 131 = .ok (.iastore, 1) := db_X8_findHeads_129.2.1
theorem dX8_findHeads_132 : decode cX8_findHeads 132 = .ok (.aload_n 0, 1) := db_X8_findHeads_129.2.2.1
theorem dX8_findHeads_133 : decode cX8_findHeads 133 = .ok (.getfield 20, 3) := db_X8_findHeads_129.2.2.2.1
theorem dX8_findHeads_136 : decode cX8_findHeads 136 = .ok (.iload 4, 2) := db_X8_findHeads_129.2.2.2.2.1
theorem dX8_findHeads_138 : decode cX8_findHeads 138 = .ok (.iload 5, 2) := db_X8_findHeads_129.2.2.2.2.2.1
theorem dX8_findHeads_140 : decode cX8_findHeads 140 = .ok (.iastore, 1) := db_X8_findHeads_129.2.2.2.2.2.2.1
theorem dX8_findHeads_141 : decode cX8_findHeads 141 = .ok (.iconst 1, 1) := db_X8_findHeads_129.2.2.2.2.2.2.2
set_option maxRecDepth 20000 in
theorem db_X8_findHeads_142 : (decode cX8_findHeads 142 = .ok (.istore_n 1, 1)) ∧ (decode cX8_findHeads 106 = .ok (.aload_n 0, 1)) ∧ (decode cX8_findHeads 107 = .ok (.getfield 20, 3)) ∧ (decode cX8_findHeads 110 = .ok (.iload_n 3, 1)) ∧ (decode cX8_findHeads 111 = .ok (.iaload, 1)) ∧ (decode cX8_findHeads 112 = .ok (.goto 10, 3)) ∧ (decode cX8_findHeads 12 = .ok (.aload_n 0, 1)) ∧ (decode cX8_findHeads 13 = .ok (.getfield 20, 3)) := by decide +kernel
theorem dX8_findHeads_142 : decode cX8_findHeads 142 = .ok (.istore_n 1, 1) := db_X8_findHeads_142.1
theorem dX8_findHeads_106 : decode cX8_findHeads 106 = .ok (.aload_n 0, 1) := db_X8_findHeads_142.2.1
theorem dX8_findHeads_107 : decode cX8_findHeads 107 = .ok (.getfield 20, 3) := db_X8_findHeads_142.2.2.1
theorem dX8_findHeads_110 : decode cX8_findHeads 110 = .ok (.iload_n 3, 1) := db_X8_findHeads_142.2.2.2.1
theorem dX8_findHeads_111 : decode cX8_findHeads 111 = .ok (.iaload, 1) := db_X8_findHeads_142.2.2.2.2.1
theorem dX8_findHeads_112 : decode cX8_findHeads 112 = .ok (.goto 10, 3) := db_X8_findHeads_142.2.2.2.2.2.1
theorem dX8_findHeads_12 : decode cX8_findHeads 12 = .ok (.aload_n 0, 1) := db_X8_findHeads_142.2.2.2.2.2.2.1
theorem dX8_findHeads_13 : decode cX8_findHeads 13 = .ok (.getfield 20, 3) := db_X8_findHeads_142.2.2.2.2.2.2.2
set_option maxRecDepth 20000 in
theorem db_X8_findHeads_16 : (decode cX8_findHeads 16 = .ok (.iload_n 1, 1)) ∧ (decode cX8_findHeads 17 = .ok (.iload_n 1, 1)) ∧ (decode cX8_findHeads 18 = .ok (.iastore, 1)) ∧ (decode cX8_findHeads 19 = .ok (.iinc 1 1, 3)) ∧ (decode cX8_findHeads 22 = .ok (.goto (-20), 3)) := by decide +kernel
theorem dX8_findHeads_16 : decode cX8_findHeads 16 = .ok (.iload_n 1, 1) := db_X8_findHeads_16.1
theorem dX8_findHeads_17 : decode cX8_findHeads 17 = .ok (.iload_n 1, 1) := db_X8_findHeads_16.2.1
theorem dX8_findHeads_18 : decode cX8_findHeads 18 = .ok (.iastore, 1) := db_X8_findHeads_16.2.2.1
theorem dX8_findHeads_19 : decode cX8_findHeads 19 = .ok (.iinc 1 1, 3) := db_X8_findHeads_16.2.2.2.1
theorem dX8_findHeads_22 : decode cX8_findHeads 22 = .ok (.goto (-20), 3) := db_X8_findHeads_16.2.2.2.2
set_option maxRecDepth 20000 in
theorem db_X8_of_0 : (decode cX8_of 0 = .ok (.aload_n 0, 1)) ∧ (decode cX8_of 1 = .ok (.iload_n 1, 1)) ∧ (decode cX8_of 2 = .ok (.invokevirtual 50, 3)) ∧ (decode cX8_of 5 = .ok (.ifCond .eq 13, 3)) ∧ (decode cX8_of 8 = .ok (.iload_n 2, 1)) ∧ (decode cX8_of 9 = .ok (.iconst 0, 1)) ∧ (decode cX8_of 10 = .ok (.bipush 7, 2)) ∧ (decode cX8_of 12 = .ok (.invokestatic 35, 3)) := by decide +kernel
theorem dX8_of_0 : decode cX8_of 0 = .ok (.aload_n 0, 1) := db_X8_of_0.1
theorem dX8_of_1 : decode cX8_of 1 = .ok (.iload_n 1, 1) := db_X8_of_0.2.1
set_option maxRecDepth 20000 in
theorem ggX8_of_X8_isCase : GoodIn wsX8_of wsX8_isCase := goodIn_r _ [7, 2, 8, 9, 6, 10, 22, 23, 24, 25, 26, 27, 28, 29, 30, 31, 32] rfl (by decide +kernel)
set_option maxRecDepth 20000 in
theorem gX8_of_X8_isCase : GoodIn wsX8_of (wsV RX8 50 RX8 yX8_isCase wsX8_isCase) := goodIn_app (goodIn_r _ [3, 4, 5, 6] rfl (by decide +kernel)) ggX8_of_X8_isCase
theorem dX8_of_2 : decode cX8_of 2 = .ok (.invokevirtual 50, 3) := db_X8_of_0.2.2.1
theorem dX8_of_5 : decode cX8_of 5 = .ok (.ifCond .eq 13, 3) := db_X8_of_0.2.2.2.1
theorem dX8_of_8 : decode cX8_of 8 = .ok (.iload_n 2, 1) := db_X8_of_0.2.2.2.2.1
theorem dX8_of_9 : decode cX8_of 9 = .ok (.iconst 0, 1) := db_X8_of_0.2.2.2.2.2.1
theorem dX8_of_10 : decode cX8_of 10 = .ok (.bipush 7, 2) := db_X8_of_0.2.2.2.2.2.2.1
set_option maxRecDepth 20000 in
theorem ggX8_of_X8_in : GoodIn wsX8_of wsX8_in := goodIn_r _ [10] rfl (by decide +kernel)
set_option maxRecDepth 20000 in
theorem gX8_of_X8_in : GoodIn wsX8_of (va_wsS RX8 35 yX8_in wsX8_in) := goodIn_app (goodIn_r _ [8, 9, 6] rfl (by decide +kernel)) ggX8_of_X8_in
theorem dX8_of_12 : decode cX8_of 12 = .ok (.invokestatic 35, 3) := db_X8_of_0.2.2.2.2.2.2.2
set_option maxRecDepth 20000 in
theorem db_X8_of_15 : (decode cX8_of 15 = .ok (.ifCond .ne 5, 3)) ∧ (decode cX8_of 20 = .ok (.iload_n 2, 1)) ∧ (decode cX8_of 21 = .ok (.iconst 5, 1)) ∧ (decode cX8_of 22 = .ok (.if_icmp .eq 9, 3)) ∧ (decode cX8_of 31 = .ok (.aload_n 0, 1)) ∧ (decode cX8_of 32 = .ok (.invokevirtual 53, 3)) ∧ (decode cX8_of 35 = .ok (.iload_n 2, 1)) ∧ (decode cX8_of 36 = .ok (.iconst 5, 1)) := by decide +kernel
theorem dX8_of_15 : decode cX8_of 15 = .ok (.ifCond .ne 5, 3) := db_X8_of_15.1
theorem dX8_of_20 : decode cX8_of 20 = .ok (.iload_n 2, 1) := db_X8_of_15.2.1
theorem dX8_of_21 : decode cX8_of 21 = .ok (.iconst 5, 1) := db_X8_of_15.2.2.1
theorem dX8_of_22 : decode cX8_of 22 = .ok (.if_icmp .eq 9, 3) := db_X8_of_15.2.2.2.1
theorem dX8_of_31 : decode cX8_of 31 = .ok (.aload_n 0, 1) := db_X8_of_15.2.2.2.2.1
set_option maxRecDepth 20000 in
theorem ggX8_of_X8_findHeads : GoodIn wsX8_of wsX8_findHeads := goodIn_r _ [14, 2, 1, 22, 23, 24, 25, 26, 27, 28, 29, 30, 31, 32] rfl (by decide +kernel)
set_option maxRecDepth 20000 in
theorem gX8_of_X8_findHeads : GoodIn wsX8_of (wsV RX8 53 RX8 yX8_findHeads wsX8_findHeads) := goodIn_app (goodIn_r _ [11, 12, 13, 6] rfl (by decide +kernel)) ggX8_of_X8_findHeads
theorem dX8_of_32 : decode cX8_of 32 = .ok (.invokevirtual 53, 3) := db_X8_of_15.2.2.2.2.2.1
theorem dX8_of_35 : decode cX8_of 35 = .ok (.iload_n 2, 1) := db_X8_of_15.2.2.2.2.2.2.1
theorem dX8_of_36 : decode cX8_of 36 = .ok (.iconst 5, 1) := db_X8_of_15.2.2.2.2.2.2.2
set_option maxRecDepth 20000 in
theorem db_X8_of_37 : (decode cX8_of 37 = .ok (.if_icmp .ne 12, 3)) ∧ (decode cX8_of 40 = .ok (.aload_n 0, 1)) ∧ (decode cX8_of 41 = .ok (.getfield 20, 3)) ∧ (decode cX8_of 44 = .ok (.iload_n 1, 1)) ∧ (decode cX8_of 45 = .ok (.iaload, 1)) ∧ (decode cX8_of 46 = .ok (.goto 8, 3)) ∧ (decode cX8_of 54 = .ok (.ireturn, 1)) ∧ (decode cX8_of 25 = .ok (.iload_n 2, 1)) := by decide +kernel
theorem dX8_of_37 : decode cX8_of 37 = .ok (.if_icmp .ne 12, 3) := db_X8_of_37.1
theorem dX8_of_40 : decode cX8_of 40 = .ok (.aload_n 0, 1) := db_X8_of_37.2.1
theorem dX8_of_41 : decode cX8_of 41 = .ok (.getfield 20, 3) := db_X8_of_37.2.2.1
theorem dX8_of_44 : decode cX8_of 44 = .ok (.iload_n 1, 1) := db_X8_of_37.2.2.2.1
theorem dX8_of_45 : decode cX8_of 45 = .ok (.iaload, 1) := db_X8_of_37.2.2.2.2.1
theorem dX8_of_46 : decode cX8_of 46 = .ok (.goto 8, 3) := db_X8_of_37.2.2.2.2.2.1
theorem dX8_of_54 : decode cX8_of 54 = .ok (.ireturn, 1) := db_X8_of_37.2.2.2.2.2.2.1
theorem dX8_of_25 : decode cX8_of 25 = .ok (.iload_n 2, 1) := db_X8_of_37.2.2.2.2.2.2.2
set_option maxRecDepth 20000 in
theorem db_X8_of_26 : (decode cX8_of 26 = .ok (.bipush 6, 2)) ∧ (decode cX8_of 28 = .ok (.if_icmp .ne 27, 3)) ∧ (decode cX8_of 55 = .ok (.aload_n 0, 1)) ∧ (decode cX8_of 56 = .ok (.getfield 7, 3)) ∧ (decode cX8_of 59 = .ok (.iload_n 1, 1)) ∧ (decode cX8_of 60 = .ok (.iload_n 2, 1)) ∧ (decode cX8_of 61 = .ok (.bipush 7, 2)) ∧ (decode cX8_of 63 = .ok (.if_icmp .ne 7, 3)) := by decide +kernel
theorem dX8_of_26 : decode cX8_of 26 = .ok (.bipush 6, 2) := db_X8_of_26.1
theorem dX8_of_28 : decode cX8_of 28 = .ok (.if_icmp .ne 27, 3) := db_X8_of_26.2.1
theorem dX8_of_55 : decode cX8_of 55 = .ok (.aload_n 0, 1) := db_X8_of_26.2.2.1
theorem dX8_of_56 : decode cX8_of 56 = .ok (.getfield 7, 3) := db_X8_of_26.2.2.2.1
theorem dX8_of_59 : decode cX8_of 59 = .ok (.iload_n 1, 1) := db_X8_of_26.2.2.2.2.1
theorem dX8_of_60 : decode cX8_of 60 = .ok (.iload_n 2, 1) := db_X8_of_26.2.2.2.2.2.1
theorem dX8_of_61 : decode cX8_of 61 = .ok (.bipush 7, 2) := db_X8_of_26.2.2.2.2.2.2.1
theorem dX8_of_63 : decode cX8_of 63 = .ok (.if_icmp .ne 7, 3) := db_X8_of_26.2.2.2.2.2.2.2
set_option maxRecDepth 20000 in
theorem db_X8_of_70 : (decode cX8_of 70 = .ok (.iload_n 2, 1)) ∧ (decode cX8_of 71 = .ok (.invokestatic 46, 3)) ∧ (decode cX8_of 74 = .ok (.iaload, 1)) ∧ (decode cX8_of 75 = .ok (.ireturn, 1)) ∧ (decode cX8_of 66 = .ok (.iconst 5, 1)) ∧ (decode cX8_of 67 = .ok (.goto 4, 3)) ∧ (decode cX8_of 49 = .ok (.aload_n 0, 1)) ∧ (decode cX8_of 50 = .ok (.iload_n 1, 1)) := by decide +kernel
theorem dX8_of_70 : decode cX8_of 70 = .ok (.iload_n 2, 1) := db_X8_of_70.1
set_option maxRecDepth 20000 in
theorem ggX8_of_X8_at : GoodIn wsX8_of wsX8_at := goodIn_r _ [21] rfl (by decide +kernel)
set_option maxRecDepth 20000 in
theorem gX8_of_X8_at : GoodIn wsX8_of (va_wsS RX8 46 yX8_at wsX8_at) := goodIn_app (goodIn_r _ [19, 20, 6] rfl (by decide +kernel)) ggX8_of_X8_at
theorem dX8_of_71 : decode cX8_of 71 = .ok (.invokestatic 46, 3) := db_X8_of_70.2.1
theorem dX8_of_74 : decode cX8_of 74 = .ok (.iaload, 1) := db_X8_of_70.2.2.1
theorem dX8_of_75 : decode cX8_of 75 = .ok (.ireturn, 1) := db_X8_of_70.2.2.2.1
theorem dX8_of_66 : decode cX8_of 66 = .ok (.iconst 5, 1) := db_X8_of_70.2.2.2.2.1
theorem dX8_of_67 : decode cX8_of 67 = .ok (.goto 4, 3) := db_X8_of_70.2.2.2.2.2.1
theorem dX8_of_49 : decode cX8_of 49 = .ok (.aload_n 0, 1) := db_X8_of_70.2.2.2.2.2.2.1
theorem dX8_of_50 : decode cX8_of 50 = .ok (.iload_n 1, 1) := db_X8_of_70.2.2.2.2.2.2.2
set_option maxRecDepth 20000 in
theorem ggX8_of_X8_joined : GoodIn wsX8_of wsX8_joined := goodIn_r _ [18, 2, 1, 22, 23, 24, 25, 26, 27, 28, 29, 30, 31, 32] rfl (by decide +kernel)
set_option maxRecDepth 20000 in
theorem gX8_of_X8_joined : GoodIn wsX8_of (wsV RX8 56 RX8 yX8_joined wsX8_joined) := goodIn_app (goodIn_r _ [15, 16, 17, 6] rfl (by decide +kernel)) ggX8_of_X8_joined
set_option maxRecDepth 20000 in
theorem db_X8_of_51 : (decode cX8_of 51 = .ok (.invokevirtual 56, 3)) ∧ (decode cX8_of 18 = .ok (.iconst (-1), 1)) ∧ (decode cX8_of 19 = .ok (.ireturn, 1)) := by decide +kernel
theorem dX8_of_51 : decode cX8_of 51 = .ok (.invokevirtual 56, 3) := db_X8_of_51.1
theorem dX8_of_18 : decode cX8_of 18 = .ok (.iconst (-1), 1) := db_X8_of_51.2.1
theorem dX8_of_19 : decode cX8_of 19 = .ok (.ireturn, 1) := db_X8_of_51.2.2
set_option maxRecDepth 20000 in
theorem db_X8_quarrels_0 : (decode cX8_quarrels 0 = .ok (.aload_n 0, 1)) ∧ (decode cX8_quarrels 1 = .ok (.invokevirtual 53, 3)) ∧ (decode cX8_quarrels 4 = .ok (.iconst 0, 1)) ∧ (decode cX8_quarrels 5 = .ok (.istore_n 1, 1)) ∧ (decode cX8_quarrels 6 = .ok (.iconst 0, 1)) ∧ (decode cX8_quarrels 7 = .ok (.istore_n 2, 1)) ∧ (decode cX8_quarrels 8 = .ok (.iload_n 2, 1)) ∧ (decode cX8_quarrels 9 = .ok (.aload_n 0, 1)) := by decide +kernel
theorem dX8_quarrels_0 : decode cX8_quarrels 0 = .ok (.aload_n 0, 1) := db_X8_quarrels_0.1
set_option maxRecDepth 20000 in
theorem ggX8_quarrels_X8_findHeads : GoodIn wsX8_quarrels wsX8_findHeads := goodIn_r _ [7, 1, 2, 8, 9, 10, 11, 12, 13, 14, 15, 16, 17, 18] rfl (by decide +kernel)
set_option maxRecDepth 20000 in
theorem gX8_quarrels_X8_findHeads : GoodIn wsX8_quarrels (wsV RX8 53 RX8 yX8_findHeads wsX8_findHeads) := goodIn_app (goodIn_r _ [3, 4, 5, 6] rfl (by decide +kernel)) ggX8_quarrels_X8_findHeads
theorem dX8_quarrels_1 : decode cX8_quarrels 1 = .ok (.invokevirtual 53, 3) := db_X8_quarrels_0.2.1
theorem dX8_quarrels_4 : decode cX8_quarrels 4 = .ok (.iconst 0, 1) := db_X8_quarrels_0.2.2.1
theorem dX8_quarrels_5 : decode cX8_quarrels 5 = .ok (.istore_n 1, 1) := db_X8_quarrels_0.2.2.2.1
theorem dX8_quarrels_6 : decode cX8_quarrels 6 = .ok (.iconst 0, 1) := db_X8_quarrels_0.2.2.2.2.1
theorem dX8_quarrels_7 : decode cX8_quarrels 7 = .ok (.istore_n 2, 1) := db_X8_quarrels_0.2.2.2.2.2.1
theorem dX8_quarrels_8 : decode cX8_quarrels 8 = .ok (.iload_n 2, 1) := db_X8_quarrels_0.2.2.2.2.2.2.1
theorem dX8_quarrels_9 : decode cX8_quarrels 9 = .ok (.aload_n 0, 1) := db_X8_quarrels_0.2.2.2.2.2.2.2
set_option maxRecDepth 20000 in
theorem db_X8_quarrels_10 : (decode cX8_quarrels 10 = .ok (.getfield 7, 3)) ∧ (decode cX8_quarrels 13 = .ok (.iconst 2, 1)) ∧ (decode cX8_quarrels 14 = .ok (.iaload, 1)) ∧ (decode cX8_quarrels 15 = .ok (.if_icmp .ge 27, 3)) ∧ (decode cX8_quarrels 42 = .ok (.iload_n 1, 1)) ∧ (decode cX8_quarrels 43 = .ok (.ireturn, 1)) ∧ (decode cX8_quarrels 18 = .ok (.iload_n 1, 1)) ∧ (decode cX8_quarrels 19 = .ok (.aload_n 0, 1)) := by decide +kernel
theorem dX8_quarrels_10 : decode cX8_quarrels 10 = .ok (.getfield 7, 3) := db_X8_quarrels_10.1
theorem dX8_quarrels_13 : decode cX8_quarrels 13 = .ok (.iconst 2, 1) := db_X8_quarrels_10.2.1
theorem dX8_quarrels_14 : decode cX8_quarrels 14 = .ok (.iaload, 1) := db_X8_quarrels_10.2.2.1
theorem dX8_quarrels_15 : decode cX8_quarrels 15 = .ok (.if_icmp .ge 27, 3) := db_X8_quarrels_10.2.2.2.1
theorem dX8_quarrels_42 : decode cX8_quarrels 42 = .ok (.iload_n 1, 1) := db_X8_quarrels_10.2.2.2.2.1
theorem dX8_quarrels_43 : decode cX8_quarrels 43 = .ok (.ireturn, 1) := db_X8_quarrels_10.2.2.2.2.2.1
theorem dX8_quarrels_18 : decode cX8_quarrels 18 = .ok (.iload_n 1, 1) := db_X8_quarrels_10.2.2.2.2.2.2.1
theorem dX8_quarrels_19 : decode cX8_quarrels 19 = .ok (.aload_n 0, 1) := db_X8_quarrels_10.2.2.2.2.2.2.2
set_option maxRecDepth 20000 in
theorem db_X8_quarrels_20 : (decode cX8_quarrels 20 = .ok (.getfield 20, 3)) ∧ (decode cX8_quarrels 23 = .ok (.iload_n 2, 1)) ∧ (decode cX8_quarrels 24 = .ok (.iaload, 1)) ∧ (decode cX8_quarrels 25 = .ok (.iload_n 2, 1)) ∧ (decode cX8_quarrels 26 = .ok (.if_icmp .ne 7, 3)) ∧ (decode cX8_quarrels 33 = .ok (.iconst 0, 1)) ∧ (decode cX8_quarrels 34 = .ok (.iadd, 1)) ∧ (decode cX8_quarrels 35 = .ok (.istore_n 1, 1)) := by decide +kernel
theorem dX8_quarrels_20 : decode cX8_quarrels 20 = .ok (.getfield 20, 3) := db_X8_quarrels_20.1
theorem dX8_quarrels_23 : decode cX8_quarrels 23 = .ok (.iload_n 2, 1) := db_X8_quarrels_20.2.1
theorem dX8_quarrels_24 : decode cX8_quarrels 24 = .ok (.iaload, 1) := db_X8_quarrels_20.2.2.1
theorem dX8_quarrels_25 : decode cX8_quarrels 25 = .ok (.iload_n 2, 1) := db_X8_quarrels_20.2.2.2.1
theorem dX8_quarrels_26 : decode cX8_quarrels 26 = .ok (.if_icmp .ne 7, 3) := db_X8_quarrels_20.2.2.2.2.1
theorem dX8_quarrels_33 : decode cX8_quarrels 33 = .ok (.iconst 0, 1) := db_X8_quarrels_20.2.2.2.2.2.1
theorem dX8_quarrels_34 : decode cX8_quarrels 34 = .ok (.iadd, 1) := db_X8_quarrels_20.2.2.2.2.2.2.1
theorem dX8_quarrels_35 : decode cX8_quarrels 35 = .ok (.istore_n 1, 1) := db_X8_quarrels_20.2.2.2.2.2.2.2
set_option maxRecDepth 20000 in
theorem db_X8_quarrels_36 : (decode cX8_quarrels 36 = .ok (.iinc 2 1, 3)) ∧ (decode cX8_quarrels 39 = .ok (.goto (-31), 3)) ∧ (decode cX8_quarrels 29 = .ok (.iconst 1, 1)) ∧ (decode cX8_quarrels 30 = .ok (.goto 4, 3)) := by decide +kernel
theorem dX8_quarrels_36 : decode cX8_quarrels 36 = .ok (.iinc 2 1, 3) := db_X8_quarrels_36.1
theorem dX8_quarrels_39 : decode cX8_quarrels 39 = .ok (.goto (-31), 3) := db_X8_quarrels_36.2.1
theorem dX8_quarrels_29 : decode cX8_quarrels 29 = .ok (.iconst 1, 1) := db_X8_quarrels_36.2.2.1
theorem dX8_quarrels_30 : decode cX8_quarrels 30 = .ok (.goto 4, 3) := db_X8_quarrels_36.2.2.2
set_option maxRecDepth 20000 in
theorem db_X8_many_0 : (decode cX8_many 0 = .ok (.iload_n 1, 1)) ∧ (decode cX8_many 1 = .ok (.tableswitch 128 0 10 #[59, 66, 73, 80, 86, 92, 99, 104, 110, 116, 122], 59)) ∧ (decode cX8_many 129 = .ok (.iconst (-1), 1)) ∧ (decode cX8_many 130 = .ok (.ireturn, 1)) ∧ (decode cX8_many 60 = .ok (.aload_n 0, 1)) ∧ (decode cX8_many 61 = .ok (.getfield 7, 3)) ∧ (decode cX8_many 64 = .ok (.iconst 0, 1)) ∧ (decode cX8_many 65 = .ok (.iaload, 1)) := by decide +kernel
theorem dX8_many_0 : decode cX8_many 0 = .ok (.iload_n 1, 1) := db_X8_many_0.1
theorem dX8_many_1 : decode cX8_many 1 = .ok (.tableswitch 128 0 10 #[59, 66, 73, 80, 86, 92, 99, 104, 110, 116, 122], 59) := db_X8_many_0.2.1
theorem dX8_many_129 : decode cX8_many 129 = .ok (.iconst (-1), 1) := db_X8_many_0.2.2.1
theorem dX8_many_130 : decode cX8_many 130 = .ok (.ireturn, 1) := db_X8_many_0.2.2.2.1
theorem dX8_many_60 : decode cX8_many 60 = .ok (.aload_n 0, 1) := db_X8_many_0.2.2.2.2.1
theorem dX8_many_61 : decode cX8_many 61 = .ok (.getfield 7, 3) := db_X8_many_0.2.2.2.2.2.1
theorem dX8_many_64 : decode cX8_many 64 = .ok (.iconst 0, 1) := db_X8_many_0.2.2.2.2.2.2.1
theorem dX8_many_65 : decode cX8_many 65 = .ok (.iaload, 1) := db_X8_many_0.2.2.2.2.2.2.2
set_option maxRecDepth 20000 in
theorem db_X8_many_66 : (decode cX8_many 66 = .ok (.ireturn, 1)) ∧ (decode cX8_many 67 = .ok (.aload_n 0, 1)) ∧ (decode cX8_many 68 = .ok (.getfield 7, 3)) ∧ (decode cX8_many 71 = .ok (.iconst 1, 1)) ∧ (decode cX8_many 72 = .ok (.iaload, 1)) ∧ (decode cX8_many 73 = .ok (.ireturn, 1)) ∧ (decode cX8_many 74 = .ok (.aload_n 0, 1)) ∧ (decode cX8_many 75 = .ok (.getfield 7, 3)) := by decide +kernel
theorem dX8_many_66 : decode cX8_many 66 = .ok (.ireturn, 1) := db_X8_many_66.1
theorem dX8_many_67 : decode cX8_many 67 = .ok (.aload_n 0, 1) := db_X8_many_66.2.1
theorem dX8_many_68 : decode cX8_many 68 = .ok (.getfield 7, 3) := db_X8_many_66.2.2.1
theorem dX8_many_71 : decode cX8_many 71 = .ok (.iconst 1, 1) := db_X8_many_66.2.2.2.1
theorem dX8_many_72 : decode cX8_many 72 = .ok (.iaload, 1) := db_X8_many_66.2.2.2.2.1
theorem dX8_many_73 : decode cX8_many 73 = .ok (.ireturn, 1) := db_X8_many_66.2.2.2.2.2.1
theorem dX8_many_74 : decode cX8_many 74 = .ok (.aload_n 0, 1) := db_X8_many_66.2.2.2.2.2.2.1
theorem dX8_many_75 : decode cX8_many 75 = .ok (.getfield 7, 3) := db_X8_many_66.2.2.2.2.2.2.2
set_option maxRecDepth 20000 in
theorem db_X8_many_78 : (decode cX8_many 78 = .ok (.iconst 2, 1)) ∧ (decode cX8_many 79 = .ok (.iaload, 1)) ∧ (decode cX8_many 80 = .ok (.ireturn, 1)) ∧ (decode cX8_many 81 = .ok (.aload_n 0, 1)) ∧ (decode cX8_many 82 = .ok (.iconst 0, 1)) ∧ (decode cX8_many 83 = .ok (.invokevirtual 124, 3)) ∧ (decode cX8_many 86 = .ok (.ireturn, 1)) ∧ (decode cX8_many 87 = .ok (.aload_n 0, 1)) := by decide +kernel
theorem dX8_many_78 : decode cX8_many 78 = .ok (.iconst 2, 1) := db_X8_many_78.1
theorem dX8_many_79 : decode cX8_many 79 = .ok (.iaload, 1) := db_X8_many_78.2.1
theorem dX8_many_80 : decode cX8_many 80 = .ok (.ireturn, 1) := db_X8_many_78.2.2.1
theorem dX8_many_81 : decode cX8_many 81 = .ok (.aload_n 0, 1) := db_X8_many_78.2.2.2.1
theorem dX8_many_82 : decode cX8_many 82 = .ok (.iconst 0, 1) := db_X8_many_78.2.2.2.2.1
set_option maxRecDepth 20000 in
theorem ggX8_many_X8_casesThat : GoodIn wsX8_many wsX8_casesThat := goodIn_r _ [6, 1, 7, 8, 5, 9, 30, 31, 32, 33, 34, 35, 36, 37, 38, 39, 40] rfl (by decide +kernel)
set_option maxRecDepth 20000 in
theorem gX8_many_X8_casesThat : GoodIn wsX8_many (wsV RX8 124 RX8 yX8_casesThat wsX8_casesThat) := goodIn_app (goodIn_r _ [2, 3, 4, 5] rfl (by decide +kernel)) ggX8_many_X8_casesThat
theorem dX8_many_83 : decode cX8_many 83 = .ok (.invokevirtual 124, 3) := db_X8_many_78.2.2.2.2.2.1
theorem dX8_many_86 : decode cX8_many 86 = .ok (.ireturn, 1) := db_X8_many_78.2.2.2.2.2.2.1
theorem dX8_many_87 : decode cX8_many 87 = .ok (.aload_n 0, 1) := db_X8_many_78.2.2.2.2.2.2.2
set_option maxRecDepth 20000 in
theorem db_X8_many_88 : (decode cX8_many 88 = .ok (.iconst 1, 1)) ∧ (decode cX8_many 89 = .ok (.invokevirtual 124, 3)) ∧ (decode cX8_many 92 = .ok (.ireturn, 1)) ∧ (decode cX8_many 93 = .ok (.aload_n 0, 1)) ∧ (decode cX8_many 94 = .ok (.getfield 7, 3)) ∧ (decode cX8_many 97 = .ok (.iconst 3, 1)) ∧ (decode cX8_many 98 = .ok (.iaload, 1)) ∧ (decode cX8_many 99 = .ok (.ireturn, 1)) := by decide +kernel
theorem dX8_many_88 : decode cX8_many 88 = .ok (.iconst 1, 1) := db_X8_many_88.1
theorem dX8_many_89 : decode cX8_many 89 = .ok (.invokevirtual 124, 3) := db_X8_many_88.2.1
theorem dX8_many_92 : decode cX8_many 92 = .ok (.ireturn, 1) := db_X8_many_88.2.2.1
theorem dX8_many_93 : decode cX8_many 93 = .ok (.aload_n 0, 1) := db_X8_many_88.2.2.2.1
theorem dX8_many_94 : decode cX8_many 94 = .ok (.getfield 7, 3) := db_X8_many_88.2.2.2.2.1
theorem dX8_many_97 : decode cX8_many 97 = .ok (.iconst 3, 1) := db_X8_many_88.2.2.2.2.2.1
theorem dX8_many_98 : decode cX8_many 98 = .ok (.iaload, 1) := db_X8_many_88.2.2.2.2.2.2.1
theorem dX8_many_99 : decode cX8_many 99 = .ok (.ireturn, 1) := db_X8_many_88.2.2.2.2.2.2.2
set_option maxRecDepth 20000 in
theorem db_X8_many_100 : (decode cX8_many 100 = .ok (.aload_n 0, 1)) ∧ (decode cX8_many 101 = .ok (.invokevirtual 127, 3)) ∧ (decode cX8_many 104 = .ok (.ireturn, 1)) ∧ (decode cX8_many 105 = .ok (.aload_n 0, 1)) ∧ (decode cX8_many 106 = .ok (.iconst (-1), 1)) ∧ (decode cX8_many 107 = .ok (.invokevirtual 131, 3)) ∧ (decode cX8_many 110 = .ok (.ireturn, 1)) ∧ (decode cX8_many 111 = .ok (.aload_n 0, 1)) := by decide +kernel
theorem dX8_many_100 : decode cX8_many 100 = .ok (.aload_n 0, 1) := db_X8_many_100.1
set_option maxRecDepth 20000 in
theorem ggX8_many_X8_quarrels : GoodIn wsX8_many wsX8_quarrels := goodIn_r _ [13, 1, 14, 15, 16, 17, 5, 18, 30, 31, 32, 33, 34, 35, 36, 37, 38, 39, 40] rfl (by decide +kernel)
set_option maxRecDepth 20000 in
theorem gX8_many_X8_quarrels : GoodIn wsX8_many (wsV RX8 127 RX8 yX8_quarrels wsX8_quarrels) := goodIn_app (goodIn_r _ [10, 11, 12, 5] rfl (by decide +kernel)) ggX8_many_X8_quarrels
theorem dX8_many_101 : decode cX8_many 101 = .ok (.invokevirtual 127, 3) := db_X8_many_100.2.1
theorem dX8_many_104 : decode cX8_many 104 = .ok (.ireturn, 1) := db_X8_many_100.2.2.1
theorem dX8_many_105 : decode cX8_many 105 = .ok (.aload_n 0, 1) := db_X8_many_100.2.2.2.1
theorem dX8_many_106 : decode cX8_many 106 = .ok (.iconst (-1), 1) := db_X8_many_100.2.2.2.2.1
set_option maxRecDepth 20000 in
theorem ggX8_many_X8_termsThat : GoodIn wsX8_many wsX8_termsThat := goodIn_r _ [22, 1, 7, 8, 5, 9, 23, 24, 25, 26, 27, 28, 29, 30, 31, 32, 33, 34, 35, 36, 37, 38, 39, 40] rfl (by decide +kernel)
set_option maxRecDepth 20000 in
theorem gX8_many_X8_termsThat : GoodIn wsX8_many (wsV RX8 131 RX8 yX8_termsThat wsX8_termsThat) := goodIn_app (goodIn_r _ [19, 20, 21, 5] rfl (by decide +kernel)) ggX8_many_X8_termsThat
theorem dX8_many_107 : decode cX8_many 107 = .ok (.invokevirtual 131, 3) := db_X8_many_100.2.2.2.2.2.1
theorem dX8_many_110 : decode cX8_many 110 = .ok (.ireturn, 1) := db_X8_many_100.2.2.2.2.2.2.1
theorem dX8_many_111 : decode cX8_many 111 = .ok (.aload_n 0, 1) := db_X8_many_100.2.2.2.2.2.2.2
set_option maxRecDepth 20000 in
theorem db_X8_many_112 : (decode cX8_many 112 = .ok (.iconst 1, 1)) ∧ (decode cX8_many 113 = .ok (.invokevirtual 131, 3)) ∧ (decode cX8_many 116 = .ok (.ireturn, 1)) ∧ (decode cX8_many 117 = .ok (.aload_n 0, 1)) ∧ (decode cX8_many 118 = .ok (.iconst 0, 1)) ∧ (decode cX8_many 119 = .ok (.invokevirtual 131, 3)) ∧ (decode cX8_many 122 = .ok (.ireturn, 1)) ∧ (decode cX8_many 123 = .ok (.aload_n 0, 1)) := by decide +kernel
theorem dX8_many_112 : decode cX8_many 112 = .ok (.iconst 1, 1) := db_X8_many_112.1
theorem dX8_many_113 : decode cX8_many 113 = .ok (.invokevirtual 131, 3) := db_X8_many_112.2.1
theorem dX8_many_116 : decode cX8_many 116 = .ok (.ireturn, 1) := db_X8_many_112.2.2.1
theorem dX8_many_117 : decode cX8_many 117 = .ok (.aload_n 0, 1) := db_X8_many_112.2.2.2.1
theorem dX8_many_118 : decode cX8_many 118 = .ok (.iconst 0, 1) := db_X8_many_112.2.2.2.2.1
theorem dX8_many_119 : decode cX8_many 119 = .ok (.invokevirtual 131, 3) := db_X8_many_112.2.2.2.2.2.1
theorem dX8_many_122 : decode cX8_many 122 = .ok (.ireturn, 1) := db_X8_many_112.2.2.2.2.2.2.1
theorem dX8_many_123 : decode cX8_many 123 = .ok (.aload_n 0, 1) := db_X8_many_112.2.2.2.2.2.2.2
set_option maxRecDepth 20000 in
theorem db_X8_many_124 : (decode cX8_many 124 = .ok (.iconst 2, 1)) ∧ (decode cX8_many 125 = .ok (.invokevirtual 131, 3)) ∧ (decode cX8_many 128 = .ok (.ireturn, 1)) := by decide +kernel
theorem dX8_many_124 : decode cX8_many 124 = .ok (.iconst 2, 1) := db_X8_many_124.1
theorem dX8_many_125 : decode cX8_many 125 = .ok (.invokevirtual 131, 3) := db_X8_many_124.2.1
theorem dX8_many_128 : decode cX8_many 128 = .ok (.ireturn, 1) := db_X8_many_124.2.2
set_option maxHeartbeats 4000000 in
set_option maxRecDepth 100000 in
theorem q_X8_findHeads (l : Launch) (dC : Nat → ClassId) (dI : Nat → Nat → Nat) (cy : Nat → ClassId) (sz : Nat) (ad : Nat → Nat) (v : Nat → Nat → Int32) (hv : Ir v)  : Met l yX8_findHeads wsX8_findHeads ({ frames := 0, cells := 0, slots := 0, locals := 0 }) (va_Pc [.ref (ad 0)] (ex_Pre dC dI cy sz (wm ad cy v))) (va_Qv (fun (u : Nat → Nat → Int32) => Ir u ∧ Fq v u) (fun u t => ex_Pst dC dI (va_A (wm ad cy v) sz) (wm ad cy u) t) (va_A (wm ad cy v) sz)) 0 0 (va_A (wm ad cy v) sz) := by
  refine Met.ofW (cc := cX8_findHeads) (maxL := 6) (ret := none) (by decide) rfl ?_
  intro p e s m args below meth c s₁ B hml hv
  obtain ⟨rfl, hsz, hE, hP, hK, hD0⟩ := hv
  have hx := B.exec
  have hb := B.bytes
  have hr := B.returns
  have hts := atoms_spec (ws := wsX8_findHeads) B.pre
  have hown : s.vm.findClass RX8 = some m.cls := findClass_of_methodNamed B.named
  have hlocks := B.notSynchronized
  subst hsz
  have hD := hD0.self (sz := s.heap.size)
  generalize hAe : va_A (wm ad cy v) s.heap.size = A at hD ⊢
  have hA : ∀ q : Nat, s.heap.size ≤ q → A q := fun q h => by rw [← hAe]; exact Or.inr h
  have hS : va_S A s.heap s.heap [] := va_S.rf
  have hP : va_P (dC, dI) vwCl (wm ad cy v) s.heap := hP
  have hl := lv_entry ([.ref (ad 0)]) (n := 6) (Nat.le_of_ble_eq_true rfl)
  rw [lg_entry_eq]
  generalize (lg_sl ([.ref (ad 0)]) ++ List.replicate (6 - (lg_sl ([.ref (ad 0)])).length) Slot.unset).toArray = ls at hl ⊢
  have hl : lv_has ls 6 [(0, .ref (ad 0))] := hl
  have hfr : Fq v v := Fq.rf
  refine lv_iconst (v := 0) hx hb dX8_findHeads_0 (by decide) ?_
  refine lv_istore_n (lv' := [(1, .int 0), (0, .ref (ad 0))]) hx hb dX8_findHeads_1 rfl hl (by decide) rfl (fun ls hl => ?_)
  have hc_1 : ∀ (n : Nat) (y1_1 : Int32) (u1 : Nat → Nat → Int32) (H : Heap) (locs : List Loc), 0 ≤ y1_1.toInt → y1_1.toInt ≤ 6 → (6 - y1_1.toInt).toNat < n → Ir u1 → Fq v u1 → va_P (dC, dI) vwCl (wm ad cy u1) H → va_D A (wm ad cy u1) → va_S A s.heap H locs → ∀ ls : Array Slot, lv_has ls 6 [(1, .int y1_1), (0, .ref (ad 0))] → W p l e (headSpec wsX8_findHeads ({ frames := 0, cells := 0, slots := 0, locals := 0 })).room s m [Value.ref (ad 0)].toArray below meth c H locs 0 0 (MQ below (va_Qv (fun (u : Nat → Nat → Int32) => Ir u ∧ Fq v u) (fun u t => ex_Pst dC dI A (wm ad cy u) t) A) [Value.ref (ad 0)].toArray s 0 0 A) (F0 m 2 ls []) := by
    intro n
    induction n with
    | zero =>
      intro y1_1 u1 H locs ay1_1 by1_1 hm_1 hv hfr hP hD hS ls hl
      exact absurd hm_1 (by omega)
    | succ n ih_1 =>
      intro y1_1 u1 H locs ay1_1 by1_1 hm_1 hv hfr hP hD hS ls hl
      refine lv_iload_n hx hb dX8_findHeads_2 rfl (lv_at hl 0 rfl) ?_
      refine lv_aload_n hx hb dX8_findHeads_3 rfl (lv_at hl 1 rfl) ?_
      refine va_get (D := (dC, dI)) (ci := 8) (v := .ref (ad 1)) (C := RX8) (T := TX8) (N := 11) hx hb hts iwX8_findHeads_X8 hown hK hP (0) (wm_at (by decide) rc_0) rfl 0 (by decide) (hts (.fieldLink RX8 7 "QuietStairsModel" "s" "[I") fwX8_findHeads_1) (fun _ h9 => h9) rfl dX8_findHeads_4 ?_
      refine lv_iconst (v := 2) hx hb dX8_findHeads_7 (by decide) ?_
      have k_2 : (2 : Int32).toInt = 2 := by decide
      refine va_iald hx hb hK hP (1) 0 (wm_at (by decide) rc_1) rfl (by unfold vp_in; decide) dX8_findHeads_8 ?_
      refine lv_topi (fun x_2 ex_2 => ?_)
      have ex_2 : x_2 = u1 1 2 := ex_2
      have bzx_2 : 0 ≤ x_2.toInt ∧ x_2.toInt ≤ 6 := by rw [ex_2]; exact hv 1 _ 6 (show bS 2 = some 6 from by decide)
      refine lv_icmp_ge (tgt := 25) hx hb dX8_findHeads_9 (by decide) (fun c_3 => ?_) (fun c_3 => ?_)
      · have tc_3 : y1_1.toInt ≥ x_2.toInt := Int32.le_iff_toInt_le.mp c_3
        refine lv_iconst (v := 1) hx hb dX8_findHeads_25 (by decide) ?_
        refine lv_istore_n (lv' := [(1, .int 1), (0, .ref (ad 0))]) hx hb dX8_findHeads_26 rfl hl (by decide) rfl (fun ls hl => ?_)
        have hc_4 : ∀ (n : Nat) (y4_1 : Int32) (u4 : Nat → Nat → Int32) (H : Heap) (locs : List Loc), 0 ≤ y4_1.toInt → y4_1.toInt ≤ 1 → (hs (u4 3)).toNat + y4_1.toInt.toNat < n → Ir u4 → Fq v u4 → va_P (dC, dI) vwCl (wm ad cy u4) H → va_D A (wm ad cy u4) → va_S A s.heap H locs → ∀ ls : Array Slot, lv_has ls 6 [(1, .int y4_1), (0, .ref (ad 0))] → W p l e (headSpec wsX8_findHeads ({ frames := 0, cells := 0, slots := 0, locals := 0 })).room s m [Value.ref (ad 0)].toArray below meth c H locs 0 0 (MQ below (va_Qv (fun (u : Nat → Nat → Int32) => Ir u ∧ Fq v u) (fun u t => ex_Pst dC dI A (wm ad cy u) t) A) [Value.ref (ad 0)].toArray s 0 0 A) (F0 m 27 ls []) := by
          intro n
          induction n with
          | zero =>
            intro y4_1 u4 H locs ay4_1 by4_1 hm_4 hv hfr hP hD hS ls hl
            exact absurd hm_4 (by omega)
          | succ n ih_4 =>
            intro y4_1 u4 H locs ay4_1 by4_1 hm_4 hv hfr hP hD hS ls hl
            refine lv_iload_n hx hb dX8_findHeads_27 rfl (lv_at hl 0 rfl) ?_
            have k_0 : (0 : Int32).toInt = 0 := by decide
            refine lv_if_eq (tgt := 152) hx hb dX8_findHeads_28 (by decide) (fun c_5 => ?_) (fun c_5 => ?_)
            · have tc_5 : y4_1.toInt = (0 : Int32).toInt := by rw [c_5]
              exact W.vret hx hb hr (fun t ht hW => ⟨⟨u4, rfl, ⟨hv, hfr⟩, by rw [ht]; exact hP, hD⟩, hS.F ht⟩) hS.2.2 dX8_findHeads_152
            · have tc_5 : y4_1.toInt ≠ (0 : Int32).toInt := fun q => absurd (Int32.toInt_inj.mp q) c_5
              refine lv_iconst (v := 0) hx hb dX8_findHeads_31 (by decide) ?_
              refine lv_istore_n (lv' := [(1, .int 0), (0, .ref (ad 0))]) hx hb dX8_findHeads_32 rfl hl (by decide) rfl (fun ls hl => ?_)
              refine lv_iconst (v := 0) hx hb dX8_findHeads_33 (by decide) ?_
              refine lv_istore_n (lv' := [(2, .int 0), (1, .int 0), (0, .ref (ad 0))]) hx hb dX8_findHeads_34 rfl hl (by decide) rfl (fun ls hl => ?_)
              have hc_6 : ∀ (n : Nat) (y6_1 y6_2 : Int32) (u6 : Nat → Nat → Int32) (H : Heap) (locs : List Loc), 0 ≤ y6_1.toInt → y6_1.toInt ≤ 1 → 0 ≤ y6_2.toInt → y6_2.toInt ≤ 6 → (hs (u6 3) + y6_1.toInt ≤ hs (u4 3)) → (6 - y6_2.toInt).toNat < n → Ir u6 → Fq v u6 → va_P (dC, dI) vwCl (wm ad cy u6) H → va_D A (wm ad cy u6) → va_S A s.heap H locs → ∀ ls : Array Slot, lv_has ls 6 [(2, .int y6_2), (1, .int y6_1), (0, .ref (ad 0))] → W p l e (headSpec wsX8_findHeads ({ frames := 0, cells := 0, slots := 0, locals := 0 })).room s m [Value.ref (ad 0)].toArray below meth c H locs 0 0 (MQ below (va_Qv (fun (u : Nat → Nat → Int32) => Ir u ∧ Fq v u) (fun u t => ex_Pst dC dI A (wm ad cy u) t) A) [Value.ref (ad 0)].toArray s 0 0 A) (F0 m 35 ls []) := by
                intro n
                induction n with
                | zero =>
                  intro y6_1 y6_2 u6 H locs ay6_1 by6_1 ay6_2 by6_2 hi6_0 hm_6 hv hfr hP hD hS ls hl
                  exact absurd hm_6 (by omega)
                | succ n ih_6 =>
                  intro y6_1 y6_2 u6 H locs ay6_1 by6_1 ay6_2 by6_2 hi6_0 hm_6 hv hfr hP hD hS ls hl
                  refine lv_iload_n hx hb dX8_findHeads_35 rfl (lv_at hl 0 rfl) ?_
                  refine lv_aload_n hx hb dX8_findHeads_36 rfl (lv_at hl 2 rfl) ?_
                  refine va_get (D := (dC, dI)) (ci := 8) (v := .ref (ad 1)) (C := RX8) (T := TX8) (N := 11) hx hb hts iwX8_findHeads_X8 hown hK hP (0) (wm_at (by decide) rc_0) rfl 0 (by decide) (hts (.fieldLink RX8 7 "QuietStairsModel" "s" "[I") fwX8_findHeads_1) (fun _ h9 => h9) rfl dX8_findHeads_37 ?_
                  refine lv_iconst (v := 3) hx hb dX8_findHeads_40 (by decide) ?_
                  have k_3 : (3 : Int32).toInt = 3 := by decide
                  refine va_iald hx hb hK hP (1) 0 (wm_at (by decide) rc_1) rfl (by unfold vp_in; decide) dX8_findHeads_41 ?_
                  refine lv_topi (fun x_7 ex_7 => ?_)
                  have ex_7 : x_7 = u6 1 3 := ex_7
                  have bzx_7 : 0 ≤ x_7.toInt ∧ x_7.toInt ≤ 6 := by rw [ex_7]; exact hv 1 _ 6 (show bS 3 = some 6 from by decide)
                  refine lv_icmp_ge (tgt := 149) hx hb dX8_findHeads_42 (by decide) (fun c_8 => ?_) (fun c_8 => ?_)
                  · have tc_8 : y6_2.toInt ≥ x_7.toInt := Int32.le_iff_toInt_le.mp c_8
                    refine lv_goto (tgt := 27) hx hb dX8_findHeads_149 (by decide) ?_
                    exact ih_4 y6_1 u6 _ _ (by omega) (by omega) (by have z1 := hs_nn hv; omega) hv hfr hP hD hS ls (lv_sub hl [1, 2] rfl)
                  · have tc_8 : y6_2.toInt < x_7.toInt := Int32.lt_iff_toInt_lt.mp (Int32.not_le.mp c_8)
                    refine lv_aload_n hx hb dX8_findHeads_45 rfl (lv_at hl 2 rfl) ?_
                    refine va_get (D := (dC, dI)) (ci := 8) (v := .ref (ad 1)) (C := RX8) (T := TX8) (N := 11) hx hb hts iwX8_findHeads_X8 hown hK hP (0) (wm_at (by decide) rc_0) rfl 0 (by decide) (hts (.fieldLink RX8 7 "QuietStairsModel" "s" "[I") fwX8_findHeads_1) (fun _ h9 => h9) rfl dX8_findHeads_46 ?_
                    refine lv_sipush (v := 146) hx hb dX8_findHeads_49 (by decide) ?_
                    refine lv_iconst (v := 2) hx hb dX8_findHeads_52 (by decide) ?_
                    refine lv_iload_n hx hb dX8_findHeads_53 rfl (lv_at hl 0 rfl) ?_
                    refine lv_imul hx hb dX8_findHeads_54 ?_
                    refine lv_topi (fun x_9 ex_9 => ?_)
                    have tx_9 : x_9.toInt = 2 * y6_2.toInt := by rw [ex_9, t_mul (by rw [k_2]; omega), k_2]
                    refine lv_iadd hx hb dX8_findHeads_55 ?_
                    refine lv_topi (fun x_10 ex_10 => ?_)
                    have k_146 : (146 : Int32).toInt = 146 := by decide
                    have tx_10 : x_10.toInt = (146 : Int32).toInt + x_9.toInt := by rw [ex_10]; exact t_add ⟨by omega, by omega⟩
                    refine va_iald hx hb hK hP (1) 0 (wm_at (by decide) rc_1) rfl (vp_in_iff.mpr ⟨by omega, by omega⟩) dX8_findHeads_56 ?_
                    refine lv_topi (fun x_11 ex_11 => ?_)
                    have bzx_11 : 0 ≤ x_11.toInt ∧ x_11.toInt ≤ 5 := by rw [ex_11]; exact hv 1 _ 5 (bx_m ⟨by omega, by omega⟩)
                    refine lv_istore_n (lv' := [(3, .int x_11), (2, .int y6_2), (1, .int y6_1), (0, .ref (ad 0))]) hx hb dX8_findHeads_57 rfl hl (by decide) rfl (fun ls hl => ?_)
                    refine lv_aload_n hx hb dX8_findHeads_58 rfl (lv_at hl 3 rfl) ?_
                    refine va_get (D := (dC, dI)) (ci := 8) (v := .ref (ad 1)) (C := RX8) (T := TX8) (N := 11) hx hb hts iwX8_findHeads_X8 hown hK hP (0) (wm_at (by decide) rc_0) rfl 0 (by decide) (hts (.fieldLink RX8 7 "QuietStairsModel" "s" "[I") fwX8_findHeads_1) (fun _ h9 => h9) rfl dX8_findHeads_59 ?_
                    refine lv_sipush (v := 146) hx hb dX8_findHeads_62 (by decide) ?_
                    refine lv_iconst (v := 2) hx hb dX8_findHeads_65 (by decide) ?_
                    refine lv_iload_n hx hb dX8_findHeads_66 rfl (lv_at hl 1 rfl) ?_
                    refine lv_imul hx hb dX8_findHeads_67 ?_
                    refine lv_topi (fun x_12 ex_12 => ?_)
                    obtain rfl : x_9 = x_12 := ex_9.trans ex_12.symm
                    refine lv_iadd hx hb dX8_findHeads_68 ?_
                    refine lv_topi (fun x_13 ex_13 => ?_)
                    obtain rfl : x_10 = x_13 := ex_10.trans ex_13.symm
                    refine lv_iconst (v := 1) hx hb dX8_findHeads_69 (by decide) ?_
                    refine lv_iadd hx hb dX8_findHeads_70 ?_
                    refine lv_topi (fun x_14 ex_14 => ?_)
                    have k_1 : (1 : Int32).toInt = 1 := by decide
                    have tx_14 : x_14.toInt = x_10.toInt + (1 : Int32).toInt := by rw [ex_14]; exact t_add ⟨by omega, by omega⟩
                    refine va_iald hx hb hK hP (1) 0 (wm_at (by decide) rc_1) rfl (vp_in_iff.mpr ⟨by omega, by omega⟩) dX8_findHeads_71 ?_
                    refine lv_topi (fun x_15 ex_15 => ?_)
                    have bzx_15 : 0 ≤ x_15.toInt ∧ x_15.toInt ≤ 5 := by rw [ex_15]; exact hv 1 _ 5 (bx_m ⟨by omega, by omega⟩)
                    refine lv_istore (lv' := [(4, .int x_15), (3, .int x_11), (2, .int y6_2), (1, .int y6_1), (0, .ref (ad 0))]) hx hb dX8_findHeads_72 hl (by decide) rfl (fun ls hl => ?_)
                    refine lv_aload_n hx hb dX8_findHeads_74 rfl (lv_at hl 4 rfl) ?_
                    refine va_get (D := (dC, dI)) (ci := 8) (v := .ref (ad 3)) (C := RX8) (T := TX8) (N := 11) hx hb hts iwX8_findHeads_X8 hown hK hP (0) (wm_at (by decide) rc_0) rfl 4 (by decide) (hts (.fieldLink RX8 20 "QuietStairsModel" "headOf" "[I") fwX8_findHeads_2) (fun _ h9 => h9) rfl dX8_findHeads_75 ?_
                    refine lv_iload_n hx hb dX8_findHeads_78 rfl (lv_at hl 1 rfl) ?_
                    refine va_iald hx hb hK hP (3) 0 (wm_at (by decide) rc_3) rfl (vp_in_iff.mpr ⟨by omega, by omega⟩) dX8_findHeads_79 ?_
                    refine lv_topi (fun x_16 ex_16 => ?_)
                    have bzx_16 : 0 ≤ x_16.toInt ∧ x_16.toInt ≤ 5 := by rw [ex_16]; exact hv 3 _ 5 rfl
                    refine lv_aload_n hx hb dX8_findHeads_80 rfl (lv_at hl 4 rfl) ?_
                    refine va_get (D := (dC, dI)) (ci := 8) (v := .ref (ad 3)) (C := RX8) (T := TX8) (N := 11) hx hb hts iwX8_findHeads_X8 hown hK hP (0) (wm_at (by decide) rc_0) rfl 4 (by decide) (hts (.fieldLink RX8 20 "QuietStairsModel" "headOf" "[I") fwX8_findHeads_2) (fun _ h9 => h9) rfl dX8_findHeads_81 ?_
                    refine lv_iload hx hb dX8_findHeads_84 (lv_at hl 0 rfl) ?_
                    refine va_iald hx hb hK hP (3) 0 (wm_at (by decide) rc_3) rfl (vp_in_iff.mpr ⟨by omega, by omega⟩) dX8_findHeads_86 ?_
                    refine lv_topi (fun x_17 ex_17 => ?_)
                    have bzx_17 : 0 ≤ x_17.toInt ∧ x_17.toInt ≤ 5 := by rw [ex_17]; exact hv 3 _ 5 rfl
                    refine lv_icmp_eq (tgt := 143) hx hb dX8_findHeads_87 (by decide) (fun c_18 => ?_) (fun c_18 => ?_)
                    · have tc_18 : x_16.toInt = x_17.toInt := by rw [c_18]
                      obtain ⟨x_19, ex_19⟩ : ∃ y : Int32, y = y6_2 + 1 := ⟨_, rfl⟩
                      refine lv_iinc (v := x_19) (lv' := [(2, .int x_19), (4, .int x_15), (3, .int x_11), (1, .int y6_1), (0, .ref (ad 0))]) hx hb dX8_findHeads_143 hl (k := 2) rfl (by rw [ex_19]; rfl) (by decide) rfl (fun ls hl => ?_)
                      have tx_19 : x_19.toInt = y6_2.toInt + (1 : Int32).toInt := by rw [ex_19]; exact t_add ⟨by omega, by omega⟩
                      refine lv_goto (tgt := 35) hx hb dX8_findHeads_146 (by decide) ?_
                      exact ih_6 y6_1 x_19 u6 _ _ (by omega) (by omega) (by omega) (by omega) (hi6_0) (by omega) hv hfr hP hD hS ls (lv_sub hl [0, 3, 4] rfl)
                    · have tc_18 : x_16.toInt ≠ x_17.toInt := fun q => absurd (Int32.toInt_inj.mp q) c_18
                      refine lv_aload_n hx hb dX8_findHeads_90 rfl (lv_at hl 4 rfl) ?_
                      refine va_get (D := (dC, dI)) (ci := 8) (v := .ref (ad 3)) (C := RX8) (T := TX8) (N := 11) hx hb hts iwX8_findHeads_X8 hown hK hP (0) (wm_at (by decide) rc_0) rfl 4 (by decide) (hts (.fieldLink RX8 20 "QuietStairsModel" "headOf" "[I") fwX8_findHeads_2) (fun _ h9 => h9) rfl dX8_findHeads_91 ?_
                      refine lv_iload_n hx hb dX8_findHeads_94 rfl (lv_at hl 1 rfl) ?_
                      refine va_iald hx hb hK hP (3) 0 (wm_at (by decide) rc_3) rfl (vp_in_iff.mpr ⟨by omega, by omega⟩) dX8_findHeads_95 ?_
                      refine lv_topi (fun x_19 ex_19 => ?_)
                      obtain rfl : x_16 = x_19 := (ex_19.trans ex_16.symm).symm
                      refine lv_aload_n hx hb dX8_findHeads_96 rfl (lv_at hl 4 rfl) ?_
                      refine va_get (D := (dC, dI)) (ci := 8) (v := .ref (ad 3)) (C := RX8) (T := TX8) (N := 11) hx hb hts iwX8_findHeads_X8 hown hK hP (0) (wm_at (by decide) rc_0) rfl 4 (by decide) (hts (.fieldLink RX8 20 "QuietStairsModel" "headOf" "[I") fwX8_findHeads_2) (fun _ h9 => h9) rfl dX8_findHeads_97 ?_
                      refine lv_iload hx hb dX8_findHeads_100 (lv_at hl 0 rfl) ?_
                      refine va_iald hx hb hK hP (3) 0 (wm_at (by decide) rc_3) rfl (vp_in_iff.mpr ⟨by omega, by omega⟩) dX8_findHeads_102 ?_
                      refine lv_topi (fun x_20 ex_20 => ?_)
                      obtain rfl : x_17 = x_20 := (ex_20.trans ex_17.symm).symm
                      refine lv_icmp_ge (tgt := 115) hx hb dX8_findHeads_103 (by decide) (fun c_21 => ?_) (fun c_21 => ?_)
                      · have tc_21 : x_16.toInt ≥ x_17.toInt := Int32.le_iff_toInt_le.mp c_21
                        refine lv_aload_n hx hb dX8_findHeads_115 rfl (lv_at hl 4 rfl) ?_
                        refine va_get (D := (dC, dI)) (ci := 8) (v := .ref (ad 3)) (C := RX8) (T := TX8) (N := 11) hx hb hts iwX8_findHeads_X8 hown hK hP (0) (wm_at (by decide) rc_0) rfl 4 (by decide) (hts (.fieldLink RX8 20 "QuietStairsModel" "headOf" "[I") fwX8_findHeads_2) (fun _ h9 => h9) rfl dX8_findHeads_116 ?_
                        refine lv_iload hx hb dX8_findHeads_119 (lv_at hl 0 rfl) ?_
                        refine va_iald hx hb hK hP (3) 0 (wm_at (by decide) rc_3) rfl (vp_in_iff.mpr ⟨by omega, by omega⟩) dX8_findHeads_121 ?_
                        refine lv_topi (fun x_22 ex_22 => ?_)
                        obtain rfl : x_17 = x_22 := (ex_22.trans ex_17.symm).symm
                        refine lv_istore (lv' := [(5, .int x_17), (4, .int x_15), (3, .int x_11), (2, .int y6_2), (1, .int y6_1), (0, .ref (ad 0))]) hx hb dX8_findHeads_122 hl (by decide) rfl (fun ls hl => ?_)
                        refine lv_aload_n hx hb dX8_findHeads_124 rfl (lv_at hl 5 rfl) ?_
                        refine va_get (D := (dC, dI)) (ci := 8) (v := .ref (ad 3)) (C := RX8) (T := TX8) (N := 11) hx hb hts iwX8_findHeads_X8 hown hK hP (0) (wm_at (by decide) rc_0) rfl 4 (by decide) (hts (.fieldLink RX8 20 "QuietStairsModel" "headOf" "[I") fwX8_findHeads_2) (fun _ h9 => h9) rfl dX8_findHeads_125 ?_
                        refine lv_iload_n hx hb dX8_findHeads_128 rfl (lv_at hl 2 rfl) ?_
                        refine lv_iload hx hb dX8_findHeads_129 (lv_at hl 0 rfl) ?_
                        refine va_iast hx hb hK hP hD hS (3) 0 (wm_at (by decide) rc_3) rfl (vp_in_iff.mpr ⟨by omega, by omega⟩) dX8_findHeads_131 (fun H locs hP hD hS => ?_)
                        obtain ⟨v_23, ev_23⟩ : ∃ u : Nat → Nat → Int32, u = upr u6 3 (upd (u6 3) (x_11.toNatClampNeg) x_17) := ⟨_, rfl⟩
                        have hP : va_P (dC, dI) vwCl (wm ad cy v_23) H := by rw [ev_23, ← wm_put (e := _) rc_3]; exact hP
                        have hD : va_D A (wm ad cy v_23) := by rw [ev_23, ← wm_put (e := _) rc_3]; exact hD
                        have hv : Ir v_23 := by rw [ev_23]; exact hv.put (k := 3) (fun h q => by rw [(show br 3 _ = some 5 from rfl)] at q; cases q; exact ⟨by omega, by omega⟩)
                        have hfr : Fq v v_23 := by rw [ev_23]; exact hfr.row (by decide)
                        refine lv_aload_n hx hb dX8_findHeads_132 rfl (lv_at hl 5 rfl) ?_
                        refine va_get (D := (dC, dI)) (ci := 8) (v := .ref (ad 3)) (C := RX8) (T := TX8) (N := 11) hx hb hts iwX8_findHeads_X8 hown hK hP (0) (wm_at (by decide) rc_0) rfl 4 (by decide) (hts (.fieldLink RX8 20 "QuietStairsModel" "headOf" "[I") fwX8_findHeads_2) (fun _ h9 => h9) rfl dX8_findHeads_133 ?_
                        refine lv_iload hx hb dX8_findHeads_136 (lv_at hl 1 rfl) ?_
                        refine lv_iload hx hb dX8_findHeads_138 (lv_at hl 0 rfl) ?_
                        refine va_iast hx hb hK hP hD hS (3) 0 (wm_at (by decide) rc_3) rfl (vp_in_iff.mpr ⟨by omega, by omega⟩) dX8_findHeads_140 (fun H locs hP hD hS => ?_)
                        obtain ⟨v_24, ev_24⟩ : ∃ u : Nat → Nat → Int32, u = upr v_23 3 (upd (v_23 3) (x_15.toNatClampNeg) x_17) := ⟨_, rfl⟩
                        have hP : va_P (dC, dI) vwCl (wm ad cy v_24) H := by rw [ev_24, ← wm_put (e := _) rc_3]; exact hP
                        have hD : va_D A (wm ad cy v_24) := by rw [ev_24, ← wm_put (e := _) rc_3]; exact hD
                        have hv : Ir v_24 := by rw [ev_24]; exact hv.put (k := 3) (fun h q => by rw [(show br 3 _ = some 5 from rfl)] at q; cases q; exact ⟨by omega, by omega⟩)
                        have hfr : Fq v v_24 := by rw [ev_24]; exact hfr.row (by decide)
                        refine lv_iconst (v := 1) hx hb dX8_findHeads_141 (by decide) ?_
                        refine lv_istore_n (lv' := [(1, .int 1), (5, .int x_17), (4, .int x_15), (3, .int x_11), (2, .int y6_2), (0, .ref (ad 0))]) hx hb dX8_findHeads_142 rfl hl (by decide) rfl (fun ls hl => ?_)
                        obtain ⟨x_25, ex_25⟩ : ∃ y : Int32, y = y6_2 + 1 := ⟨_, rfl⟩
                        refine lv_iinc (v := x_25) (lv' := [(2, .int x_25), (1, .int 1), (5, .int x_17), (4, .int x_15), (3, .int x_11), (0, .ref (ad 0))]) hx hb dX8_findHeads_143 hl (k := 4) rfl (by rw [ex_25]; rfl) (by decide) rfl (fun ls hl => ?_)
                        have tx_25 : x_25.toInt = y6_2.toInt + (1 : Int32).toInt := by rw [ex_25]; exact t_add ⟨by omega, by omega⟩
                        refine lv_goto (tgt := 35) hx hb dX8_findHeads_146 (by decide) ?_
                        exact ih_6 1 x_25 v_24 _ _ (by omega) (by omega) (by omega) (by omega) (by have z1 := hs_2 (v := u6) (a := x_11) (b := x_15) (x := x_17) ⟨by omega, by omega⟩ ⟨by omega, by omega⟩ ex_16 ex_17 (by omega) (by omega) (by omega); rw [ev_24, upr_s, ev_23, upr_s]; have z2 := hi6_0; omega) (by omega) hv hfr hP hD hS ls (lv_sub hl [0, 1, 5] rfl)
                      · have tc_21 : x_16.toInt < x_17.toInt := Int32.lt_iff_toInt_lt.mp (Int32.not_le.mp c_21)
                        refine lv_aload_n hx hb dX8_findHeads_106 rfl (lv_at hl 4 rfl) ?_
                        refine va_get (D := (dC, dI)) (ci := 8) (v := .ref (ad 3)) (C := RX8) (T := TX8) (N := 11) hx hb hts iwX8_findHeads_X8 hown hK hP (0) (wm_at (by decide) rc_0) rfl 4 (by decide) (hts (.fieldLink RX8 20 "QuietStairsModel" "headOf" "[I") fwX8_findHeads_2) (fun _ h9 => h9) rfl dX8_findHeads_107 ?_
                        refine lv_iload_n hx hb dX8_findHeads_110 rfl (lv_at hl 1 rfl) ?_
                        refine va_iald hx hb hK hP (3) 0 (wm_at (by decide) rc_3) rfl (vp_in_iff.mpr ⟨by omega, by omega⟩) dX8_findHeads_111 ?_
                        refine lv_topi (fun x_22 ex_22 => ?_)
                        obtain rfl : x_16 = x_22 := (ex_22.trans ex_16.symm).symm
                        refine lv_goto (tgt := 122) hx hb dX8_findHeads_112 (by decide) ?_
                        refine lv_istore (lv' := [(5, .int x_16), (4, .int x_15), (3, .int x_11), (2, .int y6_2), (1, .int y6_1), (0, .ref (ad 0))]) hx hb dX8_findHeads_122 hl (by decide) rfl (fun ls hl => ?_)
                        refine lv_aload_n hx hb dX8_findHeads_124 rfl (lv_at hl 5 rfl) ?_
                        refine va_get (D := (dC, dI)) (ci := 8) (v := .ref (ad 3)) (C := RX8) (T := TX8) (N := 11) hx hb hts iwX8_findHeads_X8 hown hK hP (0) (wm_at (by decide) rc_0) rfl 4 (by decide) (hts (.fieldLink RX8 20 "QuietStairsModel" "headOf" "[I") fwX8_findHeads_2) (fun _ h9 => h9) rfl dX8_findHeads_125 ?_
                        refine lv_iload_n hx hb dX8_findHeads_128 rfl (lv_at hl 2 rfl) ?_
                        refine lv_iload hx hb dX8_findHeads_129 (lv_at hl 0 rfl) ?_
                        refine va_iast hx hb hK hP hD hS (3) 0 (wm_at (by decide) rc_3) rfl (vp_in_iff.mpr ⟨by omega, by omega⟩) dX8_findHeads_131 (fun H locs hP hD hS => ?_)
                        obtain ⟨v_23, ev_23⟩ : ∃ u : Nat → Nat → Int32, u = upr u6 3 (upd (u6 3) (x_11.toNatClampNeg) x_16) := ⟨_, rfl⟩
                        have hP : va_P (dC, dI) vwCl (wm ad cy v_23) H := by rw [ev_23, ← wm_put (e := _) rc_3]; exact hP
                        have hD : va_D A (wm ad cy v_23) := by rw [ev_23, ← wm_put (e := _) rc_3]; exact hD
                        have hv : Ir v_23 := by rw [ev_23]; exact hv.put (k := 3) (fun h q => by rw [(show br 3 _ = some 5 from rfl)] at q; cases q; exact ⟨by omega, by omega⟩)
                        have hfr : Fq v v_23 := by rw [ev_23]; exact hfr.row (by decide)
                        refine lv_aload_n hx hb dX8_findHeads_132 rfl (lv_at hl 5 rfl) ?_
                        refine va_get (D := (dC, dI)) (ci := 8) (v := .ref (ad 3)) (C := RX8) (T := TX8) (N := 11) hx hb hts iwX8_findHeads_X8 hown hK hP (0) (wm_at (by decide) rc_0) rfl 4 (by decide) (hts (.fieldLink RX8 20 "QuietStairsModel" "headOf" "[I") fwX8_findHeads_2) (fun _ h9 => h9) rfl dX8_findHeads_133 ?_
                        refine lv_iload hx hb dX8_findHeads_136 (lv_at hl 1 rfl) ?_
                        refine lv_iload hx hb dX8_findHeads_138 (lv_at hl 0 rfl) ?_
                        refine va_iast hx hb hK hP hD hS (3) 0 (wm_at (by decide) rc_3) rfl (vp_in_iff.mpr ⟨by omega, by omega⟩) dX8_findHeads_140 (fun H locs hP hD hS => ?_)
                        obtain ⟨v_24, ev_24⟩ : ∃ u : Nat → Nat → Int32, u = upr v_23 3 (upd (v_23 3) (x_15.toNatClampNeg) x_16) := ⟨_, rfl⟩
                        have hP : va_P (dC, dI) vwCl (wm ad cy v_24) H := by rw [ev_24, ← wm_put (e := _) rc_3]; exact hP
                        have hD : va_D A (wm ad cy v_24) := by rw [ev_24, ← wm_put (e := _) rc_3]; exact hD
                        have hv : Ir v_24 := by rw [ev_24]; exact hv.put (k := 3) (fun h q => by rw [(show br 3 _ = some 5 from rfl)] at q; cases q; exact ⟨by omega, by omega⟩)
                        have hfr : Fq v v_24 := by rw [ev_24]; exact hfr.row (by decide)
                        refine lv_iconst (v := 1) hx hb dX8_findHeads_141 (by decide) ?_
                        refine lv_istore_n (lv' := [(1, .int 1), (5, .int x_16), (4, .int x_15), (3, .int x_11), (2, .int y6_2), (0, .ref (ad 0))]) hx hb dX8_findHeads_142 rfl hl (by decide) rfl (fun ls hl => ?_)
                        obtain ⟨x_25, ex_25⟩ : ∃ y : Int32, y = y6_2 + 1 := ⟨_, rfl⟩
                        refine lv_iinc (v := x_25) (lv' := [(2, .int x_25), (1, .int 1), (5, .int x_16), (4, .int x_15), (3, .int x_11), (0, .ref (ad 0))]) hx hb dX8_findHeads_143 hl (k := 4) rfl (by rw [ex_25]; rfl) (by decide) rfl (fun ls hl => ?_)
                        have tx_25 : x_25.toInt = y6_2.toInt + (1 : Int32).toInt := by rw [ex_25]; exact t_add ⟨by omega, by omega⟩
                        refine lv_goto (tgt := 35) hx hb dX8_findHeads_146 (by decide) ?_
                        exact ih_6 1 x_25 v_24 _ _ (by omega) (by omega) (by omega) (by omega) (by have z1 := hs_2 (v := u6) (a := x_11) (b := x_15) (x := x_16) ⟨by omega, by omega⟩ ⟨by omega, by omega⟩ ex_16 ex_17 (by omega) (by omega) (by omega); rw [ev_24, upr_s, ev_23, upr_s]; have z2 := hi6_0; omega) (by omega) hv hfr hP hD hS ls (lv_sub hl [0, 1, 5] rfl)
              exact hc_6 ((6 - (0 : Int32).toInt).toNat + 1) 0 0 u4 _ _ (by omega) (by omega) (by omega) (by omega) (by omega) (by omega) hv hfr hP hD hS ls (lv_sub hl [0, 1, 2] rfl)
        have k_1 : (1 : Int32).toInt = 1 := by decide
        exact hc_4 ((hs (u1 3)).toNat + (1 : Int32).toInt.toNat + 1) 1 u1 _ _ (by omega) (by omega) (by omega) hv hfr hP hD hS ls (lv_sub hl [0, 1] rfl)
      · have tc_3 : y1_1.toInt < x_2.toInt := Int32.lt_iff_toInt_lt.mp (Int32.not_le.mp c_3)
        refine lv_aload_n hx hb dX8_findHeads_12 rfl (lv_at hl 1 rfl) ?_
        refine va_get (D := (dC, dI)) (ci := 8) (v := .ref (ad 3)) (C := RX8) (T := TX8) (N := 11) hx hb hts iwX8_findHeads_X8 hown hK hP (0) (wm_at (by decide) rc_0) rfl 4 (by decide) (hts (.fieldLink RX8 20 "QuietStairsModel" "headOf" "[I") fwX8_findHeads_2) (fun _ h9 => h9) rfl dX8_findHeads_13 ?_
        refine lv_iload_n hx hb dX8_findHeads_16 rfl (lv_at hl 0 rfl) ?_
        refine lv_iload_n hx hb dX8_findHeads_17 rfl (lv_at hl 0 rfl) ?_
        refine va_iast hx hb hK hP hD hS (3) 0 (wm_at (by decide) rc_3) rfl (vp_in_iff.mpr ⟨by omega, by omega⟩) dX8_findHeads_18 (fun H locs hP hD hS => ?_)
        obtain ⟨v_4, ev_4⟩ : ∃ u : Nat → Nat → Int32, u = upr u1 3 (upd (u1 3) (y1_1.toNatClampNeg) y1_1) := ⟨_, rfl⟩
        have hP : va_P (dC, dI) vwCl (wm ad cy v_4) H := by rw [ev_4, ← wm_put (e := _) rc_3]; exact hP
        have hD : va_D A (wm ad cy v_4) := by rw [ev_4, ← wm_put (e := _) rc_3]; exact hD
        have hv : Ir v_4 := by rw [ev_4]; exact hv.put (k := 3) (fun h q => by rw [(show br 3 _ = some 5 from rfl)] at q; cases q; exact ⟨by omega, by omega⟩)
        have hfr : Fq v v_4 := by rw [ev_4]; exact hfr.row (by decide)
        obtain ⟨x_5, ex_5⟩ : ∃ y : Int32, y = y1_1 + 1 := ⟨_, rfl⟩
        refine lv_iinc (v := x_5) (lv' := [(1, .int x_5), (0, .ref (ad 0))]) hx hb dX8_findHeads_19 hl (k := 0) rfl (by rw [ex_5]; rfl) (by decide) rfl (fun ls hl => ?_)
        have k_1 : (1 : Int32).toInt = 1 := by decide
        have tx_5 : x_5.toInt = y1_1.toInt + (1 : Int32).toInt := by rw [ex_5]; exact t_add ⟨by omega, by omega⟩
        refine lv_goto (tgt := 2) hx hb dX8_findHeads_22 (by decide) ?_
        exact ih_1 x_5 v_4 _ _ (by omega) (by omega) (by omega) hv hfr hP hD hS ls (lv_sub hl [0, 1] rfl)
  have k_0 : (0 : Int32).toInt = 0 := by decide
  exact hc_1 ((6 - (0 : Int32).toInt).toNat + 1) 0 v _ _ (by omega) (by omega) (by omega) hv hfr hP hD hS ls (lv_sub hl [0, 1] rfl)

set_option maxHeartbeats 4000000 in
set_option maxRecDepth 100000 in
theorem q_X8_of (l : Launch) (dC : Nat → ClassId) (dI : Nat → Nat → Nat) (cy : Nat → ClassId) (sz : Nat) (ad : Nat → Nat) (v : Nat → Nat → Int32) (hv : Ir v) (x0 x1 : Int32) : Met l yX8_of wsX8_of ({ frames := 2, cells := 0, slots := 0, locals := 128 }) (va_Pc [.ref (ad 0), .int x0, .int x1] (ex_Pre dC dI cy sz (wm ad cy v))) (va_Qi (fun (r : Int32) (u : Nat → Nat → Int32) => Ir u ∧ Fq v u) (fun u t => ex_Pst dC dI (va_A (wm ad cy v) sz) (wm ad cy u) t) (va_A (wm ad cy v) sz)) 0 0 (va_A (wm ad cy v) sz) := by
  refine Met.ofW (cc := cX8_of) (maxL := 3) (ret := (some .int)) (by decide) rfl ?_
  intro p e s m args below meth c s₁ B hml hv
  obtain ⟨rfl, hsz, hE, hP, hK, hD0⟩ := hv
  have hx := B.exec
  have hb := B.bytes
  have hr := B.returns
  have hts := atoms_spec (ws := wsX8_of) B.pre
  have hown : s.vm.findClass RX8 = some m.cls := findClass_of_methodNamed B.named
  have hlocks := B.notSynchronized
  subst hsz
  have hD := hD0.self (sz := s.heap.size)
  generalize hAe : va_A (wm ad cy v) s.heap.size = A at hD ⊢
  have hA : ∀ q : Nat, s.heap.size ≤ q → A q := fun q h => by rw [← hAe]; exact Or.inr h
  have hS : va_S A s.heap s.heap [] := va_S.rf
  have hP : va_P (dC, dI) vwCl (wm ad cy v) s.heap := hP
  have hl := lv_entry ([.ref (ad 0), .int x0, .int x1]) (n := 3) (Nat.le_of_ble_eq_true rfl)
  rw [lg_entry_eq]
  generalize (lg_sl ([.ref (ad 0), .int x0, .int x1]) ++ List.replicate (3 - (lg_sl ([.ref (ad 0), .int x0, .int x1])).length) Slot.unset).toArray = ls at hl ⊢
  have hl : lv_has ls 3 [(0, .ref (ad 0)), (1, .int x0), (2, .int x1)] := hl
  have hfr : Fq v v := Fq.rf
  refine lv_aload_n hx hb dX8_of_0 rfl (lv_at hl 0 rfl) ?_
  refine lv_iload_n hx hb dX8_of_1 rfl (lv_at hl 1 rfl) ?_
  refine yw_i (w1 := fun (u : Nat → Nat → Int32) => wm ad cy u) hD hS hA (va_runV (As := [.int x0]) (rest := []) ⟨hx, hb, hml, hown, hts⟩ (q_X8_isCase l dC dI cy _ ad v hv x0) (cwV 1 hts gX8_of_X8_isCase rfl rfl rfl hd_V_X8_isCase_1 ⟨Nat.le_of_ble_eq_true rfl, Nat.le_of_ble_eq_true rfl⟩) (yw_preV hE hK hP hD (ci := 8) (q := (RX8, TX8, 11)) (q0 := 0) rfl (wm_at (by decide) rc_0)) rfl rfl hl.1 rfl (lv_room (Nat.le_of_ble_eq_true rfl)) dX8_of_2 ⟨Nat.le_of_ble_eq_true rfl, Nat.le_of_ble_eq_true rfl⟩) (fun r_1 v_1 H locs hw_1 hP hD hS => ?_)
  obtain ⟨-, hu_1, hw_1⟩ := hw_1
  replace hu_1 := hu_1.symm
  subst hu_1
  rcases hw_1 with ⟨rfl, ha_2⟩ | ⟨rfl, ha_2⟩
  · have hb_2 := hv 1 2 6 (by decide)
    have hj_2 : 0 ≤ x0.toInt ∧ x0.toInt ≤ 5 := ⟨by omega, by omega⟩
    refine lv_if_eq (tgt := 18) hx hb dX8_of_5 (by decide) (fun c9 => absurd c9 (by decide)) (fun _ => ?_)
    refine lv_iload_n hx hb dX8_of_8 rfl (lv_at hl 2 rfl) ?_
    refine lv_iconst (v := 0) hx hb dX8_of_9 (by decide) ?_
    refine lv_bipush (v := 7) hx hb dX8_of_10 (by decide) ?_
    refine yc_p hP hS (va_runS (As := [.int x1, .int 0, .int 7]) (rest := []) ⟨hx, hb, hml, hown, hts⟩ (c_X8_in l x1 0 7) (cwS 3 hts gX8_of_X8_in rfl rfl rfl hd_S_X8_in_3 ⟨Nat.le_of_ble_eq_true rfl, Nat.le_of_ble_eq_true rfl⟩) ex_preP rfl rfl hl.1 rfl (lv_room (Nat.le_of_ble_eq_true rfl)) dX8_of_12 ⟨Nat.le_of_ble_eq_true rfl, Nat.le_of_ble_eq_true rfl⟩) (fun r_3 H locs hw_3 hP hS => ?_)
    rcases wi_ca hw_3 with ⟨rfl, hc_4⟩ | ⟨rfl, hc_4⟩
    · have k_0 : (0 : Int32).toInt = 0 := by decide
      have k_7 : (7 : Int32).toInt = 7 := by decide
      have tc_4 := wi_tl hc_4
      refine lv_if_ne (tgt := 20) hx hb dX8_of_15 (by decide) (fun _ => ?_) (fun c9 => absurd c9 (by decide))
      refine lv_iload_n hx hb dX8_of_20 rfl (lv_at hl 2 rfl) ?_
      refine lv_iconst (v := 5) hx hb dX8_of_21 (by decide) ?_
      have k_5 : (5 : Int32).toInt = 5 := by decide
      refine lv_icmp_eq (tgt := 31) hx hb dX8_of_22 (by decide) (fun c_5 => ?_) (fun c_5 => ?_)
      · have tc_5 : x1.toInt = (5 : Int32).toInt := by rw [c_5]
        refine lv_aload_n hx hb dX8_of_31 rfl (lv_at hl 0 rfl) ?_
        refine yw_v (w1 := fun (u : Nat → Nat → Int32) => wm ad cy u) hD hS hA (va_runV (As := []) (rest := []) ⟨hx, hb, hml, hown, hts⟩ (q_X8_findHeads l dC dI cy _ ad v hv ) (cwV 0 hts gX8_of_X8_findHeads rfl rfl rfl hd_V_X8_findHeads_0 ⟨Nat.le_of_ble_eq_true rfl, Nat.le_of_ble_eq_true rfl⟩) (yw_preV hE hK hP hD (ci := 8) (q := (RX8, TX8, 11)) (q0 := 0) rfl (wm_at (by decide) rc_0)) rfl rfl hl.1 rfl (lv_room (Nat.le_of_ble_eq_true rfl)) dX8_of_32 ⟨Nat.le_of_ble_eq_true rfl, Nat.le_of_ble_eq_true rfl⟩) (fun v_6 H locs hw_6 hP hD hS => ?_)
        obtain ⟨hv, hf_6⟩ := hw_6
        have hfr : Fq v v_6 := hfr.trans hf_6
        refine lv_iload_n hx hb dX8_of_35 rfl (lv_at hl 2 rfl) ?_
        refine lv_iconst (v := 5) hx hb dX8_of_36 (by decide) ?_
        refine lv_icmp_ne (tgt := 49) hx hb dX8_of_37 (by decide) (fun c_7 => ?_) (fun c_7 => ?_)
        · have tc_7 : x1.toInt ≠ (5 : Int32).toInt := fun q => absurd (Int32.toInt_inj.mp q) c_7
          exfalso
          omega
        · have tc_7 : x1.toInt = (5 : Int32).toInt := by rw [c_7]
          refine lv_aload_n hx hb dX8_of_40 rfl (lv_at hl 0 rfl) ?_
          refine va_get (D := (dC, dI)) (ci := 8) (v := .ref (ad 3)) (C := RX8) (T := TX8) (N := 11) hx hb hts iwX8_of_X8 hown hK hP (0) (wm_at (by decide) rc_0) rfl 4 (by decide) (hts (.fieldLink RX8 20 "QuietStairsModel" "headOf" "[I") fwX8_of_1) (fun _ h9 => h9) rfl dX8_of_41 ?_
          refine lv_iload_n hx hb dX8_of_44 rfl (lv_at hl 1 rfl) ?_
          refine va_iald hx hb hK hP (3) 0 (wm_at (by decide) rc_3) rfl (vp_in_iff.mpr ⟨by omega, by omega⟩) dX8_of_45 ?_
          refine lv_topi (fun x_8 ex_8 => ?_)
          have bzx_8 : 0 ≤ x_8.toInt ∧ x_8.toInt ≤ 5 := by rw [ex_8]; exact hv 3 _ 5 rfl
          refine lv_goto (tgt := 54) hx hb dX8_of_46 (by decide) ?_
          exact W.iret (v := x_8) hx hb hr (fun t ht hW => ⟨⟨x_8, v_6, rfl, ⟨hv, hfr⟩, by rw [ht]; exact hP, hD⟩, hS.F ht⟩) hS.2.2 dX8_of_54
      · have tc_5 : x1.toInt ≠ (5 : Int32).toInt := fun q => absurd (Int32.toInt_inj.mp q) c_5
        refine lv_iload_n hx hb dX8_of_25 rfl (lv_at hl 2 rfl) ?_
        refine lv_bipush (v := 6) hx hb dX8_of_26 (by decide) ?_
        have k_6 : (6 : Int32).toInt = 6 := by decide
        refine lv_icmp_ne (tgt := 55) hx hb dX8_of_28 (by decide) (fun c_6 => ?_) (fun c_6 => ?_)
        · have tc_6 : x1.toInt ≠ (6 : Int32).toInt := fun q => absurd (Int32.toInt_inj.mp q) c_6
          refine lv_aload_n hx hb dX8_of_55 rfl (lv_at hl 0 rfl) ?_
          refine va_get (D := (dC, dI)) (ci := 8) (v := .ref (ad 1)) (C := RX8) (T := TX8) (N := 11) hx hb hts iwX8_of_X8 hown hK hP (0) (wm_at (by decide) rc_0) rfl 0 (by decide) (hts (.fieldLink RX8 7 "QuietStairsModel" "s" "[I") fwX8_of_2) (fun _ h9 => h9) rfl dX8_of_56 ?_
          refine lv_iload_n hx hb dX8_of_59 rfl (lv_at hl 1 rfl) ?_
          refine lv_iload_n hx hb dX8_of_60 rfl (lv_at hl 2 rfl) ?_
          refine lv_bipush (v := 7) hx hb dX8_of_61 (by decide) ?_
          refine lv_icmp_ne (tgt := 70) hx hb dX8_of_63 (by decide) (fun c_7 => ?_) (fun c_7 => ?_)
          · have tc_7 : x1.toInt ≠ (7 : Int32).toInt := fun q => absurd (Int32.toInt_inj.mp q) c_7
            refine lv_iload_n hx hb dX8_of_70 rfl (lv_at hl 2 rfl) ?_
            refine yc_p hP hS (va_runS (As := [.int x0, .int x1]) (rest := [.ref (ad 1)]) ⟨hx, hb, hml, hown, hts⟩ (c_X8_at l x0 x1) (cwS 2 hts gX8_of_X8_at rfl rfl rfl hd_S_X8_at_2 ⟨Nat.le_of_ble_eq_true rfl, Nat.le_of_ble_eq_true rfl⟩) ex_preP rfl rfl hl.1 rfl (lv_room (Nat.le_of_ble_eq_true rfl)) dX8_of_71 ⟨Nat.le_of_ble_eq_true rfl, Nat.le_of_ble_eq_true rfl⟩) (fun r_8 H locs hw_8 hP hS => ?_)
            have tr_8 : r_8.toInt = 32 + 7 * x0.toInt + x1.toInt := t_at hw_8 ⟨by omega, by omega⟩ ⟨by omega, by omega⟩
            refine va_iald hx hb hK hP (1) 0 (wm_at (by decide) rc_1) rfl (vp_in_iff.mpr ⟨by omega, by omega⟩) dX8_of_74 ?_
            refine lv_topi (fun x_9 ex_9 => ?_)
            exact W.iret (v := x_9) hx hb hr (fun t ht hW => ⟨⟨x_9, v, rfl, ⟨hv, hfr⟩, by rw [ht]; exact hP, hD⟩, hS.F ht⟩) hS.2.2 dX8_of_75
          · have tc_7 : x1.toInt = (7 : Int32).toInt := by rw [c_7]
            refine lv_iconst (v := 5) hx hb dX8_of_66 (by decide) ?_
            refine lv_goto (tgt := 71) hx hb dX8_of_67 (by decide) ?_
            refine yc_p hP hS (va_runS (As := [.int x0, .int 5]) (rest := [.ref (ad 1)]) ⟨hx, hb, hml, hown, hts⟩ (c_X8_at l x0 5) (cwS 2 hts gX8_of_X8_at rfl rfl rfl hd_S_X8_at_2 ⟨Nat.le_of_ble_eq_true rfl, Nat.le_of_ble_eq_true rfl⟩) ex_preP rfl rfl hl.1 rfl (lv_room (Nat.le_of_ble_eq_true rfl)) dX8_of_71 ⟨Nat.le_of_ble_eq_true rfl, Nat.le_of_ble_eq_true rfl⟩) (fun r_8 H locs hw_8 hP hS => ?_)
            have tr_8 : r_8.toInt = 32 + 7 * x0.toInt + (5 : Int32).toInt := t_at hw_8 ⟨by omega, by omega⟩ ⟨by omega, by omega⟩
            refine va_iald hx hb hK hP (1) 0 (wm_at (by decide) rc_1) rfl (vp_in_iff.mpr ⟨by omega, by omega⟩) dX8_of_74 ?_
            refine lv_topi (fun x_9 ex_9 => ?_)
            exact W.iret (v := x_9) hx hb hr (fun t ht hW => ⟨⟨x_9, v, rfl, ⟨hv, hfr⟩, by rw [ht]; exact hP, hD⟩, hS.F ht⟩) hS.2.2 dX8_of_75
        · have tc_6 : x1.toInt = (6 : Int32).toInt := by rw [c_6]
          refine lv_aload_n hx hb dX8_of_31 rfl (lv_at hl 0 rfl) ?_
          refine yw_v (w1 := fun (u : Nat → Nat → Int32) => wm ad cy u) hD hS hA (va_runV (As := []) (rest := []) ⟨hx, hb, hml, hown, hts⟩ (q_X8_findHeads l dC dI cy _ ad v hv ) (cwV 0 hts gX8_of_X8_findHeads rfl rfl rfl hd_V_X8_findHeads_0 ⟨Nat.le_of_ble_eq_true rfl, Nat.le_of_ble_eq_true rfl⟩) (yw_preV hE hK hP hD (ci := 8) (q := (RX8, TX8, 11)) (q0 := 0) rfl (wm_at (by decide) rc_0)) rfl rfl hl.1 rfl (lv_room (Nat.le_of_ble_eq_true rfl)) dX8_of_32 ⟨Nat.le_of_ble_eq_true rfl, Nat.le_of_ble_eq_true rfl⟩) (fun v_7 H locs hw_7 hP hD hS => ?_)
          obtain ⟨hv, hf_7⟩ := hw_7
          have hfr : Fq v v_7 := hfr.trans hf_7
          refine lv_iload_n hx hb dX8_of_35 rfl (lv_at hl 2 rfl) ?_
          refine lv_iconst (v := 5) hx hb dX8_of_36 (by decide) ?_
          refine lv_icmp_ne (tgt := 49) hx hb dX8_of_37 (by decide) (fun c_8 => ?_) (fun c_8 => ?_)
          · have tc_8 : x1.toInt ≠ (5 : Int32).toInt := fun q => absurd (Int32.toInt_inj.mp q) c_8
            refine lv_aload_n hx hb dX8_of_49 rfl (lv_at hl 0 rfl) ?_
            refine lv_iload_n hx hb dX8_of_50 rfl (lv_at hl 1 rfl) ?_
            refine yw_i (w1 := fun (u : Nat → Nat → Int32) => wm ad cy u) hD hS hA (va_runV (As := [.int x0]) (rest := []) ⟨hx, hb, hml, hown, hts⟩ (q_X8_joined l dC dI cy _ ad v_7 hv x0 ⟨by omega, by omega⟩) (cwV 1 hts gX8_of_X8_joined rfl rfl rfl hd_V_X8_joined_1 ⟨Nat.le_of_ble_eq_true rfl, Nat.le_of_ble_eq_true rfl⟩) (yw_preV hE hK hP hD (ci := 8) (q := (RX8, TX8, 11)) (q0 := 0) rfl (wm_at (by decide) rc_0)) rfl rfl hl.1 rfl (lv_room (Nat.le_of_ble_eq_true rfl)) dX8_of_51 ⟨Nat.le_of_ble_eq_true rfl, Nat.le_of_ble_eq_true rfl⟩) (fun r_9 v_9 H locs hw_9 hP hD hS => ?_)
            obtain ⟨-, hw_9⟩ := hw_9
            replace hw_9 := hw_9.symm
            subst hw_9
            exact W.iret (v := r_9) hx hb hr (fun t ht hW => ⟨⟨r_9, v_7, rfl, ⟨hv, hfr⟩, by rw [ht]; exact hP, hD⟩, hS.F ht⟩) hS.2.2 dX8_of_54
          · have tc_8 : x1.toInt = (5 : Int32).toInt := by rw [c_8]
            exfalso
            omega
    · have k_0 : (0 : Int32).toInt = 0 := by decide
      have k_7 : (7 : Int32).toInt = 7 := by decide
      have tc_4 : ¬ ((0 : Int32).toInt ≤ x1.toInt ∧ x1.toInt ≤ (7 : Int32).toInt) := fun q => hc_4 ⟨Int32.le_iff_toInt_le.mpr q.1, Int32.le_iff_toInt_le.mpr q.2⟩
      refine lv_if_ne (tgt := 20) hx hb dX8_of_15 (by decide) (fun c9 => absurd c9 (by decide)) (fun _ => ?_)
      refine lv_iconst (v := (-1)) hx hb dX8_of_18 (by decide) ?_
      exact W.iret (v := (-1)) hx hb hr (fun t ht hW => ⟨⟨(-1), v, rfl, ⟨hv, hfr⟩, by rw [ht]; exact hP, hD⟩, hS.F ht⟩) hS.2.2 dX8_of_19
  · refine lv_if_eq (tgt := 18) hx hb dX8_of_5 (by decide) (fun _ => ?_) (fun c9 => absurd c9 (by decide))
    refine lv_iconst (v := (-1)) hx hb dX8_of_18 (by decide) ?_
    exact W.iret (v := (-1)) hx hb hr (fun t ht hW => ⟨⟨(-1), v, rfl, ⟨hv, hfr⟩, by rw [ht]; exact hP, hD⟩, hS.F ht⟩) hS.2.2 dX8_of_19

set_option maxHeartbeats 4000000 in
set_option maxRecDepth 100000 in
theorem q_X8_quarrels (l : Launch) (dC : Nat → ClassId) (dI : Nat → Nat → Nat) (cy : Nat → ClassId) (sz : Nat) (ad : Nat → Nat) (v : Nat → Nat → Int32) (hv : Ir v)  : Met l yX8_quarrels wsX8_quarrels ({ frames := 1, cells := 0, slots := 0, locals := 64 }) (va_Pc [.ref (ad 0)] (ex_Pre dC dI cy sz (wm ad cy v))) (va_Qi (fun (r : Int32) (u : Nat → Nat → Int32) => Ir u ∧ Fq v u) (fun u t => ex_Pst dC dI (va_A (wm ad cy v) sz) (wm ad cy u) t) (va_A (wm ad cy v) sz)) 0 0 (va_A (wm ad cy v) sz) := by
  refine Met.ofW (cc := cX8_quarrels) (maxL := 3) (ret := (some .int)) (by decide) rfl ?_
  intro p e s m args below meth c s₁ B hml hv
  obtain ⟨rfl, hsz, hE, hP, hK, hD0⟩ := hv
  have hx := B.exec
  have hb := B.bytes
  have hr := B.returns
  have hts := atoms_spec (ws := wsX8_quarrels) B.pre
  have hown : s.vm.findClass RX8 = some m.cls := findClass_of_methodNamed B.named
  have hlocks := B.notSynchronized
  subst hsz
  have hD := hD0.self (sz := s.heap.size)
  generalize hAe : va_A (wm ad cy v) s.heap.size = A at hD ⊢
  have hA : ∀ q : Nat, s.heap.size ≤ q → A q := fun q h => by rw [← hAe]; exact Or.inr h
  have hS : va_S A s.heap s.heap [] := va_S.rf
  have hP : va_P (dC, dI) vwCl (wm ad cy v) s.heap := hP
  have hl := lv_entry ([.ref (ad 0)]) (n := 3) (Nat.le_of_ble_eq_true rfl)
  rw [lg_entry_eq]
  generalize (lg_sl ([.ref (ad 0)]) ++ List.replicate (3 - (lg_sl ([.ref (ad 0)])).length) Slot.unset).toArray = ls at hl ⊢
  have hl : lv_has ls 3 [(0, .ref (ad 0))] := hl
  have hfr : Fq v v := Fq.rf
  refine lv_aload_n hx hb dX8_quarrels_0 rfl (lv_at hl 0 rfl) ?_
  refine yw_v (w1 := fun (u : Nat → Nat → Int32) => wm ad cy u) hD hS hA (va_runV (As := []) (rest := []) ⟨hx, hb, hml, hown, hts⟩ (q_X8_findHeads l dC dI cy _ ad v hv ) (cwV 0 hts gX8_quarrels_X8_findHeads rfl rfl rfl hd_V_X8_findHeads_0 ⟨Nat.le_of_ble_eq_true rfl, Nat.le_of_ble_eq_true rfl⟩) (yw_preV hE hK hP hD (ci := 8) (q := (RX8, TX8, 11)) (q0 := 0) rfl (wm_at (by decide) rc_0)) rfl rfl hl.1 rfl (lv_room (Nat.le_of_ble_eq_true rfl)) dX8_quarrels_1 ⟨Nat.le_of_ble_eq_true rfl, Nat.le_of_ble_eq_true rfl⟩) (fun v_1 H locs hw_1 hP hD hS => ?_)
  obtain ⟨hv, hf_1⟩ := hw_1
  have hfr : Fq v v_1 := hfr.trans hf_1
  refine lv_iconst (v := 0) hx hb dX8_quarrels_4 (by decide) ?_
  refine lv_istore_n (lv' := [(1, .int 0), (0, .ref (ad 0))]) hx hb dX8_quarrels_5 rfl hl (by decide) rfl (fun ls hl => ?_)
  refine lv_iconst (v := 0) hx hb dX8_quarrels_6 (by decide) ?_
  refine lv_istore_n (lv' := [(2, .int 0), (1, .int 0), (0, .ref (ad 0))]) hx hb dX8_quarrels_7 rfl hl (by decide) rfl (fun ls hl => ?_)
  have hc_2 : ∀ (n : Nat) (y2_2 y2_1 : Int32) (H : Heap) (locs : List Loc), 0 ≤ y2_2.toInt → y2_2.toInt ≤ 6 → (6 - y2_2.toInt).toNat < n → va_P (dC, dI) vwCl (wm ad cy v_1) H → va_D A (wm ad cy v_1) → va_S A s.heap H locs → ∀ ls : Array Slot, lv_has ls 3 [(2, .int y2_2), (1, .int y2_1), (0, .ref (ad 0))] → W p l e (headSpec wsX8_quarrels ({ frames := 1, cells := 0, slots := 0, locals := 64 })).room s m [Value.ref (ad 0)].toArray below meth c H locs 0 0 (MQ below (va_Qi (fun (r : Int32) (u : Nat → Nat → Int32) => Ir u ∧ Fq v u) (fun u t => ex_Pst dC dI A (wm ad cy u) t) A) [Value.ref (ad 0)].toArray s 0 0 A) (F0 m 8 ls []) := by
    intro n
    induction n with
    | zero =>
      intro y2_2 y2_1 H locs ay2_2 by2_2 hm_2 hP hD hS ls hl
      exact absurd hm_2 (by omega)
    | succ n ih_2 =>
      intro y2_2 y2_1 H locs ay2_2 by2_2 hm_2 hP hD hS ls hl
      refine lv_iload_n hx hb dX8_quarrels_8 rfl (lv_at hl 0 rfl) ?_
      refine lv_aload_n hx hb dX8_quarrels_9 rfl (lv_at hl 2 rfl) ?_
      refine va_get (D := (dC, dI)) (ci := 8) (v := .ref (ad 1)) (C := RX8) (T := TX8) (N := 11) hx hb hts iwX8_quarrels_X8 hown hK hP (0) (wm_at (by decide) rc_0) rfl 0 (by decide) (hts (.fieldLink RX8 7 "QuietStairsModel" "s" "[I") fwX8_quarrels_1) (fun _ h9 => h9) rfl dX8_quarrels_10 ?_
      refine lv_iconst (v := 2) hx hb dX8_quarrels_13 (by decide) ?_
      have k_2 : (2 : Int32).toInt = 2 := by decide
      refine va_iald hx hb hK hP (1) 0 (wm_at (by decide) rc_1) rfl (by unfold vp_in; decide) dX8_quarrels_14 ?_
      refine lv_topi (fun x_3 ex_3 => ?_)
      have ex_3 : x_3 = v_1 1 2 := ex_3
      have bzx_3 : 0 ≤ x_3.toInt ∧ x_3.toInt ≤ 6 := by rw [ex_3]; exact hv 1 _ 6 (show bS 2 = some 6 from by decide)
      refine lv_icmp_ge (tgt := 42) hx hb dX8_quarrels_15 (by decide) (fun c_4 => ?_) (fun c_4 => ?_)
      · have tc_4 : y2_2.toInt ≥ x_3.toInt := Int32.le_iff_toInt_le.mp c_4
        refine lv_iload_n hx hb dX8_quarrels_42 rfl (lv_at hl 1 rfl) ?_
        exact W.iret (v := y2_1) hx hb hr (fun t ht hW => ⟨⟨y2_1, v_1, rfl, ⟨hv, hfr⟩, by rw [ht]; exact hP, hD⟩, hS.F ht⟩) hS.2.2 dX8_quarrels_43
      · have tc_4 : y2_2.toInt < x_3.toInt := Int32.lt_iff_toInt_lt.mp (Int32.not_le.mp c_4)
        refine lv_iload_n hx hb dX8_quarrels_18 rfl (lv_at hl 1 rfl) ?_
        refine lv_aload_n hx hb dX8_quarrels_19 rfl (lv_at hl 2 rfl) ?_
        refine va_get (D := (dC, dI)) (ci := 8) (v := .ref (ad 3)) (C := RX8) (T := TX8) (N := 11) hx hb hts iwX8_quarrels_X8 hown hK hP (0) (wm_at (by decide) rc_0) rfl 4 (by decide) (hts (.fieldLink RX8 20 "QuietStairsModel" "headOf" "[I") fwX8_quarrels_2) (fun _ h9 => h9) rfl dX8_quarrels_20 ?_
        refine lv_iload_n hx hb dX8_quarrels_23 rfl (lv_at hl 0 rfl) ?_
        refine va_iald hx hb hK hP (3) 0 (wm_at (by decide) rc_3) rfl (vp_in_iff.mpr ⟨by omega, by omega⟩) dX8_quarrels_24 ?_
        refine lv_topi (fun x_5 ex_5 => ?_)
        have bzx_5 : 0 ≤ x_5.toInt ∧ x_5.toInt ≤ 5 := by rw [ex_5]; exact hv 3 _ 5 rfl
        refine lv_iload_n hx hb dX8_quarrels_25 rfl (lv_at hl 0 rfl) ?_
        refine lv_icmp_ne (tgt := 33) hx hb dX8_quarrels_26 (by decide) (fun c_6 => ?_) (fun c_6 => ?_)
        · have tc_6 : x_5.toInt ≠ y2_2.toInt := fun q => absurd (Int32.toInt_inj.mp q) c_6
          refine lv_iconst (v := 0) hx hb dX8_quarrels_33 (by decide) ?_
          refine lv_iadd hx hb dX8_quarrels_34 ?_
          refine lv_topi (fun x_7 ex_7 => ?_)
          have k_0 : (0 : Int32).toInt = 0 := by decide
          refine lv_istore_n (lv' := [(1, .int x_7), (2, .int y2_2), (0, .ref (ad 0))]) hx hb dX8_quarrels_35 rfl hl (by decide) rfl (fun ls hl => ?_)
          obtain ⟨x_8, ex_8⟩ : ∃ y : Int32, y = y2_2 + 1 := ⟨_, rfl⟩
          refine lv_iinc (v := x_8) (lv' := [(2, .int x_8), (1, .int x_7), (0, .ref (ad 0))]) hx hb dX8_quarrels_36 hl (k := 1) rfl (by rw [ex_8]; rfl) (by decide) rfl (fun ls hl => ?_)
          have k_1 : (1 : Int32).toInt = 1 := by decide
          have tx_8 : x_8.toInt = y2_2.toInt + (1 : Int32).toInt := by rw [ex_8]; exact t_add ⟨by omega, by omega⟩
          refine lv_goto (tgt := 8) hx hb dX8_quarrels_39 (by decide) ?_
          exact ih_2 x_8 x_7 _ _ (by omega) (by omega) (by omega) hP hD hS ls (lv_sub hl [0, 1, 2] rfl)
        · have tc_6 : x_5.toInt = y2_2.toInt := by rw [c_6]
          refine lv_iconst (v := 1) hx hb dX8_quarrels_29 (by decide) ?_
          refine lv_goto (tgt := 34) hx hb dX8_quarrels_30 (by decide) ?_
          refine lv_iadd hx hb dX8_quarrels_34 ?_
          refine lv_topi (fun x_7 ex_7 => ?_)
          have k_1 : (1 : Int32).toInt = 1 := by decide
          refine lv_istore_n (lv' := [(1, .int x_7), (2, .int y2_2), (0, .ref (ad 0))]) hx hb dX8_quarrels_35 rfl hl (by decide) rfl (fun ls hl => ?_)
          obtain ⟨x_8, ex_8⟩ : ∃ y : Int32, y = y2_2 + 1 := ⟨_, rfl⟩
          refine lv_iinc (v := x_8) (lv' := [(2, .int x_8), (1, .int x_7), (0, .ref (ad 0))]) hx hb dX8_quarrels_36 hl (k := 1) rfl (by rw [ex_8]; rfl) (by decide) rfl (fun ls hl => ?_)
          have tx_8 : x_8.toInt = y2_2.toInt + (1 : Int32).toInt := by rw [ex_8]; exact t_add ⟨by omega, by omega⟩
          refine lv_goto (tgt := 8) hx hb dX8_quarrels_39 (by decide) ?_
          exact ih_2 x_8 x_7 _ _ (by omega) (by omega) (by omega) hP hD hS ls (lv_sub hl [0, 1, 2] rfl)
  have k_0 : (0 : Int32).toInt = 0 := by decide
  exact hc_2 ((6 - (0 : Int32).toInt).toNat + 1) 0 0 _ _ (by omega) (by omega) (by omega) hP hD hS ls (lv_sub hl [0, 1, 2] rfl)

set_option maxHeartbeats 4000000 in
set_option maxRecDepth 100000 in
theorem q_X8_many (l : Launch) (dC : Nat → ClassId) (dI : Nat → Nat → Nat) (cy : Nat → ClassId) (sz : Nat) (ad : Nat → Nat) (v : Nat → Nat → Int32) (hv : Ir v) (x0 : Int32) : Met l yX8_many wsX8_many ({ frames := 3, cells := 0, slots := 0, locals := 192 }) (va_Pc [.ref (ad 0), .int x0] (ex_Pre dC dI cy sz (wm ad cy v))) (va_Qi (fun (r : Int32) (u : Nat → Nat → Int32) => Ir u ∧ Fq v u) (fun u t => ex_Pst dC dI (va_A (wm ad cy v) sz) (wm ad cy u) t) (va_A (wm ad cy v) sz)) 0 0 (va_A (wm ad cy v) sz) := by
  refine Met.ofW (cc := cX8_many) (maxL := 2) (ret := (some .int)) (by decide) rfl ?_
  intro p e s m args below meth c s₁ B hml hv
  obtain ⟨rfl, hsz, hE, hP, hK, hD0⟩ := hv
  have hx := B.exec
  have hb := B.bytes
  have hr := B.returns
  have hts := atoms_spec (ws := wsX8_many) B.pre
  have hown : s.vm.findClass RX8 = some m.cls := findClass_of_methodNamed B.named
  have hlocks := B.notSynchronized
  subst hsz
  have hD := hD0.self (sz := s.heap.size)
  generalize hAe : va_A (wm ad cy v) s.heap.size = A at hD ⊢
  have hA : ∀ q : Nat, s.heap.size ≤ q → A q := fun q h => by rw [← hAe]; exact Or.inr h
  have hS : va_S A s.heap s.heap [] := va_S.rf
  have hP : va_P (dC, dI) vwCl (wm ad cy v) s.heap := hP
  have hl := lv_entry ([.ref (ad 0), .int x0]) (n := 2) (Nat.le_of_ble_eq_true rfl)
  rw [lg_entry_eq]
  generalize (lg_sl ([.ref (ad 0), .int x0]) ++ List.replicate (2 - (lg_sl ([.ref (ad 0), .int x0])).length) Slot.unset).toArray = ls at hl ⊢
  have hl : lv_has ls 2 [(0, .ref (ad 0)), (1, .int x0)] := hl
  have hfr : Fq v v := Fq.rf
  refine lv_iload_n hx hb dX8_many_0 rfl (lv_at hl 1 rfl) ?_
  rcases sw_11 x0 with hsw | hsw | hsw | hsw | hsw | hsw | hsw | hsw | hsw | hsw | hsw | hsw
  · refine lv_tableOut (tgt := 129) hx hb dX8_many_1 hsw (by decide) ?_
    refine lv_iconst (v := (-1)) hx hb dX8_many_129 (by decide) ?_
    exact W.iret (v := (-1)) hx hb hr (fun t ht hW => ⟨⟨(-1), v, rfl, ⟨hv, hfr⟩, by rw [ht]; exact hP, hD⟩, hS.F ht⟩) hS.2.2 dX8_many_130
  · refine lv_tableIn (off := 59) (tgt := 60) hx hb dX8_many_1 (by rw [hsw]; decide) (by rw [hsw]; decide) (by rw [hsw]; decide) (by decide) ?_
    refine lv_aload_n hx hb dX8_many_60 rfl (lv_at hl 0 rfl) ?_
    refine va_get (D := (dC, dI)) (ci := 8) (v := .ref (ad 1)) (C := RX8) (T := TX8) (N := 11) hx hb hts iwX8_many_X8 hown hK hP (0) (wm_at (by decide) rc_0) rfl 0 (by decide) (hts (.fieldLink RX8 7 "QuietStairsModel" "s" "[I") fwX8_many_1) (fun _ h9 => h9) rfl dX8_many_61 ?_
    refine lv_iconst (v := 0) hx hb dX8_many_64 (by decide) ?_
    have k_0 : (0 : Int32).toInt = 0 := by decide
    refine va_iald hx hb hK hP (1) 0 (wm_at (by decide) rc_1) rfl (by unfold vp_in; decide) dX8_many_65 ?_
    refine lv_topi (fun x_1 ex_1 => ?_)
    have ex_1 : x_1 = v 1 0 := ex_1
    have bzx_1 : 0 ≤ x_1.toInt ∧ x_1.toInt ≤ 8 := by rw [ex_1]; exact hv 1 _ 8 (show bS 0 = some 8 from by decide)
    exact W.iret (v := x_1) hx hb hr (fun t ht hW => ⟨⟨x_1, v, rfl, ⟨hv, hfr⟩, by rw [ht]; exact hP, hD⟩, hS.F ht⟩) hS.2.2 dX8_many_66
  · refine lv_tableIn (off := 66) (tgt := 67) hx hb dX8_many_1 (by rw [hsw]; decide) (by rw [hsw]; decide) (by rw [hsw]; decide) (by decide) ?_
    refine lv_aload_n hx hb dX8_many_67 rfl (lv_at hl 0 rfl) ?_
    refine va_get (D := (dC, dI)) (ci := 8) (v := .ref (ad 1)) (C := RX8) (T := TX8) (N := 11) hx hb hts iwX8_many_X8 hown hK hP (0) (wm_at (by decide) rc_0) rfl 0 (by decide) (hts (.fieldLink RX8 7 "QuietStairsModel" "s" "[I") fwX8_many_1) (fun _ h9 => h9) rfl dX8_many_68 ?_
    refine lv_iconst (v := 1) hx hb dX8_many_71 (by decide) ?_
    have k_1 : (1 : Int32).toInt = 1 := by decide
    refine va_iald hx hb hK hP (1) 0 (wm_at (by decide) rc_1) rfl (by unfold vp_in; decide) dX8_many_72 ?_
    refine lv_topi (fun x_1 ex_1 => ?_)
    have ex_1 : x_1 = v 1 1 := ex_1
    have bzx_1 : 0 ≤ x_1.toInt ∧ x_1.toInt ≤ 4 := by rw [ex_1]; exact hv 1 _ 4 (show bS 1 = some 4 from by decide)
    exact W.iret (v := x_1) hx hb hr (fun t ht hW => ⟨⟨x_1, v, rfl, ⟨hv, hfr⟩, by rw [ht]; exact hP, hD⟩, hS.F ht⟩) hS.2.2 dX8_many_73
  · refine lv_tableIn (off := 73) (tgt := 74) hx hb dX8_many_1 (by rw [hsw]; decide) (by rw [hsw]; decide) (by rw [hsw]; decide) (by decide) ?_
    refine lv_aload_n hx hb dX8_many_74 rfl (lv_at hl 0 rfl) ?_
    refine va_get (D := (dC, dI)) (ci := 8) (v := .ref (ad 1)) (C := RX8) (T := TX8) (N := 11) hx hb hts iwX8_many_X8 hown hK hP (0) (wm_at (by decide) rc_0) rfl 0 (by decide) (hts (.fieldLink RX8 7 "QuietStairsModel" "s" "[I") fwX8_many_1) (fun _ h9 => h9) rfl dX8_many_75 ?_
    refine lv_iconst (v := 2) hx hb dX8_many_78 (by decide) ?_
    have k_2 : (2 : Int32).toInt = 2 := by decide
    refine va_iald hx hb hK hP (1) 0 (wm_at (by decide) rc_1) rfl (by unfold vp_in; decide) dX8_many_79 ?_
    refine lv_topi (fun x_1 ex_1 => ?_)
    have ex_1 : x_1 = v 1 2 := ex_1
    have bzx_1 : 0 ≤ x_1.toInt ∧ x_1.toInt ≤ 6 := by rw [ex_1]; exact hv 1 _ 6 (show bS 2 = some 6 from by decide)
    exact W.iret (v := x_1) hx hb hr (fun t ht hW => ⟨⟨x_1, v, rfl, ⟨hv, hfr⟩, by rw [ht]; exact hP, hD⟩, hS.F ht⟩) hS.2.2 dX8_many_80
  · refine lv_tableIn (off := 80) (tgt := 81) hx hb dX8_many_1 (by rw [hsw]; decide) (by rw [hsw]; decide) (by rw [hsw]; decide) (by decide) ?_
    refine lv_aload_n hx hb dX8_many_81 rfl (lv_at hl 0 rfl) ?_
    refine lv_iconst (v := 0) hx hb dX8_many_82 (by decide) ?_
    have k_0 : (0 : Int32).toInt = 0 := by decide
    refine yw_i (w1 := fun (u : Nat → Nat → Int32) => wm ad cy u) hD hS hA (va_runV (As := [.int 0]) (rest := []) ⟨hx, hb, hml, hown, hts⟩ (q_X8_casesThat l dC dI cy _ ad v hv 0) (cwV 1 hts gX8_many_X8_casesThat rfl rfl rfl hd_V_X8_casesThat_1 ⟨Nat.le_of_ble_eq_true rfl, Nat.le_of_ble_eq_true rfl⟩) (yw_preV hE hK hP hD (ci := 8) (q := (RX8, TX8, 11)) (q0 := 0) rfl (wm_at (by decide) rc_0)) rfl rfl hl.1 rfl (lv_room (Nat.le_of_ble_eq_true rfl)) dX8_many_83 ⟨Nat.le_of_ble_eq_true rfl, Nat.le_of_ble_eq_true rfl⟩) (fun r_1 v_1 H locs hw_1 hP hD hS => ?_)
    obtain ⟨-, hw_1⟩ := hw_1
    replace hw_1 := hw_1.symm
    subst hw_1
    exact W.iret (v := r_1) hx hb hr (fun t ht hW => ⟨⟨r_1, v, rfl, ⟨hv, hfr⟩, by rw [ht]; exact hP, hD⟩, hS.F ht⟩) hS.2.2 dX8_many_86
  · refine lv_tableIn (off := 86) (tgt := 87) hx hb dX8_many_1 (by rw [hsw]; decide) (by rw [hsw]; decide) (by rw [hsw]; decide) (by decide) ?_
    refine lv_aload_n hx hb dX8_many_87 rfl (lv_at hl 0 rfl) ?_
    refine lv_iconst (v := 1) hx hb dX8_many_88 (by decide) ?_
    have k_1 : (1 : Int32).toInt = 1 := by decide
    refine yw_i (w1 := fun (u : Nat → Nat → Int32) => wm ad cy u) hD hS hA (va_runV (As := [.int 1]) (rest := []) ⟨hx, hb, hml, hown, hts⟩ (q_X8_casesThat l dC dI cy _ ad v hv 1) (cwV 1 hts gX8_many_X8_casesThat rfl rfl rfl hd_V_X8_casesThat_1 ⟨Nat.le_of_ble_eq_true rfl, Nat.le_of_ble_eq_true rfl⟩) (yw_preV hE hK hP hD (ci := 8) (q := (RX8, TX8, 11)) (q0 := 0) rfl (wm_at (by decide) rc_0)) rfl rfl hl.1 rfl (lv_room (Nat.le_of_ble_eq_true rfl)) dX8_many_89 ⟨Nat.le_of_ble_eq_true rfl, Nat.le_of_ble_eq_true rfl⟩) (fun r_1 v_1 H locs hw_1 hP hD hS => ?_)
    obtain ⟨-, hw_1⟩ := hw_1
    replace hw_1 := hw_1.symm
    subst hw_1
    exact W.iret (v := r_1) hx hb hr (fun t ht hW => ⟨⟨r_1, v, rfl, ⟨hv, hfr⟩, by rw [ht]; exact hP, hD⟩, hS.F ht⟩) hS.2.2 dX8_many_92
  · refine lv_tableIn (off := 92) (tgt := 93) hx hb dX8_many_1 (by rw [hsw]; decide) (by rw [hsw]; decide) (by rw [hsw]; decide) (by decide) ?_
    refine lv_aload_n hx hb dX8_many_93 rfl (lv_at hl 0 rfl) ?_
    refine va_get (D := (dC, dI)) (ci := 8) (v := .ref (ad 1)) (C := RX8) (T := TX8) (N := 11) hx hb hts iwX8_many_X8 hown hK hP (0) (wm_at (by decide) rc_0) rfl 0 (by decide) (hts (.fieldLink RX8 7 "QuietStairsModel" "s" "[I") fwX8_many_1) (fun _ h9 => h9) rfl dX8_many_94 ?_
    refine lv_iconst (v := 3) hx hb dX8_many_97 (by decide) ?_
    have k_3 : (3 : Int32).toInt = 3 := by decide
    refine va_iald hx hb hK hP (1) 0 (wm_at (by decide) rc_1) rfl (by unfold vp_in; decide) dX8_many_98 ?_
    refine lv_topi (fun x_1 ex_1 => ?_)
    have ex_1 : x_1 = v 1 3 := ex_1
    have bzx_1 : 0 ≤ x_1.toInt ∧ x_1.toInt ≤ 6 := by rw [ex_1]; exact hv 1 _ 6 (show bS 3 = some 6 from by decide)
    exact W.iret (v := x_1) hx hb hr (fun t ht hW => ⟨⟨x_1, v, rfl, ⟨hv, hfr⟩, by rw [ht]; exact hP, hD⟩, hS.F ht⟩) hS.2.2 dX8_many_99
  · refine lv_tableIn (off := 99) (tgt := 100) hx hb dX8_many_1 (by rw [hsw]; decide) (by rw [hsw]; decide) (by rw [hsw]; decide) (by decide) ?_
    refine lv_aload_n hx hb dX8_many_100 rfl (lv_at hl 0 rfl) ?_
    refine yw_i (w1 := fun (u : Nat → Nat → Int32) => wm ad cy u) hD hS hA (va_runV (As := []) (rest := []) ⟨hx, hb, hml, hown, hts⟩ (q_X8_quarrels l dC dI cy _ ad v hv ) (cwV 0 hts gX8_many_X8_quarrels rfl rfl rfl hd_V_X8_quarrels_0 ⟨Nat.le_of_ble_eq_true rfl, Nat.le_of_ble_eq_true rfl⟩) (yw_preV hE hK hP hD (ci := 8) (q := (RX8, TX8, 11)) (q0 := 0) rfl (wm_at (by decide) rc_0)) rfl rfl hl.1 rfl (lv_room (Nat.le_of_ble_eq_true rfl)) dX8_many_101 ⟨Nat.le_of_ble_eq_true rfl, Nat.le_of_ble_eq_true rfl⟩) (fun r_1 v_1 H locs hw_1 hP hD hS => ?_)
    obtain ⟨hv, hf_1⟩ := hw_1
    have hfr : Fq v v_1 := hfr.trans hf_1
    exact W.iret (v := r_1) hx hb hr (fun t ht hW => ⟨⟨r_1, v_1, rfl, ⟨hv, hfr⟩, by rw [ht]; exact hP, hD⟩, hS.F ht⟩) hS.2.2 dX8_many_104
  · refine lv_tableIn (off := 104) (tgt := 105) hx hb dX8_many_1 (by rw [hsw]; decide) (by rw [hsw]; decide) (by rw [hsw]; decide) (by decide) ?_
    refine lv_aload_n hx hb dX8_many_105 rfl (lv_at hl 0 rfl) ?_
    refine lv_iconst (v := (-1)) hx hb dX8_many_106 (by decide) ?_
    have k_m1 : ((-1) : Int32).toInt = -1 := by decide
    refine yw_i (w1 := fun (u : Nat → Nat → Int32) => wm ad cy u) hD hS hA (va_runV (As := [.int (-1)]) (rest := []) ⟨hx, hb, hml, hown, hts⟩ (q_X8_termsThat l dC dI cy _ ad v hv (-1)) (cwV 1 hts gX8_many_X8_termsThat rfl rfl rfl hd_V_X8_termsThat_1 ⟨Nat.le_of_ble_eq_true rfl, Nat.le_of_ble_eq_true rfl⟩) (yw_preV hE hK hP hD (ci := 8) (q := (RX8, TX8, 11)) (q0 := 0) rfl (wm_at (by decide) rc_0)) rfl rfl hl.1 rfl (lv_room (Nat.le_of_ble_eq_true rfl)) dX8_many_107 ⟨Nat.le_of_ble_eq_true rfl, Nat.le_of_ble_eq_true rfl⟩) (fun r_1 v_1 H locs hw_1 hP hD hS => ?_)
    obtain ⟨-, hw_1⟩ := hw_1
    replace hw_1 := hw_1.symm
    subst hw_1
    exact W.iret (v := r_1) hx hb hr (fun t ht hW => ⟨⟨r_1, v, rfl, ⟨hv, hfr⟩, by rw [ht]; exact hP, hD⟩, hS.F ht⟩) hS.2.2 dX8_many_110
  · refine lv_tableIn (off := 110) (tgt := 111) hx hb dX8_many_1 (by rw [hsw]; decide) (by rw [hsw]; decide) (by rw [hsw]; decide) (by decide) ?_
    refine lv_aload_n hx hb dX8_many_111 rfl (lv_at hl 0 rfl) ?_
    refine lv_iconst (v := 1) hx hb dX8_many_112 (by decide) ?_
    have k_1 : (1 : Int32).toInt = 1 := by decide
    refine yw_i (w1 := fun (u : Nat → Nat → Int32) => wm ad cy u) hD hS hA (va_runV (As := [.int 1]) (rest := []) ⟨hx, hb, hml, hown, hts⟩ (q_X8_termsThat l dC dI cy _ ad v hv 1) (cwV 1 hts gX8_many_X8_termsThat rfl rfl rfl hd_V_X8_termsThat_1 ⟨Nat.le_of_ble_eq_true rfl, Nat.le_of_ble_eq_true rfl⟩) (yw_preV hE hK hP hD (ci := 8) (q := (RX8, TX8, 11)) (q0 := 0) rfl (wm_at (by decide) rc_0)) rfl rfl hl.1 rfl (lv_room (Nat.le_of_ble_eq_true rfl)) dX8_many_113 ⟨Nat.le_of_ble_eq_true rfl, Nat.le_of_ble_eq_true rfl⟩) (fun r_1 v_1 H locs hw_1 hP hD hS => ?_)
    obtain ⟨-, hw_1⟩ := hw_1
    replace hw_1 := hw_1.symm
    subst hw_1
    exact W.iret (v := r_1) hx hb hr (fun t ht hW => ⟨⟨r_1, v, rfl, ⟨hv, hfr⟩, by rw [ht]; exact hP, hD⟩, hS.F ht⟩) hS.2.2 dX8_many_116
  · refine lv_tableIn (off := 116) (tgt := 117) hx hb dX8_many_1 (by rw [hsw]; decide) (by rw [hsw]; decide) (by rw [hsw]; decide) (by decide) ?_
    refine lv_aload_n hx hb dX8_many_117 rfl (lv_at hl 0 rfl) ?_
    refine lv_iconst (v := 0) hx hb dX8_many_118 (by decide) ?_
    have k_0 : (0 : Int32).toInt = 0 := by decide
    refine yw_i (w1 := fun (u : Nat → Nat → Int32) => wm ad cy u) hD hS hA (va_runV (As := [.int 0]) (rest := []) ⟨hx, hb, hml, hown, hts⟩ (q_X8_termsThat l dC dI cy _ ad v hv 0) (cwV 1 hts gX8_many_X8_termsThat rfl rfl rfl hd_V_X8_termsThat_1 ⟨Nat.le_of_ble_eq_true rfl, Nat.le_of_ble_eq_true rfl⟩) (yw_preV hE hK hP hD (ci := 8) (q := (RX8, TX8, 11)) (q0 := 0) rfl (wm_at (by decide) rc_0)) rfl rfl hl.1 rfl (lv_room (Nat.le_of_ble_eq_true rfl)) dX8_many_119 ⟨Nat.le_of_ble_eq_true rfl, Nat.le_of_ble_eq_true rfl⟩) (fun r_1 v_1 H locs hw_1 hP hD hS => ?_)
    obtain ⟨-, hw_1⟩ := hw_1
    replace hw_1 := hw_1.symm
    subst hw_1
    exact W.iret (v := r_1) hx hb hr (fun t ht hW => ⟨⟨r_1, v, rfl, ⟨hv, hfr⟩, by rw [ht]; exact hP, hD⟩, hS.F ht⟩) hS.2.2 dX8_many_122
  · refine lv_tableIn (off := 122) (tgt := 123) hx hb dX8_many_1 (by rw [hsw]; decide) (by rw [hsw]; decide) (by rw [hsw]; decide) (by decide) ?_
    refine lv_aload_n hx hb dX8_many_123 rfl (lv_at hl 0 rfl) ?_
    refine lv_iconst (v := 2) hx hb dX8_many_124 (by decide) ?_
    have k_2 : (2 : Int32).toInt = 2 := by decide
    refine yw_i (w1 := fun (u : Nat → Nat → Int32) => wm ad cy u) hD hS hA (va_runV (As := [.int 2]) (rest := []) ⟨hx, hb, hml, hown, hts⟩ (q_X8_termsThat l dC dI cy _ ad v hv 2) (cwV 1 hts gX8_many_X8_termsThat rfl rfl rfl hd_V_X8_termsThat_1 ⟨Nat.le_of_ble_eq_true rfl, Nat.le_of_ble_eq_true rfl⟩) (yw_preV hE hK hP hD (ci := 8) (q := (RX8, TX8, 11)) (q0 := 0) rfl (wm_at (by decide) rc_0)) rfl rfl hl.1 rfl (lv_room (Nat.le_of_ble_eq_true rfl)) dX8_many_125 ⟨Nat.le_of_ble_eq_true rfl, Nat.le_of_ble_eq_true rfl⟩) (fun r_1 v_1 H locs hw_1 hP hD hS => ?_)
    obtain ⟨-, hw_1⟩ := hw_1
    replace hw_1 := hw_1.symm
    subst hw_1
    exact W.iret (v := r_1) hx hb hr (fun t ht hW => ⟨⟨r_1, v, rfl, ⟨hv, hfr⟩, by rw [ht]; exact hP, hD⟩, hS.F ht⟩) hS.2.2 dX8_many_128
set_option maxRecDepth 20000 in
theorem db_X8_makeTable_0 : (decode cX8_makeTable 0 = .ok (.aload_n 0, 1)) ∧ (decode cX8_makeTable 1 = .ok (.iload_n 1, 1)) ∧ (decode cX8_makeTable 2 = .ok (.iload_n 2, 1)) ∧ (decode cX8_makeTable 3 = .ok (.iconst (-1), 1)) ∧ (decode cX8_makeTable 4 = .ok (.iconst 1, 1)) ∧ (decode cX8_makeTable 5 = .ok (.iload_n 3, 1)) ∧ (decode cX8_makeTable 6 = .ok (.invokevirtual 111, 3)) ∧ (decode cX8_makeTable 9 = .ok (.istore 4, 2)) := by decide +kernel
theorem dX8_makeTable_0 : decode cX8_makeTable 0 = .ok (.aload_n 0, 1) := db_X8_makeTable_0.1
theorem dX8_makeTable_1 : decode cX8_makeTable 1 = .ok (.iload_n 1, 1) := db_X8_makeTable_0.2.1
theorem dX8_makeTable_2 : decode cX8_makeTable 2 = .ok (.iload_n 2, 1) := db_X8_makeTable_0.2.2.1
theorem dX8_makeTable_3 : decode cX8_makeTable 3 = .ok (.iconst (-1), 1) := db_X8_makeTable_0.2.2.2.1
theorem dX8_makeTable_4 : decode cX8_makeTable 4 = .ok (.iconst 1, 1) := db_X8_makeTable_0.2.2.2.2.1
theorem dX8_makeTable_5 : decode cX8_makeTable 5 = .ok (.iload_n 3, 1) := db_X8_makeTable_0.2.2.2.2.2.1
set_option maxRecDepth 20000 in
theorem ggX8_makeTable_X8_next : GoodIn wsX8_makeTable wsX8_next := goodIn_r _ [7, 8, 9, 6, 10, 11, 12, 13, 14, 1, 15, 16, 17, 26, 27, 28, 29, 30, 31, 32, 33, 34, 35, 36] rfl (by decide +kernel)
set_option maxRecDepth 20000 in
theorem gX8_makeTable_X8_next : GoodIn wsX8_makeTable (wsV RX8 111 RX8 yX8_next wsX8_next) := goodIn_app (goodIn_r _ [3, 4, 5, 6] rfl (by decide +kernel)) ggX8_makeTable_X8_next
theorem dX8_makeTable_6 : decode cX8_makeTable 6 = .ok (.invokevirtual 111, 3) := db_X8_makeTable_0.2.2.2.2.2.2.1
theorem dX8_makeTable_9 : decode cX8_makeTable 9 = .ok (.istore 4, 2) := db_X8_makeTable_0.2.2.2.2.2.2.2
set_option maxRecDepth 20000 in
theorem db_X8_makeTable_11 : (decode cX8_makeTable 11 = .ok (.iload 4, 2)) ∧ (decode cX8_makeTable 13 = .ok (.iload_n 3, 1)) ∧ (decode cX8_makeTable 14 = .ok (.if_icmp .ge 19, 3)) ∧ (decode cX8_makeTable 33 = .ok (.iconst 0, 1)) ∧ (decode cX8_makeTable 34 = .ok (.istore 5, 2)) ∧ (decode cX8_makeTable 36 = .ok (.iload 4, 2)) ∧ (decode cX8_makeTable 38 = .ok (.ifCond .lt 102, 3)) ∧ (decode cX8_makeTable 140 = .ok (.iload 4, 2)) := by decide +kernel
theorem dX8_makeTable_11 : decode cX8_makeTable 11 = .ok (.iload 4, 2) := db_X8_makeTable_11.1
theorem dX8_makeTable_13 : decode cX8_makeTable 13 = .ok (.iload_n 3, 1) := db_X8_makeTable_11.2.1
theorem dX8_makeTable_14 : decode cX8_makeTable 14 = .ok (.if_icmp .ge 19, 3) := db_X8_makeTable_11.2.2.1
theorem dX8_makeTable_33 : decode cX8_makeTable 33 = .ok (.iconst 0, 1) := db_X8_makeTable_11.2.2.2.1
theorem dX8_makeTable_34 : decode cX8_makeTable 34 = .ok (.istore 5, 2) := db_X8_makeTable_11.2.2.2.2.1
theorem dX8_makeTable_36 : decode cX8_makeTable 36 = .ok (.iload 4, 2) := db_X8_makeTable_11.2.2.2.2.2.1
theorem dX8_makeTable_38 : decode cX8_makeTable 38 = .ok (.ifCond .lt 102, 3) := db_X8_makeTable_11.2.2.2.2.2.2.1
theorem dX8_makeTable_140 : decode cX8_makeTable 140 = .ok (.iload 4, 2) := db_X8_makeTable_11.2.2.2.2.2.2.2
set_option maxRecDepth 20000 in
theorem db_X8_makeTable_142 : (decode cX8_makeTable 142 = .ok (.ifCond .lt 7, 3)) ∧ (decode cX8_makeTable 149 = .ok (.iconst 0, 1)) ∧ (decode cX8_makeTable 150 = .ok (.ireturn, 1)) ∧ (decode cX8_makeTable 41 = .ok (.iload 4, 2)) ∧ (decode cX8_makeTable 43 = .ok (.iload_n 3, 1)) ∧ (decode cX8_makeTable 44 = .ok (.if_icmp .ge 96, 3)) ∧ (decode cX8_makeTable 145 = .ok (.iconst 1, 1)) ∧ (decode cX8_makeTable 146 = .ok (.goto 4, 3)) := by decide +kernel
theorem dX8_makeTable_142 : decode cX8_makeTable 142 = .ok (.ifCond .lt 7, 3) := db_X8_makeTable_142.1
theorem dX8_makeTable_149 : decode cX8_makeTable 149 = .ok (.iconst 0, 1) := db_X8_makeTable_142.2.1
theorem dX8_makeTable_150 : decode cX8_makeTable 150 = .ok (.ireturn, 1) := db_X8_makeTable_142.2.2.1
theorem dX8_makeTable_41 : decode cX8_makeTable 41 = .ok (.iload 4, 2) := db_X8_makeTable_142.2.2.2.1
theorem dX8_makeTable_43 : decode cX8_makeTable 43 = .ok (.iload_n 3, 1) := db_X8_makeTable_142.2.2.2.2.1
theorem dX8_makeTable_44 : decode cX8_makeTable 44 = .ok (.if_icmp .ge 96, 3) := db_X8_makeTable_142.2.2.2.2.2.1
theorem dX8_makeTable_145 : decode cX8_makeTable 145 = .ok (.iconst 1, 1) := db_X8_makeTable_142.2.2.2.2.2.2.1
theorem dX8_makeTable_146 : decode cX8_makeTable 146 = .ok (.goto 4, 3) := db_X8_makeTable_142.2.2.2.2.2.2.2
set_option maxRecDepth 20000 in
theorem db_X8_makeTable_47 : (decode cX8_makeTable 47 = .ok (.aload_n 0, 1)) ∧ (decode cX8_makeTable 48 = .ok (.iload_n 1, 1)) ∧ (decode cX8_makeTable 49 = .ok (.iload_n 2, 1)) ∧ (decode cX8_makeTable 50 = .ok (.iload 4, 2)) ∧ (decode cX8_makeTable 52 = .ok (.iload 5, 2)) ∧ (decode cX8_makeTable 54 = .ok (.iload_n 3, 1)) ∧ (decode cX8_makeTable 55 = .ok (.invokevirtual 115, 3)) ∧ (decode cX8_makeTable 58 = .ok (.istore 6, 2)) := by decide +kernel
theorem dX8_makeTable_47 : decode cX8_makeTable 47 = .ok (.aload_n 0, 1) := db_X8_makeTable_47.1
theorem dX8_makeTable_48 : decode cX8_makeTable 48 = .ok (.iload_n 1, 1) := db_X8_makeTable_47.2.1
theorem dX8_makeTable_49 : decode cX8_makeTable 49 = .ok (.iload_n 2, 1) := db_X8_makeTable_47.2.2.1
theorem dX8_makeTable_50 : decode cX8_makeTable 50 = .ok (.iload 4, 2) := db_X8_makeTable_47.2.2.2.1
theorem dX8_makeTable_52 : decode cX8_makeTable 52 = .ok (.iload 5, 2) := db_X8_makeTable_47.2.2.2.2.1
theorem dX8_makeTable_54 : decode cX8_makeTable 54 = .ok (.iload_n 3, 1) := db_X8_makeTable_47.2.2.2.2.2.1
set_option maxRecDepth 20000 in
theorem ggX8_makeTable_X8_hourFrom : GoodIn wsX8_makeTable wsX8_hourFrom := goodIn_r _ [21, 2, 1, 15, 16, 6, 17, 22, 23, 24, 25, 8, 9, 10, 26, 27, 28, 29, 30, 31, 32, 33, 34, 35, 36] rfl (by decide +kernel)
set_option maxRecDepth 20000 in
theorem gX8_makeTable_X8_hourFrom : GoodIn wsX8_makeTable (wsV RX8 115 RX8 yX8_hourFrom wsX8_hourFrom) := goodIn_app (goodIn_r _ [18, 19, 20, 6] rfl (by decide +kernel)) ggX8_makeTable_X8_hourFrom
theorem dX8_makeTable_55 : decode cX8_makeTable 55 = .ok (.invokevirtual 115, 3) := db_X8_makeTable_47.2.2.2.2.2.2.1
theorem dX8_makeTable_58 : decode cX8_makeTable 58 = .ok (.istore 6, 2) := db_X8_makeTable_47.2.2.2.2.2.2.2
set_option maxRecDepth 20000 in
theorem db_X8_makeTable_60 : (decode cX8_makeTable 60 = .ok (.iload 6, 2)) ∧ (decode cX8_makeTable 62 = .ok (.ifCond .lt 43, 3)) ∧ (decode cX8_makeTable 105 = .ok (.aload_n 0, 1)) ∧ (decode cX8_makeTable 106 = .ok (.iload_n 1, 1)) ∧ (decode cX8_makeTable 107 = .ok (.iload_n 2, 1)) ∧ (decode cX8_makeTable 108 = .ok (.iload 4, 2)) ∧ (decode cX8_makeTable 110 = .ok (.iconst (-1), 1)) ∧ (decode cX8_makeTable 111 = .ok (.iload_n 3, 1)) := by decide +kernel
theorem dX8_makeTable_60 : decode cX8_makeTable 60 = .ok (.iload 6, 2) := db_X8_makeTable_60.1
theorem dX8_makeTable_62 : decode cX8_makeTable 62 = .ok (.ifCond .lt 43, 3) := db_X8_makeTable_60.2.1
theorem dX8_makeTable_105 : decode cX8_makeTable 105 = .ok (.aload_n 0, 1) := db_X8_makeTable_60.2.2.1
theorem dX8_makeTable_106 : decode cX8_makeTable 106 = .ok (.iload_n 1, 1) := db_X8_makeTable_60.2.2.2.1
theorem dX8_makeTable_107 : decode cX8_makeTable 107 = .ok (.iload_n 2, 1) := db_X8_makeTable_60.2.2.2.2.1
theorem dX8_makeTable_108 : decode cX8_makeTable 108 = .ok (.iload 4, 2) := db_X8_makeTable_60.2.2.2.2.2.1
theorem dX8_makeTable_110 : decode cX8_makeTable 110 = .ok (.iconst (-1), 1) := db_X8_makeTable_60.2.2.2.2.2.2.1
theorem dX8_makeTable_111 : decode cX8_makeTable 111 = .ok (.iload_n 3, 1) := db_X8_makeTable_60.2.2.2.2.2.2.2
set_option maxRecDepth 20000 in
theorem db_X8_makeTable_112 : (decode cX8_makeTable 112 = .ok (.invokevirtual 111, 3)) ∧ (decode cX8_makeTable 115 = .ok (.istore 4, 2)) ∧ (decode cX8_makeTable 117 = .ok (.iload 4, 2)) ∧ (decode cX8_makeTable 119 = .ok (.ifCond .ge 7, 3)) ∧ (decode cX8_makeTable 126 = .ok (.aload_n 0, 1)) ∧ (decode cX8_makeTable 127 = .ok (.getfield 32, 3)) ∧ (decode cX8_makeTable 130 = .ok (.iload 4, 2)) ∧ (decode cX8_makeTable 132 = .ok (.iaload, 1)) := by decide +kernel
theorem dX8_makeTable_112 : decode cX8_makeTable 112 = .ok (.invokevirtual 111, 3) := db_X8_makeTable_112.1
theorem dX8_makeTable_115 : decode cX8_makeTable 115 = .ok (.istore 4, 2) := db_X8_makeTable_112.2.1
theorem dX8_makeTable_117 : decode cX8_makeTable 117 = .ok (.iload 4, 2) := db_X8_makeTable_112.2.2.1
theorem dX8_makeTable_119 : decode cX8_makeTable 119 = .ok (.ifCond .ge 7, 3) := db_X8_makeTable_112.2.2.2.1
theorem dX8_makeTable_126 : decode cX8_makeTable 126 = .ok (.aload_n 0, 1) := db_X8_makeTable_112.2.2.2.2.1
theorem dX8_makeTable_127 : decode cX8_makeTable 127 = .ok (.getfield 32, 3) := db_X8_makeTable_112.2.2.2.2.2.1
theorem dX8_makeTable_130 : decode cX8_makeTable 130 = .ok (.iload 4, 2) := db_X8_makeTable_112.2.2.2.2.2.2.1
theorem dX8_makeTable_132 : decode cX8_makeTable 132 = .ok (.iaload, 1) := db_X8_makeTable_112.2.2.2.2.2.2.2
set_option maxRecDepth 20000 in
theorem db_X8_makeTable_133 : (decode cX8_makeTable 133 = .ok (.iconst 1, 1)) ∧ (decode cX8_makeTable 134 = .ok (.iadd, 1)) ∧ (decode cX8_makeTable 135 = .ok (.istore 5, 2)) ∧ (decode cX8_makeTable 137 = .ok (.goto (-101), 3)) ∧ (decode cX8_makeTable 122 = .ok (.iconst 0, 1)) ∧ (decode cX8_makeTable 123 = .ok (.goto 12, 3)) ∧ (decode cX8_makeTable 65 = .ok (.aload_n 0, 1)) ∧ (decode cX8_makeTable 66 = .ok (.iload_n 1, 1)) := by decide +kernel
theorem dX8_makeTable_133 : decode cX8_makeTable 133 = .ok (.iconst 1, 1) := db_X8_makeTable_133.1
theorem dX8_makeTable_134 : decode cX8_makeTable 134 = .ok (.iadd, 1) := db_X8_makeTable_133.2.1
theorem dX8_makeTable_135 : decode cX8_makeTable 135 = .ok (.istore 5, 2) := db_X8_makeTable_133.2.2.1
theorem dX8_makeTable_137 : decode cX8_makeTable 137 = .ok (.goto (-101), 3) := db_X8_makeTable_133.2.2.2.1
theorem dX8_makeTable_122 : decode cX8_makeTable 122 = .ok (.iconst 0, 1) := db_X8_makeTable_133.2.2.2.2.1
theorem dX8_makeTable_123 : decode cX8_makeTable 123 = .ok (.goto 12, 3) := db_X8_makeTable_133.2.2.2.2.2.1
theorem dX8_makeTable_65 : decode cX8_makeTable 65 = .ok (.aload_n 0, 1) := db_X8_makeTable_133.2.2.2.2.2.2.1
theorem dX8_makeTable_66 : decode cX8_makeTable 66 = .ok (.iload_n 1, 1) := db_X8_makeTable_133.2.2.2.2.2.2.2
set_option maxRecDepth 20000 in
theorem db_X8_makeTable_67 : (decode cX8_makeTable 67 = .ok (.iload_n 2, 1)) ∧ (decode cX8_makeTable 68 = .ok (.iload 4, 2)) ∧ (decode cX8_makeTable 70 = .ok (.iconst 1, 1)) ∧ (decode cX8_makeTable 71 = .ok (.iload_n 3, 1)) ∧ (decode cX8_makeTable 72 = .ok (.invokevirtual 111, 3)) ∧ (decode cX8_makeTable 75 = .ok (.istore 4, 2)) ∧ (decode cX8_makeTable 77 = .ok (.iload 4, 2)) ∧ (decode cX8_makeTable 79 = .ok (.iload_n 3, 1)) := by decide +kernel
theorem dX8_makeTable_67 : decode cX8_makeTable 67 = .ok (.iload_n 2, 1) := db_X8_makeTable_67.1
theorem dX8_makeTable_68 : decode cX8_makeTable 68 = .ok (.iload 4, 2) := db_X8_makeTable_67.2.1
theorem dX8_makeTable_70 : decode cX8_makeTable 70 = .ok (.iconst 1, 1) := db_X8_makeTable_67.2.2.1
theorem dX8_makeTable_71 : decode cX8_makeTable 71 = .ok (.iload_n 3, 1) := db_X8_makeTable_67.2.2.2.1
theorem dX8_makeTable_72 : decode cX8_makeTable 72 = .ok (.invokevirtual 111, 3) := db_X8_makeTable_67.2.2.2.2.1
theorem dX8_makeTable_75 : decode cX8_makeTable 75 = .ok (.istore 4, 2) := db_X8_makeTable_67.2.2.2.2.2.1
theorem dX8_makeTable_77 : decode cX8_makeTable 77 = .ok (.iload 4, 2) := db_X8_makeTable_67.2.2.2.2.2.2.1
theorem dX8_makeTable_79 : decode cX8_makeTable 79 = .ok (.iload_n 3, 1) := db_X8_makeTable_67.2.2.2.2.2.2.2
set_option maxRecDepth 20000 in
theorem db_X8_makeTable_80 : (decode cX8_makeTable 80 = .ok (.if_icmp .ge 19, 3)) ∧ (decode cX8_makeTable 99 = .ok (.iconst 0, 1)) ∧ (decode cX8_makeTable 100 = .ok (.istore 5, 2)) ∧ (decode cX8_makeTable 102 = .ok (.goto 35, 3)) ∧ (decode cX8_makeTable 83 = .ok (.aload_n 0, 1)) ∧ (decode cX8_makeTable 84 = .ok (.getfield 7, 3)) ∧ (decode cX8_makeTable 87 = .ok (.iload_n 1, 1)) ∧ (decode cX8_makeTable 88 = .ok (.iload 4, 2)) := by decide +kernel
theorem dX8_makeTable_80 : decode cX8_makeTable 80 = .ok (.if_icmp .ge 19, 3) := db_X8_makeTable_80.1
theorem dX8_makeTable_99 : decode cX8_makeTable 99 = .ok (.iconst 0, 1) := db_X8_makeTable_80.2.1
theorem dX8_makeTable_100 : decode cX8_makeTable 100 = .ok (.istore 5, 2) := db_X8_makeTable_80.2.2.1
theorem dX8_makeTable_102 : decode cX8_makeTable 102 = .ok (.goto 35, 3) := db_X8_makeTable_80.2.2.2.1
theorem dX8_makeTable_83 : decode cX8_makeTable 83 = .ok (.aload_n 0, 1) := db_X8_makeTable_80.2.2.2.2.1
theorem dX8_makeTable_84 : decode cX8_makeTable 84 = .ok (.getfield 7, 3) := db_X8_makeTable_80.2.2.2.2.2.1
theorem dX8_makeTable_87 : decode cX8_makeTable 87 = .ok (.iload_n 1, 1) := db_X8_makeTable_80.2.2.2.2.2.2.1
theorem dX8_makeTable_88 : decode cX8_makeTable 88 = .ok (.iload 4, 2) := db_X8_makeTable_80.2.2.2.2.2.2.2
set_option maxRecDepth 20000 in
theorem ggX8_makeTable_X8_termAt : GoodIn wsX8_makeTable wsX8_termAt := goodIn_r _ [17] rfl (by decide +kernel)
set_option maxRecDepth 20000 in
theorem gX8_makeTable_X8_termAt : GoodIn wsX8_makeTable (va_wsS RX8 98 yX8_termAt wsX8_termAt) := goodIn_app (goodIn_r _ [15, 16, 6] rfl (by decide +kernel)) ggX8_makeTable_X8_termAt
set_option maxRecDepth 20000 in
theorem db_X8_makeTable_90 : (decode cX8_makeTable 90 = .ok (.invokestatic 98, 3)) ∧ (decode cX8_makeTable 93 = .ok (.iconst 3, 1)) ∧ (decode cX8_makeTable 94 = .ok (.iadd, 1)) ∧ (decode cX8_makeTable 95 = .ok (.iaload, 1)) ∧ (decode cX8_makeTable 96 = .ok (.goto 4, 3)) ∧ (decode cX8_makeTable 17 = .ok (.aload_n 0, 1)) ∧ (decode cX8_makeTable 18 = .ok (.getfield 7, 3)) ∧ (decode cX8_makeTable 21 = .ok (.iload_n 1, 1)) := by decide +kernel
theorem dX8_makeTable_90 : decode cX8_makeTable 90 = .ok (.invokestatic 98, 3) := db_X8_makeTable_90.1
theorem dX8_makeTable_93 : decode cX8_makeTable 93 = .ok (.iconst 3, 1) := db_X8_makeTable_90.2.1
theorem dX8_makeTable_94 : decode cX8_makeTable 94 = .ok (.iadd, 1) := db_X8_makeTable_90.2.2.1
theorem dX8_makeTable_95 : decode cX8_makeTable 95 = .ok (.iaload, 1) := db_X8_makeTable_90.2.2.2.1
theorem dX8_makeTable_96 : decode cX8_makeTable 96 = .ok (.goto 4, 3) := db_X8_makeTable_90.2.2.2.2.1
theorem dX8_makeTable_17 : decode cX8_makeTable 17 = .ok (.aload_n 0, 1) := db_X8_makeTable_90.2.2.2.2.2.1
theorem dX8_makeTable_18 : decode cX8_makeTable 18 = .ok (.getfield 7, 3) := db_X8_makeTable_90.2.2.2.2.2.2.1
theorem dX8_makeTable_21 : decode cX8_makeTable 21 = .ok (.iload_n 1, 1) := db_X8_makeTable_90.2.2.2.2.2.2.2
set_option maxRecDepth 20000 in
theorem db_X8_makeTable_22 : (decode cX8_makeTable 22 = .ok (.iload 4, 2)) ∧ (decode cX8_makeTable 24 = .ok (.invokestatic 98, 3)) ∧ (decode cX8_makeTable 27 = .ok (.iconst 3, 1)) ∧ (decode cX8_makeTable 28 = .ok (.iadd, 1)) ∧ (decode cX8_makeTable 29 = .ok (.iaload, 1)) ∧ (decode cX8_makeTable 30 = .ok (.goto 4, 3)) := by decide +kernel
theorem dX8_makeTable_22 : decode cX8_makeTable 22 = .ok (.iload 4, 2) := db_X8_makeTable_22.1
theorem dX8_makeTable_24 : decode cX8_makeTable 24 = .ok (.invokestatic 98, 3) := db_X8_makeTable_22.2.1
theorem dX8_makeTable_27 : decode cX8_makeTable 27 = .ok (.iconst 3, 1) := db_X8_makeTable_22.2.2.1
theorem dX8_makeTable_28 : decode cX8_makeTable 28 = .ok (.iadd, 1) := db_X8_makeTable_22.2.2.2.1
theorem dX8_makeTable_29 : decode cX8_makeTable 29 = .ok (.iaload, 1) := db_X8_makeTable_22.2.2.2.2.1
theorem dX8_makeTable_30 : decode cX8_makeTable 30 = .ok (.goto 4, 3) := db_X8_makeTable_22.2.2.2.2.2
set_option maxRecDepth 20000 in
theorem db_X8_hour_0 : (decode cX8_hour 0 = .ok (.aload_n 0, 1)) ∧ (decode cX8_hour 1 = .ok (.iload_n 1, 1)) ∧ (decode cX8_hour 2 = .ok (.iload_n 2, 1)) ∧ (decode cX8_hour 3 = .ok (.invokevirtual 101, 3)) ∧ (decode cX8_hour 6 = .ok (.ifCond .ne 5, 3)) ∧ (decode cX8_hour 11 = .ok (.aload_n 0, 1)) ∧ (decode cX8_hour 12 = .ok (.getfield 7, 3)) ∧ (decode cX8_hour 15 = .ok (.iload_n 1, 1)) := by decide +kernel
theorem dX8_hour_0 : decode cX8_hour 0 = .ok (.aload_n 0, 1) := db_X8_hour_0.1
theorem dX8_hour_1 : decode cX8_hour 1 = .ok (.iload_n 1, 1) := db_X8_hour_0.2.1
theorem dX8_hour_2 : decode cX8_hour 2 = .ok (.iload_n 2, 1) := db_X8_hour_0.2.2.1
set_option maxRecDepth 20000 in
theorem ggX8_hour_X8_isTerm : GoodIn wsX8_hour wsX8_isTerm := goodIn_r _ [7, 1, 8, 9, 10, 6, 11, 12, 13, 14, 15, 16, 17, 41, 42, 43, 44, 45, 46, 47, 48, 49, 50, 51] rfl (by decide +kernel)
set_option maxRecDepth 20000 in
theorem gX8_hour_X8_isTerm : GoodIn wsX8_hour (wsV RX8 101 RX8 yX8_isTerm wsX8_isTerm) := goodIn_app (goodIn_r _ [3, 4, 5, 6] rfl (by decide +kernel)) ggX8_hour_X8_isTerm
theorem dX8_hour_3 : decode cX8_hour 3 = .ok (.invokevirtual 101, 3) := db_X8_hour_0.2.2.2.1
theorem dX8_hour_6 : decode cX8_hour 6 = .ok (.ifCond .ne 5, 3) := db_X8_hour_0.2.2.2.2.1
theorem dX8_hour_11 : decode cX8_hour 11 = .ok (.aload_n 0, 1) := db_X8_hour_0.2.2.2.2.2.1
theorem dX8_hour_12 : decode cX8_hour 12 = .ok (.getfield 7, 3) := db_X8_hour_0.2.2.2.2.2.2.1
theorem dX8_hour_15 : decode cX8_hour 15 = .ok (.iload_n 1, 1) := db_X8_hour_0.2.2.2.2.2.2.2
set_option maxRecDepth 20000 in
theorem db_X8_hour_16 : (decode cX8_hour 16 = .ok (.iload_n 2, 1)) ∧ (decode cX8_hour 17 = .ok (.invokestatic 98, 3)) ∧ (decode cX8_hour 20 = .ok (.iaload, 1)) ∧ (decode cX8_hour 21 = .ok (.istore_n 3, 1)) ∧ (decode cX8_hour 22 = .ok (.aload_n 0, 1)) ∧ (decode cX8_hour 23 = .ok (.getfield 7, 3)) ∧ (decode cX8_hour 26 = .ok (.iload_n 1, 1)) ∧ (decode cX8_hour 27 = .ok (.iload_n 2, 1)) := by decide +kernel
theorem dX8_hour_16 : decode cX8_hour 16 = .ok (.iload_n 2, 1) := db_X8_hour_16.1
set_option maxRecDepth 20000 in
theorem ggX8_hour_X8_termAt : GoodIn wsX8_hour wsX8_termAt := goodIn_r _ [20] rfl (by decide +kernel)
set_option maxRecDepth 20000 in
theorem gX8_hour_X8_termAt : GoodIn wsX8_hour (va_wsS RX8 98 yX8_termAt wsX8_termAt) := goodIn_app (goodIn_r _ [18, 19, 6] rfl (by decide +kernel)) ggX8_hour_X8_termAt
theorem dX8_hour_17 : decode cX8_hour 17 = .ok (.invokestatic 98, 3) := db_X8_hour_16.2.1
theorem dX8_hour_20 : decode cX8_hour 20 = .ok (.iaload, 1) := db_X8_hour_16.2.2.1
theorem dX8_hour_21 : decode cX8_hour 21 = .ok (.istore_n 3, 1) := db_X8_hour_16.2.2.2.1
theorem dX8_hour_22 : decode cX8_hour 22 = .ok (.aload_n 0, 1) := db_X8_hour_16.2.2.2.2.1
theorem dX8_hour_23 : decode cX8_hour 23 = .ok (.getfield 7, 3) := db_X8_hour_16.2.2.2.2.2.1
theorem dX8_hour_26 : decode cX8_hour 26 = .ok (.iload_n 1, 1) := db_X8_hour_16.2.2.2.2.2.2.1
theorem dX8_hour_27 : decode cX8_hour 27 = .ok (.iload_n 2, 1) := db_X8_hour_16.2.2.2.2.2.2.2
set_option maxRecDepth 20000 in
theorem db_X8_hour_28 : (decode cX8_hour 28 = .ok (.invokestatic 98, 3)) ∧ (decode cX8_hour 31 = .ok (.iconst 1, 1)) ∧ (decode cX8_hour 32 = .ok (.iadd, 1)) ∧ (decode cX8_hour 33 = .ok (.iaload, 1)) ∧ (decode cX8_hour 34 = .ok (.ifCond .ne 6, 3)) ∧ (decode cX8_hour 40 = .ok (.aload_n 0, 1)) ∧ (decode cX8_hour 41 = .ok (.iload_n 1, 1)) ∧ (decode cX8_hour 42 = .ok (.iload_n 3, 1)) := by decide +kernel
theorem dX8_hour_28 : decode cX8_hour 28 = .ok (.invokestatic 98, 3) := db_X8_hour_28.1
theorem dX8_hour_31 : decode cX8_hour 31 = .ok (.iconst 1, 1) := db_X8_hour_28.2.1
theorem dX8_hour_32 : decode cX8_hour 32 = .ok (.iadd, 1) := db_X8_hour_28.2.2.1
theorem dX8_hour_33 : decode cX8_hour 33 = .ok (.iaload, 1) := db_X8_hour_28.2.2.2.1
theorem dX8_hour_34 : decode cX8_hour 34 = .ok (.ifCond .ne 6, 3) := db_X8_hour_28.2.2.2.2.1
theorem dX8_hour_40 : decode cX8_hour 40 = .ok (.aload_n 0, 1) := db_X8_hour_28.2.2.2.2.2.1
theorem dX8_hour_41 : decode cX8_hour 41 = .ok (.iload_n 1, 1) := db_X8_hour_28.2.2.2.2.2.2.1
theorem dX8_hour_42 : decode cX8_hour 42 = .ok (.iload_n 3, 1) := db_X8_hour_28.2.2.2.2.2.2.2
set_option maxRecDepth 20000 in
theorem db_X8_hour_43 : (decode cX8_hour 43 = .ok (.aload_n 0, 1)) ∧ (decode cX8_hour 44 = .ok (.getfield 7, 3)) ∧ (decode cX8_hour 47 = .ok (.iload_n 1, 1)) ∧ (decode cX8_hour 48 = .ok (.bipush 6, 2)) ∧ (decode cX8_hour 50 = .ok (.invokestatic 46, 3)) ∧ (decode cX8_hour 53 = .ok (.iaload, 1)) ∧ (decode cX8_hour 54 = .ok (.invokevirtual 118, 3)) ∧ (decode cX8_hour 57 = .ok (.ifCond .eq 12, 3)) := by decide +kernel
theorem dX8_hour_43 : decode cX8_hour 43 = .ok (.aload_n 0, 1) := db_X8_hour_43.1
theorem dX8_hour_44 : decode cX8_hour 44 = .ok (.getfield 7, 3) := db_X8_hour_43.2.1
theorem dX8_hour_47 : decode cX8_hour 47 = .ok (.iload_n 1, 1) := db_X8_hour_43.2.2.1
theorem dX8_hour_48 : decode cX8_hour 48 = .ok (.bipush 6, 2) := db_X8_hour_43.2.2.2.1
set_option maxRecDepth 20000 in
theorem ggX8_hour_X8_at : GoodIn wsX8_hour wsX8_at := goodIn_r _ [17] rfl (by decide +kernel)
set_option maxRecDepth 20000 in
theorem gX8_hour_X8_at : GoodIn wsX8_hour (va_wsS RX8 46 yX8_at wsX8_at) := goodIn_app (goodIn_r _ [15, 16, 6] rfl (by decide +kernel)) ggX8_hour_X8_at
theorem dX8_hour_50 : decode cX8_hour 50 = .ok (.invokestatic 46, 3) := db_X8_hour_43.2.2.2.2.1
theorem dX8_hour_53 : decode cX8_hour 53 = .ok (.iaload, 1) := db_X8_hour_43.2.2.2.2.2.1
set_option maxRecDepth 20000 in
theorem ggX8_hour_X8_makeTable : GoodIn wsX8_hour wsX8_makeTable := goodIn_r _ [24, 1, 2, 25, 26, 27, 6, 28, 12, 13, 14, 29, 30, 31, 32, 18, 19, 20, 33, 34, 35, 36, 37, 38, 39, 40, 41, 42, 43, 44, 45, 46, 47, 48, 49, 50, 51] rfl (by decide +kernel)
set_option maxRecDepth 20000 in
theorem gX8_hour_X8_makeTable : GoodIn wsX8_hour (wsV RX8 118 RX8 yX8_makeTable wsX8_makeTable) := goodIn_app (goodIn_r _ [21, 22, 23, 6] rfl (by decide +kernel)) ggX8_hour_X8_makeTable
theorem dX8_hour_54 : decode cX8_hour 54 = .ok (.invokevirtual 118, 3) := db_X8_hour_43.2.2.2.2.2.2.1
theorem dX8_hour_57 : decode cX8_hour 57 = .ok (.ifCond .eq 12, 3) := db_X8_hour_43.2.2.2.2.2.2.2
set_option maxRecDepth 20000 in
theorem db_X8_hour_69 : (decode cX8_hour 69 = .ok (.bipush (-5), 2)) ∧ (decode cX8_hour 71 = .ok (.ireturn, 1)) ∧ (decode cX8_hour 60 = .ok (.aload_n 0, 1)) ∧ (decode cX8_hour 61 = .ok (.getfield 32, 3)) ∧ (decode cX8_hour 64 = .ok (.iload_n 2, 1)) ∧ (decode cX8_hour 65 = .ok (.iaload, 1)) ∧ (decode cX8_hour 66 = .ok (.goto 5, 3)) ∧ (decode cX8_hour 37 = .ok (.bipush (-4), 2)) := by decide +kernel
theorem dX8_hour_69 : decode cX8_hour 69 = .ok (.bipush (-5), 2) := db_X8_hour_69.1
theorem dX8_hour_71 : decode cX8_hour 71 = .ok (.ireturn, 1) := db_X8_hour_69.2.1
theorem dX8_hour_60 : decode cX8_hour 60 = .ok (.aload_n 0, 1) := db_X8_hour_69.2.2.1
theorem dX8_hour_61 : decode cX8_hour 61 = .ok (.getfield 32, 3) := db_X8_hour_69.2.2.2.1
theorem dX8_hour_64 : decode cX8_hour 64 = .ok (.iload_n 2, 1) := db_X8_hour_69.2.2.2.2.1
theorem dX8_hour_65 : decode cX8_hour 65 = .ok (.iaload, 1) := db_X8_hour_69.2.2.2.2.2.1
theorem dX8_hour_66 : decode cX8_hour 66 = .ok (.goto 5, 3) := db_X8_hour_69.2.2.2.2.2.2.1
theorem dX8_hour_37 : decode cX8_hour 37 = .ok (.bipush (-4), 2) := db_X8_hour_69.2.2.2.2.2.2.2
set_option maxRecDepth 20000 in
theorem db_X8_hour_39 : (decode cX8_hour 39 = .ok (.ireturn, 1)) ∧ (decode cX8_hour 9 = .ok (.iconst (-1), 1)) ∧ (decode cX8_hour 10 = .ok (.ireturn, 1)) := by decide +kernel
theorem dX8_hour_39 : decode cX8_hour 39 = .ok (.ireturn, 1) := db_X8_hour_39.1
theorem dX8_hour_9 : decode cX8_hour 9 = .ok (.iconst (-1), 1) := db_X8_hour_39.2.1
theorem dX8_hour_10 : decode cX8_hour 10 = .ok (.ireturn, 1) := db_X8_hour_39.2.2
set_option maxRecDepth 20000 in
theorem db_X8_canHold_0 : (decode cX8_canHold 0 = .ok (.aload_n 0, 1)) ∧ (decode cX8_canHold 1 = .ok (.iload_n 1, 1)) ∧ (decode cX8_canHold 2 = .ok (.invokevirtual 50, 3)) ∧ (decode cX8_canHold 5 = .ok (.ifCond .eq 10, 3)) ∧ (decode cX8_canHold 8 = .ok (.iload_n 2, 1)) ∧ (decode cX8_canHold 9 = .ok (.invokestatic 60, 3)) ∧ (decode cX8_canHold 12 = .ok (.ifCond .ne 5, 3)) ∧ (decode cX8_canHold 17 = .ok (.aload_n 0, 1)) := by decide +kernel
theorem dX8_canHold_0 : decode cX8_canHold 0 = .ok (.aload_n 0, 1) := db_X8_canHold_0.1
theorem dX8_canHold_1 : decode cX8_canHold 1 = .ok (.iload_n 1, 1) := db_X8_canHold_0.2.1
set_option maxRecDepth 20000 in
theorem ggX8_canHold_X8_isCase : GoodIn wsX8_canHold wsX8_isCase := goodIn_r _ [6, 1, 7, 8, 5, 9, 40, 41, 42, 43, 44, 45, 46, 47, 48, 49, 50] rfl (by decide +kernel)
set_option maxRecDepth 20000 in
theorem gX8_canHold_X8_isCase : GoodIn wsX8_canHold (wsV RX8 50 RX8 yX8_isCase wsX8_isCase) := goodIn_app (goodIn_r _ [2, 3, 4, 5] rfl (by decide +kernel)) ggX8_canHold_X8_isCase
theorem dX8_canHold_2 : decode cX8_canHold 2 = .ok (.invokevirtual 50, 3) := db_X8_canHold_0.2.2.1
theorem dX8_canHold_5 : decode cX8_canHold 5 = .ok (.ifCond .eq 10, 3) := db_X8_canHold_0.2.2.2.1
theorem dX8_canHold_8 : decode cX8_canHold 8 = .ok (.iload_n 2, 1) := db_X8_canHold_0.2.2.2.2.1
set_option maxRecDepth 20000 in
theorem ggX8_canHold_X8_isSide : GoodIn wsX8_canHold wsX8_isSide := goodIn_r _ [12, 7, 8, 5, 9] rfl (by decide +kernel)
set_option maxRecDepth 20000 in
theorem gX8_canHold_X8_isSide : GoodIn wsX8_canHold (va_wsS RX8 60 yX8_isSide wsX8_isSide) := goodIn_app (goodIn_r _ [10, 11, 5] rfl (by decide +kernel)) ggX8_canHold_X8_isSide
theorem dX8_canHold_9 : decode cX8_canHold 9 = .ok (.invokestatic 60, 3) := db_X8_canHold_0.2.2.2.2.2.1
theorem dX8_canHold_12 : decode cX8_canHold 12 = .ok (.ifCond .ne 5, 3) := db_X8_canHold_0.2.2.2.2.2.2.1
theorem dX8_canHold_17 : decode cX8_canHold 17 = .ok (.aload_n 0, 1) := db_X8_canHold_0.2.2.2.2.2.2.2
set_option maxRecDepth 20000 in
theorem db_X8_canHold_18 : (decode cX8_canHold 18 = .ok (.iload_n 1, 1)) ∧ (decode cX8_canHold 19 = .ok (.iload_n 2, 1)) ∧ (decode cX8_canHold 20 = .ok (.aload_n 0, 1)) ∧ (decode cX8_canHold 21 = .ok (.getfield 7, 3)) ∧ (decode cX8_canHold 24 = .ok (.iload_n 1, 1)) ∧ (decode cX8_canHold 25 = .ok (.bipush 6, 2)) ∧ (decode cX8_canHold 27 = .ok (.invokestatic 46, 3)) ∧ (decode cX8_canHold 30 = .ok (.iaload, 1)) := by decide +kernel
theorem dX8_canHold_18 : decode cX8_canHold 18 = .ok (.iload_n 1, 1) := db_X8_canHold_18.1
theorem dX8_canHold_19 : decode cX8_canHold 19 = .ok (.iload_n 2, 1) := db_X8_canHold_18.2.1
theorem dX8_canHold_20 : decode cX8_canHold 20 = .ok (.aload_n 0, 1) := db_X8_canHold_18.2.2.1
theorem dX8_canHold_21 : decode cX8_canHold 21 = .ok (.getfield 7, 3) := db_X8_canHold_18.2.2.2.1
theorem dX8_canHold_24 : decode cX8_canHold 24 = .ok (.iload_n 1, 1) := db_X8_canHold_18.2.2.2.2.1
theorem dX8_canHold_25 : decode cX8_canHold 25 = .ok (.bipush 6, 2) := db_X8_canHold_18.2.2.2.2.2.1
set_option maxRecDepth 20000 in
theorem ggX8_canHold_X8_at : GoodIn wsX8_canHold wsX8_at := goodIn_r _ [15] rfl (by decide +kernel)
set_option maxRecDepth 20000 in
theorem gX8_canHold_X8_at : GoodIn wsX8_canHold (va_wsS RX8 46 yX8_at wsX8_at) := goodIn_app (goodIn_r _ [13, 14, 5] rfl (by decide +kernel)) ggX8_canHold_X8_at
theorem dX8_canHold_27 : decode cX8_canHold 27 = .ok (.invokestatic 46, 3) := db_X8_canHold_18.2.2.2.2.2.2.1
theorem dX8_canHold_30 : decode cX8_canHold 30 = .ok (.iaload, 1) := db_X8_canHold_18.2.2.2.2.2.2.2
set_option maxRecDepth 20000 in
theorem ggX8_canHold_X8_makeTable : GoodIn wsX8_canHold wsX8_makeTable := goodIn_r _ [19, 1, 20, 21, 22, 23, 5, 24, 7, 8, 9, 25, 26, 27, 28, 29, 30, 31, 32, 33, 34, 35, 36, 37, 38, 39, 40, 41, 42, 43, 44, 45, 46, 47, 48, 49, 50] rfl (by decide +kernel)
set_option maxRecDepth 20000 in
theorem gX8_canHold_X8_makeTable : GoodIn wsX8_canHold (wsV RX8 118 RX8 yX8_makeTable wsX8_makeTable) := goodIn_app (goodIn_r _ [16, 17, 18, 5] rfl (by decide +kernel)) ggX8_canHold_X8_makeTable
set_option maxRecDepth 20000 in
theorem db_X8_canHold_31 : (decode cX8_canHold 31 = .ok (.invokevirtual 118, 3)) ∧ (decode cX8_canHold 34 = .ok (.ifCond .eq 7, 3)) ∧ (decode cX8_canHold 41 = .ok (.iconst 0, 1)) ∧ (decode cX8_canHold 42 = .ok (.ireturn, 1)) ∧ (decode cX8_canHold 37 = .ok (.iconst 1, 1)) ∧ (decode cX8_canHold 38 = .ok (.goto 4, 3)) ∧ (decode cX8_canHold 15 = .ok (.iconst (-1), 1)) ∧ (decode cX8_canHold 16 = .ok (.ireturn, 1)) := by decide +kernel
theorem dX8_canHold_31 : decode cX8_canHold 31 = .ok (.invokevirtual 118, 3) := db_X8_canHold_31.1
theorem dX8_canHold_34 : decode cX8_canHold 34 = .ok (.ifCond .eq 7, 3) := db_X8_canHold_31.2.1
theorem dX8_canHold_41 : decode cX8_canHold 41 = .ok (.iconst 0, 1) := db_X8_canHold_31.2.2.1
theorem dX8_canHold_42 : decode cX8_canHold 42 = .ok (.ireturn, 1) := db_X8_canHold_31.2.2.2.1
theorem dX8_canHold_37 : decode cX8_canHold 37 = .ok (.iconst 1, 1) := db_X8_canHold_31.2.2.2.2.1
theorem dX8_canHold_38 : decode cX8_canHold 38 = .ok (.goto 4, 3) := db_X8_canHold_31.2.2.2.2.2.1
theorem dX8_canHold_15 : decode cX8_canHold 15 = .ok (.iconst (-1), 1) := db_X8_canHold_31.2.2.2.2.2.2.1
theorem dX8_canHold_16 : decode cX8_canHold 16 = .ok (.ireturn, 1) := db_X8_canHold_31.2.2.2.2.2.2.2
set_option maxRecDepth 20000 in
theorem db_X8_breaks_0 : (decode cX8_breaks 0 = .ok (.aload_n 0, 1)) ∧ (decode cX8_breaks 1 = .ok (.iload_n 1, 1)) ∧ (decode cX8_breaks 2 = .ok (.invokevirtual 50, 3)) ∧ (decode cX8_breaks 5 = .ok (.ifCond .eq 10, 3)) ∧ (decode cX8_breaks 8 = .ok (.iload_n 2, 1)) ∧ (decode cX8_breaks 9 = .ok (.invokestatic 60, 3)) ∧ (decode cX8_breaks 12 = .ok (.ifCond .ne 5, 3)) ∧ (decode cX8_breaks 17 = .ok (.iconst 0, 1)) := by decide +kernel
theorem dX8_breaks_0 : decode cX8_breaks 0 = .ok (.aload_n 0, 1) := db_X8_breaks_0.1
theorem dX8_breaks_1 : decode cX8_breaks 1 = .ok (.iload_n 1, 1) := db_X8_breaks_0.2.1
set_option maxRecDepth 20000 in
theorem ggX8_breaks_X8_isCase : GoodIn wsX8_breaks wsX8_isCase := goodIn_r _ [6, 1, 7, 8, 5, 9, 40, 41, 42, 43, 44, 45, 46, 47, 48, 49, 50] rfl (by decide +kernel)
set_option maxRecDepth 20000 in
theorem gX8_breaks_X8_isCase : GoodIn wsX8_breaks (wsV RX8 50 RX8 yX8_isCase wsX8_isCase) := goodIn_app (goodIn_r _ [2, 3, 4, 5] rfl (by decide +kernel)) ggX8_breaks_X8_isCase
theorem dX8_breaks_2 : decode cX8_breaks 2 = .ok (.invokevirtual 50, 3) := db_X8_breaks_0.2.2.1
theorem dX8_breaks_5 : decode cX8_breaks 5 = .ok (.ifCond .eq 10, 3) := db_X8_breaks_0.2.2.2.1
theorem dX8_breaks_8 : decode cX8_breaks 8 = .ok (.iload_n 2, 1) := db_X8_breaks_0.2.2.2.2.1
set_option maxRecDepth 20000 in
theorem ggX8_breaks_X8_isSide : GoodIn wsX8_breaks wsX8_isSide := goodIn_r _ [12, 7, 8, 5, 9] rfl (by decide +kernel)
set_option maxRecDepth 20000 in
theorem gX8_breaks_X8_isSide : GoodIn wsX8_breaks (va_wsS RX8 60 yX8_isSide wsX8_isSide) := goodIn_app (goodIn_r _ [10, 11, 5] rfl (by decide +kernel)) ggX8_breaks_X8_isSide
theorem dX8_breaks_9 : decode cX8_breaks 9 = .ok (.invokestatic 60, 3) := db_X8_breaks_0.2.2.2.2.2.1
theorem dX8_breaks_12 : decode cX8_breaks 12 = .ok (.ifCond .ne 5, 3) := db_X8_breaks_0.2.2.2.2.2.2.1
theorem dX8_breaks_17 : decode cX8_breaks 17 = .ok (.iconst 0, 1) := db_X8_breaks_0.2.2.2.2.2.2.2
set_option maxRecDepth 20000 in
theorem db_X8_breaks_18 : (decode cX8_breaks 18 = .ok (.istore_n 3, 1)) ∧ (decode cX8_breaks 19 = .ok (.iload_n 3, 1)) ∧ (decode cX8_breaks 20 = .ok (.aload_n 0, 1)) ∧ (decode cX8_breaks 21 = .ok (.getfield 7, 3)) ∧ (decode cX8_breaks 24 = .ok (.iload_n 1, 1)) ∧ (decode cX8_breaks 25 = .ok (.bipush 6, 2)) ∧ (decode cX8_breaks 27 = .ok (.invokestatic 46, 3)) ∧ (decode cX8_breaks 30 = .ok (.iaload, 1)) := by decide +kernel
theorem dX8_breaks_18 : decode cX8_breaks 18 = .ok (.istore_n 3, 1) := db_X8_breaks_18.1
theorem dX8_breaks_19 : decode cX8_breaks 19 = .ok (.iload_n 3, 1) := db_X8_breaks_18.2.1
theorem dX8_breaks_20 : decode cX8_breaks 20 = .ok (.aload_n 0, 1) := db_X8_breaks_18.2.2.1
theorem dX8_breaks_21 : decode cX8_breaks 21 = .ok (.getfield 7, 3) := db_X8_breaks_18.2.2.2.1
theorem dX8_breaks_24 : decode cX8_breaks 24 = .ok (.iload_n 1, 1) := db_X8_breaks_18.2.2.2.2.1
theorem dX8_breaks_25 : decode cX8_breaks 25 = .ok (.bipush 6, 2) := db_X8_breaks_18.2.2.2.2.2.1
set_option maxRecDepth 20000 in
theorem ggX8_breaks_X8_at : GoodIn wsX8_breaks wsX8_at := goodIn_r _ [15] rfl (by decide +kernel)
set_option maxRecDepth 20000 in
theorem gX8_breaks_X8_at : GoodIn wsX8_breaks (va_wsS RX8 46 yX8_at wsX8_at) := goodIn_app (goodIn_r _ [13, 14, 5] rfl (by decide +kernel)) ggX8_breaks_X8_at
theorem dX8_breaks_27 : decode cX8_breaks 27 = .ok (.invokestatic 46, 3) := db_X8_breaks_18.2.2.2.2.2.2.1
theorem dX8_breaks_30 : decode cX8_breaks 30 = .ok (.iaload, 1) := db_X8_breaks_18.2.2.2.2.2.2.2
set_option maxRecDepth 20000 in
theorem db_X8_breaks_31 : (decode cX8_breaks 31 = .ok (.if_icmp .ge 37, 3)) ∧ (decode cX8_breaks 68 = .ok (.bipush (-5), 2)) ∧ (decode cX8_breaks 70 = .ok (.ireturn, 1)) ∧ (decode cX8_breaks 34 = .ok (.aload_n 0, 1)) ∧ (decode cX8_breaks 35 = .ok (.getfield 7, 3)) ∧ (decode cX8_breaks 38 = .ok (.iload_n 1, 1)) ∧ (decode cX8_breaks 39 = .ok (.iload_n 3, 1)) ∧ (decode cX8_breaks 40 = .ok (.invokestatic 98, 3)) := by decide +kernel
theorem dX8_breaks_31 : decode cX8_breaks 31 = .ok (.if_icmp .ge 37, 3) := db_X8_breaks_31.1
theorem dX8_breaks_68 : decode cX8_breaks 68 = .ok (.bipush (-5), 2) := db_X8_breaks_31.2.1
theorem dX8_breaks_70 : decode cX8_breaks 70 = .ok (.ireturn, 1) := db_X8_breaks_31.2.2.1
theorem dX8_breaks_34 : decode cX8_breaks 34 = .ok (.aload_n 0, 1) := db_X8_breaks_31.2.2.2.1
theorem dX8_breaks_35 : decode cX8_breaks 35 = .ok (.getfield 7, 3) := db_X8_breaks_31.2.2.2.2.1
theorem dX8_breaks_38 : decode cX8_breaks 38 = .ok (.iload_n 1, 1) := db_X8_breaks_31.2.2.2.2.2.1
theorem dX8_breaks_39 : decode cX8_breaks 39 = .ok (.iload_n 3, 1) := db_X8_breaks_31.2.2.2.2.2.2.1
set_option maxRecDepth 20000 in
theorem ggX8_breaks_X8_termAt : GoodIn wsX8_breaks wsX8_termAt := goodIn_r _ [18] rfl (by decide +kernel)
set_option maxRecDepth 20000 in
theorem gX8_breaks_X8_termAt : GoodIn wsX8_breaks (va_wsS RX8 98 yX8_termAt wsX8_termAt) := goodIn_app (goodIn_r _ [16, 17, 5] rfl (by decide +kernel)) ggX8_breaks_X8_termAt
theorem dX8_breaks_40 : decode cX8_breaks 40 = .ok (.invokestatic 98, 3) := db_X8_breaks_31.2.2.2.2.2.2.2
set_option maxRecDepth 20000 in
theorem db_X8_breaks_43 : (decode cX8_breaks 43 = .ok (.iaload, 1)) ∧ (decode cX8_breaks 44 = .ok (.iload_n 2, 1)) ∧ (decode cX8_breaks 45 = .ok (.if_icmp .ne 17, 3)) ∧ (decode cX8_breaks 62 = .ok (.iinc 3 1, 3)) ∧ (decode cX8_breaks 65 = .ok (.goto (-46), 3)) ∧ (decode cX8_breaks 48 = .ok (.aload_n 0, 1)) ∧ (decode cX8_breaks 49 = .ok (.iload_n 1, 1)) ∧ (decode cX8_breaks 50 = .ok (.iload_n 2, 1)) := by decide +kernel
theorem dX8_breaks_43 : decode cX8_breaks 43 = .ok (.iaload, 1) := db_X8_breaks_43.1
theorem dX8_breaks_44 : decode cX8_breaks 44 = .ok (.iload_n 2, 1) := db_X8_breaks_43.2.1
theorem dX8_breaks_45 : decode cX8_breaks 45 = .ok (.if_icmp .ne 17, 3) := db_X8_breaks_43.2.2.1
theorem dX8_breaks_62 : decode cX8_breaks 62 = .ok (.iinc 3 1, 3) := db_X8_breaks_43.2.2.2.1
theorem dX8_breaks_65 : decode cX8_breaks 65 = .ok (.goto (-46), 3) := db_X8_breaks_43.2.2.2.2.1
theorem dX8_breaks_48 : decode cX8_breaks 48 = .ok (.aload_n 0, 1) := db_X8_breaks_43.2.2.2.2.2.1
theorem dX8_breaks_49 : decode cX8_breaks 49 = .ok (.iload_n 1, 1) := db_X8_breaks_43.2.2.2.2.2.2.1
theorem dX8_breaks_50 : decode cX8_breaks 50 = .ok (.iload_n 2, 1) := db_X8_breaks_43.2.2.2.2.2.2.2
set_option maxRecDepth 20000 in
theorem db_X8_breaks_51 : (decode cX8_breaks 51 = .ok (.iload_n 3, 1)) ∧ (decode cX8_breaks 52 = .ok (.iconst 1, 1)) ∧ (decode cX8_breaks 53 = .ok (.iadd, 1)) ∧ (decode cX8_breaks 54 = .ok (.invokevirtual 118, 3)) ∧ (decode cX8_breaks 57 = .ok (.ifCond .ne 5, 3)) ∧ (decode cX8_breaks 60 = .ok (.iload_n 3, 1)) ∧ (decode cX8_breaks 61 = .ok (.ireturn, 1)) ∧ (decode cX8_breaks 15 = .ok (.iconst (-1), 1)) := by decide +kernel
theorem dX8_breaks_51 : decode cX8_breaks 51 = .ok (.iload_n 3, 1) := db_X8_breaks_51.1
theorem dX8_breaks_52 : decode cX8_breaks 52 = .ok (.iconst 1, 1) := db_X8_breaks_51.2.1
theorem dX8_breaks_53 : decode cX8_breaks 53 = .ok (.iadd, 1) := db_X8_breaks_51.2.2.1
set_option maxRecDepth 20000 in
theorem ggX8_breaks_X8_makeTable : GoodIn wsX8_breaks wsX8_makeTable := goodIn_r _ [22, 1, 23, 24, 25, 26, 5, 27, 7, 8, 9, 28, 29, 30, 31, 16, 17, 18, 32, 33, 34, 35, 36, 37, 38, 39, 40, 41, 42, 43, 44, 45, 46, 47, 48, 49, 50] rfl (by decide +kernel)
set_option maxRecDepth 20000 in
theorem gX8_breaks_X8_makeTable : GoodIn wsX8_breaks (wsV RX8 118 RX8 yX8_makeTable wsX8_makeTable) := goodIn_app (goodIn_r _ [19, 20, 21, 5] rfl (by decide +kernel)) ggX8_breaks_X8_makeTable
theorem dX8_breaks_54 : decode cX8_breaks 54 = .ok (.invokevirtual 118, 3) := db_X8_breaks_51.2.2.2.1
theorem dX8_breaks_57 : decode cX8_breaks 57 = .ok (.ifCond .ne 5, 3) := db_X8_breaks_51.2.2.2.2.1
theorem dX8_breaks_60 : decode cX8_breaks 60 = .ok (.iload_n 3, 1) := db_X8_breaks_51.2.2.2.2.2.1
theorem dX8_breaks_61 : decode cX8_breaks 61 = .ok (.ireturn, 1) := db_X8_breaks_51.2.2.2.2.2.2.1
theorem dX8_breaks_15 : decode cX8_breaks 15 = .ok (.iconst (-1), 1) := db_X8_breaks_51.2.2.2.2.2.2.2
theorem dX8_breaks_16 : decode cX8_breaks 16 = .ok (.ireturn, 1) := by decide +kernel
set_option maxHeartbeats 4000000 in
set_option maxRecDepth 100000 in
theorem q_X8_makeTable (l : Launch) (dC : Nat → ClassId) (dI : Nat → Nat → Nat) (cy : Nat → ClassId) (sz : Nat) (ad : Nat → Nat) (v : Nat → Nat → Int32) (hv : Ir v) (x0 x1 x2 : Int32) (h0 : 0 ≤ x0.toInt ∧ x0.toInt ≤ 5) (h2 : 0 ≤ x2.toInt ∧ x2.toInt ≤ 5) : Met l yX8_makeTable wsX8_makeTable ({ frames := 3, cells := 0, slots := 0, locals := 192 }) (va_Pc [.ref (ad 0), .int x0, .int x1, .int x2] (ex_Pre dC dI cy sz (wm ad cy v))) (va_Qi (fun (r : Int32) (u : Nat → Nat → Int32) => Ir u ∧ Fq v u ∧ (r = 0 ∨ r = 1)) (fun u t => ex_Pst dC dI (va_A (wm ad cy v) sz) (wm ad cy u) t) (va_A (wm ad cy v) sz)) 0 0 (va_A (wm ad cy v) sz) := by
  refine Met.ofW (cc := cX8_makeTable) (maxL := 7) (ret := (some .boolean)) (by decide) rfl ?_
  intro p e s m args below meth c s₁ B hml hv
  obtain ⟨rfl, hsz, hE, hP, hK, hD0⟩ := hv
  have hx := B.exec
  have hb := B.bytes
  have hr := B.returns
  have hts := atoms_spec (ws := wsX8_makeTable) B.pre
  have hown : s.vm.findClass RX8 = some m.cls := findClass_of_methodNamed B.named
  have hlocks := B.notSynchronized
  subst hsz
  have hD := hD0.self (sz := s.heap.size)
  generalize hAe : va_A (wm ad cy v) s.heap.size = A at hD ⊢
  have hA : ∀ q : Nat, s.heap.size ≤ q → A q := fun q h => by rw [← hAe]; exact Or.inr h
  have hS : va_S A s.heap s.heap [] := va_S.rf
  have hP : va_P (dC, dI) vwCl (wm ad cy v) s.heap := hP
  have hl := lv_entry ([.ref (ad 0), .int x0, .int x1, .int x2]) (n := 7) (Nat.le_of_ble_eq_true rfl)
  rw [lg_entry_eq]
  generalize (lg_sl ([.ref (ad 0), .int x0, .int x1, .int x2]) ++ List.replicate (7 - (lg_sl ([.ref (ad 0), .int x0, .int x1, .int x2])).length) Slot.unset).toArray = ls at hl ⊢
  have hl : lv_has ls 7 [(0, .ref (ad 0)), (1, .int x0), (2, .int x1), (3, .int x2)] := hl
  have hfr : Fq v v := Fq.rf
  refine lv_aload_n hx hb dX8_makeTable_0 rfl (lv_at hl 0 rfl) ?_
  refine lv_iload_n hx hb dX8_makeTable_1 rfl (lv_at hl 1 rfl) ?_
  refine lv_iload_n hx hb dX8_makeTable_2 rfl (lv_at hl 2 rfl) ?_
  refine lv_iconst (v := (-1)) hx hb dX8_makeTable_3 (by decide) ?_
  refine lv_iconst (v := 1) hx hb dX8_makeTable_4 (by decide) ?_
  refine lv_iload_n hx hb dX8_makeTable_5 rfl (lv_at hl 3 rfl) ?_
  have k_1 : (1 : Int32).toInt = 1 := by decide
  have k_m1 : ((-1) : Int32).toInt = -1 := by decide
  refine yw_i (w1 := fun (u : Nat → Nat → Int32) => wm ad cy u) hD hS hA (va_runV (As := [.int x0, .int x1, .int (-1), .int 1, .int x2]) (rest := []) ⟨hx, hb, hml, hown, hts⟩ (q_X8_next_f l dC dI cy _ ad v hv x0 x1 ((-1) : Int32) x2 ⟨by omega, by omega⟩ ⟨by omega, by omega⟩ ⟨by omega, by omega⟩) (cwV 5 hts gX8_makeTable_X8_next rfl rfl rfl hd_V_X8_next_5 ⟨Nat.le_of_ble_eq_true rfl, Nat.le_of_ble_eq_true rfl⟩) (yw_preV hE hK hP hD (ci := 8) (q := (RX8, TX8, 11)) (q0 := 0) rfl (wm_at (by decide) rc_0)) rfl rfl hl.1 rfl (lv_room (Nat.le_of_ble_eq_true rfl)) dX8_makeTable_6 ⟨Nat.le_of_ble_eq_true rfl, Nat.le_of_ble_eq_true rfl⟩) (fun r_1 v_1 H locs hw_1 hP hD hS => ?_)
  obtain ⟨-, hu_1, hw_1⟩ := hw_1
  replace hu_1 := hu_1.symm
  subst hu_1
  obtain ⟨hn_2, hg_2, hq_2⟩ := hw_1
  refine lv_istore (lv' := [(4, .int r_1), (0, .ref (ad 0)), (1, .int x0), (2, .int x1), (3, .int x2)]) hx hb dX8_makeTable_9 hl (by decide) rfl (fun ls hl => ?_)
  refine lv_iload hx hb dX8_makeTable_11 (lv_at hl 0 rfl) ?_
  refine lv_iload_n hx hb dX8_makeTable_13 rfl (lv_at hl 4 rfl) ?_
  refine lv_icmp_ge (tgt := 33) hx hb dX8_makeTable_14 (by decide) (fun c_3 => ?_) (fun c_3 => ?_)
  · have tc_3 : r_1.toInt ≥ x2.toInt := Int32.le_iff_toInt_le.mp c_3
    refine lv_iconst (v := 0) hx hb dX8_makeTable_33 (by decide) ?_
    refine lv_istore (lv' := [(5, .int 0), (4, .int r_1), (0, .ref (ad 0)), (1, .int x0), (2, .int x1), (3, .int x2)]) hx hb dX8_makeTable_34 hl (by decide) rfl (fun ls hl => ?_)
    have hc_4 : ∀ (n : Nat) (y4_4 y4_5 : Int32) (u4 : Nat → Nat → Int32) (H : Heap) (locs : List Loc), -1 ≤ y4_4.toInt → y4_4.toInt ≤ 5 → 0 ≤ y4_5.toInt → y4_5.toInt ≤ 24 → (∀ i : Nat, (i : Int) < y4_4.toInt → ow (v 1) (158 + 25 * x0.toNatClampNeg) x1 i → 0 ≤ (u4 7 i).toInt ∧ (u4 7 i).toInt ≤ 23) → (y4_4.toInt ≤ x2.toInt) → (mt (dg (v 1) (158 + 25 * x0.toNatClampNeg) x1 (u4 7)) y4_4.toInt y4_5.toInt).toNat < n → Ir u4 → Fq v u4 → va_P (dC, dI) vwCl (wm ad cy u4) H → va_D A (wm ad cy u4) → va_S A s.heap H locs → ∀ ls : Array Slot, lv_has ls 7 [(5, .int y4_5), (4, .int y4_4), (0, .ref (ad 0)), (1, .int x0), (2, .int x1), (3, .int x2)] → W p l e (headSpec wsX8_makeTable ({ frames := 3, cells := 0, slots := 0, locals := 192 })).room s m [Value.ref (ad 0), Value.int x0, Value.int x1, Value.int x2].toArray below meth c H locs 0 0 (MQ below (va_Qi (fun (r : Int32) (u : Nat → Nat → Int32) => Ir u ∧ Fq v u ∧ (r = 0 ∨ r = 1)) (fun u t => ex_Pst dC dI A (wm ad cy u) t) A) [Value.ref (ad 0), Value.int x0, Value.int x1, Value.int x2].toArray s 0 0 A) (F0 m 36 ls []) := by
      intro n
      induction n with
      | zero =>
        intro y4_4 y4_5 u4 H locs ay4_4 by4_4 ay4_5 by4_5 hi4_0 hi4_1 hm_4 hv hfr hP hD hS ls hl
        exact absurd hm_4 (by omega)
      | succ n ih_4 =>
        intro y4_4 y4_5 u4 H locs ay4_4 by4_4 ay4_5 by4_5 hi4_0 hi4_1 hm_4 hv hfr hP hD hS ls hl
        refine lv_iload hx hb dX8_makeTable_36 (lv_at hl 1 rfl) ?_
        have k_0 : (0 : Int32).toInt = 0 := by decide
        refine lv_if_lt (tgt := 140) hx hb dX8_makeTable_38 (by decide) (fun c_5 => ?_) (fun c_5 => ?_)
        · have tc_5 : y4_4.toInt < (0 : Int32).toInt := Int32.lt_iff_toInt_lt.mp c_5
          refine lv_iload hx hb dX8_makeTable_140 (lv_at hl 1 rfl) ?_
          refine lv_if_lt (tgt := 149) hx hb dX8_makeTable_142 (by decide) (fun c_6 => ?_) (fun c_6 => ?_)
          · have tc_6 : y4_4.toInt < (0 : Int32).toInt := Int32.lt_iff_toInt_lt.mp c_6
            refine lv_iconst (v := 0) hx hb dX8_makeTable_149 (by decide) ?_
            exact W.zret (ty := .boolean) (v := 0) hx hb hr rfl (fun t ht hW => ⟨⟨0, u4, rfl, ⟨hv, hfr, by decide⟩, by rw [ht]; exact hP, hD⟩, hS.F ht⟩) hS.2.2 dX8_makeTable_150
          · have tc_6 : y4_4.toInt ≥ (0 : Int32).toInt := Int32.le_iff_toInt_le.mp (Int32.not_lt.mp c_6)
            exfalso
            omega
        · have tc_5 : y4_4.toInt ≥ (0 : Int32).toInt := Int32.le_iff_toInt_le.mp (Int32.not_lt.mp c_5)
          refine lv_iload hx hb dX8_makeTable_41 (lv_at hl 1 rfl) ?_
          refine lv_iload_n hx hb dX8_makeTable_43 rfl (lv_at hl 5 rfl) ?_
          refine lv_icmp_ge (tgt := 140) hx hb dX8_makeTable_44 (by decide) (fun c_6 => ?_) (fun c_6 => ?_)
          · have tc_6 : y4_4.toInt ≥ x2.toInt := Int32.le_iff_toInt_le.mp c_6
            refine lv_iload hx hb dX8_makeTable_140 (lv_at hl 1 rfl) ?_
            refine lv_if_lt (tgt := 149) hx hb dX8_makeTable_142 (by decide) (fun c_7 => ?_) (fun c_7 => ?_)
            · have tc_7 : y4_4.toInt < (0 : Int32).toInt := Int32.lt_iff_toInt_lt.mp c_7
              exfalso
              omega
            · have tc_7 : y4_4.toInt ≥ (0 : Int32).toInt := Int32.le_iff_toInt_le.mp (Int32.not_lt.mp c_7)
              refine lv_iconst (v := 1) hx hb dX8_makeTable_145 (by decide) ?_
              refine lv_goto (tgt := 150) hx hb dX8_makeTable_146 (by decide) ?_
              exact W.zret (ty := .boolean) (v := 1) hx hb hr rfl (fun t ht hW => ⟨⟨1, u4, rfl, ⟨hv, hfr, by decide⟩, by rw [ht]; exact hP, hD⟩, hS.F ht⟩) hS.2.2 dX8_makeTable_150
          · have tc_6 : y4_4.toInt < x2.toInt := Int32.lt_iff_toInt_lt.mp (Int32.not_le.mp c_6)
            refine lv_aload_n hx hb dX8_makeTable_47 rfl (lv_at hl 2 rfl) ?_
            refine lv_iload_n hx hb dX8_makeTable_48 rfl (lv_at hl 3 rfl) ?_
            refine lv_iload_n hx hb dX8_makeTable_49 rfl (lv_at hl 4 rfl) ?_
            refine lv_iload hx hb dX8_makeTable_50 (lv_at hl 1 rfl) ?_
            refine lv_iload hx hb dX8_makeTable_52 (lv_at hl 0 rfl) ?_
            refine lv_iload_n hx hb dX8_makeTable_54 rfl (lv_at hl 5 rfl) ?_
            refine yw_i (w1 := fun (u : Nat → Nat → Int32) => wm ad cy u) hD hS hA (va_runV (As := [.int x0, .int x1, .int y4_4, .int y4_5, .int x2]) (rest := []) ⟨hx, hb, hml, hown, hts⟩ (q_X8_hourFrom l dC dI cy _ ad u4 hv x0 x1 y4_4 y4_5 x2 ⟨by omega, by omega⟩ ⟨by omega, by omega⟩ ⟨by omega, by omega⟩ ⟨by omega, by omega⟩) (cwV 5 hts gX8_makeTable_X8_hourFrom rfl rfl rfl hd_V_X8_hourFrom_5 ⟨Nat.le_of_ble_eq_true rfl, Nat.le_of_ble_eq_true rfl⟩) (yw_preV hE hK hP hD (ci := 8) (q := (RX8, TX8, 11)) (q0 := 0) rfl (wm_at (by decide) rc_0)) rfl rfl hl.1 rfl (lv_room (Nat.le_of_ble_eq_true rfl)) dX8_makeTable_55 ⟨Nat.le_of_ble_eq_true rfl, Nat.le_of_ble_eq_true rfl⟩) (fun r_7 v_7 H locs hw_7 hP hD hS => ?_)
            obtain ⟨hv, hf_7, hw_7⟩ := hw_7
            have hfr : Fq v v_7 := hfr.trans hf_7
            obtain ⟨he_8, hr_8⟩ := hw_7
            refine lv_istore (lv' := [(6, .int r_7), (5, .int y4_5), (4, .int y4_4), (0, .ref (ad 0)), (1, .int x0), (2, .int x1), (3, .int x2)]) hx hb dX8_makeTable_58 hl (by decide) rfl (fun ls hl => ?_)
            refine lv_iload hx hb dX8_makeTable_60 (lv_at hl 0 rfl) ?_
            refine lv_if_lt (tgt := 105) hx hb dX8_makeTable_62 (by decide) (fun c_9 => ?_) (fun c_9 => ?_)
            · have tc_9 : r_7.toInt < (0 : Int32).toInt := Int32.lt_iff_toInt_lt.mp c_9
              refine lv_aload_n hx hb dX8_makeTable_105 rfl (lv_at hl 3 rfl) ?_
              refine lv_iload_n hx hb dX8_makeTable_106 rfl (lv_at hl 4 rfl) ?_
              refine lv_iload_n hx hb dX8_makeTable_107 rfl (lv_at hl 5 rfl) ?_
              refine lv_iload hx hb dX8_makeTable_108 (lv_at hl 2 rfl) ?_
              refine lv_iconst (v := (-1)) hx hb dX8_makeTable_110 (by decide) ?_
              refine lv_iload_n hx hb dX8_makeTable_111 rfl (lv_at hl 6 rfl) ?_
              refine yw_i (w1 := fun (u : Nat → Nat → Int32) => wm ad cy u) hD hS hA (va_runV (As := [.int x0, .int x1, .int y4_4, .int (-1), .int x2]) (rest := []) ⟨hx, hb, hml, hown, hts⟩ (q_X8_next_b l dC dI cy _ ad v_7 hv x0 x1 y4_4 x2 ⟨by omega, by omega⟩ ⟨by omega, by omega⟩ ⟨by omega, by omega⟩) (cwV 5 hts gX8_makeTable_X8_next rfl rfl rfl hd_V_X8_next_5 ⟨Nat.le_of_ble_eq_true rfl, Nat.le_of_ble_eq_true rfl⟩) (yw_preV hE hK hP hD (ci := 8) (q := (RX8, TX8, 11)) (q0 := 0) rfl (wm_at (by decide) rc_0)) rfl rfl hl.1 rfl (lv_room (Nat.le_of_ble_eq_true rfl)) dX8_makeTable_112 ⟨Nat.le_of_ble_eq_true rfl, Nat.le_of_ble_eq_true rfl⟩) (fun r_10 v_10 H locs hw_10 hP hD hS => ?_)
              obtain ⟨-, hu_10, hw_10⟩ := hw_10
              replace hu_10 := hu_10.symm
              subst hu_10
              obtain ⟨hn_11, hg_11, hq_11⟩ := hw_10
              rw [hfr.1] at hq_11
              refine lv_istore (lv' := [(4, .int r_10), (6, .int r_7), (5, .int y4_5), (0, .ref (ad 0)), (1, .int x0), (2, .int x1), (3, .int x2)]) hx hb dX8_makeTable_115 hl (by decide) rfl (fun ls hl => ?_)
              refine lv_iload hx hb dX8_makeTable_117 (lv_at hl 0 rfl) ?_
              refine lv_if_ge (tgt := 126) hx hb dX8_makeTable_119 (by decide) (fun c_12 => ?_) (fun c_12 => ?_)
              · have tc_12 : r_10.toInt ≥ (0 : Int32).toInt := Int32.le_iff_toInt_le.mp c_12
                refine lv_aload_n hx hb dX8_makeTable_126 rfl (lv_at hl 3 rfl) ?_
                refine va_get (D := (dC, dI)) (ci := 8) (v := .ref (ad 7)) (C := RX8) (T := TX8) (N := 11) hx hb hts iwX8_makeTable_X8 hown hK hP (0) (wm_at (by decide) rc_0) rfl 10 (by decide) (hts (.fieldLink RX8 32 "QuietStairsModel" "hours" "[I") fwX8_makeTable_2) (fun _ h9 => h9) rfl dX8_makeTable_127 ?_
                refine lv_iload hx hb dX8_makeTable_130 (lv_at hl 0 rfl) ?_
                refine va_iald hx hb hK hP (7) 0 (wm_at (by decide) rc_7) rfl (vp_in_iff.mpr ⟨by omega, by omega⟩) dX8_makeTable_132 ?_
                refine lv_topi (fun x_13 ex_13 => ?_)
                have bzx_13 : 0 ≤ x_13.toInt ∧ x_13.toInt ≤ 23 := by rw [ex_13, he_8 _ (nn (by omega) (by omega) (by omega))]; exact hi4_0 _ (by have z1 := t_nn (x := r_10) (by omega); omega) (hq_11 (by omega))
                refine lv_iconst (v := 1) hx hb dX8_makeTable_133 (by decide) ?_
                refine lv_iadd hx hb dX8_makeTable_134 ?_
                refine lv_topi (fun x_14 ex_14 => ?_)
                have tx_14 : x_14.toInt = x_13.toInt + (1 : Int32).toInt := by rw [ex_14]; exact t_add ⟨by omega, by omega⟩
                refine lv_istore (lv' := [(5, .int x_14), (4, .int r_10), (6, .int r_7), (0, .ref (ad 0)), (1, .int x0), (2, .int x1), (3, .int x2)]) hx hb dX8_makeTable_135 hl (by decide) rfl (fun ls hl => ?_)
                refine lv_goto (tgt := 36) hx hb dX8_makeTable_137 (by decide) ?_
                exact ih_4 r_10 x_14 v_7 _ _ (by omega) (by omega) (by omega) (by omega) ((mt_b (s := v 1) (B := (158 + 25 * x0.toNatClampNeg)) (sd := x1) (h := u4 7) (h' := v_7 7) (t := y4_4) (t' := r_10) (f := y4_5) (f' := x_14) ⟨by omega, by omega⟩ ⟨by omega, by omega⟩ ⟨by omega, by omega⟩ he_8 hq_11 (Or.inr ⟨by omega, by rw [← ex_13]; omega⟩) hi4_0).1) (by omega) (by have z1 := (mt_b (s := v 1) (B := (158 + 25 * x0.toNatClampNeg)) (sd := x1) (h := u4 7) (h' := v_7 7) (t := y4_4) (t' := r_10) (f := y4_5) (f' := x_14) ⟨by omega, by omega⟩ ⟨by omega, by omega⟩ ⟨by omega, by omega⟩ he_8 hq_11 (Or.inr ⟨by omega, by rw [← ex_13]; omega⟩) hi4_0).2; omega) hv hfr hP hD hS ls (lv_sub hl [0, 1, 3, 4, 5, 6] rfl)
              · have tc_12 : r_10.toInt < (0 : Int32).toInt := Int32.lt_iff_toInt_lt.mp (Int32.not_le.mp c_12)
                refine lv_iconst (v := 0) hx hb dX8_makeTable_122 (by decide) ?_
                refine lv_goto (tgt := 135) hx hb dX8_makeTable_123 (by decide) ?_
                refine lv_istore (lv' := [(5, .int 0), (4, .int r_10), (6, .int r_7), (0, .ref (ad 0)), (1, .int x0), (2, .int x1), (3, .int x2)]) hx hb dX8_makeTable_135 hl (by decide) rfl (fun ls hl => ?_)
                refine lv_goto (tgt := 36) hx hb dX8_makeTable_137 (by decide) ?_
                exact ih_4 r_10 0 v_7 _ _ (by omega) (by omega) (by omega) (by omega) ((mt_b (s := v 1) (B := (158 + 25 * x0.toNatClampNeg)) (sd := x1) (h := u4 7) (h' := v_7 7) (t := y4_4) (t' := r_10) (f := y4_5) (f' := (0 : Int32)) ⟨by omega, by omega⟩ ⟨by omega, by omega⟩ ⟨by omega, by omega⟩ he_8 hq_11 (Or.inl ⟨by omega, by omega⟩) hi4_0).1) (by omega) (by have z1 := (mt_b (s := v 1) (B := (158 + 25 * x0.toNatClampNeg)) (sd := x1) (h := u4 7) (h' := v_7 7) (t := y4_4) (t' := r_10) (f := y4_5) (f' := (0 : Int32)) ⟨by omega, by omega⟩ ⟨by omega, by omega⟩ ⟨by omega, by omega⟩ he_8 hq_11 (Or.inl ⟨by omega, by omega⟩) hi4_0).2; omega) hv hfr hP hD hS ls (lv_sub hl [0, 1, 3, 4, 5, 6] rfl)
            · have tc_9 : r_7.toInt ≥ (0 : Int32).toInt := Int32.le_iff_toInt_le.mp (Int32.not_lt.mp c_9)
              refine lv_aload_n hx hb dX8_makeTable_65 rfl (lv_at hl 3 rfl) ?_
              refine lv_iload_n hx hb dX8_makeTable_66 rfl (lv_at hl 4 rfl) ?_
              refine lv_iload_n hx hb dX8_makeTable_67 rfl (lv_at hl 5 rfl) ?_
              refine lv_iload hx hb dX8_makeTable_68 (lv_at hl 2 rfl) ?_
              refine lv_iconst (v := 1) hx hb dX8_makeTable_70 (by decide) ?_
              refine lv_iload_n hx hb dX8_makeTable_71 rfl (lv_at hl 6 rfl) ?_
              refine yw_i (w1 := fun (u : Nat → Nat → Int32) => wm ad cy u) hD hS hA (va_runV (As := [.int x0, .int x1, .int y4_4, .int 1, .int x2]) (rest := []) ⟨hx, hb, hml, hown, hts⟩ (q_X8_next_f l dC dI cy _ ad v_7 hv x0 x1 y4_4 x2 ⟨by omega, by omega⟩ ⟨by omega, by omega⟩ ⟨by omega, by omega⟩) (cwV 5 hts gX8_makeTable_X8_next rfl rfl rfl hd_V_X8_next_5 ⟨Nat.le_of_ble_eq_true rfl, Nat.le_of_ble_eq_true rfl⟩) (yw_preV hE hK hP hD (ci := 8) (q := (RX8, TX8, 11)) (q0 := 0) rfl (wm_at (by decide) rc_0)) rfl rfl hl.1 rfl (lv_room (Nat.le_of_ble_eq_true rfl)) dX8_makeTable_72 ⟨Nat.le_of_ble_eq_true rfl, Nat.le_of_ble_eq_true rfl⟩) (fun r_10 v_10 H locs hw_10 hP hD hS => ?_)
              obtain ⟨-, hu_10, hw_10⟩ := hw_10
              replace hu_10 := hu_10.symm
              subst hu_10
              obtain ⟨hn_11, hg_11, hq_11⟩ := hw_10
              rw [hfr.1] at hq_11
              refine lv_istore (lv' := [(4, .int r_10), (6, .int r_7), (5, .int y4_5), (0, .ref (ad 0)), (1, .int x0), (2, .int x1), (3, .int x2)]) hx hb dX8_makeTable_75 hl (by decide) rfl (fun ls hl => ?_)
              refine lv_iload hx hb dX8_makeTable_77 (lv_at hl 0 rfl) ?_
              refine lv_iload_n hx hb dX8_makeTable_79 rfl (lv_at hl 6 rfl) ?_
              refine lv_icmp_ge (tgt := 99) hx hb dX8_makeTable_80 (by decide) (fun c_12 => ?_) (fun c_12 => ?_)
              · have tc_12 : r_10.toInt ≥ x2.toInt := Int32.le_iff_toInt_le.mp c_12
                refine lv_iconst (v := 0) hx hb dX8_makeTable_99 (by decide) ?_
                refine lv_istore (lv' := [(5, .int 0), (4, .int r_10), (6, .int r_7), (0, .ref (ad 0)), (1, .int x0), (2, .int x1), (3, .int x2)]) hx hb dX8_makeTable_100 hl (by decide) rfl (fun ls hl => ?_)
                refine lv_goto (tgt := 137) hx hb dX8_makeTable_102 (by decide) ?_
                refine lv_goto (tgt := 36) hx hb dX8_makeTable_137 (by decide) ?_
                exact ih_4 r_10 0 v_7 _ _ (by omega) (by omega) (by omega) (by omega) ((mt_f (s := v 1) (B := (158 + 25 * x0.toNatClampNeg)) (sd := x1) (h := u4 7) (h' := v_7 7) (t := y4_4) (t' := r_10) (f := y4_5) (f' := (0 : Int32)) (r := r_7) ⟨by omega, by omega⟩ ⟨by omega, by omega⟩ ⟨by omega, by omega⟩ (by omega) ⟨by omega, by omega⟩ he_8 (by omega) hq_11 hi4_0).1) (by omega) (by have z1 := (mt_f (s := v 1) (B := (158 + 25 * x0.toNatClampNeg)) (sd := x1) (h := u4 7) (h' := v_7 7) (t := y4_4) (t' := r_10) (f := y4_5) (f' := (0 : Int32)) (r := r_7) ⟨by omega, by omega⟩ ⟨by omega, by omega⟩ ⟨by omega, by omega⟩ (by omega) ⟨by omega, by omega⟩ he_8 (by omega) hq_11 hi4_0).2; omega) hv hfr hP hD hS ls (lv_sub hl [0, 1, 3, 4, 5, 6] rfl)
              · have tc_12 : r_10.toInt < x2.toInt := Int32.lt_iff_toInt_lt.mp (Int32.not_le.mp c_12)
                refine lv_aload_n hx hb dX8_makeTable_83 rfl (lv_at hl 3 rfl) ?_
                refine va_get (D := (dC, dI)) (ci := 8) (v := .ref (ad 1)) (C := RX8) (T := TX8) (N := 11) hx hb hts iwX8_makeTable_X8 hown hK hP (0) (wm_at (by decide) rc_0) rfl 0 (by decide) (hts (.fieldLink RX8 7 "QuietStairsModel" "s" "[I") fwX8_makeTable_1) (fun _ h9 => h9) rfl dX8_makeTable_84 ?_
                refine lv_iload_n hx hb dX8_makeTable_87 rfl (lv_at hl 4 rfl) ?_
                refine lv_iload hx hb dX8_makeTable_88 (lv_at hl 0 rfl) ?_
                refine yc_p hP hS (va_runS (As := [.int x0, .int r_10]) (rest := [.ref (ad 1)]) ⟨hx, hb, hml, hown, hts⟩ (c_X8_termAt l x0 r_10) (cwS 2 hts gX8_makeTable_X8_termAt rfl rfl rfl hd_S_X8_termAt_2 ⟨Nat.le_of_ble_eq_true rfl, Nat.le_of_ble_eq_true rfl⟩) ex_preP rfl rfl hl.1 rfl (lv_room (Nat.le_of_ble_eq_true rfl)) dX8_makeTable_90 ⟨Nat.le_of_ble_eq_true rfl, Nat.le_of_ble_eq_true rfl⟩) (fun r_13 H locs hw_13 hP hS => ?_)
                have tr_13 : r_13.toInt = 158 + 25 * x0.toInt + 5 * r_10.toInt := t_tm hw_13 ⟨by omega, by omega⟩ ⟨by omega, by omega⟩
                refine lv_iconst (v := 3) hx hb dX8_makeTable_93 (by decide) ?_
                refine lv_iadd hx hb dX8_makeTable_94 ?_
                refine lv_topi (fun x_14 ex_14 => ?_)
                have k_3 : (3 : Int32).toInt = 3 := by decide
                have tx_14 : x_14.toInt = r_13.toInt + (3 : Int32).toInt := by rw [ex_14]; exact t_add ⟨by omega, by omega⟩
                refine va_iald hx hb hK hP (1) 0 (wm_at (by decide) rc_1) rfl (vp_in_iff.mpr ⟨by omega, by omega⟩) dX8_makeTable_95 ?_
                refine lv_topi (fun x_15 ex_15 => ?_)
                have bzx_15 : 0 ≤ x_15.toInt ∧ x_15.toInt ≤ 23 := by rw [ex_15]; exact hv 1 _ 23 (bx_t3 (i := 5 * x0.toInt + r_10.toInt) (s := 3) (by omega) ⟨by omega, by omega⟩ (by omega))
                refine lv_goto (tgt := 100) hx hb dX8_makeTable_96 (by decide) ?_
                refine lv_istore (lv' := [(5, .int x_15), (4, .int r_10), (6, .int r_7), (0, .ref (ad 0)), (1, .int x0), (2, .int x1), (3, .int x2)]) hx hb dX8_makeTable_100 hl (by decide) rfl (fun ls hl => ?_)
                refine lv_goto (tgt := 137) hx hb dX8_makeTable_102 (by decide) ?_
                refine lv_goto (tgt := 36) hx hb dX8_makeTable_137 (by decide) ?_
                exact ih_4 r_10 x_15 v_7 _ _ (by omega) (by omega) (by omega) (by omega) ((mt_f (s := v 1) (B := (158 + 25 * x0.toNatClampNeg)) (sd := x1) (h := u4 7) (h' := v_7 7) (t := y4_4) (t' := r_10) (f := y4_5) (f' := x_15) (r := r_7) ⟨by omega, by omega⟩ ⟨by omega, by omega⟩ ⟨by omega, by omega⟩ (by omega) ⟨by omega, by omega⟩ he_8 (by omega) hq_11 hi4_0).1) (by omega) (by have z1 := (mt_f (s := v 1) (B := (158 + 25 * x0.toNatClampNeg)) (sd := x1) (h := u4 7) (h' := v_7 7) (t := y4_4) (t' := r_10) (f := y4_5) (f' := x_15) (r := r_7) ⟨by omega, by omega⟩ ⟨by omega, by omega⟩ ⟨by omega, by omega⟩ (by omega) ⟨by omega, by omega⟩ he_8 (by omega) hq_11 hi4_0).2; omega) hv hfr hP hD hS ls (lv_sub hl [0, 1, 3, 4, 5, 6] rfl)
    have k_0 : (0 : Int32).toInt = 0 := by decide
    exact hc_4 ((mt (dg (v 1) (158 + 25 * x0.toNatClampNeg) x1 (v 7)) r_1.toInt (0 : Int32).toInt).toNat + 1) r_1 0 v _ _ (by omega) (by omega) (by omega) (by omega) (fun i h1 h2 => absurd h2 (hq_2 i (by omega) h1)) (by omega) (by omega) hv hfr hP hD hS ls (lv_sub hl [0, 1, 2, 3, 4, 5] rfl)
  · have tc_3 : r_1.toInt < x2.toInt := Int32.lt_iff_toInt_lt.mp (Int32.not_le.mp c_3)
    refine lv_aload_n hx hb dX8_makeTable_17 rfl (lv_at hl 1 rfl) ?_
    refine va_get (D := (dC, dI)) (ci := 8) (v := .ref (ad 1)) (C := RX8) (T := TX8) (N := 11) hx hb hts iwX8_makeTable_X8 hown hK hP (0) (wm_at (by decide) rc_0) rfl 0 (by decide) (hts (.fieldLink RX8 7 "QuietStairsModel" "s" "[I") fwX8_makeTable_1) (fun _ h9 => h9) rfl dX8_makeTable_18 ?_
    refine lv_iload_n hx hb dX8_makeTable_21 rfl (lv_at hl 2 rfl) ?_
    refine lv_iload hx hb dX8_makeTable_22 (lv_at hl 0 rfl) ?_
    refine yc_p hP hS (va_runS (As := [.int x0, .int r_1]) (rest := [.ref (ad 1)]) ⟨hx, hb, hml, hown, hts⟩ (c_X8_termAt l x0 r_1) (cwS 2 hts gX8_makeTable_X8_termAt rfl rfl rfl hd_S_X8_termAt_2 ⟨Nat.le_of_ble_eq_true rfl, Nat.le_of_ble_eq_true rfl⟩) ex_preP rfl rfl hl.1 rfl (lv_room (Nat.le_of_ble_eq_true rfl)) dX8_makeTable_24 ⟨Nat.le_of_ble_eq_true rfl, Nat.le_of_ble_eq_true rfl⟩) (fun r_4 H locs hw_4 hP hS => ?_)
    have tr_4 : r_4.toInt = 158 + 25 * x0.toInt + 5 * r_1.toInt := t_tm hw_4 ⟨by omega, by omega⟩ ⟨by omega, by omega⟩
    refine lv_iconst (v := 3) hx hb dX8_makeTable_27 (by decide) ?_
    refine lv_iadd hx hb dX8_makeTable_28 ?_
    refine lv_topi (fun x_5 ex_5 => ?_)
    have k_3 : (3 : Int32).toInt = 3 := by decide
    have tx_5 : x_5.toInt = r_4.toInt + (3 : Int32).toInt := by rw [ex_5]; exact t_add ⟨by omega, by omega⟩
    refine va_iald hx hb hK hP (1) 0 (wm_at (by decide) rc_1) rfl (vp_in_iff.mpr ⟨by omega, by omega⟩) dX8_makeTable_29 ?_
    refine lv_topi (fun x_6 ex_6 => ?_)
    have bzx_6 : 0 ≤ x_6.toInt ∧ x_6.toInt ≤ 23 := by rw [ex_6]; exact hv 1 _ 23 (bx_t3 (i := 5 * x0.toInt + r_1.toInt) (s := 3) (by omega) ⟨by omega, by omega⟩ (by omega))
    refine lv_goto (tgt := 34) hx hb dX8_makeTable_30 (by decide) ?_
    refine lv_istore (lv' := [(5, .int x_6), (4, .int r_1), (0, .ref (ad 0)), (1, .int x0), (2, .int x1), (3, .int x2)]) hx hb dX8_makeTable_34 hl (by decide) rfl (fun ls hl => ?_)
    have hc_7 : ∀ (n : Nat) (y7_4 y7_5 : Int32) (u7 : Nat → Nat → Int32) (H : Heap) (locs : List Loc), -1 ≤ y7_4.toInt → y7_4.toInt ≤ 5 → 0 ≤ y7_5.toInt → y7_5.toInt ≤ 24 → (∀ i : Nat, (i : Int) < y7_4.toInt → ow (v 1) (158 + 25 * x0.toNatClampNeg) x1 i → 0 ≤ (u7 7 i).toInt ∧ (u7 7 i).toInt ≤ 23) → (y7_4.toInt ≤ x2.toInt) → (mt (dg (v 1) (158 + 25 * x0.toNatClampNeg) x1 (u7 7)) y7_4.toInt y7_5.toInt).toNat < n → Ir u7 → Fq v u7 → va_P (dC, dI) vwCl (wm ad cy u7) H → va_D A (wm ad cy u7) → va_S A s.heap H locs → ∀ ls : Array Slot, lv_has ls 7 [(5, .int y7_5), (4, .int y7_4), (0, .ref (ad 0)), (1, .int x0), (2, .int x1), (3, .int x2)] → W p l e (headSpec wsX8_makeTable ({ frames := 3, cells := 0, slots := 0, locals := 192 })).room s m [Value.ref (ad 0), Value.int x0, Value.int x1, Value.int x2].toArray below meth c H locs 0 0 (MQ below (va_Qi (fun (r : Int32) (u : Nat → Nat → Int32) => Ir u ∧ Fq v u ∧ (r = 0 ∨ r = 1)) (fun u t => ex_Pst dC dI A (wm ad cy u) t) A) [Value.ref (ad 0), Value.int x0, Value.int x1, Value.int x2].toArray s 0 0 A) (F0 m 36 ls []) := by
      intro n
      induction n with
      | zero =>
        intro y7_4 y7_5 u7 H locs ay7_4 by7_4 ay7_5 by7_5 hi7_0 hi7_1 hm_7 hv hfr hP hD hS ls hl
        exact absurd hm_7 (by omega)
      | succ n ih_7 =>
        intro y7_4 y7_5 u7 H locs ay7_4 by7_4 ay7_5 by7_5 hi7_0 hi7_1 hm_7 hv hfr hP hD hS ls hl
        refine lv_iload hx hb dX8_makeTable_36 (lv_at hl 1 rfl) ?_
        have k_0 : (0 : Int32).toInt = 0 := by decide
        refine lv_if_lt (tgt := 140) hx hb dX8_makeTable_38 (by decide) (fun c_8 => ?_) (fun c_8 => ?_)
        · have tc_8 : y7_4.toInt < (0 : Int32).toInt := Int32.lt_iff_toInt_lt.mp c_8
          refine lv_iload hx hb dX8_makeTable_140 (lv_at hl 1 rfl) ?_
          refine lv_if_lt (tgt := 149) hx hb dX8_makeTable_142 (by decide) (fun c_9 => ?_) (fun c_9 => ?_)
          · have tc_9 : y7_4.toInt < (0 : Int32).toInt := Int32.lt_iff_toInt_lt.mp c_9
            refine lv_iconst (v := 0) hx hb dX8_makeTable_149 (by decide) ?_
            exact W.zret (ty := .boolean) (v := 0) hx hb hr rfl (fun t ht hW => ⟨⟨0, u7, rfl, ⟨hv, hfr, by decide⟩, by rw [ht]; exact hP, hD⟩, hS.F ht⟩) hS.2.2 dX8_makeTable_150
          · have tc_9 : y7_4.toInt ≥ (0 : Int32).toInt := Int32.le_iff_toInt_le.mp (Int32.not_lt.mp c_9)
            exfalso
            omega
        · have tc_8 : y7_4.toInt ≥ (0 : Int32).toInt := Int32.le_iff_toInt_le.mp (Int32.not_lt.mp c_8)
          refine lv_iload hx hb dX8_makeTable_41 (lv_at hl 1 rfl) ?_
          refine lv_iload_n hx hb dX8_makeTable_43 rfl (lv_at hl 5 rfl) ?_
          refine lv_icmp_ge (tgt := 140) hx hb dX8_makeTable_44 (by decide) (fun c_9 => ?_) (fun c_9 => ?_)
          · have tc_9 : y7_4.toInt ≥ x2.toInt := Int32.le_iff_toInt_le.mp c_9
            refine lv_iload hx hb dX8_makeTable_140 (lv_at hl 1 rfl) ?_
            refine lv_if_lt (tgt := 149) hx hb dX8_makeTable_142 (by decide) (fun c_10 => ?_) (fun c_10 => ?_)
            · have tc_10 : y7_4.toInt < (0 : Int32).toInt := Int32.lt_iff_toInt_lt.mp c_10
              exfalso
              omega
            · have tc_10 : y7_4.toInt ≥ (0 : Int32).toInt := Int32.le_iff_toInt_le.mp (Int32.not_lt.mp c_10)
              refine lv_iconst (v := 1) hx hb dX8_makeTable_145 (by decide) ?_
              refine lv_goto (tgt := 150) hx hb dX8_makeTable_146 (by decide) ?_
              exact W.zret (ty := .boolean) (v := 1) hx hb hr rfl (fun t ht hW => ⟨⟨1, u7, rfl, ⟨hv, hfr, by decide⟩, by rw [ht]; exact hP, hD⟩, hS.F ht⟩) hS.2.2 dX8_makeTable_150
          · have tc_9 : y7_4.toInt < x2.toInt := Int32.lt_iff_toInt_lt.mp (Int32.not_le.mp c_9)
            refine lv_aload_n hx hb dX8_makeTable_47 rfl (lv_at hl 2 rfl) ?_
            refine lv_iload_n hx hb dX8_makeTable_48 rfl (lv_at hl 3 rfl) ?_
            refine lv_iload_n hx hb dX8_makeTable_49 rfl (lv_at hl 4 rfl) ?_
            refine lv_iload hx hb dX8_makeTable_50 (lv_at hl 1 rfl) ?_
            refine lv_iload hx hb dX8_makeTable_52 (lv_at hl 0 rfl) ?_
            refine lv_iload_n hx hb dX8_makeTable_54 rfl (lv_at hl 5 rfl) ?_
            refine yw_i (w1 := fun (u : Nat → Nat → Int32) => wm ad cy u) hD hS hA (va_runV (As := [.int x0, .int x1, .int y7_4, .int y7_5, .int x2]) (rest := []) ⟨hx, hb, hml, hown, hts⟩ (q_X8_hourFrom l dC dI cy _ ad u7 hv x0 x1 y7_4 y7_5 x2 ⟨by omega, by omega⟩ ⟨by omega, by omega⟩ ⟨by omega, by omega⟩ ⟨by omega, by omega⟩) (cwV 5 hts gX8_makeTable_X8_hourFrom rfl rfl rfl hd_V_X8_hourFrom_5 ⟨Nat.le_of_ble_eq_true rfl, Nat.le_of_ble_eq_true rfl⟩) (yw_preV hE hK hP hD (ci := 8) (q := (RX8, TX8, 11)) (q0 := 0) rfl (wm_at (by decide) rc_0)) rfl rfl hl.1 rfl (lv_room (Nat.le_of_ble_eq_true rfl)) dX8_makeTable_55 ⟨Nat.le_of_ble_eq_true rfl, Nat.le_of_ble_eq_true rfl⟩) (fun r_10 v_10 H locs hw_10 hP hD hS => ?_)
            obtain ⟨hv, hf_10, hw_10⟩ := hw_10
            have hfr : Fq v v_10 := hfr.trans hf_10
            obtain ⟨he_11, hr_11⟩ := hw_10
            refine lv_istore (lv' := [(6, .int r_10), (5, .int y7_5), (4, .int y7_4), (0, .ref (ad 0)), (1, .int x0), (2, .int x1), (3, .int x2)]) hx hb dX8_makeTable_58 hl (by decide) rfl (fun ls hl => ?_)
            refine lv_iload hx hb dX8_makeTable_60 (lv_at hl 0 rfl) ?_
            refine lv_if_lt (tgt := 105) hx hb dX8_makeTable_62 (by decide) (fun c_12 => ?_) (fun c_12 => ?_)
            · have tc_12 : r_10.toInt < (0 : Int32).toInt := Int32.lt_iff_toInt_lt.mp c_12
              refine lv_aload_n hx hb dX8_makeTable_105 rfl (lv_at hl 3 rfl) ?_
              refine lv_iload_n hx hb dX8_makeTable_106 rfl (lv_at hl 4 rfl) ?_
              refine lv_iload_n hx hb dX8_makeTable_107 rfl (lv_at hl 5 rfl) ?_
              refine lv_iload hx hb dX8_makeTable_108 (lv_at hl 2 rfl) ?_
              refine lv_iconst (v := (-1)) hx hb dX8_makeTable_110 (by decide) ?_
              refine lv_iload_n hx hb dX8_makeTable_111 rfl (lv_at hl 6 rfl) ?_
              refine yw_i (w1 := fun (u : Nat → Nat → Int32) => wm ad cy u) hD hS hA (va_runV (As := [.int x0, .int x1, .int y7_4, .int (-1), .int x2]) (rest := []) ⟨hx, hb, hml, hown, hts⟩ (q_X8_next_b l dC dI cy _ ad v_10 hv x0 x1 y7_4 x2 ⟨by omega, by omega⟩ ⟨by omega, by omega⟩ ⟨by omega, by omega⟩) (cwV 5 hts gX8_makeTable_X8_next rfl rfl rfl hd_V_X8_next_5 ⟨Nat.le_of_ble_eq_true rfl, Nat.le_of_ble_eq_true rfl⟩) (yw_preV hE hK hP hD (ci := 8) (q := (RX8, TX8, 11)) (q0 := 0) rfl (wm_at (by decide) rc_0)) rfl rfl hl.1 rfl (lv_room (Nat.le_of_ble_eq_true rfl)) dX8_makeTable_112 ⟨Nat.le_of_ble_eq_true rfl, Nat.le_of_ble_eq_true rfl⟩) (fun r_13 v_13 H locs hw_13 hP hD hS => ?_)
              obtain ⟨-, hu_13, hw_13⟩ := hw_13
              replace hu_13 := hu_13.symm
              subst hu_13
              obtain ⟨hn_14, hg_14, hq_14⟩ := hw_13
              rw [hfr.1] at hq_14
              refine lv_istore (lv' := [(4, .int r_13), (6, .int r_10), (5, .int y7_5), (0, .ref (ad 0)), (1, .int x0), (2, .int x1), (3, .int x2)]) hx hb dX8_makeTable_115 hl (by decide) rfl (fun ls hl => ?_)
              refine lv_iload hx hb dX8_makeTable_117 (lv_at hl 0 rfl) ?_
              refine lv_if_ge (tgt := 126) hx hb dX8_makeTable_119 (by decide) (fun c_15 => ?_) (fun c_15 => ?_)
              · have tc_15 : r_13.toInt ≥ (0 : Int32).toInt := Int32.le_iff_toInt_le.mp c_15
                refine lv_aload_n hx hb dX8_makeTable_126 rfl (lv_at hl 3 rfl) ?_
                refine va_get (D := (dC, dI)) (ci := 8) (v := .ref (ad 7)) (C := RX8) (T := TX8) (N := 11) hx hb hts iwX8_makeTable_X8 hown hK hP (0) (wm_at (by decide) rc_0) rfl 10 (by decide) (hts (.fieldLink RX8 32 "QuietStairsModel" "hours" "[I") fwX8_makeTable_2) (fun _ h9 => h9) rfl dX8_makeTable_127 ?_
                refine lv_iload hx hb dX8_makeTable_130 (lv_at hl 0 rfl) ?_
                refine va_iald hx hb hK hP (7) 0 (wm_at (by decide) rc_7) rfl (vp_in_iff.mpr ⟨by omega, by omega⟩) dX8_makeTable_132 ?_
                refine lv_topi (fun x_16 ex_16 => ?_)
                have bzx_16 : 0 ≤ x_16.toInt ∧ x_16.toInt ≤ 23 := by rw [ex_16, he_11 _ (nn (by omega) (by omega) (by omega))]; exact hi7_0 _ (by have z1 := t_nn (x := r_13) (by omega); omega) (hq_14 (by omega))
                refine lv_iconst (v := 1) hx hb dX8_makeTable_133 (by decide) ?_
                refine lv_iadd hx hb dX8_makeTable_134 ?_
                refine lv_topi (fun x_17 ex_17 => ?_)
                have tx_17 : x_17.toInt = x_16.toInt + (1 : Int32).toInt := by rw [ex_17]; exact t_add ⟨by omega, by omega⟩
                refine lv_istore (lv' := [(5, .int x_17), (4, .int r_13), (6, .int r_10), (0, .ref (ad 0)), (1, .int x0), (2, .int x1), (3, .int x2)]) hx hb dX8_makeTable_135 hl (by decide) rfl (fun ls hl => ?_)
                refine lv_goto (tgt := 36) hx hb dX8_makeTable_137 (by decide) ?_
                exact ih_7 r_13 x_17 v_10 _ _ (by omega) (by omega) (by omega) (by omega) ((mt_b (s := v 1) (B := (158 + 25 * x0.toNatClampNeg)) (sd := x1) (h := u7 7) (h' := v_10 7) (t := y7_4) (t' := r_13) (f := y7_5) (f' := x_17) ⟨by omega, by omega⟩ ⟨by omega, by omega⟩ ⟨by omega, by omega⟩ he_11 hq_14 (Or.inr ⟨by omega, by rw [← ex_16]; omega⟩) hi7_0).1) (by omega) (by have z1 := (mt_b (s := v 1) (B := (158 + 25 * x0.toNatClampNeg)) (sd := x1) (h := u7 7) (h' := v_10 7) (t := y7_4) (t' := r_13) (f := y7_5) (f' := x_17) ⟨by omega, by omega⟩ ⟨by omega, by omega⟩ ⟨by omega, by omega⟩ he_11 hq_14 (Or.inr ⟨by omega, by rw [← ex_16]; omega⟩) hi7_0).2; omega) hv hfr hP hD hS ls (lv_sub hl [0, 1, 3, 4, 5, 6] rfl)
              · have tc_15 : r_13.toInt < (0 : Int32).toInt := Int32.lt_iff_toInt_lt.mp (Int32.not_le.mp c_15)
                refine lv_iconst (v := 0) hx hb dX8_makeTable_122 (by decide) ?_
                refine lv_goto (tgt := 135) hx hb dX8_makeTable_123 (by decide) ?_
                refine lv_istore (lv' := [(5, .int 0), (4, .int r_13), (6, .int r_10), (0, .ref (ad 0)), (1, .int x0), (2, .int x1), (3, .int x2)]) hx hb dX8_makeTable_135 hl (by decide) rfl (fun ls hl => ?_)
                refine lv_goto (tgt := 36) hx hb dX8_makeTable_137 (by decide) ?_
                exact ih_7 r_13 0 v_10 _ _ (by omega) (by omega) (by omega) (by omega) ((mt_b (s := v 1) (B := (158 + 25 * x0.toNatClampNeg)) (sd := x1) (h := u7 7) (h' := v_10 7) (t := y7_4) (t' := r_13) (f := y7_5) (f' := (0 : Int32)) ⟨by omega, by omega⟩ ⟨by omega, by omega⟩ ⟨by omega, by omega⟩ he_11 hq_14 (Or.inl ⟨by omega, by omega⟩) hi7_0).1) (by omega) (by have z1 := (mt_b (s := v 1) (B := (158 + 25 * x0.toNatClampNeg)) (sd := x1) (h := u7 7) (h' := v_10 7) (t := y7_4) (t' := r_13) (f := y7_5) (f' := (0 : Int32)) ⟨by omega, by omega⟩ ⟨by omega, by omega⟩ ⟨by omega, by omega⟩ he_11 hq_14 (Or.inl ⟨by omega, by omega⟩) hi7_0).2; omega) hv hfr hP hD hS ls (lv_sub hl [0, 1, 3, 4, 5, 6] rfl)
            · have tc_12 : r_10.toInt ≥ (0 : Int32).toInt := Int32.le_iff_toInt_le.mp (Int32.not_lt.mp c_12)
              refine lv_aload_n hx hb dX8_makeTable_65 rfl (lv_at hl 3 rfl) ?_
              refine lv_iload_n hx hb dX8_makeTable_66 rfl (lv_at hl 4 rfl) ?_
              refine lv_iload_n hx hb dX8_makeTable_67 rfl (lv_at hl 5 rfl) ?_
              refine lv_iload hx hb dX8_makeTable_68 (lv_at hl 2 rfl) ?_
              refine lv_iconst (v := 1) hx hb dX8_makeTable_70 (by decide) ?_
              refine lv_iload_n hx hb dX8_makeTable_71 rfl (lv_at hl 6 rfl) ?_
              refine yw_i (w1 := fun (u : Nat → Nat → Int32) => wm ad cy u) hD hS hA (va_runV (As := [.int x0, .int x1, .int y7_4, .int 1, .int x2]) (rest := []) ⟨hx, hb, hml, hown, hts⟩ (q_X8_next_f l dC dI cy _ ad v_10 hv x0 x1 y7_4 x2 ⟨by omega, by omega⟩ ⟨by omega, by omega⟩ ⟨by omega, by omega⟩) (cwV 5 hts gX8_makeTable_X8_next rfl rfl rfl hd_V_X8_next_5 ⟨Nat.le_of_ble_eq_true rfl, Nat.le_of_ble_eq_true rfl⟩) (yw_preV hE hK hP hD (ci := 8) (q := (RX8, TX8, 11)) (q0 := 0) rfl (wm_at (by decide) rc_0)) rfl rfl hl.1 rfl (lv_room (Nat.le_of_ble_eq_true rfl)) dX8_makeTable_72 ⟨Nat.le_of_ble_eq_true rfl, Nat.le_of_ble_eq_true rfl⟩) (fun r_13 v_13 H locs hw_13 hP hD hS => ?_)
              obtain ⟨-, hu_13, hw_13⟩ := hw_13
              replace hu_13 := hu_13.symm
              subst hu_13
              obtain ⟨hn_14, hg_14, hq_14⟩ := hw_13
              rw [hfr.1] at hq_14
              refine lv_istore (lv' := [(4, .int r_13), (6, .int r_10), (5, .int y7_5), (0, .ref (ad 0)), (1, .int x0), (2, .int x1), (3, .int x2)]) hx hb dX8_makeTable_75 hl (by decide) rfl (fun ls hl => ?_)
              refine lv_iload hx hb dX8_makeTable_77 (lv_at hl 0 rfl) ?_
              refine lv_iload_n hx hb dX8_makeTable_79 rfl (lv_at hl 6 rfl) ?_
              refine lv_icmp_ge (tgt := 99) hx hb dX8_makeTable_80 (by decide) (fun c_15 => ?_) (fun c_15 => ?_)
              · have tc_15 : r_13.toInt ≥ x2.toInt := Int32.le_iff_toInt_le.mp c_15
                refine lv_iconst (v := 0) hx hb dX8_makeTable_99 (by decide) ?_
                refine lv_istore (lv' := [(5, .int 0), (4, .int r_13), (6, .int r_10), (0, .ref (ad 0)), (1, .int x0), (2, .int x1), (3, .int x2)]) hx hb dX8_makeTable_100 hl (by decide) rfl (fun ls hl => ?_)
                refine lv_goto (tgt := 137) hx hb dX8_makeTable_102 (by decide) ?_
                refine lv_goto (tgt := 36) hx hb dX8_makeTable_137 (by decide) ?_
                exact ih_7 r_13 0 v_10 _ _ (by omega) (by omega) (by omega) (by omega) ((mt_f (s := v 1) (B := (158 + 25 * x0.toNatClampNeg)) (sd := x1) (h := u7 7) (h' := v_10 7) (t := y7_4) (t' := r_13) (f := y7_5) (f' := (0 : Int32)) (r := r_10) ⟨by omega, by omega⟩ ⟨by omega, by omega⟩ ⟨by omega, by omega⟩ (by omega) ⟨by omega, by omega⟩ he_11 (by omega) hq_14 hi7_0).1) (by omega) (by have z1 := (mt_f (s := v 1) (B := (158 + 25 * x0.toNatClampNeg)) (sd := x1) (h := u7 7) (h' := v_10 7) (t := y7_4) (t' := r_13) (f := y7_5) (f' := (0 : Int32)) (r := r_10) ⟨by omega, by omega⟩ ⟨by omega, by omega⟩ ⟨by omega, by omega⟩ (by omega) ⟨by omega, by omega⟩ he_11 (by omega) hq_14 hi7_0).2; omega) hv hfr hP hD hS ls (lv_sub hl [0, 1, 3, 4, 5, 6] rfl)
              · have tc_15 : r_13.toInt < x2.toInt := Int32.lt_iff_toInt_lt.mp (Int32.not_le.mp c_15)
                refine lv_aload_n hx hb dX8_makeTable_83 rfl (lv_at hl 3 rfl) ?_
                refine va_get (D := (dC, dI)) (ci := 8) (v := .ref (ad 1)) (C := RX8) (T := TX8) (N := 11) hx hb hts iwX8_makeTable_X8 hown hK hP (0) (wm_at (by decide) rc_0) rfl 0 (by decide) (hts (.fieldLink RX8 7 "QuietStairsModel" "s" "[I") fwX8_makeTable_1) (fun _ h9 => h9) rfl dX8_makeTable_84 ?_
                refine lv_iload_n hx hb dX8_makeTable_87 rfl (lv_at hl 4 rfl) ?_
                refine lv_iload hx hb dX8_makeTable_88 (lv_at hl 0 rfl) ?_
                refine yc_p hP hS (va_runS (As := [.int x0, .int r_13]) (rest := [.ref (ad 1)]) ⟨hx, hb, hml, hown, hts⟩ (c_X8_termAt l x0 r_13) (cwS 2 hts gX8_makeTable_X8_termAt rfl rfl rfl hd_S_X8_termAt_2 ⟨Nat.le_of_ble_eq_true rfl, Nat.le_of_ble_eq_true rfl⟩) ex_preP rfl rfl hl.1 rfl (lv_room (Nat.le_of_ble_eq_true rfl)) dX8_makeTable_90 ⟨Nat.le_of_ble_eq_true rfl, Nat.le_of_ble_eq_true rfl⟩) (fun r_16 H locs hw_16 hP hS => ?_)
                have tr_16 : r_16.toInt = 158 + 25 * x0.toInt + 5 * r_13.toInt := t_tm hw_16 ⟨by omega, by omega⟩ ⟨by omega, by omega⟩
                refine lv_iconst (v := 3) hx hb dX8_makeTable_93 (by decide) ?_
                refine lv_iadd hx hb dX8_makeTable_94 ?_
                refine lv_topi (fun x_17 ex_17 => ?_)
                have tx_17 : x_17.toInt = r_16.toInt + (3 : Int32).toInt := by rw [ex_17]; exact t_add ⟨by omega, by omega⟩
                refine va_iald hx hb hK hP (1) 0 (wm_at (by decide) rc_1) rfl (vp_in_iff.mpr ⟨by omega, by omega⟩) dX8_makeTable_95 ?_
                refine lv_topi (fun x_18 ex_18 => ?_)
                have bzx_18 : 0 ≤ x_18.toInt ∧ x_18.toInt ≤ 23 := by rw [ex_18]; exact hv 1 _ 23 (bx_t3 (i := 5 * x0.toInt + r_13.toInt) (s := 3) (by omega) ⟨by omega, by omega⟩ (by omega))
                refine lv_goto (tgt := 100) hx hb dX8_makeTable_96 (by decide) ?_
                refine lv_istore (lv' := [(5, .int x_18), (4, .int r_13), (6, .int r_10), (0, .ref (ad 0)), (1, .int x0), (2, .int x1), (3, .int x2)]) hx hb dX8_makeTable_100 hl (by decide) rfl (fun ls hl => ?_)
                refine lv_goto (tgt := 137) hx hb dX8_makeTable_102 (by decide) ?_
                refine lv_goto (tgt := 36) hx hb dX8_makeTable_137 (by decide) ?_
                exact ih_7 r_13 x_18 v_10 _ _ (by omega) (by omega) (by omega) (by omega) ((mt_f (s := v 1) (B := (158 + 25 * x0.toNatClampNeg)) (sd := x1) (h := u7 7) (h' := v_10 7) (t := y7_4) (t' := r_13) (f := y7_5) (f' := x_18) (r := r_10) ⟨by omega, by omega⟩ ⟨by omega, by omega⟩ ⟨by omega, by omega⟩ (by omega) ⟨by omega, by omega⟩ he_11 (by omega) hq_14 hi7_0).1) (by omega) (by have z1 := (mt_f (s := v 1) (B := (158 + 25 * x0.toNatClampNeg)) (sd := x1) (h := u7 7) (h' := v_10 7) (t := y7_4) (t' := r_13) (f := y7_5) (f' := x_18) (r := r_10) ⟨by omega, by omega⟩ ⟨by omega, by omega⟩ ⟨by omega, by omega⟩ (by omega) ⟨by omega, by omega⟩ he_11 (by omega) hq_14 hi7_0).2; omega) hv hfr hP hD hS ls (lv_sub hl [0, 1, 3, 4, 5, 6] rfl)
    exact hc_7 ((mt (dg (v 1) (158 + 25 * x0.toNatClampNeg) x1 (v 7)) r_1.toInt x_6.toInt).toNat + 1) r_1 x_6 v _ _ (by omega) (by omega) (by omega) (by omega) (fun i h1 h2 => absurd h2 (hq_2 i (by omega) h1)) (by omega) (by omega) hv hfr hP hD hS ls (lv_sub hl [0, 1, 2, 3, 4, 5] rfl)

set_option maxHeartbeats 4000000 in
set_option maxRecDepth 100000 in
theorem q_X8_hour (l : Launch) (dC : Nat → ClassId) (dI : Nat → Nat → Nat) (cy : Nat → ClassId) (sz : Nat) (ad : Nat → Nat) (v : Nat → Nat → Int32) (hv : Ir v) (x0 x1 : Int32) : Met l yX8_hour wsX8_hour ({ frames := 4, cells := 0, slots := 0, locals := 256 }) (va_Pc [.ref (ad 0), .int x0, .int x1] (ex_Pre dC dI cy sz (wm ad cy v))) (va_Qi (fun (r : Int32) (u : Nat → Nat → Int32) => Ir u ∧ Fq v u) (fun u t => ex_Pst dC dI (va_A (wm ad cy v) sz) (wm ad cy u) t) (va_A (wm ad cy v) sz)) 0 0 (va_A (wm ad cy v) sz) := by
  refine Met.ofW (cc := cX8_hour) (maxL := 4) (ret := (some .int)) (by decide) rfl ?_
  intro p e s m args below meth c s₁ B hml hv
  obtain ⟨rfl, hsz, hE, hP, hK, hD0⟩ := hv
  have hx := B.exec
  have hb := B.bytes
  have hr := B.returns
  have hts := atoms_spec (ws := wsX8_hour) B.pre
  have hown : s.vm.findClass RX8 = some m.cls := findClass_of_methodNamed B.named
  have hlocks := B.notSynchronized
  subst hsz
  have hD := hD0.self (sz := s.heap.size)
  generalize hAe : va_A (wm ad cy v) s.heap.size = A at hD ⊢
  have hA : ∀ q : Nat, s.heap.size ≤ q → A q := fun q h => by rw [← hAe]; exact Or.inr h
  have hS : va_S A s.heap s.heap [] := va_S.rf
  have hP : va_P (dC, dI) vwCl (wm ad cy v) s.heap := hP
  have hl := lv_entry ([.ref (ad 0), .int x0, .int x1]) (n := 4) (Nat.le_of_ble_eq_true rfl)
  rw [lg_entry_eq]
  generalize (lg_sl ([.ref (ad 0), .int x0, .int x1]) ++ List.replicate (4 - (lg_sl ([.ref (ad 0), .int x0, .int x1])).length) Slot.unset).toArray = ls at hl ⊢
  have hl : lv_has ls 4 [(0, .ref (ad 0)), (1, .int x0), (2, .int x1)] := hl
  have hfr : Fq v v := Fq.rf
  refine lv_aload_n hx hb dX8_hour_0 rfl (lv_at hl 0 rfl) ?_
  refine lv_iload_n hx hb dX8_hour_1 rfl (lv_at hl 1 rfl) ?_
  refine lv_iload_n hx hb dX8_hour_2 rfl (lv_at hl 2 rfl) ?_
  refine yw_i (w1 := fun (u : Nat → Nat → Int32) => wm ad cy u) hD hS hA (va_runV (As := [.int x0, .int x1]) (rest := []) ⟨hx, hb, hml, hown, hts⟩ (q_X8_isTerm l dC dI cy _ ad v hv x0 x1) (cwV 2 hts gX8_hour_X8_isTerm rfl rfl rfl hd_V_X8_isTerm_2 ⟨Nat.le_of_ble_eq_true rfl, Nat.le_of_ble_eq_true rfl⟩) (yw_preV hE hK hP hD (ci := 8) (q := (RX8, TX8, 11)) (q0 := 0) rfl (wm_at (by decide) rc_0)) rfl rfl hl.1 rfl (lv_room (Nat.le_of_ble_eq_true rfl)) dX8_hour_3 ⟨Nat.le_of_ble_eq_true rfl, Nat.le_of_ble_eq_true rfl⟩) (fun r_1 v_1 H locs hw_1 hP hD hS => ?_)
  obtain ⟨-, hu_1, hw_1⟩ := hw_1
  replace hu_1 := hu_1.symm
  subst hu_1
  rcases hw_1 with ⟨rfl, ha_2, hb_2⟩ | rfl
  · refine lv_if_ne (tgt := 11) hx hb dX8_hour_6 (by decide) (fun _ => ?_) (fun c9 => absurd c9 (by decide))
    refine lv_aload_n hx hb dX8_hour_11 rfl (lv_at hl 0 rfl) ?_
    refine va_get (D := (dC, dI)) (ci := 8) (v := .ref (ad 1)) (C := RX8) (T := TX8) (N := 11) hx hb hts iwX8_hour_X8 hown hK hP (0) (wm_at (by decide) rc_0) rfl 0 (by decide) (hts (.fieldLink RX8 7 "QuietStairsModel" "s" "[I") fwX8_hour_1) (fun _ h9 => h9) rfl dX8_hour_12 ?_
    refine lv_iload_n hx hb dX8_hour_15 rfl (lv_at hl 1 rfl) ?_
    refine lv_iload_n hx hb dX8_hour_16 rfl (lv_at hl 2 rfl) ?_
    refine yc_p hP hS (va_runS (As := [.int x0, .int x1]) (rest := [.ref (ad 1)]) ⟨hx, hb, hml, hown, hts⟩ (c_X8_termAt l x0 x1) (cwS 2 hts gX8_hour_X8_termAt rfl rfl rfl hd_S_X8_termAt_2 ⟨Nat.le_of_ble_eq_true rfl, Nat.le_of_ble_eq_true rfl⟩) ex_preP rfl rfl hl.1 rfl (lv_room (Nat.le_of_ble_eq_true rfl)) dX8_hour_17 ⟨Nat.le_of_ble_eq_true rfl, Nat.le_of_ble_eq_true rfl⟩) (fun r_3 H locs hw_3 hP hS => ?_)
    have tr_3 : r_3.toInt = 158 + 25 * x0.toInt + 5 * x1.toInt := t_tm hw_3 ⟨by omega, by omega⟩ ⟨by omega, by omega⟩
    refine va_iald hx hb hK hP (1) 0 (wm_at (by decide) rc_1) rfl (vp_in_iff.mpr ⟨by omega, by omega⟩) dX8_hour_20 ?_
    refine lv_topi (fun x_4 ex_4 => ?_)
    have bzx_4 : 0 ≤ x_4.toInt ∧ x_4.toInt ≤ 1 := by rw [ex_4]; exact hv 1 _ 1 (bx_t0 (i := 5 * x0.toInt + x1.toInt) (s := 0) (by omega) ⟨by omega, by omega⟩ (by omega))
    refine lv_istore_n (lv' := [(3, .int x_4), (0, .ref (ad 0)), (1, .int x0), (2, .int x1)]) hx hb dX8_hour_21 rfl hl (by decide) rfl (fun ls hl => ?_)
    refine lv_aload_n hx hb dX8_hour_22 rfl (lv_at hl 1 rfl) ?_
    refine va_get (D := (dC, dI)) (ci := 8) (v := .ref (ad 1)) (C := RX8) (T := TX8) (N := 11) hx hb hts iwX8_hour_X8 hown hK hP (0) (wm_at (by decide) rc_0) rfl 0 (by decide) (hts (.fieldLink RX8 7 "QuietStairsModel" "s" "[I") fwX8_hour_1) (fun _ h9 => h9) rfl dX8_hour_23 ?_
    refine lv_iload_n hx hb dX8_hour_26 rfl (lv_at hl 2 rfl) ?_
    refine lv_iload_n hx hb dX8_hour_27 rfl (lv_at hl 3 rfl) ?_
    refine yc_p hP hS (va_runS (As := [.int x0, .int x1]) (rest := [.ref (ad 1)]) ⟨hx, hb, hml, hown, hts⟩ (c_X8_termAt l x0 x1) (cwS 2 hts gX8_hour_X8_termAt rfl rfl rfl hd_S_X8_termAt_2 ⟨Nat.le_of_ble_eq_true rfl, Nat.le_of_ble_eq_true rfl⟩) ex_preP rfl rfl hl.1 rfl (lv_room (Nat.le_of_ble_eq_true rfl)) dX8_hour_28 ⟨Nat.le_of_ble_eq_true rfl, Nat.le_of_ble_eq_true rfl⟩) (fun r_5 H locs hw_5 hP hS => ?_)
    obtain rfl : r_3 = r_5 := hw_3.trans hw_5.symm
    refine lv_iconst (v := 1) hx hb dX8_hour_31 (by decide) ?_
    refine lv_iadd hx hb dX8_hour_32 ?_
    refine lv_topi (fun x_6 ex_6 => ?_)
    have k_1 : (1 : Int32).toInt = 1 := by decide
    have tx_6 : x_6.toInt = r_3.toInt + (1 : Int32).toInt := by rw [ex_6]; exact t_add ⟨by omega, by omega⟩
    refine va_iald hx hb hK hP (1) 0 (wm_at (by decide) rc_1) rfl (vp_in_iff.mpr ⟨by omega, by omega⟩) dX8_hour_33 ?_
    refine lv_topi (fun x_7 ex_7 => ?_)
    have bzx_7 : 0 ≤ x_7.toInt ∧ x_7.toInt ≤ 1 := by rw [ex_7]; exact hv 1 _ 1 (bx_t0 (i := 5 * x0.toInt + x1.toInt) (s := 1) (by omega) ⟨by omega, by omega⟩ (by omega))
    have k_0 : (0 : Int32).toInt = 0 := by decide
    refine lv_if_ne (tgt := 40) hx hb dX8_hour_34 (by decide) (fun c_8 => ?_) (fun c_8 => ?_)
    · have tc_8 : x_7.toInt ≠ (0 : Int32).toInt := fun q => absurd (Int32.toInt_inj.mp q) c_8
      refine lv_aload_n hx hb dX8_hour_40 rfl (lv_at hl 1 rfl) ?_
      refine lv_iload_n hx hb dX8_hour_41 rfl (lv_at hl 2 rfl) ?_
      refine lv_iload_n hx hb dX8_hour_42 rfl (lv_at hl 0 rfl) ?_
      refine lv_aload_n hx hb dX8_hour_43 rfl (lv_at hl 1 rfl) ?_
      refine va_get (D := (dC, dI)) (ci := 8) (v := .ref (ad 1)) (C := RX8) (T := TX8) (N := 11) hx hb hts iwX8_hour_X8 hown hK hP (0) (wm_at (by decide) rc_0) rfl 0 (by decide) (hts (.fieldLink RX8 7 "QuietStairsModel" "s" "[I") fwX8_hour_1) (fun _ h9 => h9) rfl dX8_hour_44 ?_
      refine lv_iload_n hx hb dX8_hour_47 rfl (lv_at hl 2 rfl) ?_
      refine lv_bipush (v := 6) hx hb dX8_hour_48 (by decide) ?_
      refine yc_p hP hS (va_runS (As := [.int x0, .int 6]) (rest := [.ref (ad 1), .int x_4, .int x0, .ref (ad 0)]) ⟨hx, hb, hml, hown, hts⟩ (c_X8_at l x0 6) (cwS 2 hts gX8_hour_X8_at rfl rfl rfl hd_S_X8_at_2 ⟨Nat.le_of_ble_eq_true rfl, Nat.le_of_ble_eq_true rfl⟩) ex_preP rfl rfl hl.1 rfl (lv_room (Nat.le_of_ble_eq_true rfl)) dX8_hour_50 ⟨Nat.le_of_ble_eq_true rfl, Nat.le_of_ble_eq_true rfl⟩) (fun r_9 H locs hw_9 hP hS => ?_)
      have k_6 : (6 : Int32).toInt = 6 := by decide
      have tr_9 : r_9.toInt = 32 + 7 * x0.toInt + (6 : Int32).toInt := t_at hw_9 ⟨by omega, by omega⟩ ⟨by omega, by omega⟩
      refine va_iald hx hb hK hP (1) 0 (wm_at (by decide) rc_1) rfl (vp_in_iff.mpr ⟨by omega, by omega⟩) dX8_hour_53 ?_
      refine lv_topi (fun x_10 ex_10 => ?_)
      have bzx_10 : 0 ≤ x_10.toInt ∧ x_10.toInt ≤ 5 := by rw [ex_10]; exact hv 1 _ 5 (bx_4 (i := x0.toInt) (s := 6) (by omega) ⟨by omega, by omega⟩ (by omega))
      refine yw_i (w1 := fun (u : Nat → Nat → Int32) => wm ad cy u) hD hS hA (va_runV (As := [.int x0, .int x_4, .int x_10]) (rest := []) ⟨hx, hb, hml, hown, hts⟩ (q_X8_makeTable l dC dI cy _ ad v hv x0 x_4 x_10 ⟨by omega, by omega⟩ ⟨by omega, by omega⟩) (cwV 3 hts gX8_hour_X8_makeTable rfl rfl rfl hd_V_X8_makeTable_3 ⟨Nat.le_of_ble_eq_true rfl, Nat.le_of_ble_eq_true rfl⟩) (yw_preV hE hK hP hD (ci := 8) (q := (RX8, TX8, 11)) (q0 := 0) rfl (wm_at (by decide) rc_0)) rfl rfl hl.1 rfl (lv_room (Nat.le_of_ble_eq_true rfl)) dX8_hour_54 ⟨Nat.le_of_ble_eq_true rfl, Nat.le_of_ble_eq_true rfl⟩) (fun r_11 v_11 H locs hw_11 hP hD hS => ?_)
      obtain ⟨hv, hf_11, hw_11⟩ := hw_11
      have hfr : Fq v v_11 := hfr.trans hf_11
      rcases hw_11 with rfl | rfl
      · refine lv_if_eq (tgt := 69) hx hb dX8_hour_57 (by decide) (fun _ => ?_) (fun c9 => absurd c9 (by decide))
        refine lv_bipush (v := (-5)) hx hb dX8_hour_69 (by decide) ?_
        exact W.iret (v := (-5)) hx hb hr (fun t ht hW => ⟨⟨(-5), v_11, rfl, ⟨hv, hfr⟩, by rw [ht]; exact hP, hD⟩, hS.F ht⟩) hS.2.2 dX8_hour_71
      · refine lv_if_eq (tgt := 69) hx hb dX8_hour_57 (by decide) (fun c9 => absurd c9 (by decide)) (fun _ => ?_)
        refine lv_aload_n hx hb dX8_hour_60 rfl (lv_at hl 1 rfl) ?_
        refine va_get (D := (dC, dI)) (ci := 8) (v := .ref (ad 7)) (C := RX8) (T := TX8) (N := 11) hx hb hts iwX8_hour_X8 hown hK hP (0) (wm_at (by decide) rc_0) rfl 10 (by decide) (hts (.fieldLink RX8 32 "QuietStairsModel" "hours" "[I") fwX8_hour_2) (fun _ h9 => h9) rfl dX8_hour_61 ?_
        refine lv_iload_n hx hb dX8_hour_64 rfl (lv_at hl 3 rfl) ?_
        refine va_iald hx hb hK hP (7) 0 (wm_at (by decide) rc_7) rfl (vp_in_iff.mpr ⟨by omega, by omega⟩) dX8_hour_65 ?_
        refine lv_topi (fun x_12 ex_12 => ?_)
        refine lv_goto (tgt := 71) hx hb dX8_hour_66 (by decide) ?_
        exact W.iret (v := x_12) hx hb hr (fun t ht hW => ⟨⟨x_12, v_11, rfl, ⟨hv, hfr⟩, by rw [ht]; exact hP, hD⟩, hS.F ht⟩) hS.2.2 dX8_hour_71
    · have tc_8 : x_7.toInt = (0 : Int32).toInt := by rw [c_8]
      refine lv_bipush (v := (-4)) hx hb dX8_hour_37 (by decide) ?_
      exact W.iret (v := (-4)) hx hb hr (fun t ht hW => ⟨⟨(-4), v, rfl, ⟨hv, hfr⟩, by rw [ht]; exact hP, hD⟩, hS.F ht⟩) hS.2.2 dX8_hour_39
  · refine lv_if_ne (tgt := 11) hx hb dX8_hour_6 (by decide) (fun c9 => absurd c9 (by decide)) (fun _ => ?_)
    refine lv_iconst (v := (-1)) hx hb dX8_hour_9 (by decide) ?_
    exact W.iret (v := (-1)) hx hb hr (fun t ht hW => ⟨⟨(-1), v, rfl, ⟨hv, hfr⟩, by rw [ht]; exact hP, hD⟩, hS.F ht⟩) hS.2.2 dX8_hour_10

set_option maxHeartbeats 4000000 in
set_option maxRecDepth 100000 in
theorem q_X8_canHold (l : Launch) (dC : Nat → ClassId) (dI : Nat → Nat → Nat) (cy : Nat → ClassId) (sz : Nat) (ad : Nat → Nat) (v : Nat → Nat → Int32) (hv : Ir v) (x0 x1 : Int32) : Met l yX8_canHold wsX8_canHold ({ frames := 4, cells := 0, slots := 0, locals := 256 }) (va_Pc [.ref (ad 0), .int x0, .int x1] (ex_Pre dC dI cy sz (wm ad cy v))) (va_Qi (fun (r : Int32) (u : Nat → Nat → Int32) => Ir u ∧ Fq v u) (fun u t => ex_Pst dC dI (va_A (wm ad cy v) sz) (wm ad cy u) t) (va_A (wm ad cy v) sz)) 0 0 (va_A (wm ad cy v) sz) := by
  refine Met.ofW (cc := cX8_canHold) (maxL := 3) (ret := (some .int)) (by decide) rfl ?_
  intro p e s m args below meth c s₁ B hml hv
  obtain ⟨rfl, hsz, hE, hP, hK, hD0⟩ := hv
  have hx := B.exec
  have hb := B.bytes
  have hr := B.returns
  have hts := atoms_spec (ws := wsX8_canHold) B.pre
  have hown : s.vm.findClass RX8 = some m.cls := findClass_of_methodNamed B.named
  have hlocks := B.notSynchronized
  subst hsz
  have hD := hD0.self (sz := s.heap.size)
  generalize hAe : va_A (wm ad cy v) s.heap.size = A at hD ⊢
  have hA : ∀ q : Nat, s.heap.size ≤ q → A q := fun q h => by rw [← hAe]; exact Or.inr h
  have hS : va_S A s.heap s.heap [] := va_S.rf
  have hP : va_P (dC, dI) vwCl (wm ad cy v) s.heap := hP
  have hl := lv_entry ([.ref (ad 0), .int x0, .int x1]) (n := 3) (Nat.le_of_ble_eq_true rfl)
  rw [lg_entry_eq]
  generalize (lg_sl ([.ref (ad 0), .int x0, .int x1]) ++ List.replicate (3 - (lg_sl ([.ref (ad 0), .int x0, .int x1])).length) Slot.unset).toArray = ls at hl ⊢
  have hl : lv_has ls 3 [(0, .ref (ad 0)), (1, .int x0), (2, .int x1)] := hl
  have hfr : Fq v v := Fq.rf
  refine lv_aload_n hx hb dX8_canHold_0 rfl (lv_at hl 0 rfl) ?_
  refine lv_iload_n hx hb dX8_canHold_1 rfl (lv_at hl 1 rfl) ?_
  refine yw_i (w1 := fun (u : Nat → Nat → Int32) => wm ad cy u) hD hS hA (va_runV (As := [.int x0]) (rest := []) ⟨hx, hb, hml, hown, hts⟩ (q_X8_isCase l dC dI cy _ ad v hv x0) (cwV 1 hts gX8_canHold_X8_isCase rfl rfl rfl hd_V_X8_isCase_1 ⟨Nat.le_of_ble_eq_true rfl, Nat.le_of_ble_eq_true rfl⟩) (yw_preV hE hK hP hD (ci := 8) (q := (RX8, TX8, 11)) (q0 := 0) rfl (wm_at (by decide) rc_0)) rfl rfl hl.1 rfl (lv_room (Nat.le_of_ble_eq_true rfl)) dX8_canHold_2 ⟨Nat.le_of_ble_eq_true rfl, Nat.le_of_ble_eq_true rfl⟩) (fun r_1 v_1 H locs hw_1 hP hD hS => ?_)
  obtain ⟨-, hu_1, hw_1⟩ := hw_1
  replace hu_1 := hu_1.symm
  subst hu_1
  rcases hw_1 with ⟨rfl, ha_2⟩ | ⟨rfl, ha_2⟩
  · have hb_2 := hv 1 2 6 (by decide)
    have hj_2 : 0 ≤ x0.toInt ∧ x0.toInt ≤ 5 := ⟨by omega, by omega⟩
    refine lv_if_eq (tgt := 15) hx hb dX8_canHold_5 (by decide) (fun c9 => absurd c9 (by decide)) (fun _ => ?_)
    refine lv_iload_n hx hb dX8_canHold_8 rfl (lv_at hl 2 rfl) ?_
    refine yc_p hP hS (va_runS (As := [.int x1]) (rest := []) ⟨hx, hb, hml, hown, hts⟩ (c_X8_isSide l x1) (cwS 1 hts gX8_canHold_X8_isSide rfl rfl rfl hd_S_X8_isSide_1 ⟨Nat.le_of_ble_eq_true rfl, Nat.le_of_ble_eq_true rfl⟩) ex_preP rfl rfl hl.1 rfl (lv_room (Nat.le_of_ble_eq_true rfl)) dX8_canHold_9 ⟨Nat.le_of_ble_eq_true rfl, Nat.le_of_ble_eq_true rfl⟩) (fun r_3 H locs hw_3 hP hS => ?_)
    rcases wi_ca hw_3 with ⟨rfl, hc_4⟩ | ⟨rfl, hc_4⟩
    · have k_0 : (0 : Int32).toInt = 0 := by decide
      have k_1 : (1 : Int32).toInt = 1 := by decide
      have tc_4 := wi_tl hc_4
      refine lv_if_ne (tgt := 17) hx hb dX8_canHold_12 (by decide) (fun _ => ?_) (fun c9 => absurd c9 (by decide))
      refine lv_aload_n hx hb dX8_canHold_17 rfl (lv_at hl 0 rfl) ?_
      refine lv_iload_n hx hb dX8_canHold_18 rfl (lv_at hl 1 rfl) ?_
      refine lv_iload_n hx hb dX8_canHold_19 rfl (lv_at hl 2 rfl) ?_
      refine lv_aload_n hx hb dX8_canHold_20 rfl (lv_at hl 0 rfl) ?_
      refine va_get (D := (dC, dI)) (ci := 8) (v := .ref (ad 1)) (C := RX8) (T := TX8) (N := 11) hx hb hts iwX8_canHold_X8 hown hK hP (0) (wm_at (by decide) rc_0) rfl 0 (by decide) (hts (.fieldLink RX8 7 "QuietStairsModel" "s" "[I") fwX8_canHold_1) (fun _ h9 => h9) rfl dX8_canHold_21 ?_
      refine lv_iload_n hx hb dX8_canHold_24 rfl (lv_at hl 1 rfl) ?_
      refine lv_bipush (v := 6) hx hb dX8_canHold_25 (by decide) ?_
      refine yc_p hP hS (va_runS (As := [.int x0, .int 6]) (rest := [.ref (ad 1), .int x1, .int x0, .ref (ad 0)]) ⟨hx, hb, hml, hown, hts⟩ (c_X8_at l x0 6) (cwS 2 hts gX8_canHold_X8_at rfl rfl rfl hd_S_X8_at_2 ⟨Nat.le_of_ble_eq_true rfl, Nat.le_of_ble_eq_true rfl⟩) ex_preP rfl rfl hl.1 rfl (lv_room (Nat.le_of_ble_eq_true rfl)) dX8_canHold_27 ⟨Nat.le_of_ble_eq_true rfl, Nat.le_of_ble_eq_true rfl⟩) (fun r_5 H locs hw_5 hP hS => ?_)
      have k_6 : (6 : Int32).toInt = 6 := by decide
      have tr_5 : r_5.toInt = 32 + 7 * x0.toInt + (6 : Int32).toInt := t_at hw_5 ⟨by omega, by omega⟩ ⟨by omega, by omega⟩
      refine va_iald hx hb hK hP (1) 0 (wm_at (by decide) rc_1) rfl (vp_in_iff.mpr ⟨by omega, by omega⟩) dX8_canHold_30 ?_
      refine lv_topi (fun x_6 ex_6 => ?_)
      have bzx_6 : 0 ≤ x_6.toInt ∧ x_6.toInt ≤ 5 := by rw [ex_6]; exact hv 1 _ 5 (bx_4 (i := x0.toInt) (s := 6) (by omega) ⟨by omega, by omega⟩ (by omega))
      refine yw_i (w1 := fun (u : Nat → Nat → Int32) => wm ad cy u) hD hS hA (va_runV (As := [.int x0, .int x1, .int x_6]) (rest := []) ⟨hx, hb, hml, hown, hts⟩ (q_X8_makeTable l dC dI cy _ ad v hv x0 x1 x_6 ⟨by omega, by omega⟩ ⟨by omega, by omega⟩) (cwV 3 hts gX8_canHold_X8_makeTable rfl rfl rfl hd_V_X8_makeTable_3 ⟨Nat.le_of_ble_eq_true rfl, Nat.le_of_ble_eq_true rfl⟩) (yw_preV hE hK hP hD (ci := 8) (q := (RX8, TX8, 11)) (q0 := 0) rfl (wm_at (by decide) rc_0)) rfl rfl hl.1 rfl (lv_room (Nat.le_of_ble_eq_true rfl)) dX8_canHold_31 ⟨Nat.le_of_ble_eq_true rfl, Nat.le_of_ble_eq_true rfl⟩) (fun r_7 v_7 H locs hw_7 hP hD hS => ?_)
      obtain ⟨hv, hf_7, hw_7⟩ := hw_7
      have hfr : Fq v v_7 := hfr.trans hf_7
      rcases hw_7 with rfl | rfl
      · refine lv_if_eq (tgt := 41) hx hb dX8_canHold_34 (by decide) (fun _ => ?_) (fun c9 => absurd c9 (by decide))
        refine lv_iconst (v := 0) hx hb dX8_canHold_41 (by decide) ?_
        exact W.iret (v := 0) hx hb hr (fun t ht hW => ⟨⟨0, v_7, rfl, ⟨hv, hfr⟩, by rw [ht]; exact hP, hD⟩, hS.F ht⟩) hS.2.2 dX8_canHold_42
      · refine lv_if_eq (tgt := 41) hx hb dX8_canHold_34 (by decide) (fun c9 => absurd c9 (by decide)) (fun _ => ?_)
        refine lv_iconst (v := 1) hx hb dX8_canHold_37 (by decide) ?_
        refine lv_goto (tgt := 42) hx hb dX8_canHold_38 (by decide) ?_
        exact W.iret (v := 1) hx hb hr (fun t ht hW => ⟨⟨1, v_7, rfl, ⟨hv, hfr⟩, by rw [ht]; exact hP, hD⟩, hS.F ht⟩) hS.2.2 dX8_canHold_42
    · have k_0 : (0 : Int32).toInt = 0 := by decide
      have k_1 : (1 : Int32).toInt = 1 := by decide
      have tc_4 : ¬ ((0 : Int32).toInt ≤ x1.toInt ∧ x1.toInt ≤ (1 : Int32).toInt) := fun q => hc_4 ⟨Int32.le_iff_toInt_le.mpr q.1, Int32.le_iff_toInt_le.mpr q.2⟩
      refine lv_if_ne (tgt := 17) hx hb dX8_canHold_12 (by decide) (fun c9 => absurd c9 (by decide)) (fun _ => ?_)
      refine lv_iconst (v := (-1)) hx hb dX8_canHold_15 (by decide) ?_
      exact W.iret (v := (-1)) hx hb hr (fun t ht hW => ⟨⟨(-1), v, rfl, ⟨hv, hfr⟩, by rw [ht]; exact hP, hD⟩, hS.F ht⟩) hS.2.2 dX8_canHold_16
  · refine lv_if_eq (tgt := 15) hx hb dX8_canHold_5 (by decide) (fun _ => ?_) (fun c9 => absurd c9 (by decide))
    refine lv_iconst (v := (-1)) hx hb dX8_canHold_15 (by decide) ?_
    exact W.iret (v := (-1)) hx hb hr (fun t ht hW => ⟨⟨(-1), v, rfl, ⟨hv, hfr⟩, by rw [ht]; exact hP, hD⟩, hS.F ht⟩) hS.2.2 dX8_canHold_16

set_option maxHeartbeats 4000000 in
set_option maxRecDepth 100000 in
theorem q_X8_breaks (l : Launch) (dC : Nat → ClassId) (dI : Nat → Nat → Nat) (cy : Nat → ClassId) (sz : Nat) (ad : Nat → Nat) (v : Nat → Nat → Int32) (hv : Ir v) (x0 x1 : Int32) : Met l yX8_breaks wsX8_breaks ({ frames := 4, cells := 0, slots := 0, locals := 256 }) (va_Pc [.ref (ad 0), .int x0, .int x1] (ex_Pre dC dI cy sz (wm ad cy v))) (va_Qi (fun (r : Int32) (u : Nat → Nat → Int32) => Ir u ∧ Fq v u) (fun u t => ex_Pst dC dI (va_A (wm ad cy v) sz) (wm ad cy u) t) (va_A (wm ad cy v) sz)) 0 0 (va_A (wm ad cy v) sz) := by
  refine Met.ofW (cc := cX8_breaks) (maxL := 4) (ret := (some .int)) (by decide) rfl ?_
  intro p e s m args below meth c s₁ B hml hv
  obtain ⟨rfl, hsz, hE, hP, hK, hD0⟩ := hv
  have hx := B.exec
  have hb := B.bytes
  have hr := B.returns
  have hts := atoms_spec (ws := wsX8_breaks) B.pre
  have hown : s.vm.findClass RX8 = some m.cls := findClass_of_methodNamed B.named
  have hlocks := B.notSynchronized
  subst hsz
  have hD := hD0.self (sz := s.heap.size)
  generalize hAe : va_A (wm ad cy v) s.heap.size = A at hD ⊢
  have hA : ∀ q : Nat, s.heap.size ≤ q → A q := fun q h => by rw [← hAe]; exact Or.inr h
  have hS : va_S A s.heap s.heap [] := va_S.rf
  have hP : va_P (dC, dI) vwCl (wm ad cy v) s.heap := hP
  have hl := lv_entry ([.ref (ad 0), .int x0, .int x1]) (n := 4) (Nat.le_of_ble_eq_true rfl)
  rw [lg_entry_eq]
  generalize (lg_sl ([.ref (ad 0), .int x0, .int x1]) ++ List.replicate (4 - (lg_sl ([.ref (ad 0), .int x0, .int x1])).length) Slot.unset).toArray = ls at hl ⊢
  have hl : lv_has ls 4 [(0, .ref (ad 0)), (1, .int x0), (2, .int x1)] := hl
  have hfr : Fq v v := Fq.rf
  refine lv_aload_n hx hb dX8_breaks_0 rfl (lv_at hl 0 rfl) ?_
  refine lv_iload_n hx hb dX8_breaks_1 rfl (lv_at hl 1 rfl) ?_
  refine yw_i (w1 := fun (u : Nat → Nat → Int32) => wm ad cy u) hD hS hA (va_runV (As := [.int x0]) (rest := []) ⟨hx, hb, hml, hown, hts⟩ (q_X8_isCase l dC dI cy _ ad v hv x0) (cwV 1 hts gX8_breaks_X8_isCase rfl rfl rfl hd_V_X8_isCase_1 ⟨Nat.le_of_ble_eq_true rfl, Nat.le_of_ble_eq_true rfl⟩) (yw_preV hE hK hP hD (ci := 8) (q := (RX8, TX8, 11)) (q0 := 0) rfl (wm_at (by decide) rc_0)) rfl rfl hl.1 rfl (lv_room (Nat.le_of_ble_eq_true rfl)) dX8_breaks_2 ⟨Nat.le_of_ble_eq_true rfl, Nat.le_of_ble_eq_true rfl⟩) (fun r_1 v_1 H locs hw_1 hP hD hS => ?_)
  obtain ⟨-, hu_1, hw_1⟩ := hw_1
  replace hu_1 := hu_1.symm
  subst hu_1
  rcases hw_1 with ⟨rfl, ha_2⟩ | ⟨rfl, ha_2⟩
  · have hb_2 := hv 1 2 6 (by decide)
    have hj_2 : 0 ≤ x0.toInt ∧ x0.toInt ≤ 5 := ⟨by omega, by omega⟩
    refine lv_if_eq (tgt := 15) hx hb dX8_breaks_5 (by decide) (fun c9 => absurd c9 (by decide)) (fun _ => ?_)
    refine lv_iload_n hx hb dX8_breaks_8 rfl (lv_at hl 2 rfl) ?_
    refine yc_p hP hS (va_runS (As := [.int x1]) (rest := []) ⟨hx, hb, hml, hown, hts⟩ (c_X8_isSide l x1) (cwS 1 hts gX8_breaks_X8_isSide rfl rfl rfl hd_S_X8_isSide_1 ⟨Nat.le_of_ble_eq_true rfl, Nat.le_of_ble_eq_true rfl⟩) ex_preP rfl rfl hl.1 rfl (lv_room (Nat.le_of_ble_eq_true rfl)) dX8_breaks_9 ⟨Nat.le_of_ble_eq_true rfl, Nat.le_of_ble_eq_true rfl⟩) (fun r_3 H locs hw_3 hP hS => ?_)
    rcases wi_ca hw_3 with ⟨rfl, hc_4⟩ | ⟨rfl, hc_4⟩
    · have k_0 : (0 : Int32).toInt = 0 := by decide
      have k_1 : (1 : Int32).toInt = 1 := by decide
      have tc_4 := wi_tl hc_4
      refine lv_if_ne (tgt := 17) hx hb dX8_breaks_12 (by decide) (fun _ => ?_) (fun c9 => absurd c9 (by decide))
      refine lv_iconst (v := 0) hx hb dX8_breaks_17 (by decide) ?_
      refine lv_istore_n (lv' := [(3, .int 0), (0, .ref (ad 0)), (1, .int x0), (2, .int x1)]) hx hb dX8_breaks_18 rfl hl (by decide) rfl (fun ls hl => ?_)
      have hc_5 : ∀ (n : Nat) (y5_3 : Int32) (u5 : Nat → Nat → Int32) (H : Heap) (locs : List Loc), 0 ≤ y5_3.toInt → y5_3.toInt ≤ 5 → (5 - y5_3.toInt).toNat < n → Ir u5 → Fq v u5 → va_P (dC, dI) vwCl (wm ad cy u5) H → va_D A (wm ad cy u5) → va_S A s.heap H locs → ∀ ls : Array Slot, lv_has ls 4 [(3, .int y5_3), (0, .ref (ad 0)), (1, .int x0), (2, .int x1)] → W p l e (headSpec wsX8_breaks ({ frames := 4, cells := 0, slots := 0, locals := 256 })).room s m [Value.ref (ad 0), Value.int x0, Value.int x1].toArray below meth c H locs 0 0 (MQ below (va_Qi (fun (r : Int32) (u : Nat → Nat → Int32) => Ir u ∧ Fq v u) (fun u t => ex_Pst dC dI A (wm ad cy u) t) A) [Value.ref (ad 0), Value.int x0, Value.int x1].toArray s 0 0 A) (F0 m 19 ls []) := by
        intro n
        induction n with
        | zero =>
          intro y5_3 u5 H locs ay5_3 by5_3 hm_5 hv hfr hP hD hS ls hl
          exact absurd hm_5 (by omega)
        | succ n ih_5 =>
          intro y5_3 u5 H locs ay5_3 by5_3 hm_5 hv hfr hP hD hS ls hl
          refine lv_iload_n hx hb dX8_breaks_19 rfl (lv_at hl 0 rfl) ?_
          refine lv_aload_n hx hb dX8_breaks_20 rfl (lv_at hl 1 rfl) ?_
          refine va_get (D := (dC, dI)) (ci := 8) (v := .ref (ad 1)) (C := RX8) (T := TX8) (N := 11) hx hb hts iwX8_breaks_X8 hown hK hP (0) (wm_at (by decide) rc_0) rfl 0 (by decide) (hts (.fieldLink RX8 7 "QuietStairsModel" "s" "[I") fwX8_breaks_1) (fun _ h9 => h9) rfl dX8_breaks_21 ?_
          refine lv_iload_n hx hb dX8_breaks_24 rfl (lv_at hl 2 rfl) ?_
          refine lv_bipush (v := 6) hx hb dX8_breaks_25 (by decide) ?_
          refine yc_p hP hS (va_runS (As := [.int x0, .int 6]) (rest := [.ref (ad 1), .int y5_3]) ⟨hx, hb, hml, hown, hts⟩ (c_X8_at l x0 6) (cwS 2 hts gX8_breaks_X8_at rfl rfl rfl hd_S_X8_at_2 ⟨Nat.le_of_ble_eq_true rfl, Nat.le_of_ble_eq_true rfl⟩) ex_preP rfl rfl hl.1 rfl (lv_room (Nat.le_of_ble_eq_true rfl)) dX8_breaks_27 ⟨Nat.le_of_ble_eq_true rfl, Nat.le_of_ble_eq_true rfl⟩) (fun r_6 H locs hw_6 hP hS => ?_)
          have k_6 : (6 : Int32).toInt = 6 := by decide
          have tr_6 : r_6.toInt = 32 + 7 * x0.toInt + (6 : Int32).toInt := t_at hw_6 ⟨by omega, by omega⟩ ⟨by omega, by omega⟩
          refine va_iald hx hb hK hP (1) 0 (wm_at (by decide) rc_1) rfl (vp_in_iff.mpr ⟨by omega, by omega⟩) dX8_breaks_30 ?_
          refine lv_topi (fun x_7 ex_7 => ?_)
          have bzx_7 : 0 ≤ x_7.toInt ∧ x_7.toInt ≤ 5 := by rw [ex_7]; exact hv 1 _ 5 (bx_4 (i := x0.toInt) (s := 6) (by omega) ⟨by omega, by omega⟩ (by omega))
          refine lv_icmp_ge (tgt := 68) hx hb dX8_breaks_31 (by decide) (fun c_8 => ?_) (fun c_8 => ?_)
          · have tc_8 : y5_3.toInt ≥ x_7.toInt := Int32.le_iff_toInt_le.mp c_8
            refine lv_bipush (v := (-5)) hx hb dX8_breaks_68 (by decide) ?_
            exact W.iret (v := (-5)) hx hb hr (fun t ht hW => ⟨⟨(-5), u5, rfl, ⟨hv, hfr⟩, by rw [ht]; exact hP, hD⟩, hS.F ht⟩) hS.2.2 dX8_breaks_70
          · have tc_8 : y5_3.toInt < x_7.toInt := Int32.lt_iff_toInt_lt.mp (Int32.not_le.mp c_8)
            refine lv_aload_n hx hb dX8_breaks_34 rfl (lv_at hl 1 rfl) ?_
            refine va_get (D := (dC, dI)) (ci := 8) (v := .ref (ad 1)) (C := RX8) (T := TX8) (N := 11) hx hb hts iwX8_breaks_X8 hown hK hP (0) (wm_at (by decide) rc_0) rfl 0 (by decide) (hts (.fieldLink RX8 7 "QuietStairsModel" "s" "[I") fwX8_breaks_1) (fun _ h9 => h9) rfl dX8_breaks_35 ?_
            refine lv_iload_n hx hb dX8_breaks_38 rfl (lv_at hl 2 rfl) ?_
            refine lv_iload_n hx hb dX8_breaks_39 rfl (lv_at hl 0 rfl) ?_
            refine yc_p hP hS (va_runS (As := [.int x0, .int y5_3]) (rest := [.ref (ad 1)]) ⟨hx, hb, hml, hown, hts⟩ (c_X8_termAt l x0 y5_3) (cwS 2 hts gX8_breaks_X8_termAt rfl rfl rfl hd_S_X8_termAt_2 ⟨Nat.le_of_ble_eq_true rfl, Nat.le_of_ble_eq_true rfl⟩) ex_preP rfl rfl hl.1 rfl (lv_room (Nat.le_of_ble_eq_true rfl)) dX8_breaks_40 ⟨Nat.le_of_ble_eq_true rfl, Nat.le_of_ble_eq_true rfl⟩) (fun r_9 H locs hw_9 hP hS => ?_)
            have tr_9 : r_9.toInt = 158 + 25 * x0.toInt + 5 * y5_3.toInt := t_tm hw_9 ⟨by omega, by omega⟩ ⟨by omega, by omega⟩
            refine va_iald hx hb hK hP (1) 0 (wm_at (by decide) rc_1) rfl (vp_in_iff.mpr ⟨by omega, by omega⟩) dX8_breaks_43 ?_
            refine lv_topi (fun x_10 ex_10 => ?_)
            have bzx_10 : 0 ≤ x_10.toInt ∧ x_10.toInt ≤ 1 := by rw [ex_10]; exact hv 1 _ 1 (bx_t0 (i := 5 * x0.toInt + y5_3.toInt) (s := 0) (by omega) ⟨by omega, by omega⟩ (by omega))
            refine lv_iload_n hx hb dX8_breaks_44 rfl (lv_at hl 3 rfl) ?_
            refine lv_icmp_ne (tgt := 62) hx hb dX8_breaks_45 (by decide) (fun c_11 => ?_) (fun c_11 => ?_)
            · have tc_11 : x_10.toInt ≠ x1.toInt := fun q => absurd (Int32.toInt_inj.mp q) c_11
              obtain ⟨x_12, ex_12⟩ : ∃ y : Int32, y = y5_3 + 1 := ⟨_, rfl⟩
              refine lv_iinc (v := x_12) (lv' := [(3, .int x_12), (0, .ref (ad 0)), (1, .int x0), (2, .int x1)]) hx hb dX8_breaks_62 hl (k := 0) rfl (by rw [ex_12]; rfl) (by decide) rfl (fun ls hl => ?_)
              have tx_12 : x_12.toInt = y5_3.toInt + (1 : Int32).toInt := by rw [ex_12]; exact t_add ⟨by omega, by omega⟩
              refine lv_goto (tgt := 19) hx hb dX8_breaks_65 (by decide) ?_
              exact ih_5 x_12 u5 _ _ (by omega) (by omega) (by omega) hv hfr hP hD hS ls (lv_sub hl [0, 1, 2, 3] rfl)
            · have tc_11 : x_10.toInt = x1.toInt := by rw [c_11]
              refine lv_aload_n hx hb dX8_breaks_48 rfl (lv_at hl 1 rfl) ?_
              refine lv_iload_n hx hb dX8_breaks_49 rfl (lv_at hl 2 rfl) ?_
              refine lv_iload_n hx hb dX8_breaks_50 rfl (lv_at hl 3 rfl) ?_
              refine lv_iload_n hx hb dX8_breaks_51 rfl (lv_at hl 0 rfl) ?_
              refine lv_iconst (v := 1) hx hb dX8_breaks_52 (by decide) ?_
              refine lv_iadd hx hb dX8_breaks_53 ?_
              refine lv_topi (fun x_12 ex_12 => ?_)
              have tx_12 : x_12.toInt = y5_3.toInt + (1 : Int32).toInt := by rw [ex_12]; exact t_add ⟨by omega, by omega⟩
              refine yw_i (w1 := fun (u : Nat → Nat → Int32) => wm ad cy u) hD hS hA (va_runV (As := [.int x0, .int x1, .int x_12]) (rest := []) ⟨hx, hb, hml, hown, hts⟩ (q_X8_makeTable l dC dI cy _ ad u5 hv x0 x1 x_12 ⟨by omega, by omega⟩ ⟨by omega, by omega⟩) (cwV 3 hts gX8_breaks_X8_makeTable rfl rfl rfl hd_V_X8_makeTable_3 ⟨Nat.le_of_ble_eq_true rfl, Nat.le_of_ble_eq_true rfl⟩) (yw_preV hE hK hP hD (ci := 8) (q := (RX8, TX8, 11)) (q0 := 0) rfl (wm_at (by decide) rc_0)) rfl rfl hl.1 rfl (lv_room (Nat.le_of_ble_eq_true rfl)) dX8_breaks_54 ⟨Nat.le_of_ble_eq_true rfl, Nat.le_of_ble_eq_true rfl⟩) (fun r_13 v_13 H locs hw_13 hP hD hS => ?_)
              obtain ⟨hv, hf_13, hw_13⟩ := hw_13
              have hfr : Fq v v_13 := hfr.trans hf_13
              rcases hw_13 with rfl | rfl
              · refine lv_if_ne (tgt := 62) hx hb dX8_breaks_57 (by decide) (fun c9 => absurd c9 (by decide)) (fun _ => ?_)
                refine lv_iload_n hx hb dX8_breaks_60 rfl (lv_at hl 0 rfl) ?_
                exact W.iret (v := y5_3) hx hb hr (fun t ht hW => ⟨⟨y5_3, v_13, rfl, ⟨hv, hfr⟩, by rw [ht]; exact hP, hD⟩, hS.F ht⟩) hS.2.2 dX8_breaks_61
              · refine lv_if_ne (tgt := 62) hx hb dX8_breaks_57 (by decide) (fun _ => ?_) (fun c9 => absurd c9 (by decide))
                obtain ⟨x_14, ex_14⟩ : ∃ y : Int32, y = y5_3 + 1 := ⟨_, rfl⟩
                refine lv_iinc (v := x_14) (lv' := [(3, .int x_14), (0, .ref (ad 0)), (1, .int x0), (2, .int x1)]) hx hb dX8_breaks_62 hl (k := 0) rfl (by rw [ex_14]; rfl) (by decide) rfl (fun ls hl => ?_)
                have tx_14 : x_14.toInt = y5_3.toInt + (1 : Int32).toInt := by rw [ex_14]; exact t_add ⟨by omega, by omega⟩
                refine lv_goto (tgt := 19) hx hb dX8_breaks_65 (by decide) ?_
                exact ih_5 x_14 v_13 _ _ (by omega) (by omega) (by omega) hv hfr hP hD hS ls (lv_sub hl [0, 1, 2, 3] rfl)
      exact hc_5 ((5 - (0 : Int32).toInt).toNat + 1) 0 v _ _ (by omega) (by omega) (by omega) hv hfr hP hD hS ls (lv_sub hl [0, 1, 2, 3] rfl)
    · have k_0 : (0 : Int32).toInt = 0 := by decide
      have k_1 : (1 : Int32).toInt = 1 := by decide
      have tc_4 : ¬ ((0 : Int32).toInt ≤ x1.toInt ∧ x1.toInt ≤ (1 : Int32).toInt) := fun q => hc_4 ⟨Int32.le_iff_toInt_le.mpr q.1, Int32.le_iff_toInt_le.mpr q.2⟩
      refine lv_if_ne (tgt := 17) hx hb dX8_breaks_12 (by decide) (fun c9 => absurd c9 (by decide)) (fun _ => ?_)
      refine lv_iconst (v := (-1)) hx hb dX8_breaks_15 (by decide) ?_
      exact W.iret (v := (-1)) hx hb hr (fun t ht hW => ⟨⟨(-1), v, rfl, ⟨hv, hfr⟩, by rw [ht]; exact hP, hD⟩, hS.F ht⟩) hS.2.2 dX8_breaks_16
  · refine lv_if_eq (tgt := 15) hx hb dX8_breaks_5 (by decide) (fun _ => ?_) (fun c9 => absurd c9 (by decide))
    refine lv_iconst (v := (-1)) hx hb dX8_breaks_15 (by decide) ?_
    exact W.iret (v := (-1)) hx hb hr (fun t ht hW => ⟨⟨(-1), v, rfl, ⟨hv, hfr⟩, by rw [ht]; exact hP, hD⟩, hS.F ht⟩) hS.2.2 dX8_breaks_16
