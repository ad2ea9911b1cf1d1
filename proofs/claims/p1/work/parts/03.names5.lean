theorem dX8_isOwn_4 : decode cX8_isOwn 4 = .ok (.iload_n 1, 1) := by decide +kernel
theorem dX8_isOwn_5 : decode cX8_isOwn 5 = .ok (.iload_n 3, 1) := by decide +kernel
theorem dX8_isOwn_6 : decode cX8_isOwn 6 = .ok (.invokestatic 98, 3) := by decide +kernel
theorem dX8_isOwn_9 : decode cX8_isOwn 9 = .ok (.iaload, 1) := by decide +kernel
theorem dX8_isOwn_10 : decode cX8_isOwn 10 = .ok (.iload_n 2, 1) := by decide +kernel
theorem dX8_isOwn_11 : decode cX8_isOwn 11 = .ok (.if_icmp .ne 23, 3) := by decide +kernel
theorem dX8_isOwn_14 : decode cX8_isOwn 14 = .ok (.aload_n 0, 1) := by decide +kernel
theorem dX8_isOwn_15 : decode cX8_isOwn 15 = .ok (.getfield 7, 3) := by decide +kernel
theorem dX8_isOwn_18 : decode cX8_isOwn 18 = .ok (.iload_n 1, 1) := by decide +kernel
theorem dX8_isOwn_19 : decode cX8_isOwn 19 = .ok (.iload_n 3, 1) := by decide +kernel
theorem dX8_isOwn_20 : decode cX8_isOwn 20 = .ok (.invokestatic 98, 3) := by decide +kernel
theorem dX8_isOwn_23 : decode cX8_isOwn 23 = .ok (.iconst 1, 1) := by decide +kernel
theorem dX8_isOwn_24 : decode cX8_isOwn 24 = .ok (.iadd, 1) := by decide +kernel
theorem dX8_isOwn_25 : decode cX8_isOwn 25 = .ok (.iaload, 1) := by decide +kernel
theorem dX8_isOwn_26 : decode cX8_isOwn 26 = .ok (.iconst 1, 1) := by decide +kernel
theorem dX8_isOwn_27 : decode cX8_isOwn 27 = .ok (.if_icmp .ne 7, 3) := by decide +kernel
theorem dX8_isOwn_30 : decode cX8_isOwn 30 = .ok (.iconst 1, 1) := by decide +kernel
theorem dX8_isOwn_31 : decode cX8_isOwn 31 = .ok (.goto 4, 3) := by decide +kernel
theorem dX8_isOwn_34 : decode cX8_isOwn 34 = .ok (.iconst 0, 1) := by decide +kernel
theorem dX8_isOwn_35 : decode cX8_isOwn 35 = .ok (.ireturn, 1) := by decide +kernel
set_option maxRecDepth 20000 in
theorem ggX8_mayBe_X8_termAt : GoodIn wsX8_mayBe wsX8_termAt := goodIn_r _ [6] (by decide +kernel) (by decide +kernel)
set_option maxRecDepth 20000 in
theorem gX8_mayBe_X8_termAt : GoodIn wsX8_mayBe (va_wsS RX8 98 yX8_termAt wsX8_termAt) := goodIn_app (goodIn_of _ (by decide +kernel)) ggX8_mayBe_X8_termAt
set_option maxRecDepth 20000 in
theorem ggX8_mayBe_X8_in : GoodIn wsX8_mayBe wsX8_in := goodIn_r _ [9] (by decide +kernel) (by decide +kernel)
set_option maxRecDepth 20000 in
theorem gX8_mayBe_X8_in : GoodIn wsX8_mayBe (va_wsS RX8 35 yX8_in wsX8_in) := goodIn_app (goodIn_of _ (by decide +kernel)) ggX8_mayBe_X8_in
theorem dX8_mayBe_0 : decode cX8_mayBe 0 = .ok (.iload_n 1, 1) := by decide +kernel
theorem dX8_mayBe_1 : decode cX8_mayBe 1 = .ok (.iload_n 3, 1) := by decide +kernel
theorem dX8_mayBe_2 : decode cX8_mayBe 2 = .ok (.invokestatic 98, 3) := by decide +kernel
theorem dX8_mayBe_5 : decode cX8_mayBe 5 = .ok (.istore 5, 2) := by decide +kernel
theorem dX8_mayBe_7 : decode cX8_mayBe 7 = .ok (.iconst 0, 1) := by decide +kernel
theorem dX8_mayBe_8 : decode cX8_mayBe 8 = .ok (.istore 6, 2) := by decide +kernel
theorem dX8_mayBe_10 : decode cX8_mayBe 10 = .ok (.iload 6, 2) := by decide +kernel
theorem dX8_mayBe_12 : decode cX8_mayBe 12 = .ok (.iload 4, 2) := by decide +kernel
theorem dX8_mayBe_14 : decode cX8_mayBe 14 = .ok (.if_icmp .ge 143, 3) := by decide +kernel
theorem dX8_mayBe_17 : decode cX8_mayBe 17 = .ok (.iload_n 1, 1) := by decide +kernel
theorem dX8_mayBe_18 : decode cX8_mayBe 18 = .ok (.iload 6, 2) := by decide +kernel
theorem dX8_mayBe_20 : decode cX8_mayBe 20 = .ok (.invokestatic 98, 3) := by decide +kernel
theorem dX8_mayBe_23 : decode cX8_mayBe 23 = .ok (.istore 7, 2) := by decide +kernel
theorem dX8_mayBe_25 : decode cX8_mayBe 25 = .ok (.aload_n 0, 1) := by decide +kernel
theorem dX8_mayBe_26 : decode cX8_mayBe 26 = .ok (.getfield 7, 3) := by decide +kernel
theorem dX8_mayBe_29 : decode cX8_mayBe 29 = .ok (.iload 7, 2) := by decide +kernel
theorem dX8_mayBe_31 : decode cX8_mayBe 31 = .ok (.iaload, 1) := by decide +kernel
theorem dX8_mayBe_32 : decode cX8_mayBe 32 = .ok (.iload_n 2, 1) := by decide +kernel
theorem dX8_mayBe_33 : decode cX8_mayBe 33 = .ok (.if_icmp .eq 6, 3) := by decide +kernel
theorem dX8_mayBe_36 : decode cX8_mayBe 36 = .ok (.goto 115, 3) := by decide +kernel
theorem dX8_mayBe_39 : decode cX8_mayBe 39 = .ok (.aload_n 0, 1) := by decide +kernel
theorem dX8_mayBe_40 : decode cX8_mayBe 40 = .ok (.getfield 7, 3) := by decide +kernel
theorem dX8_mayBe_43 : decode cX8_mayBe 43 = .ok (.iload 7, 2) := by decide +kernel
theorem dX8_mayBe_45 : decode cX8_mayBe 45 = .ok (.iconst 1, 1) := by decide +kernel
theorem dX8_mayBe_46 : decode cX8_mayBe 46 = .ok (.iadd, 1) := by decide +kernel
theorem dX8_mayBe_47 : decode cX8_mayBe 47 = .ok (.iaload, 1) := by decide +kernel
theorem dX8_mayBe_48 : decode cX8_mayBe 48 = .ok (.ifCond .ne 58, 3) := by decide +kernel
theorem dX8_mayBe_51 : decode cX8_mayBe 51 = .ok (.aload_n 0, 1) := by decide +kernel
theorem dX8_mayBe_52 : decode cX8_mayBe 52 = .ok (.getfield 7, 3) := by decide +kernel
theorem dX8_mayBe_55 : decode cX8_mayBe 55 = .ok (.iload 7, 2) := by decide +kernel
theorem dX8_mayBe_57 : decode cX8_mayBe 57 = .ok (.iconst 2, 1) := by decide +kernel
theorem dX8_mayBe_58 : decode cX8_mayBe 58 = .ok (.iadd, 1) := by decide +kernel
theorem dX8_mayBe_59 : decode cX8_mayBe 59 = .ok (.iaload, 1) := by decide +kernel
theorem dX8_mayBe_60 : decode cX8_mayBe 60 = .ok (.aload_n 0, 1) := by decide +kernel
theorem dX8_mayBe_61 : decode cX8_mayBe 61 = .ok (.getfield 7, 3) := by decide +kernel
theorem dX8_mayBe_64 : decode cX8_mayBe 64 = .ok (.iload 5, 2) := by decide +kernel
theorem dX8_mayBe_66 : decode cX8_mayBe 66 = .ok (.iconst 2, 1) := by decide +kernel
theorem dX8_mayBe_67 : decode cX8_mayBe 67 = .ok (.iadd, 1) := by decide +kernel
theorem dX8_mayBe_68 : decode cX8_mayBe 68 = .ok (.iaload, 1) := by decide +kernel
theorem dX8_mayBe_69 : decode cX8_mayBe 69 = .ok (.if_icmp .ne 37, 3) := by decide +kernel
theorem dX8_mayBe_72 : decode cX8_mayBe 72 = .ok (.aload_n 0, 1) := by decide +kernel
theorem dX8_mayBe_73 : decode cX8_mayBe 73 = .ok (.getfield 32, 3) := by decide +kernel
theorem dX8_mayBe_76 : decode cX8_mayBe 76 = .ok (.iload_n 3, 1) := by decide +kernel
theorem dX8_mayBe_77 : decode cX8_mayBe 77 = .ok (.iaload, 1) := by decide +kernel
theorem dX8_mayBe_78 : decode cX8_mayBe 78 = .ok (.aload_n 0, 1) := by decide +kernel
theorem dX8_mayBe_79 : decode cX8_mayBe 79 = .ok (.getfield 7, 3) := by decide +kernel
theorem dX8_mayBe_82 : decode cX8_mayBe 82 = .ok (.iload 7, 2) := by decide +kernel
theorem dX8_mayBe_84 : decode cX8_mayBe 84 = .ok (.iconst 3, 1) := by decide +kernel
theorem dX8_mayBe_85 : decode cX8_mayBe 85 = .ok (.iadd, 1) := by decide +kernel
theorem dX8_mayBe_86 : decode cX8_mayBe 86 = .ok (.iaload, 1) := by decide +kernel
theorem dX8_mayBe_87 : decode cX8_mayBe 87 = .ok (.aload_n 0, 1) := by decide +kernel
theorem dX8_mayBe_88 : decode cX8_mayBe 88 = .ok (.getfield 7, 3) := by decide +kernel
theorem dX8_mayBe_91 : decode cX8_mayBe 91 = .ok (.iload 7, 2) := by decide +kernel
theorem dX8_mayBe_93 : decode cX8_mayBe 93 = .ok (.iconst 4, 1) := by decide +kernel
theorem dX8_mayBe_94 : decode cX8_mayBe 94 = .ok (.iadd, 1) := by decide +kernel
theorem dX8_mayBe_95 : decode cX8_mayBe 95 = .ok (.iaload, 1) := by decide +kernel
theorem dX8_mayBe_96 : decode cX8_mayBe 96 = .ok (.invokestatic 35, 3) := by decide +kernel
theorem dX8_mayBe_99 : decode cX8_mayBe 99 = .ok (.ifCond .eq 7, 3) := by decide +kernel
theorem dX8_mayBe_102 : decode cX8_mayBe 102 = .ok (.iconst 1, 1) := by decide +kernel
theorem dX8_mayBe_103 : decode cX8_mayBe 103 = .ok (.goto 4, 3) := by decide +kernel
theorem dX8_mayBe_106 : decode cX8_mayBe 106 = .ok (.iconst 0, 1) := by decide +kernel
theorem dX8_mayBe_107 : decode cX8_mayBe 107 = .ok (.istore 8, 2) := by decide +kernel
theorem dX8_mayBe_109 : decode cX8_mayBe 109 = .ok (.iload 8, 2) := by decide +kernel
theorem dX8_mayBe_111 : decode cX8_mayBe 111 = .ok (.ifCond .ne 38, 3) := by decide +kernel
theorem dX8_mayBe_114 : decode cX8_mayBe 114 = .ok (.aload_n 0, 1) := by decide +kernel
theorem dX8_mayBe_115 : decode cX8_mayBe 115 = .ok (.getfield 7, 3) := by decide +kernel
theorem dX8_mayBe_118 : decode cX8_mayBe 118 = .ok (.iload 7, 2) := by decide +kernel
theorem dX8_mayBe_120 : decode cX8_mayBe 120 = .ok (.iconst 1, 1) := by decide +kernel
theorem dX8_mayBe_121 : decode cX8_mayBe 121 = .ok (.iadd, 1) := by decide +kernel
theorem dX8_mayBe_122 : decode cX8_mayBe 122 = .ok (.iaload, 1) := by decide +kernel
theorem dX8_mayBe_123 : decode cX8_mayBe 123 = .ok (.iconst 1, 1) := by decide +kernel
theorem dX8_mayBe_124 : decode cX8_mayBe 124 = .ok (.if_icmp .ne 27, 3) := by decide +kernel
theorem dX8_mayBe_127 : decode cX8_mayBe 127 = .ok (.iload 6, 2) := by decide +kernel
theorem dX8_mayBe_129 : decode cX8_mayBe 129 = .ok (.iload_n 3, 1) := by decide +kernel
theorem dX8_mayBe_130 : decode cX8_mayBe 130 = .ok (.if_icmp .ge 21, 3) := by decide +kernel
theorem dX8_mayBe_133 : decode cX8_mayBe 133 = .ok (.aload_n 0, 1) := by decide +kernel
theorem dX8_mayBe_134 : decode cX8_mayBe 134 = .ok (.getfield 32, 3) := by decide +kernel
theorem dX8_mayBe_137 : decode cX8_mayBe 137 = .ok (.iload 6, 2) := by decide +kernel
theorem dX8_mayBe_139 : decode cX8_mayBe 139 = .ok (.iaload, 1) := by decide +kernel
theorem dX8_mayBe_140 : decode cX8_mayBe 140 = .ok (.aload_n 0, 1) := by decide +kernel
theorem dX8_mayBe_141 : decode cX8_mayBe 141 = .ok (.getfield 32, 3) := by decide +kernel
theorem dX8_mayBe_144 : decode cX8_mayBe 144 = .ok (.iload_n 3, 1) := by decide +kernel
theorem dX8_mayBe_145 : decode cX8_mayBe 145 = .ok (.iaload, 1) := by decide +kernel
theorem dX8_mayBe_146 : decode cX8_mayBe 146 = .ok (.if_icmp .ne 5, 3) := by decide +kernel
theorem dX8_mayBe_149 : decode cX8_mayBe 149 = .ok (.iconst 0, 1) := by decide +kernel
theorem dX8_mayBe_150 : decode cX8_mayBe 150 = .ok (.ireturn, 1) := by decide +kernel
theorem dX8_mayBe_151 : decode cX8_mayBe 151 = .ok (.iinc 6 1, 3) := by decide +kernel
theorem dX8_mayBe_154 : decode cX8_mayBe 154 = .ok (.goto (-144), 3) := by decide +kernel
theorem dX8_mayBe_157 : decode cX8_mayBe 157 = .ok (.iconst 1, 1) := by decide +kernel
theorem dX8_mayBe_158 : decode cX8_mayBe 158 = .ok (.ireturn, 1) := by decide +kernel
set_option maxRecDepth 20000 in
theorem ggX8_hourFrom_X8_termAt : GoodIn wsX8_hourFrom wsX8_termAt := goodIn_r _ [6] (by decide +kernel) (by decide +kernel)
set_option maxRecDepth 20000 in
theorem gX8_hourFrom_X8_termAt : GoodIn wsX8_hourFrom (va_wsS RX8 98 yX8_termAt wsX8_termAt) := goodIn_app (goodIn_of _ (by decide +kernel)) ggX8_hourFrom_X8_termAt
set_option maxRecDepth 20000 in
theorem ggX8_hourFrom_X8_mayBe : GoodIn wsX8_hourFrom wsX8_mayBe := goodIn_r _ [10, 2, 1, 3, 4, 5, 6, 11, 12, 13, 14, 15, 16, 17, 18, 19, 20, 21, 22, 23, 24] (by decide +kernel) (by decide +kernel)
set_option maxRecDepth 20000 in
theorem gX8_hourFrom_X8_mayBe : GoodIn wsX8_hourFrom (wsV RX8 104 RX8 yX8_mayBe wsX8_mayBe) := goodIn_app (goodIn_of _ (by decide +kernel)) ggX8_hourFrom_X8_mayBe
theorem dX8_hourFrom_0 : decode cX8_hourFrom 0 = .ok (.aload_n 0, 1) := by decide +kernel
theorem dX8_hourFrom_1 : decode cX8_hourFrom 1 = .ok (.getfield 32, 3) := by decide +kernel
theorem dX8_hourFrom_4 : decode cX8_hourFrom 4 = .ok (.iload_n 3, 1) := by decide +kernel
theorem dX8_hourFrom_5 : decode cX8_hourFrom 5 = .ok (.iload 4, 2) := by decide +kernel
theorem dX8_hourFrom_7 : decode cX8_hourFrom 7 = .ok (.iastore, 1) := by decide +kernel
theorem dX8_hourFrom_8 : decode cX8_hourFrom 8 = .ok (.aload_n 0, 1) := by decide +kernel
theorem dX8_hourFrom_9 : decode cX8_hourFrom 9 = .ok (.getfield 32, 3) := by decide +kernel
theorem dX8_hourFrom_12 : decode cX8_hourFrom 12 = .ok (.iload_n 3, 1) := by decide +kernel
theorem dX8_hourFrom_13 : decode cX8_hourFrom 13 = .ok (.iaload, 1) := by decide +kernel
theorem dX8_hourFrom_14 : decode cX8_hourFrom 14 = .ok (.aload_n 0, 1) := by decide +kernel
theorem dX8_hourFrom_15 : decode cX8_hourFrom 15 = .ok (.getfield 7, 3) := by decide +kernel
theorem dX8_hourFrom_18 : decode cX8_hourFrom 18 = .ok (.iload_n 1, 1) := by decide +kernel
theorem dX8_hourFrom_19 : decode cX8_hourFrom 19 = .ok (.iload_n 3, 1) := by decide +kernel
theorem dX8_hourFrom_20 : decode cX8_hourFrom 20 = .ok (.invokestatic 98, 3) := by decide +kernel
theorem dX8_hourFrom_23 : decode cX8_hourFrom 23 = .ok (.iconst 4, 1) := by decide +kernel
theorem dX8_hourFrom_24 : decode cX8_hourFrom 24 = .ok (.iadd, 1) := by decide +kernel
theorem dX8_hourFrom_25 : decode cX8_hourFrom 25 = .ok (.iaload, 1) := by decide +kernel
theorem dX8_hourFrom_26 : decode cX8_hourFrom 26 = .ok (.if_icmp .gt 35, 3) := by decide +kernel
theorem dX8_hourFrom_29 : decode cX8_hourFrom 29 = .ok (.aload_n 0, 1) := by decide +kernel
theorem dX8_hourFrom_30 : decode cX8_hourFrom 30 = .ok (.iload_n 1, 1) := by decide +kernel
theorem dX8_hourFrom_31 : decode cX8_hourFrom 31 = .ok (.iload_n 2, 1) := by decide +kernel
theorem dX8_hourFrom_32 : decode cX8_hourFrom 32 = .ok (.iload_n 3, 1) := by decide +kernel
theorem dX8_hourFrom_33 : decode cX8_hourFrom 33 = .ok (.iload 5, 2) := by decide +kernel
theorem dX8_hourFrom_35 : decode cX8_hourFrom 35 = .ok (.invokevirtual 104, 3) := by decide +kernel
theorem dX8_hourFrom_38 : decode cX8_hourFrom 38 = .ok (.ifCond .eq 10, 3) := by decide +kernel
theorem dX8_hourFrom_41 : decode cX8_hourFrom 41 = .ok (.aload_n 0, 1) := by decide +kernel
theorem dX8_hourFrom_42 : decode cX8_hourFrom 42 = .ok (.getfield 32, 3) := by decide +kernel
theorem dX8_hourFrom_45 : decode cX8_hourFrom 45 = .ok (.iload_n 3, 1) := by decide +kernel
theorem dX8_hourFrom_46 : decode cX8_hourFrom 46 = .ok (.iaload, 1) := by decide +kernel
theorem dX8_hourFrom_47 : decode cX8_hourFrom 47 = .ok (.ireturn, 1) := by decide +kernel
theorem dX8_hourFrom_48 : decode cX8_hourFrom 48 = .ok (.aload_n 0, 1) := by decide +kernel
theorem dX8_hourFrom_49 : decode cX8_hourFrom 49 = .ok (.getfield 32, 3) := by decide +kernel
theorem dX8_hourFrom_52 : decode cX8_hourFrom 52 = .ok (.iload_n 3, 1) := by decide +kernel
theorem dX8_hourFrom_53 : decode cX8_hourFrom 53 = .ok (.dup2, 1) := by decide +kernel
theorem dX8_hourFrom_54 : decode cX8_hourFrom 54 = .ok (.iaload, 1) := by decide +kernel
theorem dX8_hourFrom_55 : decode cX8_hourFrom 55 = .ok (.iconst 1, 1) := by decide +kernel
theorem dX8_hourFrom_56 : decode cX8_hourFrom 56 = .ok (.iadd, 1) := by decide +kernel
theorem dX8_hourFrom_57 : decode cX8_hourFrom 57 = .ok (.iastore, 1) := by decide +kernel
theorem dX8_hourFrom_58 : decode cX8_hourFrom 58 = .ok (.goto (-50), 3) := by decide +kernel
theorem dX8_hourFrom_61 : decode cX8_hourFrom 61 = .ok (.iconst (-1), 1) := by decide +kernel
theorem dX8_hourFrom_62 : decode cX8_hourFrom 62 = .ok (.ireturn, 1) := by decide +kernel
set_option maxRecDepth 20000 in
theorem ggX8_next_X8_in : GoodIn wsX8_next wsX8_in := goodIn_r _ [4] (by decide +kernel) (by decide +kernel)
set_option maxRecDepth 20000 in
theorem gX8_next_X8_in : GoodIn wsX8_next (va_wsS RX8 35 yX8_in wsX8_in) := goodIn_app (goodIn_of _ (by decide +kernel)) ggX8_next_X8_in
set_option maxRecDepth 20000 in
theorem ggX8_next_X8_isOwn : GoodIn wsX8_next wsX8_isOwn := goodIn_r _ [8, 9, 10, 11, 3, 12, 13, 14, 15, 16, 17, 18, 19, 20, 21, 22, 23] (by decide +kernel) (by decide +kernel)
set_option maxRecDepth 20000 in
theorem gX8_next_X8_isOwn : GoodIn wsX8_next (wsV RX8 108 RX8 yX8_isOwn wsX8_isOwn) := goodIn_app (goodIn_of _ (by decide +kernel)) ggX8_next_X8_isOwn
theorem dX8_next_0 : decode cX8_next 0 = .ok (.iload_n 3, 1) := by decide +kernel
theorem dX8_next_1 : decode cX8_next 1 = .ok (.iload 4, 2) := by decide +kernel
theorem dX8_next_3 : decode cX8_next 3 = .ok (.iadd, 1) := by decide +kernel
theorem dX8_next_4 : decode cX8_next 4 = .ok (.istore 6, 2) := by decide +kernel
theorem dX8_next_6 : decode cX8_next 6 = .ok (.iload 6, 2) := by decide +kernel
theorem dX8_next_8 : decode cX8_next 8 = .ok (.iconst 0, 1) := by decide +kernel
theorem dX8_next_9 : decode cX8_next 9 = .ok (.iload 5, 2) := by decide +kernel
theorem dX8_next_11 : decode cX8_next 11 = .ok (.iconst 1, 1) := by decide +kernel
theorem dX8_next_12 : decode cX8_next 12 = .ok (.isub, 1) := by decide +kernel
theorem dX8_next_13 : decode cX8_next 13 = .ok (.invokestatic 35, 3) := by decide +kernel
theorem dX8_next_16 : decode cX8_next 16 = .ok (.ifCond .eq 24, 3) := by decide +kernel
theorem dX8_next_19 : decode cX8_next 19 = .ok (.aload_n 0, 1) := by decide +kernel
theorem dX8_next_20 : decode cX8_next 20 = .ok (.iload_n 1, 1) := by decide +kernel
theorem dX8_next_21 : decode cX8_next 21 = .ok (.iload_n 2, 1) := by decide +kernel
theorem dX8_next_22 : decode cX8_next 22 = .ok (.iload 6, 2) := by decide +kernel
theorem dX8_next_24 : decode cX8_next 24 = .ok (.invokevirtual 108, 3) := by decide +kernel
theorem dX8_next_27 : decode cX8_next 27 = .ok (.ifCond .ne 13, 3) := by decide +kernel
theorem dX8_next_30 : decode cX8_next 30 = .ok (.iload 6, 2) := by decide +kernel
theorem dX8_next_32 : decode cX8_next 32 = .ok (.iload 4, 2) := by decide +kernel
theorem dX8_next_34 : decode cX8_next 34 = .ok (.iadd, 1) := by decide +kernel
theorem dX8_next_35 : decode cX8_next 35 = .ok (.istore 6, 2) := by decide +kernel
theorem dX8_next_37 : decode cX8_next 37 = .ok (.goto (-31), 3) := by decide +kernel
theorem dX8_next_40 : decode cX8_next 40 = .ok (.iload 6, 2) := by decide +kernel
theorem dX8_next_42 : decode cX8_next 42 = .ok (.ireturn, 1) := by decide +kernel
set_option maxRecDepth 20000 in
theorem ggX8_makeTable_X8_next : GoodIn wsX8_makeTable wsX8_next := goodIn_r _ [7, 8, 9, 6, 10, 11, 12, 13, 14, 1, 15, 16, 17, 26, 27, 28, 29, 30, 31, 32, 33, 34, 35, 36] (by decide +kernel) (by decide +kernel)
set_option maxRecDepth 20000 in
theorem gX8_makeTable_X8_next : GoodIn wsX8_makeTable (wsV RX8 111 RX8 yX8_next wsX8_next) := goodIn_app (goodIn_of _ (by decide +kernel)) ggX8_makeTable_X8_next
set_option maxRecDepth 20000 in
theorem ggX8_makeTable_X8_termAt : GoodIn wsX8_makeTable wsX8_termAt := goodIn_r _ [17] (by decide +kernel) (by decide +kernel)
set_option maxRecDepth 20000 in
theorem gX8_makeTable_X8_termAt : GoodIn wsX8_makeTable (va_wsS RX8 98 yX8_termAt wsX8_termAt) := goodIn_app (goodIn_of _ (by decide +kernel)) ggX8_makeTable_X8_termAt
set_option maxRecDepth 20000 in
theorem ggX8_makeTable_X8_hourFrom : GoodIn wsX8_makeTable wsX8_hourFrom := goodIn_r _ [21, 2, 1, 15, 16, 6, 17, 22, 23, 24, 25, 8, 9, 10, 26, 27, 28, 29, 30, 31, 32, 33, 34, 35, 36] (by decide +kernel) (by decide +kernel)
set_option maxRecDepth 20000 in
theorem gX8_makeTable_X8_hourFrom : GoodIn wsX8_makeTable (wsV RX8 115 RX8 yX8_hourFrom wsX8_hourFrom) := goodIn_app (goodIn_of _ (by decide +kernel)) ggX8_makeTable_X8_hourFrom
theorem dX8_makeTable_0 : decode cX8_makeTable 0 = .ok (.aload_n 0, 1) := by decide +kernel
theorem dX8_makeTable_1 : decode cX8_makeTable 1 = .ok (.iload_n 1, 1) := by decide +kernel
theorem dX8_makeTable_2 : decode cX8_makeTable 2 = .ok (.iload_n 2, 1) := by decide +kernel
theorem dX8_makeTable_3 : decode cX8_makeTable 3 = .ok (.iconst (-1), 1) := by decide +kernel
theorem dX8_makeTable_4 : decode cX8_makeTable 4 = .ok (.iconst 1, 1) := by decide +kernel
theorem dX8_makeTable_5 : decode cX8_makeTable 5 = .ok (.iload_n 3, 1) := by decide +kernel
theorem dX8_makeTable_6 : decode cX8_makeTable 6 = .ok (.invokevirtual 111, 3) := by decide +kernel
theorem dX8_makeTable_9 : decode cX8_makeTable 9 = .ok (.istore 4, 2) := by decide +kernel
theorem dX8_makeTable_11 : decode cX8_makeTable 11 = .ok (.iload 4, 2) := by decide +kernel
theorem dX8_makeTable_13 : decode cX8_makeTable 13 = .ok (.iload_n 3, 1) := by decide +kernel
theorem dX8_makeTable_14 : decode cX8_makeTable 14 = .ok (.if_icmp .ge 19, 3) := by decide +kernel
theorem dX8_makeTable_17 : decode cX8_makeTable 17 = .ok (.aload_n 0, 1) := by decide +kernel
theorem dX8_makeTable_18 : decode cX8_makeTable 18 = .ok (.getfield 7, 3) := by decide +kernel
theorem dX8_makeTable_21 : decode cX8_makeTable 21 = .ok (.iload_n 1, 1) := by decide +kernel
theorem dX8_makeTable_22 : decode cX8_makeTable 22 = .ok (.iload 4, 2) := by decide +kernel
theorem dX8_makeTable_24 : decode cX8_makeTable 24 = .ok (.invokestatic 98, 3) := by decide +kernel
theorem dX8_makeTable_27 : decode cX8_makeTable 27 = .ok (.iconst 3, 1) := by decide +kernel
theorem dX8_makeTable_28 : decode cX8_makeTable 28 = .ok (.iadd, 1) := by decide +kernel
theorem dX8_makeTable_29 : decode cX8_makeTable 29 = .ok (.iaload, 1) := by decide +kernel
theorem dX8_makeTable_30 : decode cX8_makeTable 30 = .ok (.goto 4, 3) := by decide +kernel
theorem dX8_makeTable_33 : decode cX8_makeTable 33 = .ok (.iconst 0, 1) := by decide +kernel
theorem dX8_makeTable_34 : decode cX8_makeTable 34 = .ok (.istore 5, 2) := by decide +kernel
theorem dX8_makeTable_36 : decode cX8_makeTable 36 = .ok (.iload 4, 2) := by decide +kernel
theorem dX8_makeTable_38 : decode cX8_makeTable 38 = .ok (.ifCond .lt 102, 3) := by decide +kernel
theorem dX8_makeTable_41 : decode cX8_makeTable 41 = .ok (.iload 4, 2) := by decide +kernel
theorem dX8_makeTable_43 : decode cX8_makeTable 43 = .ok (.iload_n 3, 1) := by decide +kernel
theorem dX8_makeTable_44 : decode cX8_makeTable 44 = .ok (.if_icmp .ge 96, 3) := by decide +kernel
theorem dX8_makeTable_47 : decode cX8_makeTable 47 = .ok (.aload_n 0, 1) := by decide +kernel
theorem dX8_makeTable_48 : decode cX8_makeTable 48 = .ok (.iload_n 1, 1) := by decide +kernel
theorem dX8_makeTable_49 : decode cX8_makeTable 49 = .ok (.iload_n 2, 1) := by decide +kernel
theorem dX8_makeTable_50 : decode cX8_makeTable 50 = .ok (.iload 4, 2) := by decide +kernel
theorem dX8_makeTable_52 : decode cX8_makeTable 52 = .ok (.iload 5, 2) := by decide +kernel
theorem dX8_makeTable_54 : decode cX8_makeTable 54 = .ok (.iload_n 3, 1) := by decide +kernel
theorem dX8_makeTable_55 : decode cX8_makeTable 55 = .ok (.invokevirtual 115, 3) := by decide +kernel
theorem dX8_makeTable_58 : decode cX8_makeTable 58 = .ok (.istore 6, 2) := by decide +kernel
theorem dX8_makeTable_60 : decode cX8_makeTable 60 = .ok (.iload 6, 2) := by decide +kernel
theorem dX8_makeTable_62 : decode cX8_makeTable 62 = .ok (.ifCond .lt 43, 3) := by decide +kernel
theorem dX8_makeTable_65 : decode cX8_makeTable 65 = .ok (.aload_n 0, 1) := by decide +kernel
theorem dX8_makeTable_66 : decode cX8_makeTable 66 = .ok (.iload_n 1, 1) := by decide +kernel
theorem dX8_makeTable_67 : decode cX8_makeTable 67 = .ok (.iload_n 2, 1) := by decide +kernel
theorem dX8_makeTable_68 : decode cX8_makeTable 68 = .ok (.iload 4, 2) := by decide +kernel
theorem dX8_makeTable_70 : decode cX8_makeTable 70 = .ok (.iconst 1, 1) := by decide +kernel
theorem dX8_makeTable_71 : decode cX8_makeTable 71 = .ok (.iload_n 3, 1) := by decide +kernel
theorem dX8_makeTable_72 : decode cX8_makeTable 72 = .ok (.invokevirtual 111, 3) := by decide +kernel
theorem dX8_makeTable_75 : decode cX8_makeTable 75 = .ok (.istore 4, 2) := by decide +kernel
theorem dX8_makeTable_77 : decode cX8_makeTable 77 = .ok (.iload 4, 2) := by decide +kernel
theorem dX8_makeTable_79 : decode cX8_makeTable 79 = .ok (.iload_n 3, 1) := by decide +kernel
theorem dX8_makeTable_80 : decode cX8_makeTable 80 = .ok (.if_icmp .ge 19, 3) := by decide +kernel
theorem dX8_makeTable_83 : decode cX8_makeTable 83 = .ok (.aload_n 0, 1) := by decide +kernel
theorem dX8_makeTable_84 : decode cX8_makeTable 84 = .ok (.getfield 7, 3) := by decide +kernel
theorem dX8_makeTable_87 : decode cX8_makeTable 87 = .ok (.iload_n 1, 1) := by decide +kernel
theorem dX8_makeTable_88 : decode cX8_makeTable 88 = .ok (.iload 4, 2) := by decide +kernel
theorem dX8_makeTable_90 : decode cX8_makeTable 90 = .ok (.invokestatic 98, 3) := by decide +kernel
theorem dX8_makeTable_93 : decode cX8_makeTable 93 = .ok (.iconst 3, 1) := by decide +kernel
theorem dX8_makeTable_94 : decode cX8_makeTable 94 = .ok (.iadd, 1) := by decide +kernel
theorem dX8_makeTable_95 : decode cX8_makeTable 95 = .ok (.iaload, 1) := by decide +kernel
theorem dX8_makeTable_96 : decode cX8_makeTable 96 = .ok (.goto 4, 3) := by decide +kernel
theorem dX8_makeTable_99 : decode cX8_makeTable 99 = .ok (.iconst 0, 1) := by decide +kernel
theorem dX8_makeTable_100 : decode cX8_makeTable 100 = .ok (.istore 5, 2) := by decide +kernel
theorem dX8_makeTable_102 : decode cX8_makeTable 102 = .ok (.goto 35, 3) := by decide +kernel
theorem dX8_makeTable_105 : decode cX8_makeTable 105 = .ok (.aload_n 0, 1) := by decide +kernel
theorem dX8_makeTable_106 : decode cX8_makeTable 106 = .ok (.iload_n 1, 1) := by decide +kernel
theorem dX8_makeTable_107 : decode cX8_makeTable 107 = .ok (.iload_n 2, 1) := by decide +kernel
theorem dX8_makeTable_108 : decode cX8_makeTable 108 = .ok (.iload 4, 2) := by decide +kernel
theorem dX8_makeTable_110 : decode cX8_makeTable 110 = .ok (.iconst (-1), 1) := by decide +kernel
theorem dX8_makeTable_111 : decode cX8_makeTable 111 = .ok (.iload_n 3, 1) := by decide +kernel
theorem dX8_makeTable_112 : decode cX8_makeTable 112 = .ok (.invokevirtual 111, 3) := by decide +kernel
theorem dX8_makeTable_115 : decode cX8_makeTable 115 = .ok (.istore 4, 2) := by decide +kernel
theorem dX8_makeTable_117 : decode cX8_makeTable 117 = .ok (.iload 4, 2) := by decide +kernel
theorem dX8_makeTable_119 : decode cX8_makeTable 119 = .ok (.ifCond .ge 7, 3) := by decide +kernel
theorem dX8_makeTable_122 : decode cX8_makeTable 122 = .ok (.iconst 0, 1) := by decide +kernel
theorem dX8_makeTable_123 : decode cX8_makeTable 123 = .ok (.goto 12, 3) := by decide +kernel
theorem dX8_makeTable_126 : decode cX8_makeTable 126 = .ok (.aload_n 0, 1) := by decide +kernel
theorem dX8_makeTable_127 : decode cX8_makeTable 127 = .ok (.getfield 32, 3) := by decide +kernel
theorem dX8_makeTable_130 : decode cX8_makeTable 130 = .ok (.iload 4, 2) := by decide +kernel
theorem dX8_makeTable_132 : decode cX8_makeTable 132 = .ok (.iaload, 1) := by decide +kernel
theorem dX8_makeTable_133 : decode cX8_makeTable 133 = .ok (.iconst 1, 1) := by decide +kernel
theorem dX8_makeTable_134 : decode cX8_makeTable 134 = .ok (.iadd, 1) := by decide +kernel
theorem dX8_makeTable_135 : decode cX8_makeTable 135 = .ok (.istore 5, 2) := by decide +kernel
theorem dX8_makeTable_137 : decode cX8_makeTable 137 = .ok (.goto (-101), 3) := by decide +kernel
theorem dX8_makeTable_140 : decode cX8_makeTable 140 = .ok (.iload 4, 2) := by decide +kernel
theorem dX8_makeTable_142 : decode cX8_makeTable 142 = .ok (.ifCond .lt 7, 3) := by decide +kernel
theorem dX8_makeTable_145 : decode cX8_makeTable 145 = .ok (.iconst 1, 1) := by decide +kernel
theorem dX8_makeTable_146 : decode cX8_makeTable 146 = .ok (.goto 4, 3) := by decide +kernel
theorem dX8_makeTable_149 : decode cX8_makeTable 149 = .ok (.iconst 0, 1) := by decide +kernel
theorem dX8_makeTable_150 : decode cX8_makeTable 150 = .ok (.ireturn, 1) := by decide +kernel
set_option maxRecDepth 20000 in
theorem ggX8_hour_X8_isTerm : GoodIn wsX8_hour wsX8_isTerm := goodIn_r _ [7, 1, 8, 9, 10, 6, 11, 12, 13, 14, 15, 16, 17, 41, 42, 43, 44, 45, 46, 47, 48, 49, 50, 51] (by decide +kernel) (by decide +kernel)
set_option maxRecDepth 20000 in
theorem gX8_hour_X8_isTerm : GoodIn wsX8_hour (wsV RX8 101 RX8 yX8_isTerm wsX8_isTerm) := goodIn_app (goodIn_of _ (by decide +kernel)) ggX8_hour_X8_isTerm
set_option maxRecDepth 20000 in
theorem ggX8_hour_X8_termAt : GoodIn wsX8_hour wsX8_termAt := goodIn_r _ [20] (by decide +kernel) (by decide +kernel)
set_option maxRecDepth 20000 in
theorem gX8_hour_X8_termAt : GoodIn wsX8_hour (va_wsS RX8 98 yX8_termAt wsX8_termAt) := goodIn_app (goodIn_of _ (by decide +kernel)) ggX8_hour_X8_termAt
set_option maxRecDepth 20000 in
theorem ggX8_hour_X8_at : GoodIn wsX8_hour wsX8_at := goodIn_r _ [17] (by decide +kernel) (by decide +kernel)
set_option maxRecDepth 20000 in
theorem gX8_hour_X8_at : GoodIn wsX8_hour (va_wsS RX8 46 yX8_at wsX8_at) := goodIn_app (goodIn_of _ (by decide +kernel)) ggX8_hour_X8_at
set_option maxRecDepth 20000 in
theorem ggX8_hour_X8_makeTable : GoodIn wsX8_hour wsX8_makeTable := goodIn_r _ [24, 1, 2, 25, 26, 27, 6, 28, 12, 13, 14, 29, 30, 31, 32, 18, 19, 20, 33, 34, 35, 36, 37, 38, 39, 40, 41, 42, 43, 44, 45, 46, 47, 48, 49, 50, 51] (by decide +kernel) (by decide +kernel)
set_option maxRecDepth 20000 in
theorem gX8_hour_X8_makeTable : GoodIn wsX8_hour (wsV RX8 118 RX8 yX8_makeTable wsX8_makeTable) := goodIn_app (goodIn_of _ (by decide +kernel)) ggX8_hour_X8_makeTable
theorem dX8_hour_0 : decode cX8_hour 0 = .ok (.aload_n 0, 1) := by decide +kernel
theorem dX8_hour_1 : decode cX8_hour 1 = .ok (.iload_n 1, 1) := by decide +kernel
theorem dX8_hour_2 : decode cX8_hour 2 = .ok (.iload_n 2, 1) := by decide +kernel
theorem dX8_hour_3 : decode cX8_hour 3 = .ok (.invokevirtual 101, 3) := by decide +kernel
theorem dX8_hour_6 : decode cX8_hour 6 = .ok (.ifCond .ne 5, 3) := by decide +kernel
theorem dX8_hour_9 : decode cX8_hour 9 = .ok (.iconst (-1), 1) := by decide +kernel
theorem dX8_hour_10 : decode cX8_hour 10 = .ok (.ireturn, 1) := by decide +kernel
theorem dX8_hour_11 : decode cX8_hour 11 = .ok (.aload_n 0, 1) := by decide +kernel
theorem dX8_hour_12 : decode cX8_hour 12 = .ok (.getfield 7, 3) := by decide +kernel
theorem dX8_hour_15 : decode cX8_hour 15 = .ok (.iload_n 1, 1) := by decide +kernel
theorem dX8_hour_16 : decode cX8_hour 16 = .ok (.iload_n 2, 1) := by decide +kernel
theorem dX8_hour_17 : decode cX8_hour 17 = .ok (.invokestatic 98, 3) := by decide +kernel
theorem dX8_hour_20 : decode cX8_hour 20 = .ok (.iaload, 1) := by decide +kernel
theorem dX8_hour_21 : decode cX8_hour 21 = .ok (.istore_n 3, 1) := by decide +kernel
theorem dX8_hour_22 : decode cX8_hour 22 = .ok (.aload_n 0, 1) := by decide +kernel
theorem dX8_hour_23 : decode cX8_hour 23 = .ok (.getfield 7, 3) := by decide +kernel
theorem dX8_hour_26 : decode cX8_hour 26 = .ok (.iload_n 1, 1) := by decide +kernel
theorem dX8_hour_27 : decode cX8_hour 27 = .ok (.iload_n 2, 1) := by decide +kernel
theorem dX8_hour_28 : decode cX8_hour 28 = .ok (.invokestatic 98, 3) := by decide +kernel
theorem dX8_hour_31 : decode cX8_hour 31 = .ok (.iconst 1, 1) := by decide +kernel
theorem dX8_hour_32 : decode cX8_hour 32 = .ok (.iadd, 1) := by decide +kernel
theorem dX8_hour_33 : decode cX8_hour 33 = .ok (.iaload, 1) := by decide +kernel
theorem dX8_hour_34 : decode cX8_hour 34 = .ok (.ifCond .ne 6, 3) := by decide +kernel
theorem dX8_hour_37 : decode cX8_hour 37 = .ok (.bipush (-4), 2) := by decide +kernel
theorem dX8_hour_39 : decode cX8_hour 39 = .ok (.ireturn, 1) := by decide +kernel
theorem dX8_hour_40 : decode cX8_hour 40 = .ok (.aload_n 0, 1) := by decide +kernel
theorem dX8_hour_41 : decode cX8_hour 41 = .ok (.iload_n 1, 1) := by decide +kernel
theorem dX8_hour_42 : decode cX8_hour 42 = .ok (.iload_n 3, 1) := by decide +kernel
theorem dX8_hour_43 : decode cX8_hour 43 = .ok (.aload_n 0, 1) := by decide +kernel
theorem dX8_hour_44 : decode cX8_hour 44 = .ok (.getfield 7, 3) := by decide +kernel
theorem dX8_hour_47 : decode cX8_hour 47 = .ok (.iload_n 1, 1) := by decide +kernel
theorem dX8_hour_48 : decode cX8_hour 48 = .ok (.bipush 6, 2) := by decide +kernel
theorem dX8_hour_50 : decode cX8_hour 50 = .ok (.invokestatic 46, 3) := by decide +kernel
theorem dX8_hour_53 : decode cX8_hour 53 = .ok (.iaload, 1) := by decide +kernel
theorem dX8_hour_54 : decode cX8_hour 54 = .ok (.invokevirtual 118, 3) := by decide +kernel
theorem dX8_hour_57 : decode cX8_hour 57 = .ok (.ifCond .eq 12, 3) := by decide +kernel
theorem dX8_hour_60 : decode cX8_hour 60 = .ok (.aload_n 0, 1) := by decide +kernel
theorem dX8_hour_61 : decode cX8_hour 61 = .ok (.getfield 32, 3) := by decide +kernel
theorem dX8_hour_64 : decode cX8_hour 64 = .ok (.iload_n 2, 1) := by decide +kernel
theorem dX8_hour_65 : decode cX8_hour 65 = .ok (.iaload, 1) := by decide +kernel
theorem dX8_hour_66 : decode cX8_hour 66 = .ok (.goto 5, 3) := by decide +kernel
theorem dX8_hour_69 : decode cX8_hour 69 = .ok (.bipush (-5), 2) := by decide +kernel
theorem dX8_hour_71 : decode cX8_hour 71 = .ok (.ireturn, 1) := by decide +kernel
set_option maxRecDepth 20000 in
theorem ggX8_canHold_X8_isCase : GoodIn wsX8_canHold wsX8_isCase := goodIn_r _ [6, 1, 7, 8, 5, 9, 40, 41, 42, 43, 44, 45, 46, 47, 48, 49, 50] (by decide +kernel) (by decide +kernel)
set_option maxRecDepth 20000 in
theorem gX8_canHold_X8_isCase : GoodIn wsX8_canHold (wsV RX8 50 RX8 yX8_isCase wsX8_isCase) := goodIn_app (goodIn_of _ (by decide +kernel)) ggX8_canHold_X8_isCase
set_option maxRecDepth 20000 in
theorem ggX8_canHold_X8_isSide : GoodIn wsX8_canHold wsX8_isSide := goodIn_r _ [12, 7, 8, 5, 9] (by decide +kernel) (by decide +kernel)
set_option maxRecDepth 20000 in
theorem gX8_canHold_X8_isSide : GoodIn wsX8_canHold (va_wsS RX8 60 yX8_isSide wsX8_isSide) := goodIn_app (goodIn_of _ (by decide +kernel)) ggX8_canHold_X8_isSide
set_option maxRecDepth 20000 in
theorem ggX8_canHold_X8_at : GoodIn wsX8_canHold wsX8_at := goodIn_r _ [15] (by decide +kernel) (by decide +kernel)
set_option maxRecDepth 20000 in
theorem gX8_canHold_X8_at : GoodIn wsX8_canHold (va_wsS RX8 46 yX8_at wsX8_at) := goodIn_app (goodIn_of _ (by decide +kernel)) ggX8_canHold_X8_at
set_option maxRecDepth 20000 in
theorem ggX8_canHold_X8_makeTable : GoodIn wsX8_canHold wsX8_makeTable := goodIn_r _ [19, 1, 20, 21, 22, 23, 5, 24, 7, 8, 9, 25, 26, 27, 28, 29, 30, 31, 32, 33, 34, 35, 36, 37, 38, 39, 40, 41, 42, 43, 44, 45, 46, 47, 48, 49, 50] (by decide +kernel) (by decide +kernel)
set_option maxRecDepth 20000 in
theorem gX8_canHold_X8_makeTable : GoodIn wsX8_canHold (wsV RX8 118 RX8 yX8_makeTable wsX8_makeTable) := goodIn_app (goodIn_of _ (by decide +kernel)) ggX8_canHold_X8_makeTable
theorem dX8_canHold_0 : decode cX8_canHold 0 = .ok (.aload_n 0, 1) := by decide +kernel
theorem dX8_canHold_1 : decode cX8_canHold 1 = .ok (.iload_n 1, 1) := by decide +kernel
theorem dX8_canHold_2 : decode cX8_canHold 2 = .ok (.invokevirtual 50, 3) := by decide +kernel
theorem dX8_canHold_5 : decode cX8_canHold 5 = .ok (.ifCond .eq 10, 3) := by decide +kernel
theorem dX8_canHold_8 : decode cX8_canHold 8 = .ok (.iload_n 2, 1) := by decide +kernel
theorem dX8_canHold_9 : decode cX8_canHold 9 = .ok (.invokestatic 60, 3) := by decide +kernel
theorem dX8_canHold_12 : decode cX8_canHold 12 = .ok (.ifCond .ne 5, 3) := by decide +kernel
theorem dX8_canHold_15 : decode cX8_canHold 15 = .ok (.iconst (-1), 1) := by decide +kernel
theorem dX8_canHold_16 : decode cX8_canHold 16 = .ok (.ireturn, 1) := by decide +kernel
theorem dX8_canHold_17 : decode cX8_canHold 17 = .ok (.aload_n 0, 1) := by decide +kernel
theorem dX8_canHold_18 : decode cX8_canHold 18 = .ok (.iload_n 1, 1) := by decide +kernel
theorem dX8_canHold_19 : decode cX8_canHold 19 = .ok (.iload_n 2, 1) := by decide +kernel
theorem dX8_canHold_20 : decode cX8_canHold 20 = .ok (.aload_n 0, 1) := by decide +kernel
theorem dX8_canHold_21 : decode cX8_canHold 21 = .ok (.getfield 7, 3) := by decide +kernel
theorem dX8_canHold_24 : decode cX8_canHold 24 = .ok (.iload_n 1, 1) := by decide +kernel
theorem dX8_canHold_25 : decode cX8_canHold 25 = .ok (.bipush 6, 2) := by decide +kernel
theorem dX8_canHold_27 : decode cX8_canHold 27 = .ok (.invokestatic 46, 3) := by decide +kernel
theorem dX8_canHold_30 : decode cX8_canHold 30 = .ok (.iaload, 1) := by decide +kernel
theorem dX8_canHold_31 : decode cX8_canHold 31 = .ok (.invokevirtual 118, 3) := by decide +kernel
theorem dX8_canHold_34 : decode cX8_canHold 34 = .ok (.ifCond .eq 7, 3) := by decide +kernel
theorem dX8_canHold_37 : decode cX8_canHold 37 = .ok (.iconst 1, 1) := by decide +kernel
theorem dX8_canHold_38 : decode cX8_canHold 38 = .ok (.goto 4, 3) := by decide +kernel
theorem dX8_canHold_41 : decode cX8_canHold 41 = .ok (.iconst 0, 1) := by decide +kernel
theorem dX8_canHold_42 : decode cX8_canHold 42 = .ok (.ireturn, 1) := by decide +kernel
set_option maxRecDepth 20000 in
theorem ggX8_breaks_X8_isCase : GoodIn wsX8_breaks wsX8_isCase := goodIn_r _ [6, 1, 7, 8, 5, 9, 40, 41, 42, 43, 44, 45, 46, 47, 48, 49, 50] (by decide +kernel) (by decide +kernel)
set_option maxRecDepth 20000 in
theorem gX8_breaks_X8_isCase : GoodIn wsX8_breaks (wsV RX8 50 RX8 yX8_isCase wsX8_isCase) := goodIn_app (goodIn_of _ (by decide +kernel)) ggX8_breaks_X8_isCase
set_option maxRecDepth 20000 in
theorem ggX8_breaks_X8_isSide : GoodIn wsX8_breaks wsX8_isSide := goodIn_r _ [12, 7, 8, 5, 9] (by decide +kernel) (by decide +kernel)
set_option maxRecDepth 20000 in
theorem gX8_breaks_X8_isSide : GoodIn wsX8_breaks (va_wsS RX8 60 yX8_isSide wsX8_isSide) := goodIn_app (goodIn_of _ (by decide +kernel)) ggX8_breaks_X8_isSide
set_option maxRecDepth 20000 in
theorem ggX8_breaks_X8_at : GoodIn wsX8_breaks wsX8_at := goodIn_r _ [15] (by decide +kernel) (by decide +kernel)
set_option maxRecDepth 20000 in
theorem gX8_breaks_X8_at : GoodIn wsX8_breaks (va_wsS RX8 46 yX8_at wsX8_at) := goodIn_app (goodIn_of _ (by decide +kernel)) ggX8_breaks_X8_at
set_option maxRecDepth 20000 in
theorem ggX8_breaks_X8_termAt : GoodIn wsX8_breaks wsX8_termAt := goodIn_r _ [18] (by decide +kernel) (by decide +kernel)
set_option maxRecDepth 20000 in
theorem gX8_breaks_X8_termAt : GoodIn wsX8_breaks (va_wsS RX8 98 yX8_termAt wsX8_termAt) := goodIn_app (goodIn_of _ (by decide +kernel)) ggX8_breaks_X8_termAt
set_option maxRecDepth 20000 in
theorem ggX8_breaks_X8_makeTable : GoodIn wsX8_breaks wsX8_makeTable := goodIn_r _ [22, 1, 23, 24, 25, 26, 5, 27, 7, 8, 9, 28, 29, 30, 31, 16, 17, 18, 32, 33, 34, 35, 36, 37, 38, 39, 40, 41, 42, 43, 44, 45, 46, 47, 48, 49, 50] (by decide +kernel) (by decide +kernel)
set_option maxRecDepth 20000 in
theorem gX8_breaks_X8_makeTable : GoodIn wsX8_breaks (wsV RX8 118 RX8 yX8_makeTable wsX8_makeTable) := goodIn_app (goodIn_of _ (by decide +kernel)) ggX8_breaks_X8_makeTable
theorem dX8_breaks_0 : decode cX8_breaks 0 = .ok (.aload_n 0, 1) := by decide +kernel
theorem dX8_breaks_1 : decode cX8_breaks 1 = .ok (.iload_n 1, 1) := by decide +kernel
theorem dX8_breaks_2 : decode cX8_breaks 2 = .ok (.invokevirtual 50, 3) := by decide +kernel
theorem dX8_breaks_5 : decode cX8_breaks 5 = .ok (.ifCond .eq 10, 3) := by decide +kernel
theorem dX8_breaks_8 : decode cX8_breaks 8 = .ok (.iload_n 2, 1) := by decide +kernel
theorem dX8_breaks_9 : decode cX8_breaks 9 = .ok (.invokestatic 60, 3) := by decide +kernel
theorem dX8_breaks_12 : decode cX8_breaks 12 = .ok (.ifCond .ne 5, 3) := by decide +kernel
theorem dX8_breaks_15 : decode cX8_breaks 15 = .ok (.iconst (-1), 1) := by decide +kernel
theorem dX8_breaks_16 : decode cX8_breaks 16 = .ok (.ireturn, 1) := by decide +kernel
theorem dX8_breaks_17 : decode cX8_breaks 17 = .ok (.iconst 0, 1) := by decide +kernel
theorem dX8_breaks_18 : decode cX8_breaks 18 = .ok (.istore_n 3, 1) := by decide +kernel
theorem dX8_breaks_19 : decode cX8_breaks 19 = .ok (.iload_n 3, 1) := by decide +kernel
theorem dX8_breaks_20 : decode cX8_breaks 20 = .ok (.aload_n 0, 1) := by decide +kernel
theorem dX8_breaks_21 : decode cX8_breaks 21 = .ok (.getfield 7, 3) := by decide +kernel
theorem dX8_breaks_24 : decode cX8_breaks 24 = .ok (.iload_n 1, 1) := by decide +kernel
theorem dX8_breaks_25 : decode cX8_breaks 25 = .ok (.bipush 6, 2) := by decide +kernel
theorem dX8_breaks_27 : decode cX8_breaks 27 = .ok (.invokestatic 46, 3) := by decide +kernel
theorem dX8_breaks_30 : decode cX8_breaks 30 = .ok (.iaload, 1) := by decide +kernel
theorem dX8_breaks_31 : decode cX8_breaks 31 = .ok (.if_icmp .ge 37, 3) := by decide +kernel
theorem dX8_breaks_34 : decode cX8_breaks 34 = .ok (.aload_n 0, 1) := by decide +kernel
theorem dX8_breaks_35 : decode cX8_breaks 35 = .ok (.getfield 7, 3) := by decide +kernel
theorem dX8_breaks_38 : decode cX8_breaks 38 = .ok (.iload_n 1, 1) := by decide +kernel
theorem dX8_breaks_39 : decode cX8_breaks 39 = .ok (.iload_n 3, 1) := by decide +kernel
theorem dX8_breaks_40 : decode cX8_breaks 40 = .ok (.invokestatic 98, 3) := by decide +kernel
theorem dX8_breaks_43 : decode cX8_breaks 43 = .ok (.iaload, 1) := by decide +kernel
theorem dX8_breaks_44 : decode cX8_breaks 44 = .ok (.iload_n 2, 1) := by decide +kernel
theorem dX8_breaks_45 : decode cX8_breaks 45 = .ok (.if_icmp .ne 17, 3) := by decide +kernel
theorem dX8_breaks_48 : decode cX8_breaks 48 = .ok (.aload_n 0, 1) := by decide +kernel
theorem dX8_breaks_49 : decode cX8_breaks 49 = .ok (.iload_n 1, 1) := by decide +kernel
theorem dX8_breaks_50 : decode cX8_breaks 50 = .ok (.iload_n 2, 1) := by decide +kernel
theorem dX8_breaks_51 : decode cX8_breaks 51 = .ok (.iload_n 3, 1) := by decide +kernel
theorem dX8_breaks_52 : decode cX8_breaks 52 = .ok (.iconst 1, 1) := by decide +kernel
theorem dX8_breaks_53 : decode cX8_breaks 53 = .ok (.iadd, 1) := by decide +kernel
theorem dX8_breaks_54 : decode cX8_breaks 54 = .ok (.invokevirtual 118, 3) := by decide +kernel
theorem dX8_breaks_57 : decode cX8_breaks 57 = .ok (.ifCond .ne 5, 3) := by decide +kernel
theorem dX8_breaks_60 : decode cX8_breaks 60 = .ok (.iload_n 3, 1) := by decide +kernel
theorem dX8_breaks_61 : decode cX8_breaks 61 = .ok (.ireturn, 1) := by decide +kernel
theorem dX8_breaks_62 : decode cX8_breaks 62 = .ok (.iinc 3 1, 3) := by decide +kernel
theorem dX8_breaks_65 : decode cX8_breaks 65 = .ok (.goto (-46), 3) := by decide +kernel
theorem dX8_breaks_68 : decode cX8_breaks 68 = .ok (.bipush (-5), 2) := by decide +kernel
theorem dX8_breaks_70 : decode cX8_breaks 70 = .ok (.ireturn, 1) := by decide +kernel
set_option maxRecDepth 20000 in
theorem ggX8_log_X8_isCase : GoodIn wsX8_log wsX8_isCase := goodIn_r _ [6, 1, 7, 8, 5, 9, 13, 14, 15, 16, 17, 18, 19, 20, 21, 22, 23] (by decide +kernel) (by decide +kernel)
set_option maxRecDepth 20000 in
theorem gX8_log_X8_isCase : GoodIn wsX8_log (wsV RX8 50 RX8 yX8_isCase wsX8_isCase) := goodIn_app (goodIn_of _ (by decide +kernel)) ggX8_log_X8_isCase
set_option maxRecDepth 20000 in
theorem ggX8_log_X8_isSide : GoodIn wsX8_log wsX8_isSide := goodIn_r _ [12, 7, 8, 5, 9] (by decide +kernel) (by decide +kernel)
set_option maxRecDepth 20000 in
theorem gX8_log_X8_isSide : GoodIn wsX8_log (va_wsS RX8 60 yX8_isSide wsX8_isSide) := goodIn_app (goodIn_of _ (by decide +kernel)) ggX8_log_X8_isSide
set_option maxRecDepth 20000 in
theorem ggX8_log_X8_in : GoodIn wsX8_log wsX8_in := goodIn_r _ [9] (by decide +kernel) (by decide +kernel)
set_option maxRecDepth 20000 in
theorem gX8_log_X8_in : GoodIn wsX8_log (va_wsS RX8 35 yX8_in wsX8_in) := goodIn_app (goodIn_of _ (by decide +kernel)) ggX8_log_X8_in
theorem dX8_log_0 : decode cX8_log 0 = .ok (.aload_n 0, 1) := by decide +kernel
theorem dX8_log_1 : decode cX8_log 1 = .ok (.iload_n 1, 1) := by decide +kernel
theorem dX8_log_2 : decode cX8_log 2 = .ok (.invokevirtual 50, 3) := by decide +kernel
theorem dX8_log_5 : decode cX8_log 5 = .ok (.ifCond .eq 31, 3) := by decide +kernel
theorem dX8_log_8 : decode cX8_log 8 = .ok (.iload_n 2, 1) := by decide +kernel
theorem dX8_log_9 : decode cX8_log 9 = .ok (.invokestatic 60, 3) := by decide +kernel
theorem dX8_log_12 : decode cX8_log 12 = .ok (.ifCond .eq 24, 3) := by decide +kernel
theorem dX8_log_15 : decode cX8_log 15 = .ok (.iload_n 3, 1) := by decide +kernel
theorem dX8_log_16 : decode cX8_log 16 = .ok (.iconst 0, 1) := by decide +kernel
theorem dX8_log_17 : decode cX8_log 17 = .ok (.bipush 23, 2) := by decide +kernel
theorem dX8_log_19 : decode cX8_log 19 = .ok (.invokestatic 35, 3) := by decide +kernel
theorem dX8_log_22 : decode cX8_log 22 = .ok (.ifCond .eq 14, 3) := by decide +kernel
theorem dX8_log_25 : decode cX8_log 25 = .ok (.iload 4, 2) := by decide +kernel
theorem dX8_log_27 : decode cX8_log 27 = .ok (.iconst 0, 1) := by decide +kernel
theorem dX8_log_28 : decode cX8_log 28 = .ok (.bipush 7, 2) := by decide +kernel
theorem dX8_log_30 : decode cX8_log 30 = .ok (.invokestatic 35, 3) := by decide +kernel
theorem dX8_log_33 : decode cX8_log 33 = .ok (.ifCond .ne 5, 3) := by decide +kernel
theorem dX8_log_36 : decode cX8_log 36 = .ok (.iconst (-1), 1) := by decide +kernel
theorem dX8_log_37 : decode cX8_log 37 = .ok (.ireturn, 1) := by decide +kernel
theorem dX8_log_38 : decode cX8_log 38 = .ok (.sipush 308, 3) := by decide +kernel
theorem dX8_log_41 : decode cX8_log 41 = .ok (.bipush 24, 2) := by decide +kernel
theorem dX8_log_43 : decode cX8_log 43 = .ok (.iconst 2, 1) := by decide +kernel
theorem dX8_log_44 : decode cX8_log 44 = .ok (.iload_n 1, 1) := by decide +kernel
theorem dX8_log_45 : decode cX8_log 45 = .ok (.imul, 1) := by decide +kernel
theorem dX8_log_46 : decode cX8_log 46 = .ok (.iload_n 2, 1) := by decide +kernel
theorem dX8_log_47 : decode cX8_log 47 = .ok (.iadd, 1) := by decide +kernel
theorem dX8_log_48 : decode cX8_log 48 = .ok (.imul, 1) := by decide +kernel
theorem dX8_log_49 : decode cX8_log 49 = .ok (.iadd, 1) := by decide +kernel
theorem dX8_log_50 : decode cX8_log 50 = .ok (.iload_n 3, 1) := by decide +kernel
theorem dX8_log_51 : decode cX8_log 51 = .ok (.iadd, 1) := by decide +kernel
theorem dX8_log_52 : decode cX8_log 52 = .ok (.istore 5, 2) := by decide +kernel
theorem dX8_log_54 : decode cX8_log 54 = .ok (.aload_n 0, 1) := by decide +kernel
theorem dX8_log_55 : decode cX8_log 55 = .ok (.getfield 7, 3) := by decide +kernel
theorem dX8_log_58 : decode cX8_log 58 = .ok (.iload 5, 2) := by decide +kernel
theorem dX8_log_60 : decode cX8_log 60 = .ok (.iaload, 1) := by decide +kernel
theorem dX8_log_61 : decode cX8_log 61 = .ok (.istore 6, 2) := by decide +kernel
theorem dX8_log_63 : decode cX8_log 63 = .ok (.aload_n 0, 1) := by decide +kernel
theorem dX8_log_64 : decode cX8_log 64 = .ok (.getfield 7, 3) := by decide +kernel
theorem dX8_log_67 : decode cX8_log 67 = .ok (.iload 5, 2) := by decide +kernel
theorem dX8_log_69 : decode cX8_log 69 = .ok (.iload 4, 2) := by decide +kernel
theorem dX8_log_71 : decode cX8_log 71 = .ok (.iastore, 1) := by decide +kernel
theorem dX8_log_72 : decode cX8_log 72 = .ok (.iload 6, 2) := by decide +kernel
theorem dX8_log_74 : decode cX8_log 74 = .ok (.ireturn, 1) := by decide +kernel
set_option maxRecDepth 20000 in
theorem ggX8_judge_X8_termAt : GoodIn wsX8_judge wsX8_termAt := goodIn_r _ [5] (by decide +kernel) (by decide +kernel)
set_option maxRecDepth 20000 in
theorem gX8_judge_X8_termAt : GoodIn wsX8_judge (va_wsS RX8 98 yX8_termAt wsX8_termAt) := goodIn_app (goodIn_of _ (by decide +kernel)) ggX8_judge_X8_termAt
theorem dX8_judge_0 : decode cX8_judge 0 = .ok (.iload_n 1, 1) := by decide +kernel
theorem dX8_judge_1 : decode cX8_judge 1 = .ok (.iload_n 2, 1) := by decide +kernel
theorem dX8_judge_2 : decode cX8_judge 2 = .ok (.invokestatic 98, 3) := by decide +kernel
theorem dX8_judge_5 : decode cX8_judge 5 = .ok (.istore_n 3, 1) := by decide +kernel
theorem dX8_judge_6 : decode cX8_judge 6 = .ok (.iconst 0, 1) := by decide +kernel
theorem dX8_judge_7 : decode cX8_judge 7 = .ok (.istore 4, 2) := by decide +kernel
theorem dX8_judge_9 : decode cX8_judge 9 = .ok (.iconst 1, 1) := by decide +kernel
theorem dX8_judge_10 : decode cX8_judge 10 = .ok (.istore 5, 2) := by decide +kernel
theorem dX8_judge_12 : decode cX8_judge 12 = .ok (.aload_n 0, 1) := by decide +kernel
theorem dX8_judge_13 : decode cX8_judge 13 = .ok (.getfield 7, 3) := by decide +kernel
theorem dX8_judge_16 : decode cX8_judge 16 = .ok (.iload_n 3, 1) := by decide +kernel
theorem dX8_judge_17 : decode cX8_judge 17 = .ok (.iconst 3, 1) := by decide +kernel
theorem dX8_judge_18 : decode cX8_judge 18 = .ok (.iadd, 1) := by decide +kernel
theorem dX8_judge_19 : decode cX8_judge 19 = .ok (.iaload, 1) := by decide +kernel
theorem dX8_judge_20 : decode cX8_judge 20 = .ok (.istore 6, 2) := by decide +kernel
theorem dX8_judge_22 : decode cX8_judge 22 = .ok (.iload 6, 2) := by decide +kernel
theorem dX8_judge_24 : decode cX8_judge 24 = .ok (.aload_n 0, 1) := by decide +kernel
theorem dX8_judge_25 : decode cX8_judge 25 = .ok (.getfield 7, 3) := by decide +kernel
theorem dX8_judge_28 : decode cX8_judge 28 = .ok (.iload_n 3, 1) := by decide +kernel
theorem dX8_judge_29 : decode cX8_judge 29 = .ok (.iconst 4, 1) := by decide +kernel
theorem dX8_judge_30 : decode cX8_judge 30 = .ok (.iadd, 1) := by decide +kernel
theorem dX8_judge_31 : decode cX8_judge 31 = .ok (.iaload, 1) := by decide +kernel
theorem dX8_judge_32 : decode cX8_judge 32 = .ok (.if_icmp .gt 80, 3) := by decide +kernel
theorem dX8_judge_35 : decode cX8_judge 35 = .ok (.aload_n 0, 1) := by decide +kernel
theorem dX8_judge_36 : decode cX8_judge 36 = .ok (.getfield 7, 3) := by decide +kernel
theorem dX8_judge_39 : decode cX8_judge 39 = .ok (.sipush 308, 3) := by decide +kernel
theorem dX8_judge_42 : decode cX8_judge 42 = .ok (.bipush 24, 2) := by decide +kernel
theorem dX8_judge_44 : decode cX8_judge 44 = .ok (.iconst 2, 1) := by decide +kernel
theorem dX8_judge_45 : decode cX8_judge 45 = .ok (.iload_n 1, 1) := by decide +kernel
theorem dX8_judge_46 : decode cX8_judge 46 = .ok (.imul, 1) := by decide +kernel
theorem dX8_judge_47 : decode cX8_judge 47 = .ok (.aload_n 0, 1) := by decide +kernel
theorem dX8_judge_48 : decode cX8_judge 48 = .ok (.getfield 7, 3) := by decide +kernel
theorem dX8_judge_51 : decode cX8_judge 51 = .ok (.iload_n 3, 1) := by decide +kernel
theorem dX8_judge_52 : decode cX8_judge 52 = .ok (.iaload, 1) := by decide +kernel
theorem dX8_judge_53 : decode cX8_judge 53 = .ok (.iadd, 1) := by decide +kernel
theorem dX8_judge_54 : decode cX8_judge 54 = .ok (.imul, 1) := by decide +kernel
theorem dX8_judge_55 : decode cX8_judge 55 = .ok (.iadd, 1) := by decide +kernel
theorem dX8_judge_56 : decode cX8_judge 56 = .ok (.iload 6, 2) := by decide +kernel
theorem dX8_judge_58 : decode cX8_judge 58 = .ok (.iadd, 1) := by decide +kernel
theorem dX8_judge_59 : decode cX8_judge 59 = .ok (.iaload, 1) := by decide +kernel
theorem dX8_judge_60 : decode cX8_judge 60 = .ok (.istore 7, 2) := by decide +kernel
theorem dX8_judge_62 : decode cX8_judge 62 = .ok (.iload 4, 2) := by decide +kernel
theorem dX8_judge_64 : decode cX8_judge 64 = .ok (.ifCond .ne 16, 3) := by decide +kernel
theorem dX8_judge_67 : decode cX8_judge 67 = .ok (.iload 7, 2) := by decide +kernel
theorem dX8_judge_69 : decode cX8_judge 69 = .ok (.aload_n 0, 1) := by decide +kernel
theorem dX8_judge_70 : decode cX8_judge 70 = .ok (.getfield 7, 3) := by decide +kernel
theorem dX8_judge_73 : decode cX8_judge 73 = .ok (.iload_n 3, 1) := by decide +kernel
theorem dX8_judge_74 : decode cX8_judge 74 = .ok (.iconst 2, 1) := by decide +kernel
theorem dX8_judge_75 : decode cX8_judge 75 = .ok (.iadd, 1) := by decide +kernel
theorem dX8_judge_76 : decode cX8_judge 76 = .ok (.iaload, 1) := by decide +kernel
theorem dX8_judge_77 : decode cX8_judge 77 = .ok (.if_icmp .ne 7, 3) := by decide +kernel
theorem dX8_judge_80 : decode cX8_judge 80 = .ok (.iconst 1, 1) := by decide +kernel
theorem dX8_judge_81 : decode cX8_judge 81 = .ok (.goto 4, 3) := by decide +kernel
theorem dX8_judge_84 : decode cX8_judge 84 = .ok (.iconst 0, 1) := by decide +kernel
theorem dX8_judge_85 : decode cX8_judge 85 = .ok (.istore 4, 2) := by decide +kernel
theorem dX8_judge_87 : decode cX8_judge 87 = .ok (.iload 5, 2) := by decide +kernel
theorem dX8_judge_89 : decode cX8_judge 89 = .ok (.ifCond .eq 14, 3) := by decide +kernel
theorem dX8_judge_92 : decode cX8_judge 92 = .ok (.iload 7, 2) := by decide +kernel
theorem dX8_judge_94 : decode cX8_judge 94 = .ok (.bipush 7, 2) := by decide +kernel
theorem dX8_judge_96 : decode cX8_judge 96 = .ok (.if_icmp .eq 7, 3) := by decide +kernel
theorem dX8_judge_99 : decode cX8_judge 99 = .ok (.iconst 1, 1) := by decide +kernel
theorem dX8_judge_100 : decode cX8_judge 100 = .ok (.goto 4, 3) := by decide +kernel
theorem dX8_judge_103 : decode cX8_judge 103 = .ok (.iconst 0, 1) := by decide +kernel
theorem dX8_judge_104 : decode cX8_judge 104 = .ok (.istore 5, 2) := by decide +kernel
theorem dX8_judge_106 : decode cX8_judge 106 = .ok (.iinc 6 1, 3) := by decide +kernel
theorem dX8_judge_109 : decode cX8_judge 109 = .ok (.goto (-87), 3) := by decide +kernel
theorem dX8_judge_112 : decode cX8_judge 112 = .ok (.aload_n 0, 1) := by decide +kernel
theorem dX8_judge_113 : decode cX8_judge 113 = .ok (.getfield 7, 3) := by decide +kernel
theorem dX8_judge_116 : decode cX8_judge 116 = .ok (.iload_n 3, 1) := by decide +kernel
theorem dX8_judge_117 : decode cX8_judge 117 = .ok (.iconst 1, 1) := by decide +kernel
theorem dX8_judge_118 : decode cX8_judge 118 = .ok (.iadd, 1) := by decide +kernel
theorem dX8_judge_119 : decode cX8_judge 119 = .ok (.iaload, 1) := by decide +kernel
theorem dX8_judge_120 : decode cX8_judge 120 = .ok (.iconst 1, 1) := by decide +kernel
theorem dX8_judge_121 : decode cX8_judge 121 = .ok (.if_icmp .ne 23, 3) := by decide +kernel
theorem dX8_judge_124 : decode cX8_judge 124 = .ok (.iload 4, 2) := by decide +kernel
theorem dX8_judge_126 : decode cX8_judge 126 = .ok (.ifCond .eq 7, 3) := by decide +kernel
theorem dX8_judge_129 : decode cX8_judge 129 = .ok (.iconst 1, 1) := by decide +kernel
theorem dX8_judge_130 : decode cX8_judge 130 = .ok (.goto 13, 3) := by decide +kernel
theorem dX8_judge_133 : decode cX8_judge 133 = .ok (.iload 5, 2) := by decide +kernel
theorem dX8_judge_135 : decode cX8_judge 135 = .ok (.ifCond .eq 7, 3) := by decide +kernel
theorem dX8_judge_138 : decode cX8_judge 138 = .ok (.iconst 0, 1) := by decide +kernel
theorem dX8_judge_139 : decode cX8_judge 139 = .ok (.goto 4, 3) := by decide +kernel
theorem dX8_judge_142 : decode cX8_judge 142 = .ok (.iconst 2, 1) := by decide +kernel
theorem dX8_judge_143 : decode cX8_judge 143 = .ok (.ireturn, 1) := by decide +kernel
theorem dX8_judge_144 : decode cX8_judge 144 = .ok (.iload 4, 2) := by decide +kernel
theorem dX8_judge_146 : decode cX8_judge 146 = .ok (.ifCond .eq 7, 3) := by decide +kernel
theorem dX8_judge_149 : decode cX8_judge 149 = .ok (.iconst 0, 1) := by decide +kernel
theorem dX8_judge_150 : decode cX8_judge 150 = .ok (.goto 13, 3) := by decide +kernel
theorem dX8_judge_153 : decode cX8_judge 153 = .ok (.iload 5, 2) := by decide +kernel
theorem dX8_judge_155 : decode cX8_judge 155 = .ok (.ifCond .eq 7, 3) := by decide +kernel
theorem dX8_judge_158 : decode cX8_judge 158 = .ok (.iconst 1, 1) := by decide +kernel
theorem dX8_judge_159 : decode cX8_judge 159 = .ok (.goto 4, 3) := by decide +kernel
theorem dX8_judge_162 : decode cX8_judge 162 = .ok (.iconst 2, 1) := by decide +kernel
theorem dX8_judge_163 : decode cX8_judge 163 = .ok (.ireturn, 1) := by decide +kernel
set_option maxRecDepth 20000 in
theorem ggX8_judged_X8_isTerm : GoodIn wsX8_judged wsX8_isTerm := goodIn_r _ [5, 6, 7, 8, 9, 4, 10, 11, 12, 13, 14, 15, 16, 24, 25, 26, 27, 28, 29, 30, 31, 32, 33, 34] (by decide +kernel) (by decide +kernel)
set_option maxRecDepth 20000 in
theorem gX8_judged_X8_isTerm : GoodIn wsX8_judged (wsV RX8 101 RX8 yX8_isTerm wsX8_isTerm) := goodIn_app (goodIn_of _ (by decide +kernel)) ggX8_judged_X8_isTerm
set_option maxRecDepth 20000 in
theorem ggX8_judged_X8_judge : GoodIn wsX8_judged wsX8_judge := goodIn_r _ [20, 6, 21, 22, 4, 23, 24, 25, 26, 27, 28, 29, 30, 31, 32, 33, 34] (by decide +kernel) (by decide +kernel)
set_option maxRecDepth 20000 in
theorem gX8_judged_X8_judge : GoodIn wsX8_judged (wsV RX8 121 RX8 yX8_judge wsX8_judge) := goodIn_app (goodIn_of _ (by decide +kernel)) ggX8_judged_X8_judge
theorem dX8_judged_0 : decode cX8_judged 0 = .ok (.aload_n 0, 1) := by decide +kernel
theorem dX8_judged_1 : decode cX8_judged 1 = .ok (.iload_n 1, 1) := by decide +kernel
theorem dX8_judged_2 : decode cX8_judged 2 = .ok (.iload_n 2, 1) := by decide +kernel
theorem dX8_judged_3 : decode cX8_judged 3 = .ok (.invokevirtual 101, 3) := by decide +kernel
theorem dX8_judged_6 : decode cX8_judged 6 = .ok (.ifCond .eq 12, 3) := by decide +kernel
theorem dX8_judged_9 : decode cX8_judged 9 = .ok (.aload_n 0, 1) := by decide +kernel
theorem dX8_judged_10 : decode cX8_judged 10 = .ok (.iload_n 1, 1) := by decide +kernel
theorem dX8_judged_11 : decode cX8_judged 11 = .ok (.iload_n 2, 1) := by decide +kernel
theorem dX8_judged_12 : decode cX8_judged 12 = .ok (.invokevirtual 121, 3) := by decide +kernel
theorem dX8_judged_15 : decode cX8_judged 15 = .ok (.goto 4, 3) := by decide +kernel
theorem dX8_judged_18 : decode cX8_judged 18 = .ok (.iconst (-1), 1) := by decide +kernel
theorem dX8_judged_19 : decode cX8_judged 19 = .ok (.ireturn, 1) := by decide +kernel
set_option maxRecDepth 20000 in
theorem ggX8_casesThat_X8_at : GoodIn wsX8_casesThat wsX8_at := goodIn_r _ [5] (by decide +kernel) (by decide +kernel)
set_option maxRecDepth 20000 in
theorem gX8_casesThat_X8_at : GoodIn wsX8_casesThat (va_wsS RX8 46 yX8_at wsX8_at) := goodIn_app (goodIn_of _ (by decide +kernel)) ggX8_casesThat_X8_at
theorem dX8_casesThat_0 : decode cX8_casesThat 0 = .ok (.iconst 0, 1) := by decide +kernel
theorem dX8_casesThat_1 : decode cX8_casesThat 1 = .ok (.istore_n 2, 1) := by decide +kernel
theorem dX8_casesThat_2 : decode cX8_casesThat 2 = .ok (.iconst 0, 1) := by decide +kernel
theorem dX8_casesThat_3 : decode cX8_casesThat 3 = .ok (.istore_n 3, 1) := by decide +kernel
theorem dX8_casesThat_4 : decode cX8_casesThat 4 = .ok (.iload_n 3, 1) := by decide +kernel
theorem dX8_casesThat_5 : decode cX8_casesThat 5 = .ok (.aload_n 0, 1) := by decide +kernel
theorem dX8_casesThat_6 : decode cX8_casesThat 6 = .ok (.getfield 7, 3) := by decide +kernel
theorem dX8_casesThat_9 : decode cX8_casesThat 9 = .ok (.iconst 2, 1) := by decide +kernel
theorem dX8_casesThat_10 : decode cX8_casesThat 10 = .ok (.iaload, 1) := by decide +kernel
theorem dX8_casesThat_11 : decode cX8_casesThat 11 = .ok (.if_icmp .ge 31, 3) := by decide +kernel
theorem dX8_casesThat_14 : decode cX8_casesThat 14 = .ok (.iload_n 2, 1) := by decide +kernel
theorem dX8_casesThat_15 : decode cX8_casesThat 15 = .ok (.aload_n 0, 1) := by decide +kernel
theorem dX8_casesThat_16 : decode cX8_casesThat 16 = .ok (.getfield 7, 3) := by decide +kernel
theorem dX8_casesThat_19 : decode cX8_casesThat 19 = .ok (.iload_n 3, 1) := by decide +kernel
theorem dX8_casesThat_20 : decode cX8_casesThat 20 = .ok (.iconst 2, 1) := by decide +kernel
theorem dX8_casesThat_21 : decode cX8_casesThat 21 = .ok (.invokestatic 46, 3) := by decide +kernel
theorem dX8_casesThat_24 : decode cX8_casesThat 24 = .ok (.iaload, 1) := by decide +kernel
theorem dX8_casesThat_25 : decode cX8_casesThat 25 = .ok (.iload_n 1, 1) := by decide +kernel
theorem dX8_casesThat_26 : decode cX8_casesThat 26 = .ok (.if_icmp .ne 7, 3) := by decide +kernel
theorem dX8_casesThat_29 : decode cX8_casesThat 29 = .ok (.iconst 1, 1) := by decide +kernel
theorem dX8_casesThat_30 : decode cX8_casesThat 30 = .ok (.goto 4, 3) := by decide +kernel
theorem dX8_casesThat_33 : decode cX8_casesThat 33 = .ok (.iconst 0, 1) := by decide +kernel
theorem dX8_casesThat_34 : decode cX8_casesThat 34 = .ok (.iadd, 1) := by decide +kernel
theorem dX8_casesThat_35 : decode cX8_casesThat 35 = .ok (.istore_n 2, 1) := by decide +kernel
theorem dX8_casesThat_36 : decode cX8_casesThat 36 = .ok (.iinc 3 1, 3) := by decide +kernel
theorem dX8_casesThat_39 : decode cX8_casesThat 39 = .ok (.goto (-35), 3) := by decide +kernel
theorem dX8_casesThat_42 : decode cX8_casesThat 42 = .ok (.iload_n 2, 1) := by decide +kernel
theorem dX8_casesThat_43 : decode cX8_casesThat 43 = .ok (.ireturn, 1) := by decide +kernel
set_option maxRecDepth 20000 in
theorem ggX8_quarrels_X8_findHeads : GoodIn wsX8_quarrels wsX8_findHeads := goodIn_r _ [7, 1, 2, 8, 9, 10, 11, 12, 13, 14, 15, 16, 17, 18] (by decide +kernel) (by decide +kernel)
set_option maxRecDepth 20000 in
theorem gX8_quarrels_X8_findHeads : GoodIn wsX8_quarrels (wsV RX8 53 RX8 yX8_findHeads wsX8_findHeads) := goodIn_app (goodIn_of _ (by decide +kernel)) ggX8_quarrels_X8_findHeads
theorem dX8_quarrels_0 : decode cX8_quarrels 0 = .ok (.aload_n 0, 1) := by decide +kernel
theorem dX8_quarrels_1 : decode cX8_quarrels 1 = .ok (.invokevirtual 53, 3) := by decide +kernel
theorem dX8_quarrels_4 : decode cX8_quarrels 4 = .ok (.iconst 0, 1) := by decide +kernel
theorem dX8_quarrels_5 : decode cX8_quarrels 5 = .ok (.istore_n 1, 1) := by decide +kernel
theorem dX8_quarrels_6 : decode cX8_quarrels 6 = .ok (.iconst 0, 1) := by decide +kernel
theorem dX8_quarrels_7 : decode cX8_quarrels 7 = .ok (.istore_n 2, 1) := by decide +kernel
theorem dX8_quarrels_8 : decode cX8_quarrels 8 = .ok (.iload_n 2, 1) := by decide +kernel
theorem dX8_quarrels_9 : decode cX8_quarrels 9 = .ok (.aload_n 0, 1) := by decide +kernel
theorem dX8_quarrels_10 : decode cX8_quarrels 10 = .ok (.getfield 7, 3) := by decide +kernel
theorem dX8_quarrels_13 : decode cX8_quarrels 13 = .ok (.iconst 2, 1) := by decide +kernel
theorem dX8_quarrels_14 : decode cX8_quarrels 14 = .ok (.iaload, 1) := by decide +kernel
theorem dX8_quarrels_15 : decode cX8_quarrels 15 = .ok (.if_icmp .ge 27, 3) := by decide +kernel
theorem dX8_quarrels_18 : decode cX8_quarrels 18 = .ok (.iload_n 1, 1) := by decide +kernel
theorem dX8_quarrels_19 : decode cX8_quarrels 19 = .ok (.aload_n 0, 1) := by decide +kernel
theorem dX8_quarrels_20 : decode cX8_quarrels 20 = .ok (.getfield 20, 3) := by decide +kernel
theorem dX8_quarrels_23 : decode cX8_quarrels 23 = .ok (.iload_n 2, 1) := by decide +kernel
theorem dX8_quarrels_24 : decode cX8_quarrels 24 = .ok (.iaload, 1) := by decide +kernel
theorem dX8_quarrels_25 : decode cX8_quarrels 25 = .ok (.iload_n 2, 1) := by decide +kernel
theorem dX8_quarrels_26 : decode cX8_quarrels 26 = .ok (.if_icmp .ne 7, 3) := by decide +kernel
theorem dX8_quarrels_29 : decode cX8_quarrels 29 = .ok (.iconst 1, 1) := by decide +kernel
theorem dX8_quarrels_30 : decode cX8_quarrels 30 = .ok (.goto 4, 3) := by decide +kernel
theorem dX8_quarrels_33 : decode cX8_quarrels 33 = .ok (.iconst 0, 1) := by decide +kernel
theorem dX8_quarrels_34 : decode cX8_quarrels 34 = .ok (.iadd, 1) := by decide +kernel
theorem dX8_quarrels_35 : decode cX8_quarrels 35 = .ok (.istore_n 1, 1) := by decide +kernel
theorem dX8_quarrels_36 : decode cX8_quarrels 36 = .ok (.iinc 2 1, 3) := by decide +kernel
theorem dX8_quarrels_39 : decode cX8_quarrels 39 = .ok (.goto (-31), 3) := by decide +kernel
theorem dX8_quarrels_42 : decode cX8_quarrels 42 = .ok (.iload_n 1, 1) := by decide +kernel
theorem dX8_quarrels_43 : decode cX8_quarrels 43 = .ok (.ireturn, 1) := by decide +kernel
set_option maxRecDepth 20000 in
theorem ggX8_termsThat_X8_at : GoodIn wsX8_termsThat wsX8_at := goodIn_r _ [5] (by decide +kernel) (by decide +kernel)
set_option maxRecDepth 20000 in
theorem gX8_termsThat_X8_at : GoodIn wsX8_termsThat (va_wsS RX8 46 yX8_at wsX8_at) := goodIn_app (goodIn_of _ (by decide +kernel)) ggX8_termsThat_X8_at
set_option maxRecDepth 20000 in
theorem ggX8_termsThat_X8_judge : GoodIn wsX8_termsThat wsX8_judge := goodIn_r _ [9, 1, 10, 11, 4, 12, 13, 14, 15, 16, 17, 18, 19, 20, 21, 22, 23] (by decide +kernel) (by decide +kernel)
set_option maxRecDepth 20000 in
theorem gX8_termsThat_X8_judge : GoodIn wsX8_termsThat (wsV RX8 121 RX8 yX8_judge wsX8_judge) := goodIn_app (goodIn_of _ (by decide +kernel)) ggX8_termsThat_X8_judge
theorem dX8_termsThat_0 : decode cX8_termsThat 0 = .ok (.iconst 0, 1) := by decide +kernel
theorem dX8_termsThat_1 : decode cX8_termsThat 1 = .ok (.istore_n 2, 1) := by decide +kernel
theorem dX8_termsThat_2 : decode cX8_termsThat 2 = .ok (.iconst 0, 1) := by decide +kernel
theorem dX8_termsThat_3 : decode cX8_termsThat 3 = .ok (.istore_n 3, 1) := by decide +kernel
theorem dX8_termsThat_4 : decode cX8_termsThat 4 = .ok (.iload_n 3, 1) := by decide +kernel
theorem dX8_termsThat_5 : decode cX8_termsThat 5 = .ok (.aload_n 0, 1) := by decide +kernel
theorem dX8_termsThat_6 : decode cX8_termsThat 6 = .ok (.getfield 7, 3) := by decide +kernel
theorem dX8_termsThat_9 : decode cX8_termsThat 9 = .ok (.iconst 2, 1) := by decide +kernel
theorem dX8_termsThat_10 : decode cX8_termsThat 10 = .ok (.iaload, 1) := by decide +kernel
theorem dX8_termsThat_11 : decode cX8_termsThat 11 = .ok (.if_icmp .ge 57, 3) := by decide +kernel
theorem dX8_termsThat_14 : decode cX8_termsThat 14 = .ok (.iconst 0, 1) := by decide +kernel
theorem dX8_termsThat_15 : decode cX8_termsThat 15 = .ok (.istore 4, 2) := by decide +kernel
theorem dX8_termsThat_17 : decode cX8_termsThat 17 = .ok (.iload 4, 2) := by decide +kernel
theorem dX8_termsThat_19 : decode cX8_termsThat 19 = .ok (.aload_n 0, 1) := by decide +kernel
theorem dX8_termsThat_20 : decode cX8_termsThat 20 = .ok (.getfield 7, 3) := by decide +kernel
theorem dX8_termsThat_23 : decode cX8_termsThat 23 = .ok (.iload_n 3, 1) := by decide +kernel
theorem dX8_termsThat_24 : decode cX8_termsThat 24 = .ok (.bipush 6, 2) := by decide +kernel
theorem dX8_termsThat_26 : decode cX8_termsThat 26 = .ok (.invokestatic 46, 3) := by decide +kernel
theorem dX8_termsThat_29 : decode cX8_termsThat 29 = .ok (.iaload, 1) := by decide +kernel
theorem dX8_termsThat_30 : decode cX8_termsThat 30 = .ok (.if_icmp .ge 32, 3) := by decide +kernel
theorem dX8_termsThat_33 : decode cX8_termsThat 33 = .ok (.iload_n 2, 1) := by decide +kernel
theorem dX8_termsThat_34 : decode cX8_termsThat 34 = .ok (.iload_n 1, 1) := by decide +kernel
theorem dX8_termsThat_35 : decode cX8_termsThat 35 = .ok (.ifCond .lt 14, 3) := by decide +kernel
theorem dX8_termsThat_38 : decode cX8_termsThat 38 = .ok (.aload_n 0, 1) := by decide +kernel
theorem dX8_termsThat_39 : decode cX8_termsThat 39 = .ok (.iload_n 3, 1) := by decide +kernel
theorem dX8_termsThat_40 : decode cX8_termsThat 40 = .ok (.iload 4, 2) := by decide +kernel
theorem dX8_termsThat_42 : decode cX8_termsThat 42 = .ok (.invokevirtual 121, 3) := by decide +kernel
theorem dX8_termsThat_45 : decode cX8_termsThat 45 = .ok (.iload_n 1, 1) := by decide +kernel
theorem dX8_termsThat_46 : decode cX8_termsThat 46 = .ok (.if_icmp .ne 7, 3) := by decide +kernel
theorem dX8_termsThat_49 : decode cX8_termsThat 49 = .ok (.iconst 1, 1) := by decide +kernel
theorem dX8_termsThat_50 : decode cX8_termsThat 50 = .ok (.goto 4, 3) := by decide +kernel
theorem dX8_termsThat_53 : decode cX8_termsThat 53 = .ok (.iconst 0, 1) := by decide +kernel
theorem dX8_termsThat_54 : decode cX8_termsThat 54 = .ok (.iadd, 1) := by decide +kernel
theorem dX8_termsThat_55 : decode cX8_termsThat 55 = .ok (.istore_n 2, 1) := by decide +kernel
theorem dX8_termsThat_56 : decode cX8_termsThat 56 = .ok (.iinc 4 1, 3) := by decide +kernel
theorem dX8_termsThat_59 : decode cX8_termsThat 59 = .ok (.goto (-42), 3) := by decide +kernel
theorem dX8_termsThat_62 : decode cX8_termsThat 62 = .ok (.iinc 3 1, 3) := by decide +kernel
theorem dX8_termsThat_65 : decode cX8_termsThat 65 = .ok (.goto (-61), 3) := by decide +kernel
theorem dX8_termsThat_68 : decode cX8_termsThat 68 = .ok (.iload_n 2, 1) := by decide +kernel
theorem dX8_termsThat_69 : decode cX8_termsThat 69 = .ok (.ireturn, 1) := by decide +kernel
set_option maxRecDepth 20000 in
theorem ggX8_many_X8_casesThat : GoodIn wsX8_many wsX8_casesThat := goodIn_r _ [6, 1, 7, 8, 5, 9, 30, 31, 32, 33, 34, 35, 36, 37, 38, 39, 40] (by decide +kernel) (by decide +kernel)
set_option maxRecDepth 20000 in
theorem gX8_many_X8_casesThat : GoodIn wsX8_many (wsV RX8 124 RX8 yX8_casesThat wsX8_casesThat) := goodIn_app (goodIn_of _ (by decide +kernel)) ggX8_many_X8_casesThat
set_option maxRecDepth 20000 in
theorem ggX8_many_X8_quarrels : GoodIn wsX8_many wsX8_quarrels := goodIn_r _ [13, 1, 14, 15, 16, 17, 5, 18, 30, 31, 32, 33, 34, 35, 36, 37, 38, 39, 40] (by decide +kernel) (by decide +kernel)
set_option maxRecDepth 20000 in
theorem gX8_many_X8_quarrels : GoodIn wsX8_many (wsV RX8 127 RX8 yX8_quarrels wsX8_quarrels) := goodIn_app (goodIn_of _ (by decide +kernel)) ggX8_many_X8_quarrels
set_option maxRecDepth 20000 in
theorem ggX8_many_X8_termsThat : GoodIn wsX8_many wsX8_termsThat := goodIn_r _ [22, 1, 7, 8, 5, 9, 23, 24, 25, 26, 27, 28, 29, 30, 31, 32, 33, 34, 35, 36, 37, 38, 39, 40] (by decide +kernel) (by decide +kernel)
set_option maxRecDepth 20000 in
theorem gX8_many_X8_termsThat : GoodIn wsX8_many (wsV RX8 131 RX8 yX8_termsThat wsX8_termsThat) := goodIn_app (goodIn_of _ (by decide +kernel)) ggX8_many_X8_termsThat
theorem dX8_many_0 : decode cX8_many 0 = .ok (.iload_n 1, 1) := by decide +kernel
theorem dX8_many_1 : decode cX8_many 1 = .ok (.tableswitch 128 0 10 #[59, 66, 73, 80, 86, 92, 99, 104, 110, 116, 122], 59) := by decide +kernel
theorem dX8_many_60 : decode cX8_many 60 = .ok (.aload_n 0, 1) := by decide +kernel
theorem dX8_many_61 : decode cX8_many 61 = .ok (.getfield 7, 3) := by decide +kernel
theorem dX8_many_64 : decode cX8_many 64 = .ok (.iconst 0, 1) := by decide +kernel
theorem dX8_many_65 : decode cX8_many 65 = .ok (.iaload, 1) := by decide +kernel
theorem dX8_many_66 : decode cX8_many 66 = .ok (.ireturn, 1) := by decide +kernel
theorem dX8_many_67 : decode cX8_many 67 = .ok (.aload_n 0, 1) := by decide +kernel
theorem dX8_many_68 : decode cX8_many 68 = .ok (.getfield 7, 3) := by decide +kernel
theorem dX8_many_71 : decode cX8_many 71 = .ok (.iconst 1, 1) := by decide +kernel
theorem dX8_many_72 : decode cX8_many 72 = .ok (.iaload, 1) := by decide +kernel
theorem dX8_many_73 : decode cX8_many 73 = .ok (.ireturn, 1) := by decide +kernel
theorem dX8_many_74 : decode cX8_many 74 = .ok (.aload_n 0, 1) := by decide +kernel
theorem dX8_many_75 : decode cX8_many 75 = .ok (.getfield 7, 3) := by decide +kernel
theorem dX8_many_78 : decode cX8_many 78 = .ok (.iconst 2, 1) := by decide +kernel
theorem dX8_many_79 : decode cX8_many 79 = .ok (.iaload, 1) := by decide +kernel
theorem dX8_many_80 : decode cX8_many 80 = .ok (.ireturn, 1) := by decide +kernel
theorem dX8_many_81 : decode cX8_many 81 = .ok (.aload_n 0, 1) := by decide +kernel
theorem dX8_many_82 : decode cX8_many 82 = .ok (.iconst 0, 1) := by decide +kernel
theorem dX8_many_83 : decode cX8_many 83 = .ok (.invokevirtual 124, 3) := by decide +kernel
theorem dX8_many_86 : decode cX8_many 86 = .ok (.ireturn, 1) := by decide +kernel
theorem dX8_many_87 : decode cX8_many 87 = .ok (.aload_n 0, 1) := by decide +kernel
theorem dX8_many_88 : decode cX8_many 88 = .ok (.iconst 1, 1) := by decide +kernel
theorem dX8_many_89 : decode cX8_many 89 = .ok (.invokevirtual 124, 3) := by decide +kernel
theorem dX8_many_92 : decode cX8_many 92 = .ok (.ireturn, 1) := by decide +kernel
theorem dX8_many_93 : decode cX8_many 93 = .ok (.aload_n 0, 1) := by decide +kernel
theorem dX8_many_94 : decode cX8_many 94 = .ok (.getfield 7, 3) := by decide +kernel
theorem dX8_many_97 : decode cX8_many 97 = .ok (.iconst 3, 1) := by decide +kernel
theorem dX8_many_98 : decode cX8_many 98 = .ok (.iaload, 1) := by decide +kernel
theorem dX8_many_99 : decode cX8_many 99 = .ok (.ireturn, 1) := by decide +kernel
theorem dX8_many_100 : decode cX8_many 100 = .ok (.aload_n 0, 1) := by decide +kernel
theorem dX8_many_101 : decode cX8_many 101 = .ok (.invokevirtual 127, 3) := by decide +kernel
theorem dX8_many_104 : decode cX8_many 104 = .ok (.ireturn, 1) := by decide +kernel
theorem dX8_many_105 : decode cX8_many 105 = .ok (.aload_n 0, 1) := by decide +kernel
theorem dX8_many_106 : decode cX8_many 106 = .ok (.iconst (-1), 1) := by decide +kernel
theorem dX8_many_107 : decode cX8_many 107 = .ok (.invokevirtual 131, 3) := by decide +kernel
theorem dX8_many_110 : decode cX8_many 110 = .ok (.ireturn, 1) := by decide +kernel
theorem dX8_many_111 : decode cX8_many 111 = .ok (.aload_n 0, 1) := by decide +kernel
theorem dX8_many_112 : decode cX8_many 112 = .ok (.iconst 1, 1) := by decide +kernel
theorem dX8_many_113 : decode cX8_many 113 = .ok (.invokevirtual 131, 3) := by decide +kernel
theorem dX8_many_116 : decode cX8_many 116 = .ok (.ireturn, 1) := by decide +kernel
theorem dX8_many_117 : decode cX8_many 117 = .ok (.aload_n 0, 1) := by decide +kernel
theorem dX8_many_118 : decode cX8_many 118 = .ok (.iconst 0, 1) := by decide +kernel
theorem dX8_many_119 : decode cX8_many 119 = .ok (.invokevirtual 131, 3) := by decide +kernel
theorem dX8_many_122 : decode cX8_many 122 = .ok (.ireturn, 1) := by decide +kernel
theorem dX8_many_123 : decode cX8_many 123 = .ok (.aload_n 0, 1) := by decide +kernel
theorem dX8_many_124 : decode cX8_many 124 = .ok (.iconst 2, 1) := by decide +kernel
theorem dX8_many_125 : decode cX8_many 125 = .ok (.invokevirtual 131, 3) := by decide +kernel
theorem dX8_many_128 : decode cX8_many 128 = .ok (.ireturn, 1) := by decide +kernel
theorem dX8_many_129 : decode cX8_many 129 = .ok (.iconst (-1), 1) := by decide +kernel
theorem dX8_many_130 : decode cX8_many 130 = .ok (.ireturn, 1) := by decide +kernel
theorem dX8_keep_0 : decode cX8_keep 0 = .ok (.iconst 0, 1) := by decide +kernel
theorem dX8_keep_1 : decode cX8_keep 1 = .ok (.istore_n 1, 1) := by decide +kernel
theorem dX8_keep_2 : decode cX8_keep 2 = .ok (.iload_n 1, 1) := by decide +kernel
theorem dX8_keep_3 : decode cX8_keep 3 = .ok (.sipush 596, 3) := by decide +kernel
theorem dX8_keep_6 : decode cX8_keep 6 = .ok (.if_icmp .ge 21, 3) := by decide +kernel
theorem dX8_keep_9 : decode cX8_keep 9 = .ok (.aload_n 0, 1) := by decide +kernel
theorem dX8_keep_10 : decode cX8_keep 10 = .ok (.getfield 13, 3) := by decide +kernel
theorem dX8_keep_13 : decode cX8_keep 13 = .ok (.iload_n 1, 1) := by decide +kernel
theorem dX8_keep_14 : decode cX8_keep 14 = .ok (.aload_n 0, 1) := by decide +kernel
theorem dX8_keep_15 : decode cX8_keep 15 = .ok (.getfield 7, 3) := by decide +kernel
theorem dX8_keep_18 : decode cX8_keep 18 = .ok (.iload_n 1, 1) := by decide +kernel
theorem dX8_keep_19 : decode cX8_keep 19 = .ok (.iaload, 1) := by decide +kernel
theorem dX8_keep_20 : decode cX8_keep 20 = .ok (.iastore, 1) := by decide +kernel
theorem dX8_keep_21 : decode cX8_keep 21 = .ok (.iinc 1 1, 3) := by decide +kernel
theorem dX8_keep_24 : decode cX8_keep 24 = .ok (.goto (-22), 3) := by decide +kernel
theorem dX8_keep_27 : decode cX8_keep 27 = .ok (.aload_n 0, 1) := by decide +kernel
theorem dX8_keep_28 : decode cX8_keep 28 = .ok (.iconst 1, 1) := by decide +kernel
theorem dX8_keep_29 : decode cX8_keep 29 = .ok (.putfield 134, 3) := by decide +kernel
theorem dX8_keep_32 : decode cX8_keep 32 = .ok (.iconst 1, 1) := by decide +kernel
theorem dX8_keep_33 : decode cX8_keep 33 = .ok (.ireturn, 1) := by decide +kernel
theorem dX8_back_0 : decode cX8_back 0 = .ok (.aload_n 0, 1) := by decide +kernel
theorem dX8_back_1 : decode cX8_back 1 = .ok (.getfield 134, 3) := by decide +kernel
theorem dX8_back_4 : decode cX8_back 4 = .ok (.ifCond .ne 6, 3) := by decide +kernel
theorem dX8_back_7 : decode cX8_back 7 = .ok (.bipush (-5), 2) := by decide +kernel
theorem dX8_back_9 : decode cX8_back 9 = .ok (.ireturn, 1) := by decide +kernel
theorem dX8_back_10 : decode cX8_back 10 = .ok (.iconst 0, 1) := by decide +kernel
theorem dX8_back_11 : decode cX8_back 11 = .ok (.istore_n 1, 1) := by decide +kernel
theorem dX8_back_12 : decode cX8_back 12 = .ok (.iload_n 1, 1) := by decide +kernel
theorem dX8_back_13 : decode cX8_back 13 = .ok (.sipush 596, 3) := by decide +kernel
theorem dX8_back_16 : decode cX8_back 16 = .ok (.if_icmp .ge 21, 3) := by decide +kernel
theorem dX8_back_19 : decode cX8_back 19 = .ok (.aload_n 0, 1) := by decide +kernel
theorem dX8_back_20 : decode cX8_back 20 = .ok (.getfield 7, 3) := by decide +kernel
theorem dX8_back_23 : decode cX8_back 23 = .ok (.iload_n 1, 1) := by decide +kernel
theorem dX8_back_24 : decode cX8_back 24 = .ok (.aload_n 0, 1) := by decide +kernel
theorem dX8_back_25 : decode cX8_back 25 = .ok (.getfield 13, 3) := by decide +kernel
theorem dX8_back_28 : decode cX8_back 28 = .ok (.iload_n 1, 1) := by decide +kernel
theorem dX8_back_29 : decode cX8_back 29 = .ok (.iaload, 1) := by decide +kernel
theorem dX8_back_30 : decode cX8_back 30 = .ok (.iastore, 1) := by decide +kernel
theorem dX8_back_31 : decode cX8_back 31 = .ok (.iinc 1 1, 3) := by decide +kernel
theorem dX8_back_34 : decode cX8_back 34 = .ok (.goto (-22), 3) := by decide +kernel
theorem dX8_back_37 : decode cX8_back 37 = .ok (.iconst 1, 1) := by decide +kernel
theorem dX8_back_38 : decode cX8_back 38 = .ok (.ireturn, 1) := by decide +kernel
theorem dJ6_bitCount_0f7a4_0 : decode cJ6_bitCount_0f7a4 0 = .ok (.iload_n 0, 1) := by decide +kernel
theorem dJ6_bitCount_0f7a4_1 : decode cJ6_bitCount_0f7a4 1 = .ok (.iload_n 0, 1) := by decide +kernel
theorem dJ6_bitCount_0f7a4_2 : decode cJ6_bitCount_0f7a4 2 = .ok (.iconst 1, 1) := by decide +kernel
theorem dJ6_bitCount_0f7a4_3 : decode cJ6_bitCount_0f7a4 3 = .ok (.iushr, 1) := by decide +kernel
theorem dJ6_bitCount_0f7a4_4 : decode cJ6_bitCount_0f7a4 4 = .ok (.ldc_w 265, 3) := by decide +kernel
theorem dJ6_bitCount_0f7a4_7 : decode cJ6_bitCount_0f7a4 7 = .ok (.iand, 1) := by decide +kernel
theorem dJ6_bitCount_0f7a4_8 : decode cJ6_bitCount_0f7a4 8 = .ok (.isub, 1) := by decide +kernel
theorem dJ6_bitCount_0f7a4_9 : decode cJ6_bitCount_0f7a4 9 = .ok (.istore_n 0, 1) := by decide +kernel
theorem dJ6_bitCount_0f7a4_10 : decode cJ6_bitCount_0f7a4 10 = .ok (.iload_n 0, 1) := by decide +kernel
theorem dJ6_bitCount_0f7a4_11 : decode cJ6_bitCount_0f7a4 11 = .ok (.ldc_w 266, 3) := by decide +kernel
theorem dJ6_bitCount_0f7a4_14 : decode cJ6_bitCount_0f7a4 14 = .ok (.iand, 1) := by decide +kernel
theorem dJ6_bitCount_0f7a4_15 : decode cJ6_bitCount_0f7a4 15 = .ok (.iload_n 0, 1) := by decide +kernel
theorem dJ6_bitCount_0f7a4_16 : decode cJ6_bitCount_0f7a4 16 = .ok (.iconst 2, 1) := by decide +kernel
theorem dJ6_bitCount_0f7a4_17 : decode cJ6_bitCount_0f7a4 17 = .ok (.iushr, 1) := by decide +kernel
theorem dJ6_bitCount_0f7a4_18 : decode cJ6_bitCount_0f7a4 18 = .ok (.ldc_w 266, 3) := by decide +kernel
theorem dJ6_bitCount_0f7a4_21 : decode cJ6_bitCount_0f7a4 21 = .ok (.iand, 1) := by decide +kernel
theorem dJ6_bitCount_0f7a4_22 : decode cJ6_bitCount_0f7a4 22 = .ok (.iadd, 1) := by decide +kernel
theorem dJ6_bitCount_0f7a4_23 : decode cJ6_bitCount_0f7a4 23 = .ok (.istore_n 0, 1) := by decide +kernel
theorem dJ6_bitCount_0f7a4_24 : decode cJ6_bitCount_0f7a4 24 = .ok (.iload_n 0, 1) := by decide +kernel
theorem dJ6_bitCount_0f7a4_25 : decode cJ6_bitCount_0f7a4 25 = .ok (.iload_n 0, 1) := by decide +kernel
theorem dJ6_bitCount_0f7a4_26 : decode cJ6_bitCount_0f7a4 26 = .ok (.iconst 4, 1) := by decide +kernel
theorem dJ6_bitCount_0f7a4_27 : decode cJ6_bitCount_0f7a4 27 = .ok (.iushr, 1) := by decide +kernel
theorem dJ6_bitCount_0f7a4_28 : decode cJ6_bitCount_0f7a4 28 = .ok (.iadd, 1) := by decide +kernel
theorem dJ6_bitCount_0f7a4_29 : decode cJ6_bitCount_0f7a4 29 = .ok (.ldc_w 267, 3) := by decide +kernel
theorem dJ6_bitCount_0f7a4_32 : decode cJ6_bitCount_0f7a4 32 = .ok (.iand, 1) := by decide +kernel
theorem dJ6_bitCount_0f7a4_33 : decode cJ6_bitCount_0f7a4 33 = .ok (.istore_n 0, 1) := by decide +kernel
theorem dJ6_bitCount_0f7a4_34 : decode cJ6_bitCount_0f7a4 34 = .ok (.iload_n 0, 1) := by decide +kernel
theorem dJ6_bitCount_0f7a4_35 : decode cJ6_bitCount_0f7a4 35 = .ok (.iload_n 0, 1) := by decide +kernel
theorem dJ6_bitCount_0f7a4_36 : decode cJ6_bitCount_0f7a4 36 = .ok (.bipush 8, 2) := by decide +kernel
theorem dJ6_bitCount_0f7a4_38 : decode cJ6_bitCount_0f7a4 38 = .ok (.iushr, 1) := by decide +kernel
theorem dJ6_bitCount_0f7a4_39 : decode cJ6_bitCount_0f7a4 39 = .ok (.iadd, 1) := by decide +kernel
theorem dJ6_bitCount_0f7a4_40 : decode cJ6_bitCount_0f7a4 40 = .ok (.istore_n 0, 1) := by decide +kernel
theorem dJ6_bitCount_0f7a4_41 : decode cJ6_bitCount_0f7a4 41 = .ok (.iload_n 0, 1) := by decide +kernel
theorem dJ6_bitCount_0f7a4_42 : decode cJ6_bitCount_0f7a4 42 = .ok (.iload_n 0, 1) := by decide +kernel
theorem dJ6_bitCount_0f7a4_43 : decode cJ6_bitCount_0f7a4 43 = .ok (.bipush 16, 2) := by decide +kernel
theorem dJ6_bitCount_0f7a4_45 : decode cJ6_bitCount_0f7a4 45 = .ok (.iushr, 1) := by decide +kernel
theorem dJ6_bitCount_0f7a4_46 : decode cJ6_bitCount_0f7a4 46 = .ok (.iadd, 1) := by decide +kernel
theorem dJ6_bitCount_0f7a4_47 : decode cJ6_bitCount_0f7a4 47 = .ok (.istore_n 0, 1) := by decide +kernel
theorem dJ6_bitCount_0f7a4_48 : decode cJ6_bitCount_0f7a4 48 = .ok (.iload_n 0, 1) := by decide +kernel
theorem dJ6_bitCount_0f7a4_49 : decode cJ6_bitCount_0f7a4 49 = .ok (.bipush 63, 2) := by decide +kernel
theorem dJ6_bitCount_0f7a4_51 : decode cJ6_bitCount_0f7a4 51 = .ok (.iand, 1) := by decide +kernel
theorem dJ6_bitCount_0f7a4_52 : decode cJ6_bitCount_0f7a4 52 = .ok (.ireturn, 1) := by decide +kernel
theorem dJ9_max_7cf53_0 : decode cJ9_max_7cf53 0 = .ok (.iload_n 0, 1) := by decide +kernel
theorem dJ9_max_7cf53_1 : decode cJ9_max_7cf53 1 = .ok (.iload_n 1, 1) := by decide +kernel
theorem dJ9_max_7cf53_2 : decode cJ9_max_7cf53 2 = .ok (.if_icmp .lt 7, 3) := by decide +kernel
theorem dJ9_max_7cf53_5 : decode cJ9_max_7cf53 5 = .ok (.iload_n 0, 1) := by decide +kernel
theorem dJ9_max_7cf53_6 : decode cJ9_max_7cf53 6 = .ok (.goto 4, 3) := by decide +kernel
theorem dJ9_max_7cf53_9 : decode cJ9_max_7cf53 9 = .ok (.iload_n 1, 1) := by decide +kernel
theorem dJ9_max_7cf53_10 : decode cJ9_max_7cf53 10 = .ok (.ireturn, 1) := by decide +kernel
theorem dJ9_min_7cf53_0 : decode cJ9_min_7cf53 0 = .ok (.iload_n 0, 1) := by decide +kernel
theorem dJ9_min_7cf53_1 : decode cJ9_min_7cf53 1 = .ok (.iload_n 1, 1) := by decide +kernel
theorem dJ9_min_7cf53_2 : decode cJ9_min_7cf53 2 = .ok (.if_icmp .gt 7, 3) := by decide +kernel
theorem dJ9_min_7cf53_5 : decode cJ9_min_7cf53 5 = .ok (.iload_n 0, 1) := by decide +kernel
theorem dJ9_min_7cf53_6 : decode cJ9_min_7cf53 6 = .ok (.goto 4, 3) := by decide +kernel
theorem dJ9_min_7cf53_9 : decode cJ9_min_7cf53 9 = .ok (.iload_n 1, 1) := by decide +kernel
theorem dJ9_min_7cf53_10 : decode cJ9_min_7cf53 10 = .ok (.ireturn, 1) := by decide +kernel
