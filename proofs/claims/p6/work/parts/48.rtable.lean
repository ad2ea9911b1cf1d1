set_option maxRecDepth 20000 in
theorem db_X8_makeTable_0 : (decode cX8_makeTable 0 = .ok (.aload_n 0, 1)) ∧ (decode cX8_makeTable 1 = .ok (.iload_n 1, 1)) ∧ (decode cX8_makeTable 2 = .ok (.iload_n 2, 1)) ∧ (decode cX8_makeTable 3 = .ok (.iconst (-1), 1)) ∧ (decode cX8_makeTable 4 = .ok (.iconst 1, 1)) ∧ (decode cX8_makeTable 5 = .ok (.iload_n 3, 1)) ∧ (decode cX8_makeTable 6 = .ok (.invokevirtual 111, 3)) ∧ (decode cX8_makeTable 9 = .ok (.istore 4, 2)) := by decide +kernel
theorem dX8_makeTable_0 : decode cX8_makeTable 0 = .ok (.aload_n 0, 1) := db_X8_makeTable_0.1
theorem dX8_makeTable_1 : decode cX8_makeTable 1 = .ok (.iload_n 1, 1) := db_X8_makeTable_0.2.1
theorem dX8_makeTable_2 : decode cX8_makeTable 2 = .ok (.iload_n 2, 1) := db_X8_makeTable_0.2.2.1
theorem dX8_makeTable_3 : decode cX8_makeTable 3 = .ok (.iconst (-1), 1) := db_X8_makeTable_0.2.2.2.1
theorem dX8_makeTable_4 : decode cX8_makeTable 4 = .ok (.iconst 1, 1) := db_X8_makeTable_0.2.2.2.2.1
theorem dX8_makeTable_5 : decode cX8_makeTable 5 = .ok (.iload_n 3, 1) := db_X8_makeTable_0.2.2.2.2.2.1
set_option maxRecDepth 20000 in
theorem ggX8_makeTable_X8_next : GoodIn wsX8_makeTable wsX8_next := goodIn_r _ [7, 8, 9, 6, 10, 11, 12, 13, 14, 1, 15, 16, 17, 26, 27, 28, 29, 30, 31, 32, 33, 34, 35, 36] rfl (by decide +kernel)
set_option maxRecDepth 20000 in
theorem gX8_makeTable_X8_next : GoodIn wsX8_makeTable (wsV RX8 111 RX8 yX8_next wsX8_next) := goodIn_app (goodIn_r _ [3, 4, 5, 6] rfl (by decide +kernel)) ggX8_makeTable_X8_next
theorem dX8_makeTable_6 : decode cX8_makeTable 6 = .ok (.invokevirtual 111, 3) := db_X8_makeTable_0.2.2.2.2.2.2.1
theorem dX8_makeTable_9 : decode cX8_makeTable 9 = .ok (.istore 4, 2) := db_X8_makeTable_0.2.2.2.2.2.2.2
set_option maxRecDepth 20000 in
theorem db_X8_makeTable_11 : (decode cX8_makeTable 11 = .ok (.iload 4, 2)) ∧ (decode cX8_makeTable 13 = .ok (.iload_n 3, 1)) ∧ (decode cX8_makeTable 14 = .ok (.if_icmp .ge 19, 3)) ∧ (decode cX8_makeTable 33 = .ok (.iconst 0, 1)) ∧ (decode cX8_makeTable 34 = .ok (.istore 5, 2)) ∧ (decode cX8_makeTable 36 = .ok (.iload 4, 2)) ∧ (decode cX8_makeTable 38 = .ok (.ifCond .lt 102, 3)) ∧ (decode cX8_makeTable 140 = .ok (.iload 4, 2)) := by decide +kernel
theorem dX8_makeTable_11 : decode cX8_makeTable 11 = .ok (.iload 4, 2) := db_X8_makeTable_11.1
theorem dX8_makeTable_13 : decode cX8_makeTable 13 = .ok (.iload_n 3, 1) := db_X8_makeTable_11.2.1
theorem dX8_makeTable_14 : decode cX8_makeTable 14 = .ok (.if_icmp .ge 19, 3) := db_X8_makeTable_11.2.2.1
theorem dX8_makeTable_33 : decode cX8_makeTable 33 = .ok (.iconst 0, 1) := db_X8_makeTable_11.2.2.2.1
theorem dX8_makeTable_34 : decode cX8_makeTable 34 = .ok (.istore 5, 2) := db_X8_makeTable_11.2.2.2.2.1
theorem dX8_makeTable_36 : decode cX8_makeTable 36 = .ok (.iload 4, 2) := db_X8_makeTable_11.2.2.2.2.2.1
theorem dX8_makeTable_38 : decode cX8_makeTable 38 = .ok (.ifCond .lt 102, 3) := db_X8_makeTable_11.2.2.2.2.2.2.1
theorem dX8_makeTable_140 : decode cX8_makeTable 140 = .ok (.iload 4, 2) := db_X8_makeTable_11.2.2.2.2.2.2.2
set_option maxRecDepth 20000 in
theorem db_X8_makeTable_142 : (decode cX8_makeTable 142 = .ok (.ifCond .lt 7, 3)) ∧ (decode cX8_makeTable 149 = .ok (.iconst 0, 1)) ∧ (decode cX8_makeTable 150 = .ok (.ireturn, 1)) ∧ (decode cX8_makeTable 41 = .ok (.iload 4, 2)) ∧ (decode cX8_makeTable 43 = .ok (.iload_n 3, 1)) ∧ (decode cX8_makeTable 44 = .ok (.if_icmp .ge 96, 3)) ∧ (decode cX8_makeTable 145 = .ok (.iconst 1, 1)) ∧ (decode cX8_makeTable 146 = .ok (.goto 4, 3)) := by decide +kernel
theorem dX8_makeTable_142 : decode cX8_makeTable 142 = .ok (.ifCond .lt 7, 3) := db_X8_makeTable_142.1
theorem dX8_makeTable_149 : decode cX8_makeTable 149 = .ok (.iconst 0, 1) := db_X8_makeTable_142.2.1
theorem dX8_makeTable_150 : decode cX8_makeTable 150 = .ok (.ireturn, 1) := db_X8_makeTable_142.2.2.1
theorem dX8_makeTable_41 : decode cX8_makeTable 41 = .ok (.iload 4, 2) := db_X8_makeTable_142.2.2.2.1
theorem dX8_makeTable_43 : decode cX8_makeTable 43 = .ok (.iload_n 3, 1) := db_X8_makeTable_142.2.2.2.2.1
theorem dX8_makeTable_44 : decode cX8_makeTable 44 = .ok (.if_icmp .ge 96, 3) := db_X8_makeTable_142.2.2.2.2.2.1
theorem dX8_makeTable_145 : decode cX8_makeTable 145 = .ok (.iconst 1, 1) := db_X8_makeTable_142.2.2.2.2.2.2.1
theorem dX8_makeTable_146 : decode cX8_makeTable 146 = .ok (.goto 4, 3) := db_X8_makeTable_142.2.2.2.2.2.2.2
set_option maxRecDepth 20000 in
theorem db_X8_makeTable_47 : (decode cX8_makeTable 47 = .ok (.aload_n 0, 1)) ∧ (decode cX8_makeTable 48 = .ok (.iload_n 1, 1)) ∧ (decode cX8_makeTable 49 = .ok (.iload_n 2, 1)) ∧ (decode cX8_makeTable 50 = .ok (.iload 4, 2)) ∧ (decode cX8_makeTable 52 = .ok (.iload 5, 2)) ∧ (decode cX8_makeTable 54 = .ok (.iload_n 3, 1)) ∧ (decode cX8_makeTable 55 = .ok (.invokevirtual 115, 3)) ∧ (decode cX8_makeTable 58 = .ok (.istore 6, 2)) := by decide +kernel
theorem dX8_makeTable_47 : decode cX8_makeTable 47 = .ok (.aload_n 0, 1) := db_X8_makeTable_47.1
theorem dX8_makeTable_48 : decode cX8_makeTable 48 = .ok (.iload_n 1, 1) := db_X8_makeTable_47.2.1
theorem dX8_makeTable_49 : decode cX8_makeTable 49 = .ok (.iload_n 2, 1) := db_X8_makeTable_47.2.2.1
theorem dX8_makeTable_50 : decode cX8_makeTable 50 = .ok (.iload 4, 2) := db_X8_makeTable_47.2.2.2.1
theorem dX8_makeTable_52 : decode cX8_makeTable 52 = .ok (.iload 5, 2) := db_X8_makeTable_47.2.2.2.2.1
theorem dX8_makeTable_54 : decode cX8_makeTable 54 = .ok (.iload_n 3, 1) := db_X8_makeTable_47.2.2.2.2.2.1
set_option maxRecDepth 20000 in
theorem ggX8_makeTable_X8_hourFrom : GoodIn wsX8_makeTable wsX8_hourFrom := goodIn_r _ [21, 2, 1, 15, 16, 6, 17, 22, 23, 24, 25, 8, 9, 10, 26, 27, 28, 29, 30, 31, 32, 33, 34, 35, 36] rfl (by decide +kernel)
set_option maxRecDepth 20000 in
theorem gX8_makeTable_X8_hourFrom : GoodIn wsX8_makeTable (wsV RX8 115 RX8 yX8_hourFrom wsX8_hourFrom) := goodIn_app (goodIn_r _ [18, 19, 20, 6] rfl (by decide +kernel)) ggX8_makeTable_X8_hourFrom
theorem dX8_makeTable_55 : decode cX8_makeTable 55 = .ok (.invokevirtual 115, 3) := db_X8_makeTable_47.2.2.2.2.2.2.1
theorem dX8_makeTable_58 : decode cX8_makeTable 58 = .ok (.istore 6, 2) := db_X8_makeTable_47.2.2.2.2.2.2.2
set_option maxRecDepth 20000 in
theorem db_X8_makeTable_60 : (decode cX8_makeTable 60 = .ok (.iload 6, 2)) ∧ (decode cX8_makeTable 62 = .ok (.ifCond .lt 43, 3)) ∧ (decode cX8_makeTable 105 = .ok (.aload_n 0, 1)) ∧ (decode cX8_makeTable 106 = .ok (.iload_n 1, 1)) ∧ (decode cX8_makeTable 107 = .ok (.iload_n 2, 1)) ∧ (decode cX8_makeTable 108 = .ok (.iload 4, 2)) ∧ (decode cX8_makeTable 110 = .ok (.iconst (-1), 1)) ∧ (decode cX8_makeTable 111 = .ok (.iload_n 3, 1)) := by decide +kernel
theorem dX8_makeTable_60 : decode cX8_makeTable 60 = .ok (.iload 6, 2) := db_X8_makeTable_60.1
theorem dX8_makeTable_62 : decode cX8_makeTable 62 = .ok (.ifCond .lt 43, 3) := db_X8_makeTable_60.2.1
theorem dX8_makeTable_105 : decode cX8_makeTable 105 = .ok (.aload_n 0, 1) := db_X8_makeTable_60.2.2.1
theorem dX8_makeTable_106 : decode cX8_makeTable 106 = .ok (.iload_n 1, 1) := db_X8_makeTable_60.2.2.2.1
theorem dX8_makeTable_107 : decode cX8_makeTable 107 = .ok (.iload_n 2, 1) := db_X8_makeTable_60.2.2.2.2.1
theorem dX8_makeTable_108 : decode cX8_makeTable 108 = .ok (.iload 4, 2) := db_X8_makeTable_60.2.2.2.2.2.1
theorem dX8_makeTable_110 : decode cX8_makeTable 110 = .ok (.iconst (-1), 1) := db_X8_makeTable_60.2.2.2.2.2.2.1
theorem dX8_makeTable_111 : decode cX8_makeTable 111 = .ok (.iload_n 3, 1) := db_X8_makeTable_60.2.2.2.2.2.2.2
set_option maxRecDepth 20000 in
theorem db_X8_makeTable_112 : (decode cX8_makeTable 112 = .ok (.invokevirtual 111, 3)) ∧ (decode cX8_makeTable 115 = .ok (.istore 4, 2)) ∧ (decode cX8_makeTable 117 = .ok (.iload 4, 2)) ∧ (decode cX8_makeTable 119 = .ok (.ifCond .ge 7, 3)) ∧ (decode cX8_makeTable 126 = .ok (.aload_n 0, 1)) ∧ (decode cX8_makeTable 127 = .ok (.getfield 32, 3)) ∧ (decode cX8_makeTable 130 = .ok (.iload 4, 2)) ∧ (decode cX8_makeTable 132 = .ok (.iaload, 1)) := by decide +kernel
theorem dX8_makeTable_112 : decode cX8_makeTable 112 = .ok (.invokevirtual 111, 3) := db_X8_makeTable_112.1
theorem dX8_makeTable_115 : decode cX8_makeTable 115 = .ok (.istore 4, 2) := db_X8_makeTable_112.2.1
theorem dX8_makeTable_117 : decode cX8_makeTable 117 = .ok (.iload 4, 2) := db_X8_makeTable_112.2.2.1
theorem dX8_makeTable_119 : decode cX8_makeTable 119 = .ok (.ifCond .ge 7, 3) := db_X8_makeTable_112.2.2.2.1
theorem dX8_makeTable_126 : decode cX8_makeTable 126 = .ok (.aload_n 0, 1) := db_X8_makeTable_112.2.2.2.2.1
theorem dX8_makeTable_127 : decode cX8_makeTable 127 = .ok (.getfield 32, 3) := db_X8_makeTable_112.2.2.2.2.2.1
theorem dX8_makeTable_130 : decode cX8_makeTable 130 = .ok (.iload 4, 2) := db_X8_makeTable_112.2.2.2.2.2.2.1
theorem dX8_makeTable_132 : decode cX8_makeTable 132 = .ok (.iaload, 1) := db_X8_makeTable_112.2.2.2.2.2.2.2
set_option maxRecDepth 20000 in
theorem db_X8_makeTable_133 : (decode cX8_makeTable 133 = .ok (.iconst 1, 1)) ∧ (decode cX8_makeTable 134 = .ok (.iadd, 1)) ∧ (decode cX8_makeTable 135 = .ok (.istore 5, 2)) ∧ (decode cX8_makeTable 137 = .ok (.goto (-101), 3)) ∧ (decode cX8_makeTable 122 = .ok (.iconst 0, 1)) ∧ (decode cX8_makeTable 123 = .ok (.goto 12, 3)) ∧ (decode cX8_makeTable 65 = .ok (.aload_n 0, 1)) ∧ (decode cX8_makeTable 66 = .ok (.iload_n 1, 1)) := by decide +kernel
theorem dX8_makeTable_133 : decode cX8_makeTable 133 = .ok (.iconst 1, 1) := db_X8_makeTable_133.1
theorem dX8_makeTable_134 : decode cX8_makeTable 134 = .ok (.iadd, 1) := db_X8_makeTable_133.2.1
theorem dX8_makeTable_135 : decode cX8_makeTable 135 = .ok (.istore 5, 2) := db_X8_makeTable_133.2.2.1
theorem dX8_makeTable_137 : decode cX8_makeTable 137 = .ok (.goto (-101), 3) := db_X8_makeTable_133.2.2.2.1
theorem dX8_makeTable_122 : decode cX8_makeTable 122 = .ok (.iconst 0, 1) := db_X8_makeTable_133.2.2.2.2.1
theorem dX8_makeTable_123 : decode cX8_makeTable 123 = .ok (.goto 12, 3) := db_X8_makeTable_133.2.2.2.2.2.1
theorem dX8_makeTable_65 : decode cX8_makeTable 65 = .ok (.aload_n 0, 1) := db_X8_makeTable_133.2.2.2.2.2.2.1
theorem dX8_makeTable_66 : decode cX8_makeTable 66 = .ok (.iload_n 1, 1) := db_X8_makeTable_133.2.2.2.2.2.2.2
set_option maxRecDepth 20000 in
theorem db_X8_makeTable_67 : (decode cX8_makeTable 67 = .ok (.iload_n 2, 1)) ∧ (decode cX8_makeTable 68 = .ok (.iload 4, 2)) ∧ (decode cX8_makeTable 70 = .ok (.iconst 1, 1)) ∧ (decode cX8_makeTable 71 = .ok (.iload_n 3, 1)) ∧ (decode cX8_makeTable 72 = .ok (.invokevirtual 111, 3)) ∧ (decode cX8_makeTable 75 = .ok (.istore 4, 2)) ∧ (decode cX8_makeTable 77 = .ok (.iload 4, 2)) ∧ (decode cX8_makeTable 79 = .ok (.iload_n 3, 1)) := by decide +kernel
theorem dX8_makeTable_67 : decode cX8_makeTable 67 = .ok (.iload_n 2, 1) := db_X8_makeTable_67.1
theorem dX8_makeTable_68 : decode cX8_makeTable 68 = .ok (.iload 4, 2) := db_X8_makeTable_67.2.1
theorem dX8_makeTable_70 : decode cX8_makeTable 70 = .ok (.iconst 1, 1) := db_X8_makeTable_67.2.2.1
theorem dX8_makeTable_71 : decode cX8_makeTable 71 = .ok (.iload_n 3, 1) := db_X8_makeTable_67.2.2.2.1
theorem dX8_makeTable_72 : decode cX8_makeTable 72 = .ok (.invokevirtual 111, 3) := db_X8_makeTable_67.2.2.2.2.1
theorem dX8_makeTable_75 : decode cX8_makeTable 75 = .ok (.istore 4, 2) := db_X8_makeTable_67.2.2.2.2.2.1
theorem dX8_makeTable_77 : decode cX8_makeTable 77 = .ok (.iload 4, 2) := db_X8_makeTable_67.2.2.2.2.2.2.1
theorem dX8_makeTable_79 : decode cX8_makeTable 79 = .ok (.iload_n 3, 1) := db_X8_makeTable_67.2.2.2.2.2.2.2
set_option maxRecDepth 20000 in
theorem db_X8_makeTable_80 : (decode cX8_makeTable 80 = .ok (.if_icmp .ge 19, 3)) ∧ (decode cX8_makeTable 99 = .ok (.iconst 0, 1)) ∧ (decode cX8_makeTable 100 = .ok (.istore 5, 2)) ∧ (decode cX8_makeTable 102 = .ok (.goto 35, 3)) ∧ (decode cX8_makeTable 83 = .ok (.aload_n 0, 1)) ∧ (decode cX8_makeTable 84 = .ok (.getfield 7, 3)) ∧ (decode cX8_makeTable 87 = .ok (.iload_n 1, 1)) ∧ (decode cX8_makeTable 88 = .ok (.iload 4, 2)) := by decide +kernel
theorem dX8_makeTable_80 : decode cX8_makeTable 80 = .ok (.if_icmp .ge 19, 3) := db_X8_makeTable_80.1
theorem dX8_makeTable_99 : decode cX8_makeTable 99 = .ok (.iconst 0, 1) := db_X8_makeTable_80.2.1
theorem dX8_makeTable_100 : decode cX8_makeTable 100 = .ok (.istore 5, 2) := db_X8_makeTable_80.2.2.1
theorem dX8_makeTable_102 : decode cX8_makeTable 102 = .ok (.goto 35, 3) := db_X8_makeTable_80.2.2.2.1
theorem dX8_makeTable_83 : decode cX8_makeTable 83 = .ok (.aload_n 0, 1) := db_X8_makeTable_80.2.2.2.2.1
theorem dX8_makeTable_84 : decode cX8_makeTable 84 = .ok (.getfield 7, 3) := db_X8_makeTable_80.2.2.2.2.2.1
theorem dX8_makeTable_87 : decode cX8_makeTable 87 = .ok (.iload_n 1, 1) := db_X8_makeTable_80.2.2.2.2.2.2.1
theorem dX8_makeTable_88 : decode cX8_makeTable 88 = .ok (.iload 4, 2) := db_X8_makeTable_80.2.2.2.2.2.2.2
set_option maxRecDepth 20000 in
theorem ggX8_makeTable_X8_termAt : GoodIn wsX8_makeTable wsX8_termAt := goodIn_r _ [17] rfl (by decide +kernel)
set_option maxRecDepth 20000 in
theorem gX8_makeTable_X8_termAt : GoodIn wsX8_makeTable (va_wsS RX8 98 yX8_termAt wsX8_termAt) := goodIn_app (goodIn_r _ [15, 16, 6] rfl (by decide +kernel)) ggX8_makeTable_X8_termAt
set_option maxRecDepth 20000 in
theorem db_X8_makeTable_90 : (decode cX8_makeTable 90 = .ok (.invokestatic 98, 3)) ∧ (decode cX8_makeTable 93 = .ok (.iconst 3, 1)) ∧ (decode cX8_makeTable 94 = .ok (.iadd, 1)) ∧ (decode cX8_makeTable 95 = .ok (.iaload, 1)) ∧ (decode cX8_makeTable 96 = .ok (.goto 4, 3)) ∧ (decode cX8_makeTable 17 = .ok (.aload_n 0, 1)) ∧ (decode cX8_makeTable 18 = .ok (.getfield 7, 3)) ∧ (decode cX8_makeTable 21 = .ok (.iload_n 1, 1)) := by decide +kernel
theorem dX8_makeTable_90 : decode cX8_makeTable 90 = .ok (.invokestatic 98, 3) := db_X8_makeTable_90.1
theorem dX8_makeTable_93 : decode cX8_makeTable 93 = .ok (.iconst 3, 1) := db_X8_makeTable_90.2.1
theorem dX8_makeTable_94 : decode cX8_makeTable 94 = .ok (.iadd, 1) := db_X8_makeTable_90.2.2.1
theorem dX8_makeTable_95 : decode cX8_makeTable 95 = .ok (.iaload, 1) := db_X8_makeTable_90.2.2.2.1
theorem dX8_makeTable_96 : decode cX8_makeTable 96 = .ok (.goto 4, 3) := db_X8_makeTable_90.2.2.2.2.1
theorem dX8_makeTable_17 : decode cX8_makeTable 17 = .ok (.aload_n 0, 1) := db_X8_makeTable_90.2.2.2.2.2.1
theorem dX8_makeTable_18 : decode cX8_makeTable 18 = .ok (.getfield 7, 3) := db_X8_makeTable_90.2.2.2.2.2.2.1
theorem dX8_makeTable_21 : decode cX8_makeTable 21 = .ok (.iload_n 1, 1) := db_X8_makeTable_90.2.2.2.2.2.2.2
set_option maxRecDepth 20000 in
theorem db_X8_makeTable_22 : (decode cX8_makeTable 22 = .ok (.iload 4, 2)) ∧ (decode cX8_makeTable 24 = .ok (.invokestatic 98, 3)) ∧ (decode cX8_makeTable 27 = .ok (.iconst 3, 1)) ∧ (decode cX8_makeTable 28 = .ok (.iadd, 1)) ∧ (decode cX8_makeTable 29 = .ok (.iaload, 1)) ∧ (decode cX8_makeTable 30 = .ok (.goto 4, 3)) := by decide +kernel
theorem dX8_makeTable_22 : decode cX8_makeTable 22 = .ok (.iload 4, 2) := db_X8_makeTable_22.1
theorem dX8_makeTable_24 : decode cX8_makeTable 24 = .ok (.invokestatic 98, 3) := db_X8_makeTable_22.2.1
theorem dX8_makeTable_27 : decode cX8_makeTable 27 = .ok (.iconst 3, 1) := db_X8_makeTable_22.2.2.1
theorem dX8_makeTable_28 : decode cX8_makeTable 28 = .ok (.iadd, 1) := db_X8_makeTable_22.2.2.2.1
theorem dX8_makeTable_29 : decode cX8_makeTable 29 = .ok (.iaload, 1) := db_X8_makeTable_22.2.2.2.2.1
theorem dX8_makeTable_30 : decode cX8_makeTable 30 = .ok (.goto 4, 3) := db_X8_makeTable_22.2.2.2.2.2
set_option maxRecDepth 20000 in
theorem db_X8_hour_0 : (decode cX8_hour 0 = .ok (.aload_n 0, 1)) ∧ (decode cX8_hour 1 = .ok (.iload_n 1, 1)) ∧ (decode cX8_hour 2 = .ok (.iload_n 2, 1)) ∧ (decode cX8_hour 3 = .ok (.invokevirtual 101, 3)) ∧ (decode cX8_hour 6 = .ok (.ifCond .ne 5, 3)) ∧ (decode cX8_hour 11 = .ok (.aload_n 0, 1)) ∧ (decode cX8_hour 12 = .ok (.getfield 7, 3)) ∧ (decode cX8_hour 15 = .ok (.iload_n 1, 1)) := by decide +kernel
theorem dX8_hour_0 : decode cX8_hour 0 = .ok (.aload_n 0, 1) := db_X8_hour_0.1
theorem dX8_hour_1 : decode cX8_hour 1 = .ok (.iload_n 1, 1) := db_X8_hour_0.2.1
theorem dX8_hour_2 : decode cX8_hour 2 = .ok (.iload_n 2, 1) := db_X8_hour_0.2.2.1
set_option maxRecDepth 20000 in
theorem ggX8_hour_X8_isTerm : GoodIn wsX8_hour wsX8_isTerm := goodIn_r _ [7, 1, 8, 9, 10, 6, 11, 12, 13, 14, 15, 16, 17, 41, 42, 43, 44, 45, 46, 47, 48, 49, 50, 51] rfl (by decide +kernel)
set_option maxRecDepth 20000 in
theorem gX8_hour_X8_isTerm : GoodIn wsX8_hour (wsV RX8 101 RX8 yX8_isTerm wsX8_isTerm) := goodIn_app (goodIn_r _ [3, 4, 5, 6] rfl (by decide +kernel)) ggX8_hour_X8_isTerm
theorem dX8_hour_3 : decode cX8_hour 3 = .ok (.invokevirtual 101, 3) := db_X8_hour_0.2.2.2.1
theorem dX8_hour_6 : decode cX8_hour 6 = .ok (.ifCond .ne 5, 3) := db_X8_hour_0.2.2.2.2.1
theorem dX8_hour_11 : decode cX8_hour 11 = .ok (.aload_n 0, 1) := db_X8_hour_0.2.2.2.2.2.1
theorem dX8_hour_12 : decode cX8_hour 12 = .ok (.getfield 7, 3) := db_X8_hour_0.2.2.2.2.2.2.1
theorem dX8_hour_15 : decode cX8_hour 15 = .ok (.iload_n 1, 1) := db_X8_hour_0.2.2.2.2.2.2.2
set_option maxRecDepth 20000 in
theorem db_X8_hour_16 : (decode cX8_hour 16 = .ok (.iload_n 2, 1)) ∧ (decode cX8_hour 17 = .ok (.invokestatic 98, 3)) ∧ (decode cX8_hour 20 = .ok (.iaload, 1)) ∧ (decode cX8_hour 21 = .ok (.istore_n 3, 1)) ∧ (decode cX8_hour 22 = .ok (.aload_n 0, 1)) ∧ (decode cX8_hour 23 = .ok (.getfield 7, 3)) ∧ (decode cX8_hour 26 = .ok (.iload_n 1, 1)) ∧ (decode cX8_hour 27 = .ok (.iload_n 2, 1)) := by decide +kernel
theorem dX8_hour_16 : decode cX8_hour 16 = .ok (.iload_n 2, 1) := db_X8_hour_16.1
set_option maxRecDepth 20000 in
theorem ggX8_hour_X8_termAt : GoodIn wsX8_hour wsX8_termAt := goodIn_r _ [20] rfl (by decide +kernel)
set_option maxRecDepth 20000 in
theorem gX8_hour_X8_termAt : GoodIn wsX8_hour (va_wsS RX8 98 yX8_termAt wsX8_termAt) := goodIn_app (goodIn_r _ [18, 19, 6] rfl (by decide +kernel)) ggX8_hour_X8_termAt
theorem dX8_hour_17 : decode cX8_hour 17 = .ok (.invokestatic 98, 3) := db_X8_hour_16.2.1
theorem dX8_hour_20 : decode cX8_hour 20 = .ok (.iaload, 1) := db_X8_hour_16.2.2.1
theorem dX8_hour_21 : decode cX8_hour 21 = .ok (.istore_n 3, 1) := db_X8_hour_16.2.2.2.1
theorem dX8_hour_22 : decode cX8_hour 22 = .ok (.aload_n 0, 1) := db_X8_hour_16.2.2.2.2.1
theorem dX8_hour_23 : decode cX8_hour 23 = .ok (.getfield 7, 3) := db_X8_hour_16.2.2.2.2.2.1
theorem dX8_hour_26 : decode cX8_hour 26 = .ok (.iload_n 1, 1) := db_X8_hour_16.2.2.2.2.2.2.1
theorem dX8_hour_27 : decode cX8_hour 27 = .ok (.iload_n 2, 1) := db_X8_hour_16.2.2.2.2.2.2.2
set_option maxRecDepth 20000 in
theorem db_X8_hour_28 : (decode cX8_hour 28 = .ok (.invokestatic 98, 3)) ∧ (decode cX8_hour 31 = .ok (.iconst 1, 1)) ∧ (decode cX8_hour 32 = .ok (.iadd, 1)) ∧ (decode cX8_hour 33 = .ok (.iaload, 1)) ∧ (decode cX8_hour 34 = .ok (.ifCond .ne 6, 3)) ∧ (decode cX8_hour 40 = .ok (.aload_n 0, 1)) ∧ (decode cX8_hour 41 = .ok (.iload_n 1, 1)) ∧ (decode cX8_hour 42 = .ok (.iload_n 3, 1)) := by decide +kernel
theorem dX8_hour_28 : decode cX8_hour 28 = .ok (.invokestatic 98, 3) := db_X8_hour_28.1
theorem dX8_hour_31 : decode cX8_hour 31 = .ok (.iconst 1, 1) := db_X8_hour_28.2.1
theorem dX8_hour_32 : decode cX8_hour 32 = .ok (.iadd, 1) := db_X8_hour_28.2.2.1
theorem dX8_hour_33 : decode cX8_hour 33 = .ok (.iaload, 1) := db_X8_hour_28.2.2.2.1
theorem dX8_hour_34 : decode cX8_hour 34 = .ok (.ifCond .ne 6, 3) := db_X8_hour_28.2.2.2.2.1
theorem dX8_hour_40 : decode cX8_hour 40 = .ok (.aload_n 0, 1) := db_X8_hour_28.2.2.2.2.2.1
theorem dX8_hour_41 : decode cX8_hour 41 = .ok (.iload_n 1, 1) := db_X8_hour_28.2.2.2.2.2.2.1
theorem dX8_hour_42 : decode cX8_hour 42 = .ok (.iload_n 3, 1) := db_X8_hour_28.2.2.2.2.2.2.2
set_option maxRecDepth 20000 in
theorem db_X8_hour_43 : (decode cX8_hour 43 = .ok (.aload_n 0, 1)) ∧ (decode cX8_hour 44 = .ok (.getfield 7, 3)) ∧ (decode cX8_hour 47 = .ok (.iload_n 1, 1)) ∧ (decode cX8_hour 48 = .ok (.bipush 6, 2)) ∧ (decode cX8_hour 50 = .ok (.invokestatic 46, 3)) ∧ (decode cX8_hour 53 = .ok (.iaload, 1)) ∧ (decode cX8_hour 54 = .ok (.invokevirtual 118, 3)) ∧ (decode cX8_hour 57 = .ok (.ifCond .eq 12, 3)) := by decide +kernel
theorem dX8_hour_43 : decode cX8_hour 43 = .ok (.aload_n 0, 1) := db_X8_hour_43.1
theorem dX8_hour_44 : decode cX8_hour 44 = .ok (.getfield 7, 3) := db_X8_hour_43.2.1
theorem dX8_hour_47 : decode cX8_hour 47 = .ok (.iload_n 1, 1) := db_X8_hour_43.2.2.1
theorem dX8_hour_48 : decode cX8_hour 48 = .ok (.bipush 6, 2) := db_X8_hour_43.2.2.2.1
set_option maxRecDepth 20000 in
theorem ggX8_hour_X8_at : GoodIn wsX8_hour wsX8_at := goodIn_r _ [17] rfl (by decide +kernel)
set_option maxRecDepth 20000 in
theorem gX8_hour_X8_at : GoodIn wsX8_hour (va_wsS RX8 46 yX8_at wsX8_at) := goodIn_app (goodIn_r _ [15, 16, 6] rfl (by decide +kernel)) ggX8_hour_X8_at
theorem dX8_hour_50 : decode cX8_hour 50 = .ok (.invokestatic 46, 3) := db_X8_hour_43.2.2.2.2.1
theorem dX8_hour_53 : decode cX8_hour 53 = .ok (.iaload, 1) := db_X8_hour_43.2.2.2.2.2.1
set_option maxRecDepth 20000 in
theorem ggX8_hour_X8_makeTable : GoodIn wsX8_hour wsX8_makeTable := goodIn_r _ [24, 1, 2, 25, 26, 27, 6, 28, 12, 13, 14, 29, 30, 31, 32, 18, 19, 20, 33, 34, 35, 36, 37, 38, 39, 40, 41, 42, 43, 44, 45, 46, 47, 48, 49, 50, 51] rfl (by decide +kernel)
set_option maxRecDepth 20000 in
theorem gX8_hour_X8_makeTable : GoodIn wsX8_hour (wsV RX8 118 RX8 yX8_makeTable wsX8_makeTable) := goodIn_app (goodIn_r _ [21, 22, 23, 6] rfl (by decide +kernel)) ggX8_hour_X8_makeTable
theorem dX8_hour_54 : decode cX8_hour 54 = .ok (.invokevirtual 118, 3) := db_X8_hour_43.2.2.2.2.2.2.1
theorem dX8_hour_57 : decode cX8_hour 57 = .ok (.ifCond .eq 12, 3) := db_X8_hour_43.2.2.2.2.2.2.2
set_option maxRecDepth 20000 in
theorem db_X8_hour_69 : (decode cX8_hour 69 = .ok (.bipush (-5), 2)) ∧ (decode cX8_hour 71 = .ok (.ireturn, 1)) ∧ (decode cX8_hour 60 = .ok (.aload_n 0, 1)) ∧ (decode cX8_hour 61 = .ok (.getfield 32, 3)) ∧ (decode cX8_hour 64 = .ok (.iload_n 2, 1)) ∧ (decode cX8_hour 65 = .ok (.iaload, 1)) ∧ (decode cX8_hour 66 = .ok (.goto 5, 3)) ∧ (decode cX8_hour 37 = .ok (.bipush (-4), 2)) := by decide +kernel
theorem dX8_hour_69 : decode cX8_hour 69 = .ok (.bipush (-5), 2) := db_X8_hour_69.1
theorem dX8_hour_71 : decode cX8_hour 71 = .ok (.ireturn, 1) := db_X8_hour_69.2.1
theorem dX8_hour_60 : decode cX8_hour 60 = .ok (.aload_n 0, 1) := db_X8_hour_69.2.2.1
theorem dX8_hour_61 : decode cX8_hour 61 = .ok (.getfield 32, 3) := db_X8_hour_69.2.2.2.1
theorem dX8_hour_64 : decode cX8_hour 64 = .ok (.iload_n 2, 1) := db_X8_hour_69.2.2.2.2.1
theorem dX8_hour_65 : decode cX8_hour 65 = .ok (.iaload, 1) := db_X8_hour_69.2.2.2.2.2.1
theorem dX8_hour_66 : decode cX8_hour 66 = .ok (.goto 5, 3) := db_X8_hour_69.2.2.2.2.2.2.1
theorem dX8_hour_37 : decode cX8_hour 37 = .ok (.bipush (-4), 2) := db_X8_hour_69.2.2.2.2.2.2.2
set_option maxRecDepth 20000 in
theorem db_X8_hour_39 : (decode cX8_hour 39 = .ok (.ireturn, 1)) ∧ (decode cX8_hour 9 = .ok (.iconst (-1), 1)) ∧ (decode cX8_hour 10 = .ok (.ireturn, 1)) := by decide +kernel
theorem dX8_hour_39 : decode cX8_hour 39 = .ok (.ireturn, 1) := db_X8_hour_39.1
theorem dX8_hour_9 : decode cX8_hour 9 = .ok (.iconst (-1), 1) := db_X8_hour_39.2.1
theorem dX8_hour_10 : decode cX8_hour 10 = .ok (.ireturn, 1) := db_X8_hour_39.2.2
set_option maxRecDepth 20000 in
theorem db_X8_canHold_0 : (decode cX8_canHold 0 = .ok (.aload_n 0, 1)) ∧ (decode cX8_canHold 1 = .ok (.iload_n 1, 1)) ∧ (decode cX8_canHold 2 = .ok (.invokevirtual 50, 3)) ∧ (decode cX8_canHold 5 = .ok (.ifCond .eq 10, 3)) ∧ (decode cX8_canHold 8 = .ok (.iload_n 2, 1)) ∧ (decode cX8_canHold 9 = .ok (.invokestatic 60, 3)) ∧ (decode cX8_canHold 12 = .ok (.ifCond .ne 5, 3)) ∧ (decode cX8_canHold 17 = .ok (.aload_n 0, 1)) := by decide +kernel
theorem dX8_canHold_0 : decode cX8_canHold 0 = .ok (.aload_n 0, 1) := db_X8_canHold_0.1
theorem dX8_canHold_1 : decode cX8_canHold 1 = .ok (.iload_n 1, 1) := db_X8_canHold_0.2.1
set_option maxRecDepth 20000 in
theorem ggX8_canHold_X8_isCase : GoodIn wsX8_canHold wsX8_isCase := goodIn_r _ [6, 1, 7, 8, 5, 9, 40, 41, 42, 43, 44, 45, 46, 47, 48, 49, 50] rfl (by decide +kernel)
set_option maxRecDepth 20000 in
theorem gX8_canHold_X8_isCase : GoodIn wsX8_canHold (wsV RX8 50 RX8 yX8_isCase wsX8_isCase) := goodIn_app (goodIn_r _ [2, 3, 4, 5] rfl (by decide +kernel)) ggX8_canHold_X8_isCase
theorem dX8_canHold_2 : decode cX8_canHold 2 = .ok (.invokevirtual 50, 3) := db_X8_canHold_0.2.2.1
theorem dX8_canHold_5 : decode cX8_canHold 5 = .ok (.ifCond .eq 10, 3) := db_X8_canHold_0.2.2.2.1
theorem dX8_canHold_8 : decode cX8_canHold 8 = .ok (.iload_n 2, 1) := db_X8_canHold_0.2.2.2.2.1
set_option maxRecDepth 20000 in
theorem ggX8_canHold_X8_isSide : GoodIn wsX8_canHold wsX8_isSide := goodIn_r _ [12, 7, 8, 5, 9] rfl (by decide +kernel)
set_option maxRecDepth 20000 in
theorem gX8_canHold_X8_isSide : GoodIn wsX8_canHold (va_wsS RX8 60 yX8_isSide wsX8_isSide) := goodIn_app (goodIn_r _ [10, 11, 5] rfl (by decide +kernel)) ggX8_canHold_X8_isSide
theorem dX8_canHold_9 : decode cX8_canHold 9 = .ok (.invokestatic 60, 3) := db_X8_canHold_0.2.2.2.2.2.1
theorem dX8_canHold_12 : decode cX8_canHold 12 = .ok (.ifCond .ne 5, 3) := db_X8_canHold_0.2.2.2.2.2.2.1
theorem dX8_canHold_17 : decode cX8_canHold 17 = .ok (.aload_n 0, 1) := db_X8_canHold_0.2.2.2.2.2.2.2
set_option maxRecDepth 20000 in
theorem db_X8_canHold_18 : (decode cX8_canHold 18 = .ok (.iload_n 1, 1)) ∧ (decode cX8_canHold 19 = .ok (.iload_n 2, 1)) ∧ (decode cX8_canHold 20 = .ok (.aload_n 0, 1)) ∧ (decode cX8_canHold 21 = .ok (.getfield 7, 3)) ∧ (decode cX8_canHold 24 = .ok (.iload_n 1, 1)) ∧ (decode cX8_canHold 25 = .ok (.bipush 6, 2)) ∧ (decode cX8_canHold 27 = .ok (.invokestatic 46, 3)) ∧ (decode cX8_canHold 30 = .ok (.iaload, 1)) := by decide +kernel
theorem dX8_canHold_18 : decode cX8_canHold 18 = .ok (.iload_n 1, 1) := db_X8_canHold_18.1
theorem dX8_canHold_19 : decode cX8_canHold 19 = .ok (.iload_n 2, 1) := db_X8_canHold_18.2.1
theorem dX8_canHold_20 : decode cX8_canHold 20 = .ok (.aload_n 0, 1) := db_X8_canHold_18.2.2.1
theorem dX8_canHold_21 : decode cX8_canHold 21 = .ok (.getfield 7, 3) := db_X8_canHold_18.2.2.2.1
theorem dX8_canHold_24 : decode cX8_canHold 24 = .ok (.iload_n 1, 1) := db_X8_canHold_18.2.2.2.2.1
theorem dX8_canHold_25 : decode cX8_canHold 25 = .ok (.bipush 6, 2) := db_X8_canHold_18.2.2.2.2.2.1
set_option maxRecDepth 20000 in
theorem ggX8_canHold_X8_at : GoodIn wsX8_canHold wsX8_at := goodIn_r _ [15] rfl (by decide +kernel)
set_option maxRecDepth 20000 in
theorem gX8_canHold_X8_at : GoodIn wsX8_canHold (va_wsS RX8 46 yX8_at wsX8_at) := goodIn_app (goodIn_r _ [13, 14, 5] rfl (by decide +kernel)) ggX8_canHold_X8_at
theorem dX8_canHold_27 : decode cX8_canHold 27 = .ok (.invokestatic 46, 3) := db_X8_canHold_18.2.2.2.2.2.2.1
theorem dX8_canHold_30 : decode cX8_canHold 30 = .ok (.iaload, 1) := db_X8_canHold_18.2.2.2.2.2.2.2
set_option maxRecDepth 20000 in
theorem ggX8_canHold_X8_makeTable : GoodIn wsX8_canHold wsX8_makeTable := goodIn_r _ [19, 1, 20, 21, 22, 23, 5, 24, 7, 8, 9, 25, 26, 27, 28, 29, 30, 31, 32, 33, 34, 35, 36, 37, 38, 39, 40, 41, 42, 43, 44, 45, 46, 47, 48, 49, 50] rfl (by decide +kernel)
set_option maxRecDepth 20000 in
theorem gX8_canHold_X8_makeTable : GoodIn wsX8_canHold (wsV RX8 118 RX8 yX8_makeTable wsX8_makeTable) := goodIn_app (goodIn_r _ [16, 17, 18, 5] rfl (by decide +kernel)) ggX8_canHold_X8_makeTable
set_option maxRecDepth 20000 in
theorem db_X8_canHold_31 : (decode cX8_canHold 31 = .ok (.invokevirtual 118, 3)) ∧ (decode cX8_canHold 34 = .ok (.ifCond .eq 7, 3)) ∧ (decode cX8_canHold 41 = .ok (.iconst 0, 1)) ∧ (decode cX8_canHold 42 = .ok (.ireturn, 1)) ∧ (decode cX8_canHold 37 = .ok (.iconst 1, 1)) ∧ (decode cX8_canHold 38 = .ok (.goto 4, 3)) ∧ (decode cX8_canHold 15 = .ok (.iconst (-1), 1)) ∧ (decode cX8_canHold 16 = .ok (.ireturn, 1)) := by decide +kernel
theorem dX8_canHold_31 : decode cX8_canHold 31 = .ok (.invokevirtual 118, 3) := db_X8_canHold_31.1
theorem dX8_canHold_34 : decode cX8_canHold 34 = .ok (.ifCond .eq 7, 3) := db_X8_canHold_31.2.1
theorem dX8_canHold_41 : decode cX8_canHold 41 = .ok (.iconst 0, 1) := db_X8_canHold_31.2.2.1
theorem dX8_canHold_42 : decode cX8_canHold 42 = .ok (.ireturn, 1) := db_X8_canHold_31.2.2.2.1
theorem dX8_canHold_37 : decode cX8_canHold 37 = .ok (.iconst 1, 1) := db_X8_canHold_31.2.2.2.2.1
theorem dX8_canHold_38 : decode cX8_canHold 38 = .ok (.goto 4, 3) := db_X8_canHold_31.2.2.2.2.2.1
theorem dX8_canHold_15 : decode cX8_canHold 15 = .ok (.iconst (-1), 1) := db_X8_canHold_31.2.2.2.2.2.2.1
theorem dX8_canHold_16 : decode cX8_canHold 16 = .ok (.ireturn, 1) := db_X8_canHold_31.2.2.2.2.2.2.2
set_option maxRecDepth 20000 in
theorem db_X8_breaks_0 : (decode cX8_breaks 0 = .ok (.aload_n 0, 1)) ∧ (decode cX8_breaks 1 = .ok (.iload_n 1, 1)) ∧ (decode cX8_breaks 2 = .ok (.invokevirtual 50, 3)) ∧ (decode cX8_breaks 5 = .ok (.ifCond .eq 10, 3)) ∧ (decode cX8_breaks 8 = .ok (.iload_n 2, 1)) ∧ (decode cX8_breaks 9 = .ok (.invokestatic 60, 3)) ∧ (decode cX8_breaks 12 = .ok (.ifCond .ne 5, 3)) ∧ (decode cX8_breaks 17 = .ok (.iconst 0, 1)) := by decide +kernel
theorem dX8_breaks_0 : decode cX8_breaks 0 = .ok (.aload_n 0, 1) := db_X8_breaks_0.1
theorem dX8_breaks_1 : decode cX8_breaks 1 = .ok (.iload_n 1, 1) := db_X8_breaks_0.2.1
set_option maxRecDepth 20000 in
theorem ggX8_breaks_X8_isCase : GoodIn wsX8_breaks wsX8_isCase := goodIn_r _ [6, 1, 7, 8, 5, 9, 40, 41, 42, 43, 44, 45, 46, 47, 48, 49, 50] rfl (by decide +kernel)
set_option maxRecDepth 20000 in
theorem gX8_breaks_X8_isCase : GoodIn wsX8_breaks (wsV RX8 50 RX8 yX8_isCase wsX8_isCase) := goodIn_app (goodIn_r _ [2, 3, 4, 5] rfl (by decide +kernel)) ggX8_breaks_X8_isCase
theorem dX8_breaks_2 : decode cX8_breaks 2 = .ok (.invokevirtual 50, 3) := db_X8_breaks_0.2.2.1
theorem dX8_breaks_5 : decode cX8_breaks 5 = .ok (.ifCond .eq 10, 3) := db_X8_breaks_0.2.2.2.1
theorem dX8_breaks_8 : decode cX8_breaks 8 = .ok (.iload_n 2, 1) := db_X8_breaks_0.2.2.2.2.1
set_option maxRecDepth 20000 in
theorem ggX8_breaks_X8_isSide : GoodIn wsX8_breaks wsX8_isSide := goodIn_r _ [12, 7, 8, 5, 9] rfl (by decide +kernel)
set_option maxRecDepth 20000 in
theorem gX8_breaks_X8_isSide : GoodIn wsX8_breaks (va_wsS RX8 60 yX8_isSide wsX8_isSide) := goodIn_app (goodIn_r _ [10, 11, 5] rfl (by decide +kernel)) ggX8_breaks_X8_isSide
theorem dX8_breaks_9 : decode cX8_breaks 9 = .ok (.invokestatic 60, 3) := db_X8_breaks_0.2.2.2.2.2.1
theorem dX8_breaks_12 : decode cX8_breaks 12 = .ok (.ifCond .ne 5, 3) := db_X8_breaks_0.2.2.2.2.2.2.1
theorem dX8_breaks_17 : decode cX8_breaks 17 = .ok (.iconst 0, 1) := db_X8_breaks_0.2.2.2.2.2.2.2
set_option maxRecDepth 20000 in
theorem db_X8_breaks_18 : (decode cX8_breaks 18 = .ok (.istore_n 3, 1)) ∧ (decode cX8_breaks 19 = .ok (.iload_n 3, 1)) ∧ (decode cX8_breaks 20 = .ok (.aload_n 0, 1)) ∧ (decode cX8_breaks 21 = .ok (.getfield 7, 3)) ∧ (decode cX8_breaks 24 = .ok (.iload_n 1, 1)) ∧ (decode cX8_breaks 25 = .ok (.bipush 6, 2)) ∧ (decode cX8_breaks 27 = .ok (.invokestatic 46, 3)) ∧ (decode cX8_breaks 30 = .ok (.iaload, 1)) := by decide +kernel
theorem dX8_breaks_18 : decode cX8_breaks 18 = .ok (.istore_n 3, 1) := db_X8_breaks_18.1
theorem dX8_breaks_19 : decode cX8_breaks 19 = .ok (.iload_n 3, 1) := db_X8_breaks_18.2.1
theorem dX8_breaks_20 : decode cX8_breaks 20 = .ok (.aload_n 0, 1) := db_X8_breaks_18.2.2.1
theorem dX8_breaks_21 : decode cX8_breaks 21 = .ok (.getfield 7, 3) := db_X8_breaks_18.2.2.2.1
theorem dX8_breaks_24 : decode cX8_breaks 24 = .ok (.iload_n 1, 1) := db_X8_breaks_18.2.2.2.2.1
theorem dX8_breaks_25 : decode cX8_breaks 25 = .ok (.bipush 6, 2) := db_X8_breaks_18.2.2.2.2.2.1
set_option maxRecDepth 20000 in
theorem ggX8_breaks_X8_at : GoodIn wsX8_breaks wsX8_at := goodIn_r _ [15] rfl (by decide +kernel)
set_option maxRecDepth 20000 in
theorem gX8_breaks_X8_at : GoodIn wsX8_breaks (va_wsS RX8 46 yX8_at wsX8_at) := goodIn_app (goodIn_r _ [13, 14, 5] rfl (by decide +kernel)) ggX8_breaks_X8_at
theorem dX8_breaks_27 : decode cX8_breaks 27 = .ok (.invokestatic 46, 3) := db_X8_breaks_18.2.2.2.2.2.2.1
theorem dX8_breaks_30 : decode cX8_breaks 30 = .ok (.iaload, 1) := db_X8_breaks_18.2.2.2.2.2.2.2
set_option maxRecDepth 20000 in
theorem db_X8_breaks_31 : (decode cX8_breaks 31 = .ok (.if_icmp .ge 37, 3)) ∧ (decode cX8_breaks 68 = .ok (.bipush (-5), 2)) ∧ (decode cX8_breaks 70 = .ok (.ireturn, 1)) ∧ (decode cX8_breaks 34 = .ok (.aload_n 0, 1)) ∧ (decode cX8_breaks 35 = .ok (.getfield 7, 3)) ∧ (decode cX8_breaks 38 = .ok (.iload_n 1, 1)) ∧ (decode cX8_breaks 39 = .ok (.iload_n 3, 1)) ∧ (decode cX8_breaks 40 = .ok (.invokestatic 98, 3)) := by decide +kernel
theorem dX8_breaks_31 : decode cX8_breaks 31 = .ok (.if_icmp .ge 37, 3) := db_X8_breaks_31.1
theorem dX8_breaks_68 : decode cX8_breaks 68 = .ok (.bipush (-5), 2) := db_X8_breaks_31.2.1
theorem dX8_breaks_70 : decode cX8_breaks 70 = .ok (.ireturn, 1) := db_X8_breaks_31.2.2.1
theorem dX8_breaks_34 : decode cX8_breaks 34 = .ok (.aload_n 0, 1) := db_X8_breaks_31.2.2.2.1
theorem dX8_breaks_35 : decode cX8_breaks 35 = .ok (.getfield 7, 3) := db_X8_breaks_31.2.2.2.2.1
theorem dX8_breaks_38 : decode cX8_breaks 38 = .ok (.iload_n 1, 1) := db_X8_breaks_31.2.2.2.2.2.1
theorem dX8_breaks_39 : decode cX8_breaks 39 = .ok (.iload_n 3, 1) := db_X8_breaks_31.2.2.2.2.2.2.1
set_option maxRecDepth 20000 in
theorem ggX8_breaks_X8_termAt : GoodIn wsX8_breaks wsX8_termAt := goodIn_r _ [18] rfl (by decide +kernel)
set_option maxRecDepth 20000 in
theorem gX8_breaks_X8_termAt : GoodIn wsX8_breaks (va_wsS RX8 98 yX8_termAt wsX8_termAt) := goodIn_app (goodIn_r _ [16, 17, 5] rfl (by decide +kernel)) ggX8_breaks_X8_termAt
theorem dX8_breaks_40 : decode cX8_breaks 40 = .ok (.invokestatic 98, 3) := db_X8_breaks_31.2.2.2.2.2.2.2
set_option maxRecDepth 20000 in
theorem db_X8_breaks_43 : (decode cX8_breaks 43 = .ok (.iaload, 1)) ∧ (decode cX8_breaks 44 = .ok (.iload_n 2, 1)) ∧ (decode cX8_breaks 45 = .ok (.if_icmp .ne 17, 3)) ∧ (decode cX8_breaks 62 = .ok (.iinc 3 1, 3)) ∧ (decode cX8_breaks 65 = .ok (.goto (-46), 3)) ∧ (decode cX8_breaks 48 = .ok (.aload_n 0, 1)) ∧ (decode cX8_breaks 49 = .ok (.iload_n 1, 1)) ∧ (decode cX8_breaks 50 = .ok (.iload_n 2, 1)) := by decide +kernel
theorem dX8_breaks_43 : decode cX8_breaks 43 = .ok (.iaload, 1) := db_X8_breaks_43.1
theorem dX8_breaks_44 : decode cX8_breaks 44 = .ok (.iload_n 2, 1) := db_X8_breaks_43.2.1
theorem dX8_breaks_45 : decode cX8_breaks 45 = .ok (.if_icmp .ne 17, 3) := db_X8_breaks_43.2.2.1
theorem dX8_breaks_62 : decode cX8_breaks 62 = .ok (.iinc 3 1, 3) := db_X8_breaks_43.2.2.2.1
theorem dX8_breaks_65 : decode cX8_breaks 65 = .ok (.goto (-46), 3) := db_X8_breaks_43.2.2.2.2.1
theorem dX8_breaks_48 : decode cX8_breaks 48 = .ok (.aload_n 0, 1) := db_X8_breaks_43.2.2.2.2.2.1
theorem dX8_breaks_49 : decode cX8_breaks 49 = .ok (.iload_n 1, 1) := db_X8_breaks_43.2.2.2.2.2.2.1
theorem dX8_breaks_50 : decode cX8_breaks 50 = .ok (.iload_n 2, 1) := db_X8_breaks_43.2.2.2.2.2.2.2
set_option maxRecDepth 20000 in
theorem db_X8_breaks_51 : (decode cX8_breaks 51 = .ok (.iload_n 3, 1)) ∧ (decode cX8_breaks 52 = .ok (.iconst 1, 1)) ∧ (decode cX8_breaks 53 = .ok (.iadd, 1)) ∧ (decode cX8_breaks 54 = .ok (.invokevirtual 118, 3)) ∧ (decode cX8_breaks 57 = .ok (.ifCond .ne 5, 3)) ∧ (decode cX8_breaks 60 = .ok (.iload_n 3, 1)) ∧ (decode cX8_breaks 61 = .ok (.ireturn, 1)) ∧ (decode cX8_breaks 15 = .ok (.iconst (-1), 1)) := by decide +kernel
theorem dX8_breaks_51 : decode cX8_breaks 51 = .ok (.iload_n 3, 1) := db_X8_breaks_51.1
theorem dX8_breaks_52 : decode cX8_breaks 52 = .ok (.iconst 1, 1) := db_X8_breaks_51.2.1
theorem dX8_breaks_53 : decode cX8_breaks 53 = .ok (.iadd, 1) := db_X8_breaks_51.2.2.1
set_option maxRecDepth 20000 in
theorem ggX8_breaks_X8_makeTable : GoodIn wsX8_breaks wsX8_makeTable := goodIn_r _ [22, 1, 23, 24, 25, 26, 5, 27, 7, 8, 9, 28, 29, 30, 31, 16, 17, 18, 32, 33, 34, 35, 36, 37, 38, 39, 40, 41, 42, 43, 44, 45, 46, 47, 48, 49, 50] rfl (by decide +kernel)
set_option maxRecDepth 20000 in
theorem gX8_breaks_X8_makeTable : GoodIn wsX8_breaks (wsV RX8 118 RX8 yX8_makeTable wsX8_makeTable) := goodIn_app (goodIn_r _ [19, 20, 21, 5] rfl (by decide +kernel)) ggX8_breaks_X8_makeTable
theorem dX8_breaks_54 : decode cX8_breaks 54 = .ok (.invokevirtual 118, 3) := db_X8_breaks_51.2.2.2.1
theorem dX8_breaks_57 : decode cX8_breaks 57 = .ok (.ifCond .ne 5, 3) := db_X8_breaks_51.2.2.2.2.1
theorem dX8_breaks_60 : decode cX8_breaks 60 = .ok (.iload_n 3, 1) := db_X8_breaks_51.2.2.2.2.2.1
theorem dX8_breaks_61 : decode cX8_breaks 61 = .ok (.ireturn, 1) := db_X8_breaks_51.2.2.2.2.2.2.1
theorem dX8_breaks_15 : decode cX8_breaks 15 = .ok (.iconst (-1), 1) := db_X8_breaks_51.2.2.2.2.2.2.2
theorem dX8_breaks_16 : decode cX8_breaks 16 = .ok (.ireturn, 1) := by decide +kernel
set_option maxHeartbeats 4000000 in
set_option maxRecDepth 100000 in
theorem q_X8_makeTable (l : Launch) (dC : Nat → ClassId) (dI : Nat → Nat → Nat) (cy : Nat → ClassId) (sz : Nat) (ad : Nat → Nat) (v : Nat → Nat → Int32) (hv : Ir v) (x0 x1 x2 : Int32) (h0 : 0 ≤ x0.toInt ∧ x0.toInt ≤ 5) (h2 : 0 ≤ x2.toInt ∧ x2.toInt ≤ 5) : Met l yX8_makeTable wsX8_makeTable ({ frames := 3, cells := 0, slots := 0, locals := 192 }) (va_Pc [.ref (ad 0), .int x0, .int x1, .int x2] (ex_Pre dC dI cy sz (wm ad cy v))) (va_Qi (fun (r : Int32) (u : Nat → Nat → Int32) => Ir u ∧ Fq v u ∧ (r = 0 ∨ r = 1)) (fun u t => ex_Pst dC dI (va_A (wm ad cy v) sz) (wm ad cy u) t) (va_A (wm ad cy v) sz)) 0 0 (va_A (wm ad cy v) sz) := by
  refine Met.ofW (cc := cX8_makeTable) (maxL := 7) (ret := (some .boolean)) (by decide) rfl ?_
  intro p e s m args below meth c s₁ B hml hv
  obtain ⟨rfl, hsz, hE, hP, hK, hD0⟩ := hv
  have hx := B.exec
  have hb := B.bytes
  have hr := B.returns
  have hts := atoms_spec (ws := wsX8_makeTable) B.pre
  have hown : s.vm.findClass RX8 = some m.cls := findClass_of_methodNamed B.named
  have hlocks := B.notSynchronized
  subst hsz
  have hD := hD0.self (sz := s.heap.size)
  generalize hAe : va_A (wm ad cy v) s.heap.size = A at hD ⊢
  have hA : ∀ q : Nat, s.heap.size ≤ q → A q := fun q h => by rw [← hAe]; exact Or.inr h
  have hS : va_S A s.heap s.heap [] := va_S.rf
  have hP : va_P (dC, dI) vwCl (wm ad cy v) s.heap := hP
  have hl := lv_entry ([.ref (ad 0), .int x0, .int x1, .int x2]) (n := 7) (Nat.le_of_ble_eq_true rfl)
  rw [lg_entry_eq]
  generalize (lg_sl ([.ref (ad 0), .int x0, .int x1, .int x2]) ++ List.replicate (7 - (lg_sl ([.ref (ad 0), .int x0, .int x1, .int x2])).length) Slot.unset).toArray = ls at hl ⊢
  have hl : lv_has ls 7 [(0, .ref (ad 0)), (1, .int x0), (2, .int x1), (3, .int x2)] := hl
  have hfr : Fq v v := Fq.rf
  refine lv_aload_n hx hb dX8_makeTable_0 rfl (lv_at hl 0 rfl) ?_
  refine lv_iload_n hx hb dX8_makeTable_1 rfl (lv_at hl 1 rfl) ?_
  refine lv_iload_n hx hb dX8_makeTable_2 rfl (lv_at hl 2 rfl) ?_
  refine lv_iconst (v := (-1)) hx hb dX8_makeTable_3 (by decide) ?_
  refine lv_iconst (v := 1) hx hb dX8_makeTable_4 (by decide) ?_
  refine lv_iload_n hx hb dX8_makeTable_5 rfl (lv_at hl 3 rfl) ?_
  have k_1 : (1 : Int32).toInt = 1 := by decide
  have k_m1 : ((-1) : Int32).toInt = -1 := by decide
  refine yw_i (w1 := fun (u : Nat → Nat → Int32) => wm ad cy u) hD hS hA (va_runV (As := [.int x0, .int x1, .int (-1), .int 1, .int x2]) (rest := []) ⟨hx, hb, hml, hown, hts⟩ (q_X8_next_f l dC dI cy _ ad v hv x0 x1 ((-1) : Int32) x2 ⟨by omega, by omega⟩ ⟨by omega, by omega⟩ ⟨by omega, by omega⟩) (cwV 5 hts gX8_makeTable_X8_next rfl rfl rfl hd_V_X8_next_5 ⟨Nat.le_of_ble_eq_true rfl, Nat.le_of_ble_eq_true rfl⟩) (yw_preV hE hK hP hD (ci := 8) (q0 := 0) rfl (wm_at (by decide) rc_0)) rfl rfl hl.1 rfl (lv_room (Nat.le_of_ble_eq_true rfl)) dX8_makeTable_6 ⟨Nat.le_of_ble_eq_true rfl, Nat.le_of_ble_eq_true rfl⟩) (fun r_1 v_1 H locs hw_1 hP hD hS => ?_)
  obtain ⟨-, hu_1, hw_1⟩ := hw_1
  replace hu_1 := hu_1.symm
  subst hu_1
  obtain ⟨hn_2, hg_2, hq_2⟩ := hw_1
  refine lv_istore (lv' := [(4, .int r_1), (0, .ref (ad 0)), (1, .int x0), (2, .int x1), (3, .int x2)]) hx hb dX8_makeTable_9 hl (by decide) rfl (fun ls hl => ?_)
  refine lv_iload hx hb dX8_makeTable_11 (lv_at hl 0 rfl) ?_
  refine lv_iload_n hx hb dX8_makeTable_13 rfl (lv_at hl 4 rfl) ?_
  refine lv_icmp_ge (tgt := 33) hx hb dX8_makeTable_14 (by decide) (fun c_3 => ?_) (fun c_3 => ?_)
  · have tc_3 : r_1.toInt ≥ x2.toInt := Int32.le_iff_toInt_le.mp c_3
    refine lv_iconst (v := 0) hx hb dX8_makeTable_33 (by decide) ?_
    refine lv_istore (lv' := [(5, .int 0), (4, .int r_1), (0, .ref (ad 0)), (1, .int x0), (2, .int x1), (3, .int x2)]) hx hb dX8_makeTable_34 hl (by decide) rfl (fun ls hl => ?_)
    have hc_4 : ∀ (n : Nat) (y4_4 y4_5 : Int32) (u4 : Nat → Nat → Int32) (H : Heap) (locs : List Loc), -1 ≤ y4_4.toInt → y4_4.toInt ≤ 5 → 0 ≤ y4_5.toInt → y4_5.toInt ≤ 24 → (∀ i : Nat, (i : Int) < y4_4.toInt → ow (v 1) (158 + 25 * x0.toNatClampNeg) x1 i → 0 ≤ (u4 7 i).toInt ∧ (u4 7 i).toInt ≤ 23) → (y4_4.toInt ≤ x2.toInt) → (mt (dg (v 1) (158 + 25 * x0.toNatClampNeg) x1 (u4 7)) y4_4.toInt y4_5.toInt).toNat < n → Ir u4 → Fq v u4 → va_P (dC, dI) vwCl (wm ad cy u4) H → va_D A (wm ad cy u4) → va_S A s.heap H locs → ∀ ls : Array Slot, lv_has ls 7 [(5, .int y4_5), (4, .int y4_4), (0, .ref (ad 0)), (1, .int x0), (2, .int x1), (3, .int x2)] → W p l e (headSpec wsX8_makeTable ({ frames := 3, cells := 0, slots := 0, locals := 192 })).room s m [Value.ref (ad 0), Value.int x0, Value.int x1, Value.int x2].toArray below meth c H locs 0 0 (MQ below (va_Qi (fun (r : Int32) (u : Nat → Nat → Int32) => Ir u ∧ Fq v u ∧ (r = 0 ∨ r = 1)) (fun u t => ex_Pst dC dI A (wm ad cy u) t) A) [Value.ref (ad 0), Value.int x0, Value.int x1, Value.int x2].toArray s 0 0 A) (F0 m 36 ls []) := by
      intro n
      induction n with
      | zero =>
        intro y4_4 y4_5 u4 H locs ay4_4 by4_4 ay4_5 by4_5 hi4_0 hi4_1 hm_4 hv hfr hP hD hS ls hl
        exact absurd hm_4 (by omega)
      | succ n ih_4 =>
        intro y4_4 y4_5 u4 H locs ay4_4 by4_4 ay4_5 by4_5 hi4_0 hi4_1 hm_4 hv hfr hP hD hS ls hl
        refine lv_iload hx hb dX8_makeTable_36 (lv_at hl 1 rfl) ?_
        have k_0 : (0 : Int32).toInt = 0 := by decide
        refine lv_if_lt (tgt := 140) hx hb dX8_makeTable_38 (by decide) (fun c_5 => ?_) (fun c_5 => ?_)
        · have tc_5 : y4_4.toInt < (0 : Int32).toInt := Int32.lt_iff_toInt_lt.mp c_5
          refine lv_iload hx hb dX8_makeTable_140 (lv_at hl 1 rfl) ?_
          refine lv_if_lt (tgt := 149) hx hb dX8_makeTable_142 (by decide) (fun c_6 => ?_) (fun c_6 => ?_)
          · have tc_6 : y4_4.toInt < (0 : Int32).toInt := Int32.lt_iff_toInt_lt.mp c_6
            refine lv_iconst (v := 0) hx hb dX8_makeTable_149 (by decide) ?_
            exact W.zret (ty := .boolean) (v := 0) hx hb hr rfl (fun t ht hW => ⟨⟨0, u4, rfl, ⟨hv, hfr, by decide⟩, by rw [ht]; exact hP, hD⟩, hS.F ht⟩) hS.2.2 dX8_makeTable_150
          · have tc_6 : y4_4.toInt ≥ (0 : Int32).toInt := Int32.le_iff_toInt_le.mp (Int32.not_lt.mp c_6)
            exfalso
            omega
        · have tc_5 : y4_4.toInt ≥ (0 : Int32).toInt := Int32.le_iff_toInt_le.mp (Int32.not_lt.mp c_5)
          refine lv_iload hx hb dX8_makeTable_41 (lv_at hl 1 rfl) ?_
          refine lv_iload_n hx hb dX8_makeTable_43 rfl (lv_at hl 5 rfl) ?_
          refine lv_icmp_ge (tgt := 140) hx hb dX8_makeTable_44 (by decide) (fun c_6 => ?_) (fun c_6 => ?_)
          · have tc_6 : y4_4.toInt ≥ x2.toInt := Int32.le_iff_toInt_le.mp c_6
            refine lv_iload hx hb dX8_makeTable_140 (lv_at hl 1 rfl) ?_
            refine lv_if_lt (tgt := 149) hx hb dX8_makeTable_142 (by decide) (fun c_7 => ?_) (fun c_7 => ?_)
            · have tc_7 : y4_4.toInt < (0 : Int32).toInt := Int32.lt_iff_toInt_lt.mp c_7
              exfalso
              omega
            · have tc_7 : y4_4.toInt ≥ (0 : Int32).toInt := Int32.le_iff_toInt_le.mp (Int32.not_lt.mp c_7)
              refine lv_iconst (v := 1) hx hb dX8_makeTable_145 (by decide) ?_
              refine lv_goto (tgt := 150) hx hb dX8_makeTable_146 (by decide) ?_
              exact W.zret (ty := .boolean) (v := 1) hx hb hr rfl (fun t ht hW => ⟨⟨1, u4, rfl, ⟨hv, hfr, by decide⟩, by rw [ht]; exact hP, hD⟩, hS.F ht⟩) hS.2.2 dX8_makeTable_150
          · have tc_6 : y4_4.toInt < x2.toInt := Int32.lt_iff_toInt_lt.mp (Int32.not_le.mp c_6)
            refine lv_aload_n hx hb dX8_makeTable_47 rfl (lv_at hl 2 rfl) ?_
            refine lv_iload_n hx hb dX8_makeTable_48 rfl (lv_at hl 3 rfl) ?_
            refine lv_iload_n hx hb dX8_makeTable_49 rfl (lv_at hl 4 rfl) ?_
            refine lv_iload hx hb dX8_makeTable_50 (lv_at hl 1 rfl) ?_
            refine lv_iload hx hb dX8_makeTable_52 (lv_at hl 0 rfl) ?_
            refine lv_iload_n hx hb dX8_makeTable_54 rfl (lv_at hl 5 rfl) ?_
            refine yw_i (w1 := fun (u : Nat → Nat → Int32) => wm ad cy u) hD hS hA (va_runV (As := [.int x0, .int x1, .int y4_4, .int y4_5, .int x2]) (rest := []) ⟨hx, hb, hml, hown, hts⟩ (q_X8_hourFrom l dC dI cy _ ad u4 hv x0 x1 y4_4 y4_5 x2 ⟨by omega, by omega⟩ ⟨by omega, by omega⟩ ⟨by omega, by omega⟩ ⟨by omega, by omega⟩) (cwV 5 hts gX8_makeTable_X8_hourFrom rfl rfl rfl hd_V_X8_hourFrom_5 ⟨Nat.le_of_ble_eq_true rfl, Nat.le_of_ble_eq_true rfl⟩) (yw_preV hE hK hP hD (ci := 8) (q0 := 0) rfl (wm_at (by decide) rc_0)) rfl rfl hl.1 rfl (lv_room (Nat.le_of_ble_eq_true rfl)) dX8_makeTable_55 ⟨Nat.le_of_ble_eq_true rfl, Nat.le_of_ble_eq_true rfl⟩) (fun r_7 v_7 H locs hw_7 hP hD hS => ?_)
            obtain ⟨hv, hf_7, hw_7⟩ := hw_7
            have hfr : Fq v v_7 := hfr.trans hf_7
            obtain ⟨he_8, hr_8⟩ := hw_7
            refine lv_istore (lv' := [(6, .int r_7), (5, .int y4_5), (4, .int y4_4), (0, .ref (ad 0)), (1, .int x0), (2, .int x1), (3, .int x2)]) hx hb dX8_makeTable_58 hl (by decide) rfl (fun ls hl => ?_)
            refine lv_iload hx hb dX8_makeTable_60 (lv_at hl 0 rfl) ?_
            refine lv_if_lt (tgt := 105) hx hb dX8_makeTable_62 (by decide) (fun c_9 => ?_) (fun c_9 => ?_)
            · have tc_9 : r_7.toInt < (0 : Int32).toInt := Int32.lt_iff_toInt_lt.mp c_9
              refine lv_aload_n hx hb dX8_makeTable_105 rfl (lv_at hl 3 rfl) ?_
              refine lv_iload_n hx hb dX8_makeTable_106 rfl (lv_at hl 4 rfl) ?_
              refine lv_iload_n hx hb dX8_makeTable_107 rfl (lv_at hl 5 rfl) ?_
              refine lv_iload hx hb dX8_makeTable_108 (lv_at hl 2 rfl) ?_
              refine lv_iconst (v := (-1)) hx hb dX8_makeTable_110 (by decide) ?_
              refine lv_iload_n hx hb dX8_makeTable_111 rfl (lv_at hl 6 rfl) ?_
              refine yw_i (w1 := fun (u : Nat → Nat → Int32) => wm ad cy u) hD hS hA (va_runV (As := [.int x0, .int x1, .int y4_4, .int (-1), .int x2]) (rest := []) ⟨hx, hb, hml, hown, hts⟩ (q_X8_next_b l dC dI cy _ ad v_7 hv x0 x1 y4_4 x2 ⟨by omega, by omega⟩ ⟨by omega, by omega⟩ ⟨by omega, by omega⟩) (cwV 5 hts gX8_makeTable_X8_next rfl rfl rfl hd_V_X8_next_5 ⟨Nat.le_of_ble_eq_true rfl, Nat.le_of_ble_eq_true rfl⟩) (yw_preV hE hK hP hD (ci := 8) (q0 := 0) rfl (wm_at (by decide) rc_0)) rfl rfl hl.1 rfl (lv_room (Nat.le_of_ble_eq_true rfl)) dX8_makeTable_112 ⟨Nat.le_of_ble_eq_true rfl, Nat.le_of_ble_eq_true rfl⟩) (fun r_10 v_10 H locs hw_10 hP hD hS => ?_)
              obtain ⟨-, hu_10, hw_10⟩ := hw_10
              replace hu_10 := hu_10.symm
              subst hu_10
              obtain ⟨hn_11, hg_11, hq_11⟩ := hw_10
              rw [hfr.1] at hq_11
              refine lv_istore (lv' := [(4, .int r_10), (6, .int r_7), (5, .int y4_5), (0, .ref (ad 0)), (1, .int x0), (2, .int x1), (3, .int x2)]) hx hb dX8_makeTable_115 hl (by decide) rfl (fun ls hl => ?_)
              refine lv_iload hx hb dX8_makeTable_117 (lv_at hl 0 rfl) ?_
              refine lv_if_ge (tgt := 126) hx hb dX8_makeTable_119 (by decide) (fun c_12 => ?_) (fun c_12 => ?_)
              · have tc_12 : r_10.toInt ≥ (0 : Int32).toInt := Int32.le_iff_toInt_le.mp c_12
                refine lv_aload_n hx hb dX8_makeTable_126 rfl (lv_at hl 3 rfl) ?_
                refine va_get (D := (dC, dI)) (ci := 8) (v := .ref (ad 7)) (C := RX8) (T := TX8) (N := 11) hx hb hts iwX8_makeTable_X8 hown hK hP (0) (wm_at (by decide) rc_0) rfl 10 (by decide) (hts (.fieldLink RX8 32 "QuietStairsModel" "hours" "[I") fwX8_makeTable_2) (fun _ h9 => h9) rfl dX8_makeTable_127 ?_
                refine lv_iload hx hb dX8_makeTable_130 (lv_at hl 0 rfl) ?_
                refine va_iald hx hb hK hP (7) 0 (wm_at (by decide) rc_7) rfl (vp_in_iff.mpr ⟨by omega, by omega⟩) dX8_makeTable_132 ?_
                refine lv_topi (fun x_13 ex_13 => ?_)
                have bzx_13 : 0 ≤ x_13.toInt ∧ x_13.toInt ≤ 23 := by rw [ex_13, he_8 _ (nn (by omega) (by omega) (by omega))]; exact hi4_0 _ (by have z1 := t_nn (x := r_10) (by omega); omega) (hq_11 (by omega))
                refine lv_iconst (v := 1) hx hb dX8_makeTable_133 (by decide) ?_
                refine lv_iadd hx hb dX8_makeTable_134 ?_
                refine lv_topi (fun x_14 ex_14 => ?_)
                have tx_14 : x_14.toInt = x_13.toInt + (1 : Int32).toInt := by rw [ex_14]; exact t_add ⟨by omega, by omega⟩
                refine lv_istore (lv' := [(5, .int x_14), (4, .int r_10), (6, .int r_7), (0, .ref (ad 0)), (1, .int x0), (2, .int x1), (3, .int x2)]) hx hb dX8_makeTable_135 hl (by decide) rfl (fun ls hl => ?_)
                refine lv_goto (tgt := 36) hx hb dX8_makeTable_137 (by decide) ?_
                exact ih_4 r_10 x_14 v_7 _ _ (by omega) (by omega) (by omega) (by omega) ((mt_b (s := v 1) (B := (158 + 25 * x0.toNatClampNeg)) (sd := x1) (h := u4 7) (h' := v_7 7) (t := y4_4) (t' := r_10) (f := y4_5) (f' := x_14) ⟨by omega, by omega⟩ ⟨by omega, by omega⟩ ⟨by omega, by omega⟩ he_8 hq_11 (Or.inr ⟨by omega, by rw [← ex_13]; omega⟩) hi4_0).1) (by omega) (by have z1 := (mt_b (s := v 1) (B := (158 + 25 * x0.toNatClampNeg)) (sd := x1) (h := u4 7) (h' := v_7 7) (t := y4_4) (t' := r_10) (f := y4_5) (f' := x_14) ⟨by omega, by omega⟩ ⟨by omega, by omega⟩ ⟨by omega, by omega⟩ he_8 hq_11 (Or.inr ⟨by omega, by rw [← ex_13]; omega⟩) hi4_0).2; omega) hv hfr hP hD hS ls (lv_sub hl [0, 1, 3, 4, 5, 6] rfl)
              · have tc_12 : r_10.toInt < (0 : Int32).toInt := Int32.lt_iff_toInt_lt.mp (Int32.not_le.mp c_12)
                refine lv_iconst (v := 0) hx hb dX8_makeTable_122 (by decide) ?_
                refine lv_goto (tgt := 135) hx hb dX8_makeTable_123 (by decide) ?_
                refine lv_istore (lv' := [(5, .int 0), (4, .int r_10), (6, .int r_7), (0, .ref (ad 0)), (1, .int x0), (2, .int x1), (3, .int x2)]) hx hb dX8_makeTable_135 hl (by decide) rfl (fun ls hl => ?_)
                refine lv_goto (tgt := 36) hx hb dX8_makeTable_137 (by decide) ?_
                exact ih_4 r_10 0 v_7 _ _ (by omega) (by omega) (by omega) (by omega) ((mt_b (s := v 1) (B := (158 + 25 * x0.toNatClampNeg)) (sd := x1) (h := u4 7) (h' := v_7 7) (t := y4_4) (t' := r_10) (f := y4_5) (f' := (0 : Int32)) ⟨by omega, by omega⟩ ⟨by omega, by omega⟩ ⟨by omega, by omega⟩ he_8 hq_11 (Or.inl ⟨by omega, by omega⟩) hi4_0).1) (by omega) (by have z1 := (mt_b (s := v 1) (B := (158 + 25 * x0.toNatClampNeg)) (sd := x1) (h := u4 7) (h' := v_7 7) (t := y4_4) (t' := r_10) (f := y4_5) (f' := (0 : Int32)) ⟨by omega, by omega⟩ ⟨by omega, by omega⟩ ⟨by omega, by omega⟩ he_8 hq_11 (Or.inl ⟨by omega, by omega⟩) hi4_0).2; omega) hv hfr hP hD hS ls (lv_sub hl [0, 1, 3, 4, 5, 6] rfl)
            · have tc_9 : r_7.toInt ≥ (0 : Int32).toInt := Int32.le_iff_toInt_le.mp (Int32.not_lt.mp c_9)
              refine lv_aload_n hx hb dX8_makeTable_65 rfl (lv_at hl 3 rfl) ?_
              refine lv_iload_n hx hb dX8_makeTable_66 rfl (lv_at hl 4 rfl) ?_
              refine lv_iload_n hx hb dX8_makeTable_67 rfl (lv_at hl 5 rfl) ?_
              refine lv_iload hx hb dX8_makeTable_68 (lv_at hl 2 rfl) ?_
              refine lv_iconst (v := 1) hx hb dX8_makeTable_70 (by decide) ?_
              refine lv_iload_n hx hb dX8_makeTable_71 rfl (lv_at hl 6 rfl) ?_
              refine yw_i (w1 := fun (u : Nat → Nat → Int32) => wm ad cy u) hD hS hA (va_runV (As := [.int x0, .int x1, .int y4_4, .int 1, .int x2]) (rest := []) ⟨hx, hb, hml, hown, hts⟩ (q_X8_next_f l dC dI cy _ ad v_7 hv x0 x1 y4_4 x2 ⟨by omega, by omega⟩ ⟨by omega, by omega⟩ ⟨by omega, by omega⟩) (cwV 5 hts gX8_makeTable_X8_next rfl rfl rfl hd_V_X8_next_5 ⟨Nat.le_of_ble_eq_true rfl, Nat.le_of_ble_eq_true rfl⟩) (yw_preV hE hK hP hD (ci := 8) (q0 := 0) rfl (wm_at (by decide) rc_0)) rfl rfl hl.1 rfl (lv_room (Nat.le_of_ble_eq_true rfl)) dX8_makeTable_72 ⟨Nat.le_of_ble_eq_true rfl, Nat.le_of_ble_eq_true rfl⟩) (fun r_10 v_10 H locs hw_10 hP hD hS => ?_)
              obtain ⟨-, hu_10, hw_10⟩ := hw_10
              replace hu_10 := hu_10.symm
              subst hu_10
              obtain ⟨hn_11, hg_11, hq_11⟩ := hw_10
              rw [hfr.1] at hq_11
              refine lv_istore (lv' := [(4, .int r_10), (6, .int r_7), (5, .int y4_5), (0, .ref (ad 0)), (1, .int x0), (2, .int x1), (3, .int x2)]) hx hb dX8_makeTable_75 hl (by decide) rfl (fun ls hl => ?_)
              refine lv_iload hx hb dX8_makeTable_77 (lv_at hl 0 rfl) ?_
              refine lv_iload_n hx hb dX8_makeTable_79 rfl (lv_at hl 6 rfl) ?_
              refine lv_icmp_ge (tgt := 99) hx hb dX8_makeTable_80 (by decide) (fun c_12 => ?_) (fun c_12 => ?_)
              · have tc_12 : r_10.toInt ≥ x2.toInt := Int32.le_iff_toInt_le.mp c_12
                refine lv_iconst (v := 0) hx hb dX8_makeTable_99 (by decide) ?_
                refine lv_istore (lv' := [(5, .int 0), (4, .int r_10), (6, .int r_7), (0, .ref (ad 0)), (1, .int x0), (2, .int x1), (3, .int x2)]) hx hb dX8_makeTable_100 hl (by decide) rfl (fun ls hl => ?_)
                refine lv_goto (tgt := 137) hx hb dX8_makeTable_102 (by decide) ?_
                refine lv_goto (tgt := 36) hx hb dX8_makeTable_137 (by decide) ?_
                exact ih_4 r_10 0 v_7 _ _ (by omega) (by omega) (by omega) (by omega) ((mt_f (s := v 1) (B := (158 + 25 * x0.toNatClampNeg)) (sd := x1) (h := u4 7) (h' := v_7 7) (t := y4_4) (t' := r_10) (f := y4_5) (f' := (0 : Int32)) (r := r_7) ⟨by omega, by omega⟩ ⟨by omega, by omega⟩ ⟨by omega, by omega⟩ (by omega) ⟨by omega, by omega⟩ he_8 (by omega) hq_11 hi4_0).1) (by omega) (by have z1 := (mt_f (s := v 1) (B := (158 + 25 * x0.toNatClampNeg)) (sd := x1) (h := u4 7) (h' := v_7 7) (t := y4_4) (t' := r_10) (f := y4_5) (f' := (0 : Int32)) (r := r_7) ⟨by omega, by omega⟩ ⟨by omega, by omega⟩ ⟨by omega, by omega⟩ (by omega) ⟨by omega, by omega⟩ he_8 (by omega) hq_11 hi4_0).2; omega) hv hfr hP hD hS ls (lv_sub hl [0, 1, 3, 4, 5, 6] rfl)
              · have tc_12 : r_10.toInt < x2.toInt := Int32.lt_iff_toInt_lt.mp (Int32.not_le.mp c_12)
                refine lv_aload_n hx hb dX8_makeTable_83 rfl (lv_at hl 3 rfl) ?_
                refine va_get (D := (dC, dI)) (ci := 8) (v := .ref (ad 1)) (C := RX8) (T := TX8) (N := 11) hx hb hts iwX8_makeTable_X8 hown hK hP (0) (wm_at (by decide) rc_0) rfl 0 (by decide) (hts (.fieldLink RX8 7 "QuietStairsModel" "s" "[I") fwX8_makeTable_1) (fun _ h9 => h9) rfl dX8_makeTable_84 ?_
                refine lv_iload_n hx hb dX8_makeTable_87 rfl (lv_at hl 4 rfl) ?_
                refine lv_iload hx hb dX8_makeTable_88 (lv_at hl 0 rfl) ?_
                refine yc_p hP hS (va_runS (As := [.int x0, .int r_10]) (rest := [.ref (ad 1)]) ⟨hx, hb, hml, hown, hts⟩ (c_X8_termAt l x0 r_10) (cwS 2 hts gX8_makeTable_X8_termAt rfl rfl rfl hd_S_X8_termAt_2 ⟨Nat.le_of_ble_eq_true rfl, Nat.le_of_ble_eq_true rfl⟩) ex_preP rfl rfl hl.1 rfl (lv_room (Nat.le_of_ble_eq_true rfl)) dX8_makeTable_90 ⟨Nat.le_of_ble_eq_true rfl, Nat.le_of_ble_eq_true rfl⟩) (fun r_13 H locs hw_13 hP hS => ?_)
                have tr_13 : r_13.toInt = 158 + 25 * x0.toInt + 5 * r_10.toInt := t_tm hw_13 ⟨by omega, by omega⟩ ⟨by omega, by omega⟩
                refine lv_iconst (v := 3) hx hb dX8_makeTable_93 (by decide) ?_
                refine lv_iadd hx hb dX8_makeTable_94 ?_
                refine lv_topi (fun x_14 ex_14 => ?_)
                have k_3 : (3 : Int32).toInt = 3 := by decide
                have tx_14 : x_14.toInt = r_13.toInt + (3 : Int32).toInt := by rw [ex_14]; exact t_add ⟨by omega, by omega⟩
                refine va_iald hx hb hK hP (1) 0 (wm_at (by decide) rc_1) rfl (vp_in_iff.mpr ⟨by omega, by omega⟩) dX8_makeTable_95 ?_
                refine lv_topi (fun x_15 ex_15 => ?_)
                have bzx_15 : 0 ≤ x_15.toInt ∧ x_15.toInt ≤ 23 := by rw [ex_15]; exact hv 1 _ 23 (bx_t3 (i := 5 * x0.toInt + r_10.toInt) (s := 3) (by omega) ⟨by omega, by omega⟩ (by omega))
                refine lv_goto (tgt := 100) hx hb dX8_makeTable_96 (by decide) ?_
                refine lv_istore (lv' := [(5, .int x_15), (4, .int r_10), (6, .int r_7), (0, .ref (ad 0)), (1, .int x0), (2, .int x1), (3, .int x2)]) hx hb dX8_makeTable_100 hl (by decide) rfl (fun ls hl => ?_)
                refine lv_goto (tgt := 137) hx hb dX8_makeTable_102 (by decide) ?_
                refine lv_goto (tgt := 36) hx hb dX8_makeTable_137 (by decide) ?_
                exact ih_4 r_10 x_15 v_7 _ _ (by omega) (by omega) (by omega) (by omega) ((mt_f (s := v 1) (B := (158 + 25 * x0.toNatClampNeg)) (sd := x1) (h := u4 7) (h' := v_7 7) (t := y4_4) (t' := r_10) (f := y4_5) (f' := x_15) (r := r_7) ⟨by omega, by omega⟩ ⟨by omega, by omega⟩ ⟨by omega, by omega⟩ (by omega) ⟨by omega, by omega⟩ he_8 (by omega) hq_11 hi4_0).1) (by omega) (by have z1 := (mt_f (s := v 1) (B := (158 + 25 * x0.toNatClampNeg)) (sd := x1) (h := u4 7) (h' := v_7 7) (t := y4_4) (t' := r_10) (f := y4_5) (f' := x_15) (r := r_7) ⟨by omega, by omega⟩ ⟨by omega, by omega⟩ ⟨by omega, by omega⟩ (by omega) ⟨by omega, by omega⟩ he_8 (by omega) hq_11 hi4_0).2; omega) hv hfr hP hD hS ls (lv_sub hl [0, 1, 3, 4, 5, 6] rfl)
    have k_0 : (0 : Int32).toInt = 0 := by decide
    exact hc_4 ((mt (dg (v 1) (158 + 25 * x0.toNatClampNeg) x1 (v 7)) r_1.toInt (0 : Int32).toInt).toNat + 1) r_1 0 v _ _ (by omega) (by omega) (by omega) (by omega) (fun i h1 h2 => absurd h2 (hq_2 i (by omega) h1)) (by omega) (by omega) hv hfr hP hD hS ls (lv_sub hl [0, 1, 2, 3, 4, 5] rfl)
  · have tc_3 : r_1.toInt < x2.toInt := Int32.lt_iff_toInt_lt.mp (Int32.not_le.mp c_3)
    refine lv_aload_n hx hb dX8_makeTable_17 rfl (lv_at hl 1 rfl) ?_
    refine va_get (D := (dC, dI)) (ci := 8) (v := .ref (ad 1)) (C := RX8) (T := TX8) (N := 11) hx hb hts iwX8_makeTable_X8 hown hK hP (0) (wm_at (by decide) rc_0) rfl 0 (by decide) (hts (.fieldLink RX8 7 "QuietStairsModel" "s" "[I") fwX8_makeTable_1) (fun _ h9 => h9) rfl dX8_makeTable_18 ?_
    refine lv_iload_n hx hb dX8_makeTable_21 rfl (lv_at hl 2 rfl) ?_
    refine lv_iload hx hb dX8_makeTable_22 (lv_at hl 0 rfl) ?_
    refine yc_p hP hS (va_runS (As := [.int x0, .int r_1]) (rest := [.ref (ad 1)]) ⟨hx, hb, hml, hown, hts⟩ (c_X8_termAt l x0 r_1) (cwS 2 hts gX8_makeTable_X8_termAt rfl rfl rfl hd_S_X8_termAt_2 ⟨Nat.le_of_ble_eq_true rfl, Nat.le_of_ble_eq_true rfl⟩) ex_preP rfl rfl hl.1 rfl (lv_room (Nat.le_of_ble_eq_true rfl)) dX8_makeTable_24 ⟨Nat.le_of_ble_eq_true rfl, Nat.le_of_ble_eq_true rfl⟩) (fun r_4 H locs hw_4 hP hS => ?_)
    have tr_4 : r_4.toInt = 158 + 25 * x0.toInt + 5 * r_1.toInt := t_tm hw_4 ⟨by omega, by omega⟩ ⟨by omega, by omega⟩
    refine lv_iconst (v := 3) hx hb dX8_makeTable_27 (by decide) ?_
    refine lv_iadd hx hb dX8_makeTable_28 ?_
    refine lv_topi (fun x_5 ex_5 => ?_)
    have k_3 : (3 : Int32).toInt = 3 := by decide
    have tx_5 : x_5.toInt = r_4.toInt + (3 : Int32).toInt := by rw [ex_5]; exact t_add ⟨by omega, by omega⟩
    refine va_iald hx hb hK hP (1) 0 (wm_at (by decide) rc_1) rfl (vp_in_iff.mpr ⟨by omega, by omega⟩) dX8_makeTable_29 ?_
    refine lv_topi (fun x_6 ex_6 => ?_)
    have bzx_6 : 0 ≤ x_6.toInt ∧ x_6.toInt ≤ 23 := by rw [ex_6]; exact hv 1 _ 23 (bx_t3 (i := 5 * x0.toInt + r_1.toInt) (s := 3) (by omega) ⟨by omega, by omega⟩ (by omega))
    refine lv_goto (tgt := 34) hx hb dX8_makeTable_30 (by decide) ?_
    refine lv_istore (lv' := [(5, .int x_6), (4, .int r_1), (0, .ref (ad 0)), (1, .int x0), (2, .int x1), (3, .int x2)]) hx hb dX8_makeTable_34 hl (by decide) rfl (fun ls hl => ?_)
    have hc_7 : ∀ (n : Nat) (y7_4 y7_5 : Int32) (u7 : Nat → Nat → Int32) (H : Heap) (locs : List Loc), -1 ≤ y7_4.toInt → y7_4.toInt ≤ 5 → 0 ≤ y7_5.toInt → y7_5.toInt ≤ 24 → (∀ i : Nat, (i : Int) < y7_4.toInt → ow (v 1) (158 + 25 * x0.toNatClampNeg) x1 i → 0 ≤ (u7 7 i).toInt ∧ (u7 7 i).toInt ≤ 23) → (y7_4.toInt ≤ x2.toInt) → (mt (dg (v 1) (158 + 25 * x0.toNatClampNeg) x1 (u7 7)) y7_4.toInt y7_5.toInt).toNat < n → Ir u7 → Fq v u7 → va_P (dC, dI) vwCl (wm ad cy u7) H → va_D A (wm ad cy u7) → va_S A s.heap H locs → ∀ ls : Array Slot, lv_has ls 7 [(5, .int y7_5), (4, .int y7_4), (0, .ref (ad 0)), (1, .int x0), (2, .int x1), (3, .int x2)] → W p l e (headSpec wsX8_makeTable ({ frames := 3, cells := 0, slots := 0, locals := 192 })).room s m [Value.ref (ad 0), Value.int x0, Value.int x1, Value.int x2].toArray below meth c H locs 0 0 (MQ below (va_Qi (fun (r : Int32) (u : Nat → Nat → Int32) => Ir u ∧ Fq v u ∧ (r = 0 ∨ r = 1)) (fun u t => ex_Pst dC dI A (wm ad cy u) t) A) [Value.ref (ad 0), Value.int x0, Value.int x1, Value.int x2].toArray s 0 0 A) (F0 m 36 ls []) := by
      intro n
      induction n with
      | zero =>
        intro y7_4 y7_5 u7 H locs ay7_4 by7_4 ay7_5 by7_5 hi7_0 hi7_1 hm_7 hv hfr hP hD hS ls hl
        exact absurd hm_7 (by omega)
      | succ n ih_7 =>
        intro y7_4 y7_5 u7 H locs ay7_4 by7_4 ay7_5 by7_5 hi7_0 hi7_1 hm_7 hv hfr hP hD hS ls hl
        refine lv_iload hx hb dX8_makeTable_36 (lv_at hl 1 rfl) ?_
        have k_0 : (0 : Int32).toInt = 0 := by decide
        refine lv_if_lt (tgt := 140) hx hb dX8_makeTable_38 (by decide) (fun c_8 => ?_) (fun c_8 => ?_)
        · have tc_8 : y7_4.toInt < (0 : Int32).toInt := Int32.lt_iff_toInt_lt.mp c_8
          refine lv_iload hx hb dX8_makeTable_140 (lv_at hl 1 rfl) ?_
          refine lv_if_lt (tgt := 149) hx hb dX8_makeTable_142 (by decide) (fun c_9 => ?_) (fun c_9 => ?_)
          · have tc_9 : y7_4.toInt < (0 : Int32).toInt := Int32.lt_iff_toInt_lt.mp c_9
            refine lv_iconst (v := 0) hx hb dX8_makeTable_149 (by decide) ?_
            exact W.zret (ty := .boolean) (v := 0) hx hb hr rfl (fun t ht hW => ⟨⟨0, u7, rfl, ⟨hv, hfr, by decide⟩, by rw [ht]; exact hP, hD⟩, hS.F ht⟩) hS.2.2 dX8_makeTable_150
          · have tc_9 : y7_4.toInt ≥ (0 : Int32).toInt := Int32.le_iff_toInt_le.mp (Int32.not_lt.mp c_9)
            exfalso
            omega
        · have tc_8 : y7_4.toInt ≥ (0 : Int32).toInt := Int32.le_iff_toInt_le.mp (Int32.not_lt.mp c_8)
          refine lv_iload hx hb dX8_makeTable_41 (lv_at hl 1 rfl) ?_
          refine lv_iload_n hx hb dX8_makeTable_43 rfl (lv_at hl 5 rfl) ?_
          refine lv_icmp_ge (tgt := 140) hx hb dX8_makeTable_44 (by decide) (fun c_9 => ?_) (fun c_9 => ?_)
          · have tc_9 : y7_4.toInt ≥ x2.toInt := Int32.le_iff_toInt_le.mp c_9
            refine lv_iload hx hb dX8_makeTable_140 (lv_at hl 1 rfl) ?_
            refine lv_if_lt (tgt := 149) hx hb dX8_makeTable_142 (by decide) (fun c_10 => ?_) (fun c_10 => ?_)
            · have tc_10 : y7_4.toInt < (0 : Int32).toInt := Int32.lt_iff_toInt_lt.mp c_10
              exfalso
              omega
            · have tc_10 : y7_4.toInt ≥ (0 : Int32).toInt := Int32.le_iff_toInt_le.mp (Int32.not_lt.mp c_10)
              refine lv_iconst (v := 1) hx hb dX8_makeTable_145 (by decide) ?_
              refine lv_goto (tgt := 150) hx hb dX8_makeTable_146 (by decide) ?_
              exact W.zret (ty := .boolean) (v := 1) hx hb hr rfl (fun t ht hW => ⟨⟨1, u7, rfl, ⟨hv, hfr, by decide⟩, by rw [ht]; exact hP, hD⟩, hS.F ht⟩) hS.2.2 dX8_makeTable_150
          · have tc_9 : y7_4.toInt < x2.toInt := Int32.lt_iff_toInt_lt.mp (Int32.not_le.mp c_9)
            refine lv_aload_n hx hb dX8_makeTable_47 rfl (lv_at hl 2 rfl) ?_
            refine lv_iload_n hx hb dX8_makeTable_48 rfl (lv_at hl 3 rfl) ?_
            refine lv_iload_n hx hb dX8_makeTable_49 rfl (lv_at hl 4 rfl) ?_
            refine lv_iload hx hb dX8_makeTable_50 (lv_at hl 1 rfl) ?_
            refine lv_iload hx hb dX8_makeTable_52 (lv_at hl 0 rfl) ?_
            refine lv_iload_n hx hb dX8_makeTable_54 rfl (lv_at hl 5 rfl) ?_
            refine yw_i (w1 := fun (u : Nat → Nat → Int32) => wm ad cy u) hD hS hA (va_runV (As := [.int x0, .int x1, .int y7_4, .int y7_5, .int x2]) (rest := []) ⟨hx, hb, hml, hown, hts⟩ (q_X8_hourFrom l dC dI cy _ ad u7 hv x0 x1 y7_4 y7_5 x2 ⟨by omega, by omega⟩ ⟨by omega, by omega⟩ ⟨by omega, by omega⟩ ⟨by omega, by omega⟩) (cwV 5 hts gX8_makeTable_X8_hourFrom rfl rfl rfl hd_V_X8_hourFrom_5 ⟨Nat.le_of_ble_eq_true rfl, Nat.le_of_ble_eq_true rfl⟩) (yw_preV hE hK hP hD (ci := 8) (q0 := 0) rfl (wm_at (by decide) rc_0)) rfl rfl hl.1 rfl (lv_room (Nat.le_of_ble_eq_true rfl)) dX8_makeTable_55 ⟨Nat.le_of_ble_eq_true rfl, Nat.le_of_ble_eq_true rfl⟩) (fun r_10 v_10 H locs hw_10 hP hD hS => ?_)
            obtain ⟨hv, hf_10, hw_10⟩ := hw_10
            have hfr : Fq v v_10 := hfr.trans hf_10
            obtain ⟨he_11, hr_11⟩ := hw_10
            refine lv_istore (lv' := [(6, .int r_10), (5, .int y7_5), (4, .int y7_4), (0, .ref (ad 0)), (1, .int x0), (2, .int x1), (3, .int x2)]) hx hb dX8_makeTable_58 hl (by decide) rfl (fun ls hl => ?_)
            refine lv_iload hx hb dX8_makeTable_60 (lv_at hl 0 rfl) ?_
            refine lv_if_lt (tgt := 105) hx hb dX8_makeTable_62 (by decide) (fun c_12 => ?_) (fun c_12 => ?_)
            · have tc_12 : r_10.toInt < (0 : Int32).toInt := Int32.lt_iff_toInt_lt.mp c_12
              refine lv_aload_n hx hb dX8_makeTable_105 rfl (lv_at hl 3 rfl) ?_
              refine lv_iload_n hx hb dX8_makeTable_106 rfl (lv_at hl 4 rfl) ?_
              refine lv_iload_n hx hb dX8_makeTable_107 rfl (lv_at hl 5 rfl) ?_
              refine lv_iload hx hb dX8_makeTable_108 (lv_at hl 2 rfl) ?_
              refine lv_iconst (v := (-1)) hx hb dX8_makeTable_110 (by decide) ?_
              refine lv_iload_n hx hb dX8_makeTable_111 rfl (lv_at hl 6 rfl) ?_
              refine yw_i (w1 := fun (u : Nat → Nat → Int32) => wm ad cy u) hD hS hA (va_runV (As := [.int x0, .int x1, .int y7_4, .int (-1), .int x2]) (rest := []) ⟨hx, hb, hml, hown, hts⟩ (q_X8_next_b l dC dI cy _ ad v_10 hv x0 x1 y7_4 x2 ⟨by omega, by omega⟩ ⟨by omega, by omega⟩ ⟨by omega, by omega⟩) (cwV 5 hts gX8_makeTable_X8_next rfl rfl rfl hd_V_X8_next_5 ⟨Nat.le_of_ble_eq_true rfl, Nat.le_of_ble_eq_true rfl⟩) (yw_preV hE hK hP hD (ci := 8) (q0 := 0) rfl (wm_at (by decide) rc_0)) rfl rfl hl.1 rfl (lv_room (Nat.le_of_ble_eq_true rfl)) dX8_makeTable_112 ⟨Nat.le_of_ble_eq_true rfl, Nat.le_of_ble_eq_true rfl⟩) (fun r_13 v_13 H locs hw_13 hP hD hS => ?_)
              obtain ⟨-, hu_13, hw_13⟩ := hw_13
              replace hu_13 := hu_13.symm
              subst hu_13
              obtain ⟨hn_14, hg_14, hq_14⟩ := hw_13
              rw [hfr.1] at hq_14
              refine lv_istore (lv' := [(4, .int r_13), (6, .int r_10), (5, .int y7_5), (0, .ref (ad 0)), (1, .int x0), (2, .int x1), (3, .int x2)]) hx hb dX8_makeTable_115 hl (by decide) rfl (fun ls hl => ?_)
              refine lv_iload hx hb dX8_makeTable_117 (lv_at hl 0 rfl) ?_
              refine lv_if_ge (tgt := 126) hx hb dX8_makeTable_119 (by decide) (fun c_15 => ?_) (fun c_15 => ?_)
              · have tc_15 : r_13.toInt ≥ (0 : Int32).toInt := Int32.le_iff_toInt_le.mp c_15
                refine lv_aload_n hx hb dX8_makeTable_126 rfl (lv_at hl 3 rfl) ?_
                refine va_get (D := (dC, dI)) (ci := 8) (v := .ref (ad 7)) (C := RX8) (T := TX8) (N := 11) hx hb hts iwX8_makeTable_X8 hown hK hP (0) (wm_at (by decide) rc_0) rfl 10 (by decide) (hts (.fieldLink RX8 32 "QuietStairsModel" "hours" "[I") fwX8_makeTable_2) (fun _ h9 => h9) rfl dX8_makeTable_127 ?_
                refine lv_iload hx hb dX8_makeTable_130 (lv_at hl 0 rfl) ?_
                refine va_iald hx hb hK hP (7) 0 (wm_at (by decide) rc_7) rfl (vp_in_iff.mpr ⟨by omega, by omega⟩) dX8_makeTable_132 ?_
                refine lv_topi (fun x_16 ex_16 => ?_)
                have bzx_16 : 0 ≤ x_16.toInt ∧ x_16.toInt ≤ 23 := by rw [ex_16, he_11 _ (nn (by omega) (by omega) (by omega))]; exact hi7_0 _ (by have z1 := t_nn (x := r_13) (by omega); omega) (hq_14 (by omega))
                refine lv_iconst (v := 1) hx hb dX8_makeTable_133 (by decide) ?_
                refine lv_iadd hx hb dX8_makeTable_134 ?_
                refine lv_topi (fun x_17 ex_17 => ?_)
                have tx_17 : x_17.toInt = x_16.toInt + (1 : Int32).toInt := by rw [ex_17]; exact t_add ⟨by omega, by omega⟩
                refine lv_istore (lv' := [(5, .int x_17), (4, .int r_13), (6, .int r_10), (0, .ref (ad 0)), (1, .int x0), (2, .int x1), (3, .int x2)]) hx hb dX8_makeTable_135 hl (by decide) rfl (fun ls hl => ?_)
                refine lv_goto (tgt := 36) hx hb dX8_makeTable_137 (by decide) ?_
                exact ih_7 r_13 x_17 v_10 _ _ (by omega) (by omega) (by omega) (by omega) ((mt_b (s := v 1) (B := (158 + 25 * x0.toNatClampNeg)) (sd := x1) (h := u7 7) (h' := v_10 7) (t := y7_4) (t' := r_13) (f := y7_5) (f' := x_17) ⟨by omega, by omega⟩ ⟨by omega, by omega⟩ ⟨by omega, by omega⟩ he_11 hq_14 (Or.inr ⟨by omega, by rw [← ex_16]; omega⟩) hi7_0).1) (by omega) (by have z1 := (mt_b (s := v 1) (B := (158 + 25 * x0.toNatClampNeg)) (sd := x1) (h := u7 7) (h' := v_10 7) (t := y7_4) (t' := r_13) (f := y7_5) (f' := x_17) ⟨by omega, by omega⟩ ⟨by omega, by omega⟩ ⟨by omega, by omega⟩ he_11 hq_14 (Or.inr ⟨by omega, by rw [← ex_16]; omega⟩) hi7_0).2; omega) hv hfr hP hD hS ls (lv_sub hl [0, 1, 3, 4, 5, 6] rfl)
              · have tc_15 : r_13.toInt < (0 : Int32).toInt := Int32.lt_iff_toInt_lt.mp (Int32.not_le.mp c_15)
                refine lv_iconst (v := 0) hx hb dX8_makeTable_122 (by decide) ?_
                refine lv_goto (tgt := 135) hx hb dX8_makeTable_123 (by decide) ?_
                refine lv_istore (lv' := [(5, .int 0), (4, .int r_13), (6, .int r_10), (0, .ref (ad 0)), (1, .int x0), (2, .int x1), (3, .int x2)]) hx hb dX8_makeTable_135 hl (by decide) rfl (fun ls hl => ?_)
                refine lv_goto (tgt := 36) hx hb dX8_makeTable_137 (by decide) ?_
                exact ih_7 r_13 0 v_10 _ _ (by omega) (by omega) (by omega) (by omega) ((mt_b (s := v 1) (B := (158 + 25 * x0.toNatClampNeg)) (sd := x1) (h := u7 7) (h' := v_10 7) (t := y7_4) (t' := r_13) (f := y7_5) (f' := (0 : Int32)) ⟨by omega, by omega⟩ ⟨by omega, by omega⟩ ⟨by omega, by omega⟩ he_11 hq_14 (Or.inl ⟨by omega, by omega⟩) hi7_0).1) (by omega) (by have z1 := (mt_b (s := v 1) (B := (158 + 25 * x0.toNatClampNeg)) (sd := x1) (h := u7 7) (h' := v_10 7) (t := y7_4) (t' := r_13) (f := y7_5) (f' := (0 : Int32)) ⟨by omega, by omega⟩ ⟨by omega, by omega⟩ ⟨by omega, by omega⟩ he_11 hq_14 (Or.inl ⟨by omega, by omega⟩) hi7_0).2; omega) hv hfr hP hD hS ls (lv_sub hl [0, 1, 3, 4, 5, 6] rfl)
            · have tc_12 : r_10.toInt ≥ (0 : Int32).toInt := Int32.le_iff_toInt_le.mp (Int32.not_lt.mp c_12)
              refine lv_aload_n hx hb dX8_makeTable_65 rfl (lv_at hl 3 rfl) ?_
              refine lv_iload_n hx hb dX8_makeTable_66 rfl (lv_at hl 4 rfl) ?_
              refine lv_iload_n hx hb dX8_makeTable_67 rfl (lv_at hl 5 rfl) ?_
              refine lv_iload hx hb dX8_makeTable_68 (lv_at hl 2 rfl) ?_
              refine lv_iconst (v := 1) hx hb dX8_makeTable_70 (by decide) ?_
              refine lv_iload_n hx hb dX8_makeTable_71 rfl (lv_at hl 6 rfl) ?_
              refine yw_i (w1 := fun (u : Nat → Nat → Int32) => wm ad cy u) hD hS hA (va_runV (As := [.int x0, .int x1, .int y7_4, .int 1, .int x2]) (rest := []) ⟨hx, hb, hml, hown, hts⟩ (q_X8_next_f l dC dI cy _ ad v_10 hv x0 x1 y7_4 x2 ⟨by omega, by omega⟩ ⟨by omega, by omega⟩ ⟨by omega, by omega⟩) (cwV 5 hts gX8_makeTable_X8_next rfl rfl rfl hd_V_X8_next_5 ⟨Nat.le_of_ble_eq_true rfl, Nat.le_of_ble_eq_true rfl⟩) (yw_preV hE hK hP hD (ci := 8) (q0 := 0) rfl (wm_at (by decide) rc_0)) rfl rfl hl.1 rfl (lv_room (Nat.le_of_ble_eq_true rfl)) dX8_makeTable_72 ⟨Nat.le_of_ble_eq_true rfl, Nat.le_of_ble_eq_true rfl⟩) (fun r_13 v_13 H locs hw_13 hP hD hS => ?_)
              obtain ⟨-, hu_13, hw_13⟩ := hw_13
              replace hu_13 := hu_13.symm
              subst hu_13
              obtain ⟨hn_14, hg_14, hq_14⟩ := hw_13
              rw [hfr.1] at hq_14
              refine lv_istore (lv' := [(4, .int r_13), (6, .int r_10), (5, .int y7_5), (0, .ref (ad 0)), (1, .int x0), (2, .int x1), (3, .int x2)]) hx hb dX8_makeTable_75 hl (by decide) rfl (fun ls hl => ?_)
              refine lv_iload hx hb dX8_makeTable_77 (lv_at hl 0 rfl) ?_
              refine lv_iload_n hx hb dX8_makeTable_79 rfl (lv_at hl 6 rfl) ?_
              refine lv_icmp_ge (tgt := 99) hx hb dX8_makeTable_80 (by decide) (fun c_15 => ?_) (fun c_15 => ?_)
              · have tc_15 : r_13.toInt ≥ x2.toInt := Int32.le_iff_toInt_le.mp c_15
                refine lv_iconst (v := 0) hx hb dX8_makeTable_99 (by decide) ?_
                refine lv_istore (lv' := [(5, .int 0), (4, .int r_13), (6, .int r_10), (0, .ref (ad 0)), (1, .int x0), (2, .int x1), (3, .int x2)]) hx hb dX8_makeTable_100 hl (by decide) rfl (fun ls hl => ?_)
                refine lv_goto (tgt := 137) hx hb dX8_makeTable_102 (by decide) ?_
                refine lv_goto (tgt := 36) hx hb dX8_makeTable_137 (by decide) ?_
                exact ih_7 r_13 0 v_10 _ _ (by omega) (by omega) (by omega) (by omega) ((mt_f (s := v 1) (B := (158 + 25 * x0.toNatClampNeg)) (sd := x1) (h := u7 7) (h' := v_10 7) (t := y7_4) (t' := r_13) (f := y7_5) (f' := (0 : Int32)) (r := r_10) ⟨by omega, by omega⟩ ⟨by omega, by omega⟩ ⟨by omega, by omega⟩ (by omega) ⟨by omega, by omega⟩ he_11 (by omega) hq_14 hi7_0).1) (by omega) (by have z1 := (mt_f (s := v 1) (B := (158 + 25 * x0.toNatClampNeg)) (sd := x1) (h := u7 7) (h' := v_10 7) (t := y7_4) (t' := r_13) (f := y7_5) (f' := (0 : Int32)) (r := r_10) ⟨by omega, by omega⟩ ⟨by omega, by omega⟩ ⟨by omega, by omega⟩ (by omega) ⟨by omega, by omega⟩ he_11 (by omega) hq_14 hi7_0).2; omega) hv hfr hP hD hS ls (lv_sub hl [0, 1, 3, 4, 5, 6] rfl)
              · have tc_15 : r_13.toInt < x2.toInt := Int32.lt_iff_toInt_lt.mp (Int32.not_le.mp c_15)
                refine lv_aload_n hx hb dX8_makeTable_83 rfl (lv_at hl 3 rfl) ?_
                refine va_get (D := (dC, dI)) (ci := 8) (v := .ref (ad 1)) (C := RX8) (T := TX8) (N := 11) hx hb hts iwX8_makeTable_X8 hown hK hP (0) (wm_at (by decide) rc_0) rfl 0 (by decide) (hts (.fieldLink RX8 7 "QuietStairsModel" "s" "[I") fwX8_makeTable_1) (fun _ h9 => h9) rfl dX8_makeTable_84 ?_
                refine lv_iload_n hx hb dX8_makeTable_87 rfl (lv_at hl 4 rfl) ?_
                refine lv_iload hx hb dX8_makeTable_88 (lv_at hl 0 rfl) ?_
                refine yc_p hP hS (va_runS (As := [.int x0, .int r_13]) (rest := [.ref (ad 1)]) ⟨hx, hb, hml, hown, hts⟩ (c_X8_termAt l x0 r_13) (cwS 2 hts gX8_makeTable_X8_termAt rfl rfl rfl hd_S_X8_termAt_2 ⟨Nat.le_of_ble_eq_true rfl, Nat.le_of_ble_eq_true rfl⟩) ex_preP rfl rfl hl.1 rfl (lv_room (Nat.le_of_ble_eq_true rfl)) dX8_makeTable_90 ⟨Nat.le_of_ble_eq_true rfl, Nat.le_of_ble_eq_true rfl⟩) (fun r_16 H locs hw_16 hP hS => ?_)
                have tr_16 : r_16.toInt = 158 + 25 * x0.toInt + 5 * r_13.toInt := t_tm hw_16 ⟨by omega, by omega⟩ ⟨by omega, by omega⟩
                refine lv_iconst (v := 3) hx hb dX8_makeTable_93 (by decide) ?_
                refine lv_iadd hx hb dX8_makeTable_94 ?_
                refine lv_topi (fun x_17 ex_17 => ?_)
                have tx_17 : x_17.toInt = r_16.toInt + (3 : Int32).toInt := by rw [ex_17]; exact t_add ⟨by omega, by omega⟩
                refine va_iald hx hb hK hP (1) 0 (wm_at (by decide) rc_1) rfl (vp_in_iff.mpr ⟨by omega, by omega⟩) dX8_makeTable_95 ?_
                refine lv_topi (fun x_18 ex_18 => ?_)
                have bzx_18 : 0 ≤ x_18.toInt ∧ x_18.toInt ≤ 23 := by rw [ex_18]; exact hv 1 _ 23 (bx_t3 (i := 5 * x0.toInt + r_13.toInt) (s := 3) (by omega) ⟨by omega, by omega⟩ (by omega))
                refine lv_goto (tgt := 100) hx hb dX8_makeTable_96 (by decide) ?_
                refine lv_istore (lv' := [(5, .int x_18), (4, .int r_13), (6, .int r_10), (0, .ref (ad 0)), (1, .int x0), (2, .int x1), (3, .int x2)]) hx hb dX8_makeTable_100 hl (by decide) rfl (fun ls hl => ?_)
                refine lv_goto (tgt := 137) hx hb dX8_makeTable_102 (by decide) ?_
                refine lv_goto (tgt := 36) hx hb dX8_makeTable_137 (by decide) ?_
                exact ih_7 r_13 x_18 v_10 _ _ (by omega) (by omega) (by omega) (by omega) ((mt_f (s := v 1) (B := (158 + 25 * x0.toNatClampNeg)) (sd := x1) (h := u7 7) (h' := v_10 7) (t := y7_4) (t' := r_13) (f := y7_5) (f' := x_18) (r := r_10) ⟨by omega, by omega⟩ ⟨by omega, by omega⟩ ⟨by omega, by omega⟩ (by omega) ⟨by omega, by omega⟩ he_11 (by omega) hq_14 hi7_0).1) (by omega) (by have z1 := (mt_f (s := v 1) (B := (158 + 25 * x0.toNatClampNeg)) (sd := x1) (h := u7 7) (h' := v_10 7) (t := y7_4) (t' := r_13) (f := y7_5) (f' := x_18) (r := r_10) ⟨by omega, by omega⟩ ⟨by omega, by omega⟩ ⟨by omega, by omega⟩ (by omega) ⟨by omega, by omega⟩ he_11 (by omega) hq_14 hi7_0).2; omega) hv hfr hP hD hS ls (lv_sub hl [0, 1, 3, 4, 5, 6] rfl)
    exact hc_7 ((mt (dg (v 1) (158 + 25 * x0.toNatClampNeg) x1 (v 7)) r_1.toInt x_6.toInt).toNat + 1) r_1 x_6 v _ _ (by omega) (by omega) (by omega) (by omega) (fun i h1 h2 => absurd h2 (hq_2 i (by omega) h1)) (by omega) (by omega) hv hfr hP hD hS ls (lv_sub hl [0, 1, 2, 3, 4, 5] rfl)

set_option maxHeartbeats 4000000 in
set_option maxRecDepth 100000 in
theorem q_X8_hour (l : Launch) (dC : Nat → ClassId) (dI : Nat → Nat → Nat) (cy : Nat → ClassId) (sz : Nat) (ad : Nat → Nat) (v : Nat → Nat → Int32) (hv : Ir v) (x0 x1 : Int32) : Met l yX8_hour wsX8_hour ({ frames := 4, cells := 0, slots := 0, locals := 256 }) (va_Pc [.ref (ad 0), .int x0, .int x1] (ex_Pre dC dI cy sz (wm ad cy v))) (va_Qi (fun (r : Int32) (u : Nat → Nat → Int32) => Ir u ∧ Fq v u) (fun u t => ex_Pst dC dI (va_A (wm ad cy v) sz) (wm ad cy u) t) (va_A (wm ad cy v) sz)) 0 0 (va_A (wm ad cy v) sz) := by
  refine Met.ofW (cc := cX8_hour) (maxL := 4) (ret := (some .int)) (by decide) rfl ?_
  intro p e s m args below meth c s₁ B hml hv
  obtain ⟨rfl, hsz, hE, hP, hK, hD0⟩ := hv
  have hx := B.exec
  have hb := B.bytes
  have hr := B.returns
  have hts := atoms_spec (ws := wsX8_hour) B.pre
  have hown : s.vm.findClass RX8 = some m.cls := findClass_of_methodNamed B.named
  have hlocks := B.notSynchronized
  subst hsz
  have hD := hD0.self (sz := s.heap.size)
  generalize hAe : va_A (wm ad cy v) s.heap.size = A at hD ⊢
  have hA : ∀ q : Nat, s.heap.size ≤ q → A q := fun q h => by rw [← hAe]; exact Or.inr h
  have hS : va_S A s.heap s.heap [] := va_S.rf
  have hP : va_P (dC, dI) vwCl (wm ad cy v) s.heap := hP
  have hl := lv_entry ([.ref (ad 0), .int x0, .int x1]) (n := 4) (Nat.le_of_ble_eq_true rfl)
  rw [lg_entry_eq]
  generalize (lg_sl ([.ref (ad 0), .int x0, .int x1]) ++ List.replicate (4 - (lg_sl ([.ref (ad 0), .int x0, .int x1])).length) Slot.unset).toArray = ls at hl ⊢
  have hl : lv_has ls 4 [(0, .ref (ad 0)), (1, .int x0), (2, .int x1)] := hl
  have hfr : Fq v v := Fq.rf
  refine lv_aload_n hx hb dX8_hour_0 rfl (lv_at hl 0 rfl) ?_
  refine lv_iload_n hx hb dX8_hour_1 rfl (lv_at hl 1 rfl) ?_
  refine lv_iload_n hx hb dX8_hour_2 rfl (lv_at hl 2 rfl) ?_
  refine yw_i (w1 := fun (u : Nat → Nat → Int32) => wm ad cy u) hD hS hA (va_runV (As := [.int x0, .int x1]) (rest := []) ⟨hx, hb, hml, hown, hts⟩ (q_X8_isTerm l dC dI cy _ ad v hv x0 x1) (cwV 2 hts gX8_hour_X8_isTerm rfl rfl rfl hd_V_X8_isTerm_2 ⟨Nat.le_of_ble_eq_true rfl, Nat.le_of_ble_eq_true rfl⟩) (yw_preV hE hK hP hD (ci := 8) (q0 := 0) rfl (wm_at (by decide) rc_0)) rfl rfl hl.1 rfl (lv_room (Nat.le_of_ble_eq_true rfl)) dX8_hour_3 ⟨Nat.le_of_ble_eq_true rfl, Nat.le_of_ble_eq_true rfl⟩) (fun r_1 v_1 H locs hw_1 hP hD hS => ?_)
  obtain ⟨-, hu_1, hw_1⟩ := hw_1
  replace hu_1 := hu_1.symm
  subst hu_1
  rcases hw_1 with ⟨rfl, ha_2, hb_2⟩ | rfl
  · refine lv_if_ne (tgt := 11) hx hb dX8_hour_6 (by decide) (fun _ => ?_) (fun c9 => absurd c9 (by decide))
    refine lv_aload_n hx hb dX8_hour_11 rfl (lv_at hl 0 rfl) ?_
    refine va_get (D := (dC, dI)) (ci := 8) (v := .ref (ad 1)) (C := RX8) (T := TX8) (N := 11) hx hb hts iwX8_hour_X8 hown hK hP (0) (wm_at (by decide) rc_0) rfl 0 (by decide) (hts (.fieldLink RX8 7 "QuietStairsModel" "s" "[I") fwX8_hour_1) (fun _ h9 => h9) rfl dX8_hour_12 ?_
    refine lv_iload_n hx hb dX8_hour_15 rfl (lv_at hl 1 rfl) ?_
    refine lv_iload_n hx hb dX8_hour_16 rfl (lv_at hl 2 rfl) ?_
    refine yc_p hP hS (va_runS (As := [.int x0, .int x1]) (rest := [.ref (ad 1)]) ⟨hx, hb, hml, hown, hts⟩ (c_X8_termAt l x0 x1) (cwS 2 hts gX8_hour_X8_termAt rfl rfl rfl hd_S_X8_termAt_2 ⟨Nat.le_of_ble_eq_true rfl, Nat.le_of_ble_eq_true rfl⟩) ex_preP rfl rfl hl.1 rfl (lv_room (Nat.le_of_ble_eq_true rfl)) dX8_hour_17 ⟨Nat.le_of_ble_eq_true rfl, Nat.le_of_ble_eq_true rfl⟩) (fun r_3 H locs hw_3 hP hS => ?_)
    have tr_3 : r_3.toInt = 158 + 25 * x0.toInt + 5 * x1.toInt := t_tm hw_3 ⟨by omega, by omega⟩ ⟨by omega, by omega⟩
    refine va_iald hx hb hK hP (1) 0 (wm_at (by decide) rc_1) rfl (vp_in_iff.mpr ⟨by omega, by omega⟩) dX8_hour_20 ?_
    refine lv_topi (fun x_4 ex_4 => ?_)
    have bzx_4 : 0 ≤ x_4.toInt ∧ x_4.toInt ≤ 1 := by rw [ex_4]; exact hv 1 _ 1 (bx_t0 (i := 5 * x0.toInt + x1.toInt) (s := 0) (by omega) ⟨by omega, by omega⟩ (by omega))
    refine lv_istore_n (lv' := [(3, .int x_4), (0, .ref (ad 0)), (1, .int x0), (2, .int x1)]) hx hb dX8_hour_21 rfl hl (by decide) rfl (fun ls hl => ?_)
    refine lv_aload_n hx hb dX8_hour_22 rfl (lv_at hl 1 rfl) ?_
    refine va_get (D := (dC, dI)) (ci := 8) (v := .ref (ad 1)) (C := RX8) (T := TX8) (N := 11) hx hb hts iwX8_hour_X8 hown hK hP (0) (wm_at (by decide) rc_0) rfl 0 (by decide) (hts (.fieldLink RX8 7 "QuietStairsModel" "s" "[I") fwX8_hour_1) (fun _ h9 => h9) rfl dX8_hour_23 ?_
    refine lv_iload_n hx hb dX8_hour_26 rfl (lv_at hl 2 rfl) ?_
    refine lv_iload_n hx hb dX8_hour_27 rfl (lv_at hl 3 rfl) ?_
    refine yc_p hP hS (va_runS (As := [.int x0, .int x1]) (rest := [.ref (ad 1)]) ⟨hx, hb, hml, hown, hts⟩ (c_X8_termAt l x0 x1) (cwS 2 hts gX8_hour_X8_termAt rfl rfl rfl hd_S_X8_termAt_2 ⟨Nat.le_of_ble_eq_true rfl, Nat.le_of_ble_eq_true rfl⟩) ex_preP rfl rfl hl.1 rfl (lv_room (Nat.le_of_ble_eq_true rfl)) dX8_hour_28 ⟨Nat.le_of_ble_eq_true rfl, Nat.le_of_ble_eq_true rfl⟩) (fun r_5 H locs hw_5 hP hS => ?_)
    obtain rfl : r_3 = r_5 := hw_3.trans hw_5.symm
    refine lv_iconst (v := 1) hx hb dX8_hour_31 (by decide) ?_
    refine lv_iadd hx hb dX8_hour_32 ?_
    refine lv_topi (fun x_6 ex_6 => ?_)
    have k_1 : (1 : Int32).toInt = 1 := by decide
    have tx_6 : x_6.toInt = r_3.toInt + (1 : Int32).toInt := by rw [ex_6]; exact t_add ⟨by omega, by omega⟩
    refine va_iald hx hb hK hP (1) 0 (wm_at (by decide) rc_1) rfl (vp_in_iff.mpr ⟨by omega, by omega⟩) dX8_hour_33 ?_
    refine lv_topi (fun x_7 ex_7 => ?_)
    have bzx_7 : 0 ≤ x_7.toInt ∧ x_7.toInt ≤ 1 := by rw [ex_7]; exact hv 1 _ 1 (bx_t0 (i := 5 * x0.toInt + x1.toInt) (s := 1) (by omega) ⟨by omega, by omega⟩ (by omega))
    have k_0 : (0 : Int32).toInt = 0 := by decide
    refine lv_if_ne (tgt := 40) hx hb dX8_hour_34 (by decide) (fun c_8 => ?_) (fun c_8 => ?_)
    · have tc_8 : x_7.toInt ≠ (0 : Int32).toInt := fun q => absurd (Int32.toInt_inj.mp q) c_8
      refine lv_aload_n hx hb dX8_hour_40 rfl (lv_at hl 1 rfl) ?_
      refine lv_iload_n hx hb dX8_hour_41 rfl (lv_at hl 2 rfl) ?_
      refine lv_iload_n hx hb dX8_hour_42 rfl (lv_at hl 0 rfl) ?_
      refine lv_aload_n hx hb dX8_hour_43 rfl (lv_at hl 1 rfl) ?_
      refine va_get (D := (dC, dI)) (ci := 8) (v := .ref (ad 1)) (C := RX8) (T := TX8) (N := 11) hx hb hts iwX8_hour_X8 hown hK hP (0) (wm_at (by decide) rc_0) rfl 0 (by decide) (hts (.fieldLink RX8 7 "QuietStairsModel" "s" "[I") fwX8_hour_1) (fun _ h9 => h9) rfl dX8_hour_44 ?_
      refine lv_iload_n hx hb dX8_hour_47 rfl (lv_at hl 2 rfl) ?_
      refine lv_bipush (v := 6) hx hb dX8_hour_48 (by decide) ?_
      refine yc_p hP hS (va_runS (As := [.int x0, .int 6]) (rest := [.ref (ad 1), .int x_4, .int x0, .ref (ad 0)]) ⟨hx, hb, hml, hown, hts⟩ (c_X8_at l x0 6) (cwS 2 hts gX8_hour_X8_at rfl rfl rfl hd_S_X8_at_2 ⟨Nat.le_of_ble_eq_true rfl, Nat.le_of_ble_eq_true rfl⟩) ex_preP rfl rfl hl.1 rfl (lv_room (Nat.le_of_ble_eq_true rfl)) dX8_hour_50 ⟨Nat.le_of_ble_eq_true rfl, Nat.le_of_ble_eq_true rfl⟩) (fun r_9 H locs hw_9 hP hS => ?_)
      have k_6 : (6 : Int32).toInt = 6 := by decide
      have tr_9 : r_9.toInt = 32 + 7 * x0.toInt + (6 : Int32).toInt := t_at hw_9 ⟨by omega, by omega⟩ ⟨by omega, by omega⟩
      refine va_iald hx hb hK hP (1) 0 (wm_at (by decide) rc_1) rfl (vp_in_iff.mpr ⟨by omega, by omega⟩) dX8_hour_53 ?_
      refine lv_topi (fun x_10 ex_10 => ?_)
      have bzx_10 : 0 ≤ x_10.toInt ∧ x_10.toInt ≤ 5 := by rw [ex_10]; exact hv 1 _ 5 (bx_4 (i := x0.toInt) (s := 6) (by omega) ⟨by omega, by omega⟩ (by omega))
      refine yw_i (w1 := fun (u : Nat → Nat → Int32) => wm ad cy u) hD hS hA (va_runV (As := [.int x0, .int x_4, .int x_10]) (rest := []) ⟨hx, hb, hml, hown, hts⟩ (q_X8_makeTable l dC dI cy _ ad v hv x0 x_4 x_10 ⟨by omega, by omega⟩ ⟨by omega, by omega⟩) (cwV 3 hts gX8_hour_X8_makeTable rfl rfl rfl hd_V_X8_makeTable_3 ⟨Nat.le_of_ble_eq_true rfl, Nat.le_of_ble_eq_true rfl⟩) (yw_preV hE hK hP hD (ci := 8) (q0 := 0) rfl (wm_at (by decide) rc_0)) rfl rfl hl.1 rfl (lv_room (Nat.le_of_ble_eq_true rfl)) dX8_hour_54 ⟨Nat.le_of_ble_eq_true rfl, Nat.le_of_ble_eq_true rfl⟩) (fun r_11 v_11 H locs hw_11 hP hD hS => ?_)
      obtain ⟨hv, hf_11, hw_11⟩ := hw_11
      have hfr : Fq v v_11 := hfr.trans hf_11
      rcases hw_11 with rfl | rfl
      · refine lv_if_eq (tgt := 69) hx hb dX8_hour_57 (by decide) (fun _ => ?_) (fun c9 => absurd c9 (by decide))
        refine lv_bipush (v := (-5)) hx hb dX8_hour_69 (by decide) ?_
        exact W.iret (v := (-5)) hx hb hr (fun t ht hW => ⟨⟨(-5), v_11, rfl, ⟨hv, hfr⟩, by rw [ht]; exact hP, hD⟩, hS.F ht⟩) hS.2.2 dX8_hour_71
      · refine lv_if_eq (tgt := 69) hx hb dX8_hour_57 (by decide) (fun c9 => absurd c9 (by decide)) (fun _ => ?_)
        refine lv_aload_n hx hb dX8_hour_60 rfl (lv_at hl 1 rfl) ?_
        refine va_get (D := (dC, dI)) (ci := 8) (v := .ref (ad 7)) (C := RX8) (T := TX8) (N := 11) hx hb hts iwX8_hour_X8 hown hK hP (0) (wm_at (by decide) rc_0) rfl 10 (by decide) (hts (.fieldLink RX8 32 "QuietStairsModel" "hours" "[I") fwX8_hour_2) (fun _ h9 => h9) rfl dX8_hour_61 ?_
        refine lv_iload_n hx hb dX8_hour_64 rfl (lv_at hl 3 rfl) ?_
        refine va_iald hx hb hK hP (7) 0 (wm_at (by decide) rc_7) rfl (vp_in_iff.mpr ⟨by omega, by omega⟩) dX8_hour_65 ?_
        refine lv_topi (fun x_12 ex_12 => ?_)
        refine lv_goto (tgt := 71) hx hb dX8_hour_66 (by decide) ?_
        exact W.iret (v := x_12) hx hb hr (fun t ht hW => ⟨⟨x_12, v_11, rfl, ⟨hv, hfr⟩, by rw [ht]; exact hP, hD⟩, hS.F ht⟩) hS.2.2 dX8_hour_71
    · have tc_8 : x_7.toInt = (0 : Int32).toInt := by rw [c_8]
      refine lv_bipush (v := (-4)) hx hb dX8_hour_37 (by decide) ?_
      exact W.iret (v := (-4)) hx hb hr (fun t ht hW => ⟨⟨(-4), v, rfl, ⟨hv, hfr⟩, by rw [ht]; exact hP, hD⟩, hS.F ht⟩) hS.2.2 dX8_hour_39
  · refine lv_if_ne (tgt := 11) hx hb dX8_hour_6 (by decide) (fun c9 => absurd c9 (by decide)) (fun _ => ?_)
    refine lv_iconst (v := (-1)) hx hb dX8_hour_9 (by decide) ?_
    exact W.iret (v := (-1)) hx hb hr (fun t ht hW => ⟨⟨(-1), v, rfl, ⟨hv, hfr⟩, by rw [ht]; exact hP, hD⟩, hS.F ht⟩) hS.2.2 dX8_hour_10

set_option maxHeartbeats 4000000 in
set_option maxRecDepth 100000 in
theorem q_X8_canHold (l : Launch) (dC : Nat → ClassId) (dI : Nat → Nat → Nat) (cy : Nat → ClassId) (sz : Nat) (ad : Nat → Nat) (v : Nat → Nat → Int32) (hv : Ir v) (x0 x1 : Int32) : Met l yX8_canHold wsX8_canHold ({ frames := 4, cells := 0, slots := 0, locals := 256 }) (va_Pc [.ref (ad 0), .int x0, .int x1] (ex_Pre dC dI cy sz (wm ad cy v))) (va_Qi (fun (r : Int32) (u : Nat → Nat → Int32) => Ir u ∧ Fq v u) (fun u t => ex_Pst dC dI (va_A (wm ad cy v) sz) (wm ad cy u) t) (va_A (wm ad cy v) sz)) 0 0 (va_A (wm ad cy v) sz) := by
  refine Met.ofW (cc := cX8_canHold) (maxL := 3) (ret := (some .int)) (by decide) rfl ?_
  intro p e s m args below meth c s₁ B hml hv
  obtain ⟨rfl, hsz, hE, hP, hK, hD0⟩ := hv
  have hx := B.exec
  have hb := B.bytes
  have hr := B.returns
  have hts := atoms_spec (ws := wsX8_canHold) B.pre
  have hown : s.vm.findClass RX8 = some m.cls := findClass_of_methodNamed B.named
  have hlocks := B.notSynchronized
  subst hsz
  have hD := hD0.self (sz := s.heap.size)
  generalize hAe : va_A (wm ad cy v) s.heap.size = A at hD ⊢
  have hA : ∀ q : Nat, s.heap.size ≤ q → A q := fun q h => by rw [← hAe]; exact Or.inr h
  have hS : va_S A s.heap s.heap [] := va_S.rf
  have hP : va_P (dC, dI) vwCl (wm ad cy v) s.heap := hP
  have hl := lv_entry ([.ref (ad 0), .int x0, .int x1]) (n := 3) (Nat.le_of_ble_eq_true rfl)
  rw [lg_entry_eq]
  generalize (lg_sl ([.ref (ad 0), .int x0, .int x1]) ++ List.replicate (3 - (lg_sl ([.ref (ad 0), .int x0, .int x1])).length) Slot.unset).toArray = ls at hl ⊢
  have hl : lv_has ls 3 [(0, .ref (ad 0)), (1, .int x0), (2, .int x1)] := hl
  have hfr : Fq v v := Fq.rf
  refine lv_aload_n hx hb dX8_canHold_0 rfl (lv_at hl 0 rfl) ?_
  refine lv_iload_n hx hb dX8_canHold_1 rfl (lv_at hl 1 rfl) ?_
  refine yw_i (w1 := fun (u : Nat → Nat → Int32) => wm ad cy u) hD hS hA (va_runV (As := [.int x0]) (rest := []) ⟨hx, hb, hml, hown, hts⟩ (q_X8_isCase l dC dI cy _ ad v hv x0) (cwV 1 hts gX8_canHold_X8_isCase rfl rfl rfl hd_V_X8_isCase_1 ⟨Nat.le_of_ble_eq_true rfl, Nat.le_of_ble_eq_true rfl⟩) (yw_preV hE hK hP hD (ci := 8) (q0 := 0) rfl (wm_at (by decide) rc_0)) rfl rfl hl.1 rfl (lv_room (Nat.le_of_ble_eq_true rfl)) dX8_canHold_2 ⟨Nat.le_of_ble_eq_true rfl, Nat.le_of_ble_eq_true rfl⟩) (fun r_1 v_1 H locs hw_1 hP hD hS => ?_)
  obtain ⟨-, hu_1, hw_1⟩ := hw_1
  replace hu_1 := hu_1.symm
  subst hu_1
  rcases hw_1 with ⟨rfl, ha_2⟩ | ⟨rfl, ha_2⟩
  · have hb_2 := hv 1 2 6 (by decide)
    have hj_2 : 0 ≤ x0.toInt ∧ x0.toInt ≤ 5 := ⟨by omega, by omega⟩
    refine lv_if_eq (tgt := 15) hx hb dX8_canHold_5 (by decide) (fun c9 => absurd c9 (by decide)) (fun _ => ?_)
    refine lv_iload_n hx hb dX8_canHold_8 rfl (lv_at hl 2 rfl) ?_
    refine yc_p hP hS (va_runS (As := [.int x1]) (rest := []) ⟨hx, hb, hml, hown, hts⟩ (c_X8_isSide l x1) (cwS 1 hts gX8_canHold_X8_isSide rfl rfl rfl hd_S_X8_isSide_1 ⟨Nat.le_of_ble_eq_true rfl, Nat.le_of_ble_eq_true rfl⟩) ex_preP rfl rfl hl.1 rfl (lv_room (Nat.le_of_ble_eq_true rfl)) dX8_canHold_9 ⟨Nat.le_of_ble_eq_true rfl, Nat.le_of_ble_eq_true rfl⟩) (fun r_3 H locs hw_3 hP hS => ?_)
    rcases wi_ca hw_3 with ⟨rfl, hc_4⟩ | ⟨rfl, hc_4⟩
    · have k_0 : (0 : Int32).toInt = 0 := by decide
      have k_1 : (1 : Int32).toInt = 1 := by decide
      have tc_4 := wi_tl hc_4
      refine lv_if_ne (tgt := 17) hx hb dX8_canHold_12 (by decide) (fun _ => ?_) (fun c9 => absurd c9 (by decide))
      refine lv_aload_n hx hb dX8_canHold_17 rfl (lv_at hl 0 rfl) ?_
      refine lv_iload_n hx hb dX8_canHold_18 rfl (lv_at hl 1 rfl) ?_
      refine lv_iload_n hx hb dX8_canHold_19 rfl (lv_at hl 2 rfl) ?_
      refine lv_aload_n hx hb dX8_canHold_20 rfl (lv_at hl 0 rfl) ?_
      refine va_get (D := (dC, dI)) (ci := 8) (v := .ref (ad 1)) (C := RX8) (T := TX8) (N := 11) hx hb hts iwX8_canHold_X8 hown hK hP (0) (wm_at (by decide) rc_0) rfl 0 (by decide) (hts (.fieldLink RX8 7 "QuietStairsModel" "s" "[I") fwX8_canHold_1) (fun _ h9 => h9) rfl dX8_canHold_21 ?_
      refine lv_iload_n hx hb dX8_canHold_24 rfl (lv_at hl 1 rfl) ?_
      refine lv_bipush (v := 6) hx hb dX8_canHold_25 (by decide) ?_
      refine yc_p hP hS (va_runS (As := [.int x0, .int 6]) (rest := [.ref (ad 1), .int x1, .int x0, .ref (ad 0)]) ⟨hx, hb, hml, hown, hts⟩ (c_X8_at l x0 6) (cwS 2 hts gX8_canHold_X8_at rfl rfl rfl hd_S_X8_at_2 ⟨Nat.le_of_ble_eq_true rfl, Nat.le_of_ble_eq_true rfl⟩) ex_preP rfl rfl hl.1 rfl (lv_room (Nat.le_of_ble_eq_true rfl)) dX8_canHold_27 ⟨Nat.le_of_ble_eq_true rfl, Nat.le_of_ble_eq_true rfl⟩) (fun r_5 H locs hw_5 hP hS => ?_)
      have k_6 : (6 : Int32).toInt = 6 := by decide
      have tr_5 : r_5.toInt = 32 + 7 * x0.toInt + (6 : Int32).toInt := t_at hw_5 ⟨by omega, by omega⟩ ⟨by omega, by omega⟩
      refine va_iald hx hb hK hP (1) 0 (wm_at (by decide) rc_1) rfl (vp_in_iff.mpr ⟨by omega, by omega⟩) dX8_canHold_30 ?_
      refine lv_topi (fun x_6 ex_6 => ?_)
      have bzx_6 : 0 ≤ x_6.toInt ∧ x_6.toInt ≤ 5 := by rw [ex_6]; exact hv 1 _ 5 (bx_4 (i := x0.toInt) (s := 6) (by omega) ⟨by omega, by omega⟩ (by omega))
      refine yw_i (w1 := fun (u : Nat → Nat → Int32) => wm ad cy u) hD hS hA (va_runV (As := [.int x0, .int x1, .int x_6]) (rest := []) ⟨hx, hb, hml, hown, hts⟩ (q_X8_makeTable l dC dI cy _ ad v hv x0 x1 x_6 ⟨by omega, by omega⟩ ⟨by omega, by omega⟩) (cwV 3 hts gX8_canHold_X8_makeTable rfl rfl rfl hd_V_X8_makeTable_3 ⟨Nat.le_of_ble_eq_true rfl, Nat.le_of_ble_eq_true rfl⟩) (yw_preV hE hK hP hD (ci := 8) (q0 := 0) rfl (wm_at (by decide) rc_0)) rfl rfl hl.1 rfl (lv_room (Nat.le_of_ble_eq_true rfl)) dX8_canHold_31 ⟨Nat.le_of_ble_eq_true rfl, Nat.le_of_ble_eq_true rfl⟩) (fun r_7 v_7 H locs hw_7 hP hD hS => ?_)
      obtain ⟨hv, hf_7, hw_7⟩ := hw_7
      have hfr : Fq v v_7 := hfr.trans hf_7
      rcases hw_7 with rfl | rfl
      · refine lv_if_eq (tgt := 41) hx hb dX8_canHold_34 (by decide) (fun _ => ?_) (fun c9 => absurd c9 (by decide))
        refine lv_iconst (v := 0) hx hb dX8_canHold_41 (by decide) ?_
        exact W.iret (v := 0) hx hb hr (fun t ht hW => ⟨⟨0, v_7, rfl, ⟨hv, hfr⟩, by rw [ht]; exact hP, hD⟩, hS.F ht⟩) hS.2.2 dX8_canHold_42
      · refine lv_if_eq (tgt := 41) hx hb dX8_canHold_34 (by decide) (fun c9 => absurd c9 (by decide)) (fun _ => ?_)
        refine lv_iconst (v := 1) hx hb dX8_canHold_37 (by decide) ?_
        refine lv_goto (tgt := 42) hx hb dX8_canHold_38 (by decide) ?_
        exact W.iret (v := 1) hx hb hr (fun t ht hW => ⟨⟨1, v_7, rfl, ⟨hv, hfr⟩, by rw [ht]; exact hP, hD⟩, hS.F ht⟩) hS.2.2 dX8_canHold_42
    · have k_0 : (0 : Int32).toInt = 0 := by decide
      have k_1 : (1 : Int32).toInt = 1 := by decide
      have tc_4 : ¬ ((0 : Int32).toInt ≤ x1.toInt ∧ x1.toInt ≤ (1 : Int32).toInt) := fun q => hc_4 ⟨Int32.le_iff_toInt_le.mpr q.1, Int32.le_iff_toInt_le.mpr q.2⟩
      refine lv_if_ne (tgt := 17) hx hb dX8_canHold_12 (by decide) (fun c9 => absurd c9 (by decide)) (fun _ => ?_)
      refine lv_iconst (v := (-1)) hx hb dX8_canHold_15 (by decide) ?_
      exact W.iret (v := (-1)) hx hb hr (fun t ht hW => ⟨⟨(-1), v, rfl, ⟨hv, hfr⟩, by rw [ht]; exact hP, hD⟩, hS.F ht⟩) hS.2.2 dX8_canHold_16
  · refine lv_if_eq (tgt := 15) hx hb dX8_canHold_5 (by decide) (fun _ => ?_) (fun c9 => absurd c9 (by decide))
    refine lv_iconst (v := (-1)) hx hb dX8_canHold_15 (by decide) ?_
    exact W.iret (v := (-1)) hx hb hr (fun t ht hW => ⟨⟨(-1), v, rfl, ⟨hv, hfr⟩, by rw [ht]; exact hP, hD⟩, hS.F ht⟩) hS.2.2 dX8_canHold_16

set_option maxHeartbeats 4000000 in
set_option maxRecDepth 100000 in
theorem q_X8_breaks (l : Launch) (dC : Nat → ClassId) (dI : Nat → Nat → Nat) (cy : Nat → ClassId) (sz : Nat) (ad : Nat → Nat) (v : Nat → Nat → Int32) (hv : Ir v) (x0 x1 : Int32) : Met l yX8_breaks wsX8_breaks ({ frames := 4, cells := 0, slots := 0, locals := 256 }) (va_Pc [.ref (ad 0), .int x0, .int x1] (ex_Pre dC dI cy sz (wm ad cy v))) (va_Qi (fun (r : Int32) (u : Nat → Nat → Int32) => Ir u ∧ Fq v u) (fun u t => ex_Pst dC dI (va_A (wm ad cy v) sz) (wm ad cy u) t) (va_A (wm ad cy v) sz)) 0 0 (va_A (wm ad cy v) sz) := by
  refine Met.ofW (cc := cX8_breaks) (maxL := 4) (ret := (some .int)) (by decide) rfl ?_
  intro p e s m args below meth c s₁ B hml hv
  obtain ⟨rfl, hsz, hE, hP, hK, hD0⟩ := hv
  have hx := B.exec
  have hb := B.bytes
  have hr := B.returns
  have hts := atoms_spec (ws := wsX8_breaks) B.pre
  have hown : s.vm.findClass RX8 = some m.cls := findClass_of_methodNamed B.named
  have hlocks := B.notSynchronized
  subst hsz
  have hD := hD0.self (sz := s.heap.size)
  generalize hAe : va_A (wm ad cy v) s.heap.size = A at hD ⊢
  have hA : ∀ q : Nat, s.heap.size ≤ q → A q := fun q h => by rw [← hAe]; exact Or.inr h
  have hS : va_S A s.heap s.heap [] := va_S.rf
  have hP : va_P (dC, dI) vwCl (wm ad cy v) s.heap := hP
  have hl := lv_entry ([.ref (ad 0), .int x0, .int x1]) (n := 4) (Nat.le_of_ble_eq_true rfl)
  rw [lg_entry_eq]
  generalize (lg_sl ([.ref (ad 0), .int x0, .int x1]) ++ List.replicate (4 - (lg_sl ([.ref (ad 0), .int x0, .int x1])).length) Slot.unset).toArray = ls at hl ⊢
  have hl : lv_has ls 4 [(0, .ref (ad 0)), (1, .int x0), (2, .int x1)] := hl
  have hfr : Fq v v := Fq.rf
  refine lv_aload_n hx hb dX8_breaks_0 rfl (lv_at hl 0 rfl) ?_
  refine lv_iload_n hx hb dX8_breaks_1 rfl (lv_at hl 1 rfl) ?_
  refine yw_i (w1 := fun (u : Nat → Nat → Int32) => wm ad cy u) hD hS hA (va_runV (As := [.int x0]) (rest := []) ⟨hx, hb, hml, hown, hts⟩ (q_X8_isCase l dC dI cy _ ad v hv x0) (cwV 1 hts gX8_breaks_X8_isCase rfl rfl rfl hd_V_X8_isCase_1 ⟨Nat.le_of_ble_eq_true rfl, Nat.le_of_ble_eq_true rfl⟩) (yw_preV hE hK hP hD (ci := 8) (q0 := 0) rfl (wm_at (by decide) rc_0)) rfl rfl hl.1 rfl (lv_room (Nat.le_of_ble_eq_true rfl)) dX8_breaks_2 ⟨Nat.le_of_ble_eq_true rfl, Nat.le_of_ble_eq_true rfl⟩) (fun r_1 v_1 H locs hw_1 hP hD hS => ?_)
  obtain ⟨-, hu_1, hw_1⟩ := hw_1
  replace hu_1 := hu_1.symm
  subst hu_1
  rcases hw_1 with ⟨rfl, ha_2⟩ | ⟨rfl, ha_2⟩
  · have hb_2 := hv 1 2 6 (by decide)
    have hj_2 : 0 ≤ x0.toInt ∧ x0.toInt ≤ 5 := ⟨by omega, by omega⟩
    refine lv_if_eq (tgt := 15) hx hb dX8_breaks_5 (by decide) (fun c9 => absurd c9 (by decide)) (fun _ => ?_)
    refine lv_iload_n hx hb dX8_breaks_8 rfl (lv_at hl 2 rfl) ?_
    refine yc_p hP hS (va_runS (As := [.int x1]) (rest := []) ⟨hx, hb, hml, hown, hts⟩ (c_X8_isSide l x1) (cwS 1 hts gX8_breaks_X8_isSide rfl rfl rfl hd_S_X8_isSide_1 ⟨Nat.le_of_ble_eq_true rfl, Nat.le_of_ble_eq_true rfl⟩) ex_preP rfl rfl hl.1 rfl (lv_room (Nat.le_of_ble_eq_true rfl)) dX8_breaks_9 ⟨Nat.le_of_ble_eq_true rfl, Nat.le_of_ble_eq_true rfl⟩) (fun r_3 H locs hw_3 hP hS => ?_)
    rcases wi_ca hw_3 with ⟨rfl, hc_4⟩ | ⟨rfl, hc_4⟩
    · have k_0 : (0 : Int32).toInt = 0 := by decide
      have k_1 : (1 : Int32).toInt = 1 := by decide
      have tc_4 := wi_tl hc_4
      refine lv_if_ne (tgt := 17) hx hb dX8_breaks_12 (by decide) (fun _ => ?_) (fun c9 => absurd c9 (by decide))
      refine lv_iconst (v := 0) hx hb dX8_breaks_17 (by decide) ?_
      refine lv_istore_n (lv' := [(3, .int 0), (0, .ref (ad 0)), (1, .int x0), (2, .int x1)]) hx hb dX8_breaks_18 rfl hl (by decide) rfl (fun ls hl => ?_)
      have hc_5 : ∀ (n : Nat) (y5_3 : Int32) (u5 : Nat → Nat → Int32) (H : Heap) (locs : List Loc), 0 ≤ y5_3.toInt → y5_3.toInt ≤ 5 → (5 - y5_3.toInt).toNat < n → Ir u5 → Fq v u5 → va_P (dC, dI) vwCl (wm ad cy u5) H → va_D A (wm ad cy u5) → va_S A s.heap H locs → ∀ ls : Array Slot, lv_has ls 4 [(3, .int y5_3), (0, .ref (ad 0)), (1, .int x0), (2, .int x1)] → W p l e (headSpec wsX8_breaks ({ frames := 4, cells := 0, slots := 0, locals := 256 })).room s m [Value.ref (ad 0), Value.int x0, Value.int x1].toArray below meth c H locs 0 0 (MQ below (va_Qi (fun (r : Int32) (u : Nat → Nat → Int32) => Ir u ∧ Fq v u) (fun u t => ex_Pst dC dI A (wm ad cy u) t) A) [Value.ref (ad 0), Value.int x0, Value.int x1].toArray s 0 0 A) (F0 m 19 ls []) := by
        intro n
        induction n with
        | zero =>
          intro y5_3 u5 H locs ay5_3 by5_3 hm_5 hv hfr hP hD hS ls hl
          exact absurd hm_5 (by omega)
        | succ n ih_5 =>
          intro y5_3 u5 H locs ay5_3 by5_3 hm_5 hv hfr hP hD hS ls hl
          refine lv_iload_n hx hb dX8_breaks_19 rfl (lv_at hl 0 rfl) ?_
          refine lv_aload_n hx hb dX8_breaks_20 rfl (lv_at hl 1 rfl) ?_
          refine va_get (D := (dC, dI)) (ci := 8) (v := .ref (ad 1)) (C := RX8) (T := TX8) (N := 11) hx hb hts iwX8_breaks_X8 hown hK hP (0) (wm_at (by decide) rc_0) rfl 0 (by decide) (hts (.fieldLink RX8 7 "QuietStairsModel" "s" "[I") fwX8_breaks_1) (fun _ h9 => h9) rfl dX8_breaks_21 ?_
          refine lv_iload_n hx hb dX8_breaks_24 rfl (lv_at hl 2 rfl) ?_
          refine lv_bipush (v := 6) hx hb dX8_breaks_25 (by decide) ?_
          refine yc_p hP hS (va_runS (As := [.int x0, .int 6]) (rest := [.ref (ad 1), .int y5_3]) ⟨hx, hb, hml, hown, hts⟩ (c_X8_at l x0 6) (cwS 2 hts gX8_breaks_X8_at rfl rfl rfl hd_S_X8_at_2 ⟨Nat.le_of_ble_eq_true rfl, Nat.le_of_ble_eq_true rfl⟩) ex_preP rfl rfl hl.1 rfl (lv_room (Nat.le_of_ble_eq_true rfl)) dX8_breaks_27 ⟨Nat.le_of_ble_eq_true rfl, Nat.le_of_ble_eq_true rfl⟩) (fun r_6 H locs hw_6 hP hS => ?_)
          have k_6 : (6 : Int32).toInt = 6 := by decide
          have tr_6 : r_6.toInt = 32 + 7 * x0.toInt + (6 : Int32).toInt := t_at hw_6 ⟨by omega, by omega⟩ ⟨by omega, by omega⟩
          refine va_iald hx hb hK hP (1) 0 (wm_at (by decide) rc_1) rfl (vp_in_iff.mpr ⟨by omega, by omega⟩) dX8_breaks_30 ?_
          refine lv_topi (fun x_7 ex_7 => ?_)
          have bzx_7 : 0 ≤ x_7.toInt ∧ x_7.toInt ≤ 5 := by rw [ex_7]; exact hv 1 _ 5 (bx_4 (i := x0.toInt) (s := 6) (by omega) ⟨by omega, by omega⟩ (by omega))
          refine lv_icmp_ge (tgt := 68) hx hb dX8_breaks_31 (by decide) (fun c_8 => ?_) (fun c_8 => ?_)
          · have tc_8 : y5_3.toInt ≥ x_7.toInt := Int32.le_iff_toInt_le.mp c_8
            refine lv_bipush (v := (-5)) hx hb dX8_breaks_68 (by decide) ?_
            exact W.iret (v := (-5)) hx hb hr (fun t ht hW => ⟨⟨(-5), u5, rfl, ⟨hv, hfr⟩, by rw [ht]; exact hP, hD⟩, hS.F ht⟩) hS.2.2 dX8_breaks_70
          · have tc_8 : y5_3.toInt < x_7.toInt := Int32.lt_iff_toInt_lt.mp (Int32.not_le.mp c_8)
            refine lv_aload_n hx hb dX8_breaks_34 rfl (lv_at hl 1 rfl) ?_
            refine va_get (D := (dC, dI)) (ci := 8) (v := .ref (ad 1)) (C := RX8) (T := TX8) (N := 11) hx hb hts iwX8_breaks_X8 hown hK hP (0) (wm_at (by decide) rc_0) rfl 0 (by decide) (hts (.fieldLink RX8 7 "QuietStairsModel" "s" "[I") fwX8_breaks_1) (fun _ h9 => h9) rfl dX8_breaks_35 ?_
            refine lv_iload_n hx hb dX8_breaks_38 rfl (lv_at hl 2 rfl) ?_
            refine lv_iload_n hx hb dX8_breaks_39 rfl (lv_at hl 0 rfl) ?_
            refine yc_p hP hS (va_runS (As := [.int x0, .int y5_3]) (rest := [.ref (ad 1)]) ⟨hx, hb, hml, hown, hts⟩ (c_X8_termAt l x0 y5_3) (cwS 2 hts gX8_breaks_X8_termAt rfl rfl rfl hd_S_X8_termAt_2 ⟨Nat.le_of_ble_eq_true rfl, Nat.le_of_ble_eq_true rfl⟩) ex_preP rfl rfl hl.1 rfl (lv_room (Nat.le_of_ble_eq_true rfl)) dX8_breaks_40 ⟨Nat.le_of_ble_eq_true rfl, Nat.le_of_ble_eq_true rfl⟩) (fun r_9 H locs hw_9 hP hS => ?_)
            have tr_9 : r_9.toInt = 158 + 25 * x0.toInt + 5 * y5_3.toInt := t_tm hw_9 ⟨by omega, by omega⟩ ⟨by omega, by omega⟩
            refine va_iald hx hb hK hP (1) 0 (wm_at (by decide) rc_1) rfl (vp_in_iff.mpr ⟨by omega, by omega⟩) dX8_breaks_43 ?_
            refine lv_topi (fun x_10 ex_10 => ?_)
            have bzx_10 : 0 ≤ x_10.toInt ∧ x_10.toInt ≤ 1 := by rw [ex_10]; exact hv 1 _ 1 (bx_t0 (i := 5 * x0.toInt + y5_3.toInt) (s := 0) (by omega) ⟨by omega, by omega⟩ (by omega))
            refine lv_iload_n hx hb dX8_breaks_44 rfl (lv_at hl 3 rfl) ?_
            refine lv_icmp_ne (tgt := 62) hx hb dX8_breaks_45 (by decide) (fun c_11 => ?_) (fun c_11 => ?_)
            · have tc_11 : x_10.toInt ≠ x1.toInt := fun q => absurd (Int32.toInt_inj.mp q) c_11
              obtain ⟨x_12, ex_12⟩ : ∃ y : Int32, y = y5_3 + 1 := ⟨_, rfl⟩
              refine lv_iinc (v := x_12) (lv' := [(3, .int x_12), (0, .ref (ad 0)), (1, .int x0), (2, .int x1)]) hx hb dX8_breaks_62 hl (k := 0) rfl (by rw [ex_12]; rfl) (by decide) rfl (fun ls hl => ?_)
              have tx_12 : x_12.toInt = y5_3.toInt + (1 : Int32).toInt := by rw [ex_12]; exact t_add ⟨by omega, by omega⟩
              refine lv_goto (tgt := 19) hx hb dX8_breaks_65 (by decide) ?_
              exact ih_5 x_12 u5 _ _ (by omega) (by omega) (by omega) hv hfr hP hD hS ls (lv_sub hl [0, 1, 2, 3] rfl)
            · have tc_11 : x_10.toInt = x1.toInt := by rw [c_11]
              refine lv_aload_n hx hb dX8_breaks_48 rfl (lv_at hl 1 rfl) ?_
              refine lv_iload_n hx hb dX8_breaks_49 rfl (lv_at hl 2 rfl) ?_
              refine lv_iload_n hx hb dX8_breaks_50 rfl (lv_at hl 3 rfl) ?_
              refine lv_iload_n hx hb dX8_breaks_51 rfl (lv_at hl 0 rfl) ?_
              refine lv_iconst (v := 1) hx hb dX8_breaks_52 (by decide) ?_
              refine lv_iadd hx hb dX8_breaks_53 ?_
              refine lv_topi (fun x_12 ex_12 => ?_)
              have tx_12 : x_12.toInt = y5_3.toInt + (1 : Int32).toInt := by rw [ex_12]; exact t_add ⟨by omega, by omega⟩
              refine yw_i (w1 := fun (u : Nat → Nat → Int32) => wm ad cy u) hD hS hA (va_runV (As := [.int x0, .int x1, .int x_12]) (rest := []) ⟨hx, hb, hml, hown, hts⟩ (q_X8_makeTable l dC dI cy _ ad u5 hv x0 x1 x_12 ⟨by omega, by omega⟩ ⟨by omega, by omega⟩) (cwV 3 hts gX8_breaks_X8_makeTable rfl rfl rfl hd_V_X8_makeTable_3 ⟨Nat.le_of_ble_eq_true rfl, Nat.le_of_ble_eq_true rfl⟩) (yw_preV hE hK hP hD (ci := 8) (q0 := 0) rfl (wm_at (by decide) rc_0)) rfl rfl hl.1 rfl (lv_room (Nat.le_of_ble_eq_true rfl)) dX8_breaks_54 ⟨Nat.le_of_ble_eq_true rfl, Nat.le_of_ble_eq_true rfl⟩) (fun r_13 v_13 H locs hw_13 hP hD hS => ?_)
              obtain ⟨hv, hf_13, hw_13⟩ := hw_13
              have hfr : Fq v v_13 := hfr.trans hf_13
              rcases hw_13 with rfl | rfl
              · refine lv_if_ne (tgt := 62) hx hb dX8_breaks_57 (by decide) (fun c9 => absurd c9 (by decide)) (fun _ => ?_)
                refine lv_iload_n hx hb dX8_breaks_60 rfl (lv_at hl 0 rfl) ?_
                exact W.iret (v := y5_3) hx hb hr (fun t ht hW => ⟨⟨y5_3, v_13, rfl, ⟨hv, hfr⟩, by rw [ht]; exact hP, hD⟩, hS.F ht⟩) hS.2.2 dX8_breaks_61
              · refine lv_if_ne (tgt := 62) hx hb dX8_breaks_57 (by decide) (fun _ => ?_) (fun c9 => absurd c9 (by decide))
                obtain ⟨x_14, ex_14⟩ : ∃ y : Int32, y = y5_3 + 1 := ⟨_, rfl⟩
                refine lv_iinc (v := x_14) (lv' := [(3, .int x_14), (0, .ref (ad 0)), (1, .int x0), (2, .int x1)]) hx hb dX8_breaks_62 hl (k := 0) rfl (by rw [ex_14]; rfl) (by decide) rfl (fun ls hl => ?_)
                have tx_14 : x_14.toInt = y5_3.toInt + (1 : Int32).toInt := by rw [ex_14]; exact t_add ⟨by omega, by omega⟩
                refine lv_goto (tgt := 19) hx hb dX8_breaks_65 (by decide) ?_
                exact ih_5 x_14 v_13 _ _ (by omega) (by omega) (by omega) hv hfr hP hD hS ls (lv_sub hl [0, 1, 2, 3] rfl)
      exact hc_5 ((5 - (0 : Int32).toInt).toNat + 1) 0 v _ _ (by omega) (by omega) (by omega) hv hfr hP hD hS ls (lv_sub hl [0, 1, 2, 3] rfl)
    · have k_0 : (0 : Int32).toInt = 0 := by decide
      have k_1 : (1 : Int32).toInt = 1 := by decide
      have tc_4 : ¬ ((0 : Int32).toInt ≤ x1.toInt ∧ x1.toInt ≤ (1 : Int32).toInt) := fun q => hc_4 ⟨Int32.le_iff_toInt_le.mpr q.1, Int32.le_iff_toInt_le.mpr q.2⟩
      refine lv_if_ne (tgt := 17) hx hb dX8_breaks_12 (by decide) (fun c9 => absurd c9 (by decide)) (fun _ => ?_)
      refine lv_iconst (v := (-1)) hx hb dX8_breaks_15 (by decide) ?_
      exact W.iret (v := (-1)) hx hb hr (fun t ht hW => ⟨⟨(-1), v, rfl, ⟨hv, hfr⟩, by rw [ht]; exact hP, hD⟩, hS.F ht⟩) hS.2.2 dX8_breaks_16
  · refine lv_if_eq (tgt := 15) hx hb dX8_breaks_5 (by decide) (fun _ => ?_) (fun c9 => absurd c9 (by decide))
    refine lv_iconst (v := (-1)) hx hb dX8_breaks_15 (by decide) ?_
    exact W.iret (v := (-1)) hx hb hr (fun t ht hW => ⟨⟨(-1), v, rfl, ⟨hv, hfr⟩, by rw [ht]; exact hP, hD⟩, hS.F ht⟩) hS.2.2 dX8_breaks_16
