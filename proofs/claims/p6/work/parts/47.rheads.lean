set_option maxRecDepth 20000 in
theorem db_X8_findHeads_0 : (decode cX8_findHeads 0 = .ok (.iconst 0, 1)) ∧ (decode cX8_findHeads 1 = .ok (.istore_n 1, 1)) ∧ (decode cX8_findHeads 2 = .ok (.iload_n 1, 1)) ∧ (decode cX8_findHeads 3 = .ok (.aload_n 0, 1)) ∧ (decode cX8_findHeads 4 = .ok (.getfield 7, 3)) ∧ (decode cX8_findHeads 7 = .ok (.iconst 2, 1)) ∧ (decode cX8_findHeads 8 = .ok (.iaload, 1)) ∧ (decode cX8_findHeads 9 = .ok (.if_icmp .ge 16, 3)) := by decide +kernel
theorem dX8_findHeads_0 : decode cX8_findHeads 0 = .ok (.iconst 0, 1) := db_X8_findHeads_0.1
theorem dX8_findHeads_1 : decode cX8_findHeads 1 = .ok (.istore_n 1, 1) := db_X8_findHeads_0.2.1
theorem dX8_findHeads_2 : decode cX8_findHeads 2 = .ok (.iload_n 1, 1) := db_X8_findHeads_0.2.2.1
theorem dX8_findHeads_3 : decode cX8_findHeads 3 = .ok (.aload_n 0, 1) := db_X8_findHeads_0.2.2.2.1
theorem dX8_findHeads_4 : decode cX8_findHeads 4 = .ok (.getfield 7, 3) := db_X8_findHeads_0.2.2.2.2.1
theorem dX8_findHeads_7 : decode cX8_findHeads 7 = .ok (.iconst 2, 1) := db_X8_findHeads_0.2.2.2.2.2.1
theorem dX8_findHeads_8 : decode cX8_findHeads 8 = .ok (.iaload, 1) := db_X8_findHeads_0.2.2.2.2.2.2.1
theorem dX8_findHeads_9 : decode cX8_findHeads 9 = .ok (.if_icmp .ge 16, 3) := db_X8_findHeads_0.2.2.2.2.2.2.2
set_option maxRecDepth 20000 in
theorem db_X8_findHeads_25 : (decode cX8_findHeads 25 = .ok (.iconst 1, 1)) ∧ (decode cX8_findHeads 26 = .ok (.istore_n 1, 1)) ∧ (decode cX8_findHeads 27 = .ok (.iload_n 1, 1)) ∧ (decode cX8_findHeads 28 = .ok (.ifCond .eq 124, 3)) ∧ (decode cX8_findHeads 152 = .ok (.return_, 1)) ∧ (decode cX8_findHeads 31 = .ok (.iconst 0, 1)) ∧ (decode cX8_findHeads 32 = .ok (.istore_n 1, 1)) ∧ (decode cX8_findHeads 33 = .ok (.iconst 0, 1)) := by decide +kernel
theorem dX8_findHeads_25 : decode cX8_findHeads 25 = .ok (.iconst 1, 1) := db_X8_findHeads_25.1
theorem dX8_findHeads_26 : decode cX8_findHeads 26 = .ok (.istore_n 1, 1) := db_X8_findHeads_25.2.1
theorem dX8_findHeads_27 : decode cX8_findHeads 27 = .ok (.iload_n 1, 1) := db_X8_findHeads_25.2.2.1
theorem dX8_findHeads_28 : decode cX8_findHeads 28 = .ok (.ifCond .eq 124, 3) := db_X8_findHeads_25.2.2.2.1
theorem dX8_findHeads_152 : decode cX8_findHeads 152 = .ok (.return_, 1) := db_X8_findHeads_25.2.2.2.2.1
theorem dX8_findHeads_31 : decode cX8_findHeads 31 = .ok (.iconst 0, 1) := db_X8_findHeads_25.2.2.2.2.2.1
theorem dX8_findHeads_32 : decode cX8_findHeads 32 = .ok (.istore_n 1, 1) := db_X8_findHeads_25.2.2.2.2.2.2.1
theorem dX8_findHeads_33 : decode cX8_findHeads 33 = .ok (.iconst 0, 1) := db_X8_findHeads_25.2.2.2.2.2.2.2
set_option maxRecDepth 20000 in
theorem db_X8_findHeads_34 : (decode cX8_findHeads 34 = .ok (.istore_n 2, 1)) ∧ (decode cX8_findHeads 35 = .ok (.iload_n 2, 1)) ∧ (decode cX8_findHeads 36 = .ok (.aload_n 0, 1)) ∧ (decode cX8_findHeads 37 = .ok (.getfield 7, 3)) ∧ (decode cX8_findHeads 40 = .ok (.iconst 3, 1)) ∧ (decode cX8_findHeads 41 = .ok (.iaload, 1)) ∧ (decode cX8_findHeads 42 = .ok (.if_icmp .ge 107, 3)) ∧ (decode cX8_findHeads 149 = .ok (.goto (-122), 3)) := by decide +kernel
theorem dX8_findHeads_34 : decode cX8_findHeads 34 = .ok (.istore_n 2, 1) := db_X8_findHeads_34.1
theorem dX8_findHeads_35 : decode cX8_findHeads 35 = .ok (.iload_n 2, 1) := db_X8_findHeads_34.2.1
theorem dX8_findHeads_36 : decode cX8_findHeads 36 = .ok (.aload_n 0, 1) := db_X8_findHeads_34.2.2.1
theorem dX8_findHeads_37 : decode cX8_findHeads 37 = .ok (.getfield 7, 3) := db_X8_findHeads_34.2.2.2.1
theorem dX8_findHeads_40 : decode cX8_findHeads 40 = .ok (.iconst 3, 1) := db_X8_findHeads_34.2.2.2.2.1
theorem dX8_findHeads_41 : decode cX8_findHeads 41 = .ok (.iaload, 1) := db_X8_findHeads_34.2.2.2.2.2.1
theorem dX8_findHeads_42 : decode cX8_findHeads 42 = .ok (.if_icmp .ge 107, 3) := db_X8_findHeads_34.2.2.2.2.2.2.1
theorem dX8_findHeads_149 : decode cX8_findHeads 149 = .ok (.goto (-122), 3) := db_X8_findHeads_34.2.2.2.2.2.2.2
set_option maxRecDepth 20000 in
theorem db_X8_findHeads_45 : (decode cX8_findHeads 45 = .ok (.aload_n 0, 1)) ∧ (decode cX8_findHeads 46 = .ok (.getfield 7, 3)) ∧ (decode cX8_findHeads 49 = .ok (.sipush 146, 3)) ∧ (decode cX8_findHeads 52 = .ok (.iconst 2, 1)) ∧ (decode cX8_findHeads 53 = .ok (.iload_n 2, 1)) ∧ (decode cX8_findHeads 54 = .ok (.imul, 1)) ∧ (decode cX8_findHeads 55 = .ok (.iadd, 1)) ∧ (decode cX8_findHeads 56 = .ok (.iaload, 1)) := by decide +kernel
theorem dX8_findHeads_45 : decode cX8_findHeads 45 = .ok (.aload_n 0, 1) := db_X8_findHeads_45.1
theorem dX8_findHeads_46 : decode cX8_findHeads 46 = .ok (.getfield 7, 3) := db_X8_findHeads_45.2.1
theorem dX8_findHeads_49 : decode cX8_findHeads 49 = .ok (.sipush 146, 3) := db_X8_findHeads_45.2.2.1
theorem dX8_findHeads_52 : decode cX8_findHeads 52 = .ok (.iconst 2, 1) := db_X8_findHeads_45.2.2.2.1
theorem dX8_findHeads_53 : decode cX8_findHeads 53 = .ok (.iload_n 2, 1) := db_X8_findHeads_45.2.2.2.2.1
theorem dX8_findHeads_54 : decode cX8_findHeads 54 = .ok (.imul, 1) := db_X8_findHeads_45.2.2.2.2.2.1
theorem dX8_findHeads_55 : decode cX8_findHeads 55 = .ok (.iadd, 1) := db_X8_findHeads_45.2.2.2.2.2.2.1
theorem dX8_findHeads_56 : decode cX8_findHeads 56 = .ok (.iaload, 1) := db_X8_findHeads_45.2.2.2.2.2.2.2
set_option maxRecDepth 20000 in
theorem db_X8_findHeads_57 : (decode cX8_findHeads 57 = .ok (.istore_n 3, 1)) ∧ (decode cX8_findHeads 58 = .ok (.aload_n 0, 1)) ∧ (decode cX8_findHeads 59 = .ok (.getfield 7, 3)) ∧ (decode cX8_findHeads 62 = .ok (.sipush 146, 3)) ∧ (decode cX8_findHeads 65 = .ok (.iconst 2, 1)) ∧ (decode cX8_findHeads 66 = .ok (.iload_n 2, 1)) ∧ (decode cX8_findHeads 67 = .ok (.imul, 1)) ∧ (decode cX8_findHeads 68 = .ok (.iadd, 1)) := by decide +kernel
theorem dX8_findHeads_57 : decode cX8_findHeads 57 = .ok (.istore_n 3, 1) := db_X8_findHeads_57.1
theorem dX8_findHeads_58 : decode cX8_findHeads 58 = .ok (.aload_n 0, 1) := db_X8_findHeads_57.2.1
theorem dX8_findHeads_59 : decode cX8_findHeads 59 = .ok (.getfield 7, 3) := db_X8_findHeads_57.2.2.1
theorem dX8_findHeads_62 : decode cX8_findHeads 62 = .ok (.sipush 146, 3) := db_X8_findHeads_57.2.2.2.1
theorem dX8_findHeads_65 : decode cX8_findHeads 65 = .ok (.iconst 2, 1) := db_X8_findHeads_57.2.2.2.2.1
theorem dX8_findHeads_66 : decode cX8_findHeads 66 = .ok (.iload_n 2, 1) := db_X8_findHeads_57.2.2.2.2.2.1
theorem dX8_findHeads_67 : decode cX8_findHeads 67 = .ok (.imul, 1) := db_X8_findHeads_57.2.2.2.2.2.2.1
theorem dX8_findHeads_68 : decode cX8_findHeads 68 = .ok (.iadd, 1) := db_X8_findHeads_57.2.2.2.2.2.2.2
set_option maxRecDepth 20000 in
theorem db_X8_findHeads_69 : (decode cX8_findHeads 69 = .ok (.iconst 1, 1)) ∧ (decode cX8_findHeads 70 = .ok (.iadd, 1)) ∧ (decode cX8_findHeads 71 = .ok (.iaload, 1)) ∧ (decode cX8_findHeads 72 = .ok (.istore 4, 2)) ∧ (decode cX8_findHeads 74 = .ok (.aload_n 0, 1)) ∧ (decode cX8_findHeads 75 = .ok (.getfield 20, 3)) ∧ (decode cX8_findHeads 78 = .ok (.iload_n 3, 1)) ∧ (decode cX8_findHeads 79 = .ok (.iaload, 1)) := by decide +kernel
theorem dX8_findHeads_69 : decode cX8_findHeads 69 = .ok (.iconst 1, 1) := db_X8_findHeads_69.1
theorem dX8_findHeads_70 : decode cX8_findHeads 70 = .ok (.iadd, 1) := db_X8_findHeads_69.2.1
theorem dX8_findHeads_71 : decode cX8_findHeads 71 = .ok (.iaload, 1) := db_X8_findHeads_69.2.2.1
theorem dX8_findHeads_72 : decode cX8_findHeads 72 = .ok (.istore 4, 2) := db_X8_findHeads_69.2.2.2.1
theorem dX8_findHeads_74 : decode cX8_findHeads 74 = .ok (.aload_n 0, 1) := db_X8_findHeads_69.2.2.2.2.1
theorem dX8_findHeads_75 : decode cX8_findHeads 75 = .ok (.getfield 20, 3) := db_X8_findHeads_69.2.2.2.2.2.1
theorem dX8_findHeads_78 : decode cX8_findHeads 78 = .ok (.iload_n 3, 1) := db_X8_findHeads_69.2.2.2.2.2.2.1
theorem dX8_findHeads_79 : decode cX8_findHeads 79 = .ok (.iaload, 1) := db_X8_findHeads_69.2.2.2.2.2.2.2
set_option maxRecDepth 20000 in
theorem db_X8_findHeads_80 : (decode cX8_findHeads 80 = .ok (.aload_n 0, 1)) ∧ (decode cX8_findHeads 81 = .ok (.getfield 20, 3)) ∧ (decode cX8_findHeads 84 = .ok (.iload 4, 2)) ∧ (decode cX8_findHeads 86 = .ok (.iaload, 1)) ∧ (decode cX8_findHeads 87 = .ok (.if_icmp .eq 56, 3)) ∧ (decode cX8_findHeads 143 = .ok (.iinc 2 1, 3)) ∧ (decode cX8_findHeads 146 = .ok (.goto (-111), 3)) ∧ (decode cX8_findHeads 90 = .ok (.aload_n 0, 1)) := by decide +kernel
theorem dX8_findHeads_80 : decode cX8_findHeads 80 = .ok (.aload_n 0, 1) := db_X8_findHeads_80.1
theorem dX8_findHeads_81 : decode cX8_findHeads 81 = .ok (.getfield 20, 3) := db_X8_findHeads_80.2.1
theorem dX8_findHeads_84 : decode cX8_findHeads 84 = .ok (.iload 4, 2) := db_X8_findHeads_80.2.2.1
theorem dX8_findHeads_86 : decode cX8_findHeads 86 = .ok (.iaload, 1) := db_X8_findHeads_80.2.2.2.1
theorem dX8_findHeads_87 : decode cX8_findHeads 87 = .ok (.if_icmp .eq 56, 3) := db_X8_findHeads_80.2.2.2.2.1
theorem dX8_findHeads_143 : decode cX8_findHeads 143 = .ok (.iinc 2 1, 3) := db_X8_findHeads_80.2.2.2.2.2.1
theorem dX8_findHeads_146 : decode cX8_findHeads 146 = .ok (.goto (-111), 3) := db_X8_findHeads_80.2.2.2.2.2.2.1
theorem dX8_findHeads_90 : decode cX8_findHeads 90 = .ok (.aload_n 0, 1) := db_X8_findHeads_80.2.2.2.2.2.2.2
set_option maxRecDepth 20000 in
theorem db_X8_findHeads_91 : (decode cX8_findHeads 91 = .ok (.getfield 20, 3)) ∧ (decode cX8_findHeads 94 = .ok (.iload_n 3, 1)) ∧ (decode cX8_findHeads 95 = .ok (.iaload, 1)) ∧ (decode cX8_findHeads 96 = .ok (.aload_n 0, 1)) ∧ (decode cX8_findHeads 97 = .ok (.getfield 20, 3)) ∧ (decode cX8_findHeads 100 = .ok (.iload 4, 2)) ∧ (decode cX8_findHeads 102 = .ok (.iaload, 1)) ∧ (decode cX8_findHeads 103 = .ok (.if_icmp .ge 12, 3)) := by decide +kernel
theorem dX8_findHeads_91 : decode cX8_findHeads 91 = .ok (.getfield 20, 3) := db_X8_findHeads_91.1
theorem dX8_findHeads_94 : decode cX8_findHeads 94 = .ok (.iload_n 3, 1) := db_X8_findHeads_91.2.1
theorem dX8_findHeads_95 : decode cX8_findHeads 95 = .ok (.iaload, 1) := db_X8_findHeads_91.2.2.1
theorem dX8_findHeads_96 : decode cX8_findHeads 96 = .ok (.aload_n 0, 1) := db_X8_findHeads_91.2.2.2.1
theorem dX8_findHeads_97 : decode cX8_findHeads 97 = .ok (.getfield 20, 3) := db_X8_findHeads_91.2.2.2.2.1
theorem dX8_findHeads_100 : decode cX8_findHeads 100 = .ok (.iload 4, 2) := db_X8_findHeads_91.2.2.2.2.2.1
theorem dX8_findHeads_102 : decode cX8_findHeads 102 = .ok (.iaload, 1) := db_X8_findHeads_91.2.2.2.2.2.2.1
theorem dX8_findHeads_103 : decode cX8_findHeads 103 = .ok (.if_icmp .ge 12, 3) := db_X8_findHeads_91.2.2.2.2.2.2.2
set_option maxRecDepth 20000 in
theorem db_X8_findHeads_115 : (decode cX8_findHeads 115 = .ok (.aload_n 0, 1)) ∧ (decode cX8_findHeads 116 = .ok (.getfield 20, 3)) ∧ (decode cX8_findHeads 119 = .ok (.iload 4, 2)) ∧ (decode cX8_findHeads 121 = .ok (.iaload, 1)) ∧ (decode cX8_findHeads 122 = .ok (.istore 5, 2)) ∧ (decode cX8_findHeads 124 = .ok (.aload_n 0, 1)) ∧ (decode cX8_findHeads 125 = .ok (.getfield 20, 3)) ∧ (decode cX8_findHeads 128 = .ok (.iload_n 3, 1)) := by decide +kernel
theorem dX8_findHeads_115 : decode cX8_findHeads 115 = .ok (.aload_n 0, 1) := db_X8_findHeads_115.1
theorem dX8_findHeads_116 : decode cX8_findHeads 116 = .ok (.getfield 20, 3) := db_X8_findHeads_115.2.1
theorem dX8_findHeads_119 : decode cX8_findHeads 119 = .ok (.iload 4, 2) := db_X8_findHeads_115.2.2.1
theorem dX8_findHeads_121 : decode cX8_findHeads 121 = .ok (.iaload, 1) := db_X8_findHeads_115.2.2.2.1
theorem dX8_findHeads_122 : decode cX8_findHeads 122 = .ok (.istore 5, 2) := db_X8_findHeads_115.2.2.2.2.1
theorem dX8_findHeads_124 : decode cX8_findHeads 124 = .ok (.aload_n 0, 1) := db_X8_findHeads_115.2.2.2.2.2.1
theorem dX8_findHeads_125 : decode cX8_findHeads 125 = .ok (.getfield 20, 3) := db_X8_findHeads_115.2.2.2.2.2.2.1
theorem dX8_findHeads_128 : decode cX8_findHeads 128 = .ok (.iload_n 3, 1) := db_X8_findHeads_115.2.2.2.2.2.2.2
set_option maxRecDepth 20000 in
theorem db_X8_findHeads_129 : (decode cX8_findHeads 129 = .ok (.iload 5, 2)) ∧ (decode cX8_findHeads 131 = .ok (.iastore, 1)) ∧ (decode cX8_findHeads 132 = .ok (.aload_n 0, 1)) ∧ (decode cX8_findHeads 133 = .ok (.getfield 20, 3)) ∧ (decode cX8_findHeads 136 = .ok (.iload 4, 2)) ∧ (decode cX8_findHeads 138 = .ok (.iload 5, 2)) ∧ (decode cX8_findHeads 140 = .ok (.iastore, 1)) ∧ (decode cX8_findHeads 141 = .ok (.iconst 1, 1)) := by decide +kernel
theorem dX8_findHeads_129 : decode cX8_findHeads 129 = .ok (.iload 5, 2) := db_X8_findHeads_129.1
theorem dX8_findHeads_131 : decode cX8_findHeads 131 = .ok (.iastore, 1) := db_X8_findHeads_129.2.1
theorem dX8_findHeads_132 : decode cX8_findHeads 132 = .ok (.aload_n 0, 1) := db_X8_findHeads_129.2.2.1
theorem dX8_findHeads_133 : decode cX8_findHeads 133 = .ok (.getfield 20, 3) := db_X8_findHeads_129.2.2.2.1
theorem dX8_findHeads_136 : decode cX8_findHeads 136 = .ok (.iload 4, 2) := db_X8_findHeads_129.2.2.2.2.1
theorem dX8_findHeads_138 : decode cX8_findHeads 138 = .ok (.iload 5, 2) := db_X8_findHeads_129.2.2.2.2.2.1
theorem dX8_findHeads_140 : decode cX8_findHeads 140 = .ok (.iastore, 1) := db_X8_findHeads_129.2.2.2.2.2.2.1
theorem dX8_findHeads_141 : decode cX8_findHeads 141 = .ok (.iconst 1, 1) := db_X8_findHeads_129.2.2.2.2.2.2.2
set_option maxRecDepth 20000 in
theorem db_X8_findHeads_142 : (decode cX8_findHeads 142 = .ok (.istore_n 1, 1)) ∧ (decode cX8_findHeads 106 = .ok (.aload_n 0, 1)) ∧ (decode cX8_findHeads 107 = .ok (.getfield 20, 3)) ∧ (decode cX8_findHeads 110 = .ok (.iload_n 3, 1)) ∧ (decode cX8_findHeads 111 = .ok (.iaload, 1)) ∧ (decode cX8_findHeads 112 = .ok (.goto 10, 3)) ∧ (decode cX8_findHeads 12 = .ok (.aload_n 0, 1)) ∧ (decode cX8_findHeads 13 = .ok (.getfield 20, 3)) := by decide +kernel
theorem dX8_findHeads_142 : decode cX8_findHeads 142 = .ok (.istore_n 1, 1) := db_X8_findHeads_142.1
theorem dX8_findHeads_106 : decode cX8_findHeads 106 = .ok (.aload_n 0, 1) := db_X8_findHeads_142.2.1
theorem dX8_findHeads_107 : decode cX8_findHeads 107 = .ok (.getfield 20, 3) := db_X8_findHeads_142.2.2.1
theorem dX8_findHeads_110 : decode cX8_findHeads 110 = .ok (.iload_n 3, 1) := db_X8_findHeads_142.2.2.2.1
theorem dX8_findHeads_111 : decode cX8_findHeads 111 = .ok (.iaload, 1) := db_X8_findHeads_142.2.2.2.2.1
theorem dX8_findHeads_112 : decode cX8_findHeads 112 = .ok (.goto 10, 3) := db_X8_findHeads_142.2.2.2.2.2.1
theorem dX8_findHeads_12 : decode cX8_findHeads 12 = .ok (.aload_n 0, 1) := db_X8_findHeads_142.2.2.2.2.2.2.1
theorem dX8_findHeads_13 : decode cX8_findHeads 13 = .ok (.getfield 20, 3) := db_X8_findHeads_142.2.2.2.2.2.2.2
set_option maxRecDepth 20000 in
theorem db_X8_findHeads_16 : (decode cX8_findHeads 16 = .ok (.iload_n 1, 1)) ∧ (decode cX8_findHeads 17 = .ok (.iload_n 1, 1)) ∧ (decode cX8_findHeads 18 = .ok (.iastore, 1)) ∧ (decode cX8_findHeads 19 = .ok (.iinc 1 1, 3)) ∧ (decode cX8_findHeads 22 = .ok (.goto (-20), 3)) := by decide +kernel
theorem dX8_findHeads_16 : decode cX8_findHeads 16 = .ok (.iload_n 1, 1) := db_X8_findHeads_16.1
theorem dX8_findHeads_17 : decode cX8_findHeads 17 = .ok (.iload_n 1, 1) := db_X8_findHeads_16.2.1
theorem dX8_findHeads_18 : decode cX8_findHeads 18 = .ok (.iastore, 1) := db_X8_findHeads_16.2.2.1
theorem dX8_findHeads_19 : decode cX8_findHeads 19 = .ok (.iinc 1 1, 3) := db_X8_findHeads_16.2.2.2.1
theorem dX8_findHeads_22 : decode cX8_findHeads 22 = .ok (.goto (-20), 3) := db_X8_findHeads_16.2.2.2.2
set_option maxRecDepth 20000 in
theorem db_X8_of_0 : (decode cX8_of 0 = .ok (.aload_n 0, 1)) ∧ (decode cX8_of 1 = .ok (.iload_n 1, 1)) ∧ (decode cX8_of 2 = .ok (.invokevirtual 50, 3)) ∧ (decode cX8_of 5 = .ok (.ifCond .eq 13, 3)) ∧ (decode cX8_of 8 = .ok (.iload_n 2, 1)) ∧ (decode cX8_of 9 = .ok (.iconst 0, 1)) ∧ (decode cX8_of 10 = .ok (.bipush 7, 2)) ∧ (decode cX8_of 12 = .ok (.invokestatic 35, 3)) := by decide +kernel
theorem dX8_of_0 : decode cX8_of 0 = .ok (.aload_n 0, 1) := db_X8_of_0.1
theorem dX8_of_1 : decode cX8_of 1 = .ok (.iload_n 1, 1) := db_X8_of_0.2.1
set_option maxRecDepth 20000 in
theorem ggX8_of_X8_isCase : GoodIn wsX8_of wsX8_isCase := goodIn_r _ [7, 2, 8, 9, 6, 10, 22, 23, 24, 25, 26, 27, 28, 29, 30, 31, 32] rfl (by decide +kernel)
set_option maxRecDepth 20000 in
theorem gX8_of_X8_isCase : GoodIn wsX8_of (wsV RX8 50 RX8 yX8_isCase wsX8_isCase) := goodIn_app (goodIn_r _ [3, 4, 5, 6] rfl (by decide +kernel)) ggX8_of_X8_isCase
theorem dX8_of_2 : decode cX8_of 2 = .ok (.invokevirtual 50, 3) := db_X8_of_0.2.2.1
theorem dX8_of_5 : decode cX8_of 5 = .ok (.ifCond .eq 13, 3) := db_X8_of_0.2.2.2.1
theorem dX8_of_8 : decode cX8_of 8 = .ok (.iload_n 2, 1) := db_X8_of_0.2.2.2.2.1
theorem dX8_of_9 : decode cX8_of 9 = .ok (.iconst 0, 1) := db_X8_of_0.2.2.2.2.2.1
theorem dX8_of_10 : decode cX8_of 10 = .ok (.bipush 7, 2) := db_X8_of_0.2.2.2.2.2.2.1
set_option maxRecDepth 20000 in
theorem ggX8_of_X8_in : GoodIn wsX8_of wsX8_in := goodIn_r _ [10] rfl (by decide +kernel)
set_option maxRecDepth 20000 in
theorem gX8_of_X8_in : GoodIn wsX8_of (va_wsS RX8 35 yX8_in wsX8_in) := goodIn_app (goodIn_r _ [8, 9, 6] rfl (by decide +kernel)) ggX8_of_X8_in
theorem dX8_of_12 : decode cX8_of 12 = .ok (.invokestatic 35, 3) := db_X8_of_0.2.2.2.2.2.2.2
set_option maxRecDepth 20000 in
theorem db_X8_of_15 : (decode cX8_of 15 = .ok (.ifCond .ne 5, 3)) ∧ (decode cX8_of 20 = .ok (.iload_n 2, 1)) ∧ (decode cX8_of 21 = .ok (.iconst 5, 1)) ∧ (decode cX8_of 22 = .ok (.if_icmp .eq 9, 3)) ∧ (decode cX8_of 31 = .ok (.aload_n 0, 1)) ∧ (decode cX8_of 32 = .ok (.invokevirtual 53, 3)) ∧ (decode cX8_of 35 = .ok (.iload_n 2, 1)) ∧ (decode cX8_of 36 = .ok (.iconst 5, 1)) := by decide +kernel
theorem dX8_of_15 : decode cX8_of 15 = .ok (.ifCond .ne 5, 3) := db_X8_of_15.1
theorem dX8_of_20 : decode cX8_of 20 = .ok (.iload_n 2, 1) := db_X8_of_15.2.1
theorem dX8_of_21 : decode cX8_of 21 = .ok (.iconst 5, 1) := db_X8_of_15.2.2.1
theorem dX8_of_22 : decode cX8_of 22 = .ok (.if_icmp .eq 9, 3) := db_X8_of_15.2.2.2.1
theorem dX8_of_31 : decode cX8_of 31 = .ok (.aload_n 0, 1) := db_X8_of_15.2.2.2.2.1
set_option maxRecDepth 20000 in
theorem ggX8_of_X8_findHeads : GoodIn wsX8_of wsX8_findHeads := goodIn_r _ [14, 2, 1, 22, 23, 24, 25, 26, 27, 28, 29, 30, 31, 32] rfl (by decide +kernel)
set_option maxRecDepth 20000 in
theorem gX8_of_X8_findHeads : GoodIn wsX8_of (wsV RX8 53 RX8 yX8_findHeads wsX8_findHeads) := goodIn_app (goodIn_r _ [11, 12, 13, 6] rfl (by decide +kernel)) ggX8_of_X8_findHeads
theorem dX8_of_32 : decode cX8_of 32 = .ok (.invokevirtual 53, 3) := db_X8_of_15.2.2.2.2.2.1
theorem dX8_of_35 : decode cX8_of 35 = .ok (.iload_n 2, 1) := db_X8_of_15.2.2.2.2.2.2.1
theorem dX8_of_36 : decode cX8_of 36 = .ok (.iconst 5, 1) := db_X8_of_15.2.2.2.2.2.2.2
set_option maxRecDepth 20000 in
theorem db_X8_of_37 : (decode cX8_of 37 = .ok (.if_icmp .ne 12, 3)) ∧ (decode cX8_of 40 = .ok (.aload_n 0, 1)) ∧ (decode cX8_of 41 = .ok (.getfield 20, 3)) ∧ (decode cX8_of 44 = .ok (.iload_n 1, 1)) ∧ (decode cX8_of 45 = .ok (.iaload, 1)) ∧ (decode cX8_of 46 = .ok (.goto 8, 3)) ∧ (decode cX8_of 54 = .ok (.ireturn, 1)) ∧ (decode cX8_of 25 = .ok (.iload_n 2, 1)) := by decide +kernel
theorem dX8_of_37 : decode cX8_of 37 = .ok (.if_icmp .ne 12, 3) := db_X8_of_37.1
theorem dX8_of_40 : decode cX8_of 40 = .ok (.aload_n 0, 1) := db_X8_of_37.2.1
theorem dX8_of_41 : decode cX8_of 41 = .ok (.getfield 20, 3) := db_X8_of_37.2.2.1
theorem dX8_of_44 : decode cX8_of 44 = .ok (.iload_n 1, 1) := db_X8_of_37.2.2.2.1
theorem dX8_of_45 : decode cX8_of 45 = .ok (.iaload, 1) := db_X8_of_37.2.2.2.2.1
theorem dX8_of_46 : decode cX8_of 46 = .ok (.goto 8, 3) := db_X8_of_37.2.2.2.2.2.1
theorem dX8_of_54 : decode cX8_of 54 = .ok (.ireturn, 1) := db_X8_of_37.2.2.2.2.2.2.1
theorem dX8_of_25 : decode cX8_of 25 = .ok (.iload_n 2, 1) := db_X8_of_37.2.2.2.2.2.2.2
set_option maxRecDepth 20000 in
theorem db_X8_of_26 : (decode cX8_of 26 = .ok (.bipush 6, 2)) ∧ (decode cX8_of 28 = .ok (.if_icmp .ne 27, 3)) ∧ (decode cX8_of 55 = .ok (.aload_n 0, 1)) ∧ (decode cX8_of 56 = .ok (.getfield 7, 3)) ∧ (decode cX8_of 59 = .ok (.iload_n 1, 1)) ∧ (decode cX8_of 60 = .ok (.iload_n 2, 1)) ∧ (decode cX8_of 61 = .ok (.bipush 7, 2)) ∧ (decode cX8_of 63 = .ok (.if_icmp .ne 7, 3)) := by decide +kernel
theorem dX8_of_26 : decode cX8_of 26 = .ok (.bipush 6, 2) := db_X8_of_26.1
theorem dX8_of_28 : decode cX8_of 28 = .ok (.if_icmp .ne 27, 3) := db_X8_of_26.2.1
theorem dX8_of_55 : decode cX8_of 55 = .ok (.aload_n 0, 1) := db_X8_of_26.2.2.1
theorem dX8_of_56 : decode cX8_of 56 = .ok (.getfield 7, 3) := db_X8_of_26.2.2.2.1
theorem dX8_of_59 : decode cX8_of 59 = .ok (.iload_n 1, 1) := db_X8_of_26.2.2.2.2.1
theorem dX8_of_60 : decode cX8_of 60 = .ok (.iload_n 2, 1) := db_X8_of_26.2.2.2.2.2.1
theorem dX8_of_61 : decode cX8_of 61 = .ok (.bipush 7, 2) := db_X8_of_26.2.2.2.2.2.2.1
theorem dX8_of_63 : decode cX8_of 63 = .ok (.if_icmp .ne 7, 3) := db_X8_of_26.2.2.2.2.2.2.2
set_option maxRecDepth 20000 in
theorem db_X8_of_70 : (decode cX8_of 70 = .ok (.iload_n 2, 1)) ∧ (decode cX8_of 71 = .ok (.invokestatic 46, 3)) ∧ (decode cX8_of 74 = .ok (.iaload, 1)) ∧ (decode cX8_of 75 = .ok (.ireturn, 1)) ∧ (decode cX8_of 66 = .ok (.iconst 5, 1)) ∧ (decode cX8_of 67 = .ok (.goto 4, 3)) ∧ (decode cX8_of 49 = .ok (.aload_n 0, 1)) ∧ (decode cX8_of 50 = .ok (.iload_n 1, 1)) := by decide +kernel
theorem dX8_of_70 : decode cX8_of 70 = .ok (.iload_n 2, 1) := db_X8_of_70.1
set_option maxRecDepth 20000 in
theorem ggX8_of_X8_at : GoodIn wsX8_of wsX8_at := goodIn_r _ [21] rfl (by decide +kernel)
set_option maxRecDepth 20000 in
theorem gX8_of_X8_at : GoodIn wsX8_of (va_wsS RX8 46 yX8_at wsX8_at) := goodIn_app (goodIn_r _ [19, 20, 6] rfl (by decide +kernel)) ggX8_of_X8_at
theorem dX8_of_71 : decode cX8_of 71 = .ok (.invokestatic 46, 3) := db_X8_of_70.2.1
theorem dX8_of_74 : decode cX8_of 74 = .ok (.iaload, 1) := db_X8_of_70.2.2.1
theorem dX8_of_75 : decode cX8_of 75 = .ok (.ireturn, 1) := db_X8_of_70.2.2.2.1
theorem dX8_of_66 : decode cX8_of 66 = .ok (.iconst 5, 1) := db_X8_of_70.2.2.2.2.1
theorem dX8_of_67 : decode cX8_of 67 = .ok (.goto 4, 3) := db_X8_of_70.2.2.2.2.2.1
theorem dX8_of_49 : decode cX8_of 49 = .ok (.aload_n 0, 1) := db_X8_of_70.2.2.2.2.2.2.1
theorem dX8_of_50 : decode cX8_of 50 = .ok (.iload_n 1, 1) := db_X8_of_70.2.2.2.2.2.2.2
set_option maxRecDepth 20000 in
theorem ggX8_of_X8_joined : GoodIn wsX8_of wsX8_joined := goodIn_r _ [18, 2, 1, 22, 23, 24, 25, 26, 27, 28, 29, 30, 31, 32] rfl (by decide +kernel)
set_option maxRecDepth 20000 in
theorem gX8_of_X8_joined : GoodIn wsX8_of (wsV RX8 56 RX8 yX8_joined wsX8_joined) := goodIn_app (goodIn_r _ [15, 16, 17, 6] rfl (by decide +kernel)) ggX8_of_X8_joined
set_option maxRecDepth 20000 in
theorem db_X8_of_51 : (decode cX8_of 51 = .ok (.invokevirtual 56, 3)) ∧ (decode cX8_of 18 = .ok (.iconst (-1), 1)) ∧ (decode cX8_of 19 = .ok (.ireturn, 1)) := by decide +kernel
theorem dX8_of_51 : decode cX8_of 51 = .ok (.invokevirtual 56, 3) := db_X8_of_51.1
theorem dX8_of_18 : decode cX8_of 18 = .ok (.iconst (-1), 1) := db_X8_of_51.2.1
theorem dX8_of_19 : decode cX8_of 19 = .ok (.ireturn, 1) := db_X8_of_51.2.2
set_option maxRecDepth 20000 in
theorem db_X8_quarrels_0 : (decode cX8_quarrels 0 = .ok (.aload_n 0, 1)) ∧ (decode cX8_quarrels 1 = .ok (.invokevirtual 53, 3)) ∧ (decode cX8_quarrels 4 = .ok (.iconst 0, 1)) ∧ (decode cX8_quarrels 5 = .ok (.istore_n 1, 1)) ∧ (decode cX8_quarrels 6 = .ok (.iconst 0, 1)) ∧ (decode cX8_quarrels 7 = .ok (.istore_n 2, 1)) ∧ (decode cX8_quarrels 8 = .ok (.iload_n 2, 1)) ∧ (decode cX8_quarrels 9 = .ok (.aload_n 0, 1)) := by decide +kernel
theorem dX8_quarrels_0 : decode cX8_quarrels 0 = .ok (.aload_n 0, 1) := db_X8_quarrels_0.1
set_option maxRecDepth 20000 in
theorem ggX8_quarrels_X8_findHeads : GoodIn wsX8_quarrels wsX8_findHeads := goodIn_r _ [7, 1, 2, 8, 9, 10, 11, 12, 13, 14, 15, 16, 17, 18] rfl (by decide +kernel)
set_option maxRecDepth 20000 in
theorem gX8_quarrels_X8_findHeads : GoodIn wsX8_quarrels (wsV RX8 53 RX8 yX8_findHeads wsX8_findHeads) := goodIn_app (goodIn_r _ [3, 4, 5, 6] rfl (by decide +kernel)) ggX8_quarrels_X8_findHeads
theorem dX8_quarrels_1 : decode cX8_quarrels 1 = .ok (.invokevirtual 53, 3) := db_X8_quarrels_0.2.1
theorem dX8_quarrels_4 : decode cX8_quarrels 4 = .ok (.iconst 0, 1) := db_X8_quarrels_0.2.2.1
theorem dX8_quarrels_5 : decode cX8_quarrels 5 = .ok (.istore_n 1, 1) := db_X8_quarrels_0.2.2.2.1
theorem dX8_quarrels_6 : decode cX8_quarrels 6 = .ok (.iconst 0, 1) := db_X8_quarrels_0.2.2.2.2.1
theorem dX8_quarrels_7 : decode cX8_quarrels 7 = .ok (.istore_n 2, 1) := db_X8_quarrels_0.2.2.2.2.2.1
theorem dX8_quarrels_8 : decode cX8_quarrels 8 = .ok (.iload_n 2, 1) := db_X8_quarrels_0.2.2.2.2.2.2.1
theorem dX8_quarrels_9 : decode cX8_quarrels 9 = .ok (.aload_n 0, 1) := db_X8_quarrels_0.2.2.2.2.2.2.2
set_option maxRecDepth 20000 in
theorem db_X8_quarrels_10 : (decode cX8_quarrels 10 = .ok (.getfield 7, 3)) ∧ (decode cX8_quarrels 13 = .ok (.iconst 2, 1)) ∧ (decode cX8_quarrels 14 = .ok (.iaload, 1)) ∧ (decode cX8_quarrels 15 = .ok (.if_icmp .ge 27, 3)) ∧ (decode cX8_quarrels 42 = .ok (.iload_n 1, 1)) ∧ (decode cX8_quarrels 43 = .ok (.ireturn, 1)) ∧ (decode cX8_quarrels 18 = .ok (.iload_n 1, 1)) ∧ (decode cX8_quarrels 19 = .ok (.aload_n 0, 1)) := by decide +kernel
theorem dX8_quarrels_10 : decode cX8_quarrels 10 = .ok (.getfield 7, 3) := db_X8_quarrels_10.1
theorem dX8_quarrels_13 : decode cX8_quarrels 13 = .ok (.iconst 2, 1) := db_X8_quarrels_10.2.1
theorem dX8_quarrels_14 : decode cX8_quarrels 14 = .ok (.iaload, 1) := db_X8_quarrels_10.2.2.1
theorem dX8_quarrels_15 : decode cX8_quarrels 15 = .ok (.if_icmp .ge 27, 3) := db_X8_quarrels_10.2.2.2.1
theorem dX8_quarrels_42 : decode cX8_quarrels 42 = .ok (.iload_n 1, 1) := db_X8_quarrels_10.2.2.2.2.1
theorem dX8_quarrels_43 : decode cX8_quarrels 43 = .ok (.ireturn, 1) := db_X8_quarrels_10.2.2.2.2.2.1
theorem dX8_quarrels_18 : decode cX8_quarrels 18 = .ok (.iload_n 1, 1) := db_X8_quarrels_10.2.2.2.2.2.2.1
theorem dX8_quarrels_19 : decode cX8_quarrels 19 = .ok (.aload_n 0, 1) := db_X8_quarrels_10.2.2.2.2.2.2.2
set_option maxRecDepth 20000 in
theorem db_X8_quarrels_20 : (decode cX8_quarrels 20 = .ok (.getfield 20, 3)) ∧ (decode cX8_quarrels 23 = .ok (.iload_n 2, 1)) ∧ (decode cX8_quarrels 24 = .ok (.iaload, 1)) ∧ (decode cX8_quarrels 25 = .ok (.iload_n 2, 1)) ∧ (decode cX8_quarrels 26 = .ok (.if_icmp .ne 7, 3)) ∧ (decode cX8_quarrels 33 = .ok (.iconst 0, 1)) ∧ (decode cX8_quarrels 34 = .ok (.iadd, 1)) ∧ (decode cX8_quarrels 35 = .ok (.istore_n 1, 1)) := by decide +kernel
theorem dX8_quarrels_20 : decode cX8_quarrels 20 = .ok (.getfield 20, 3) := db_X8_quarrels_20.1
theorem dX8_quarrels_23 : decode cX8_quarrels 23 = .ok (.iload_n 2, 1) := db_X8_quarrels_20.2.1
theorem dX8_quarrels_24 : decode cX8_quarrels 24 = .ok (.iaload, 1) := db_X8_quarrels_20.2.2.1
theorem dX8_quarrels_25 : decode cX8_quarrels 25 = .ok (.iload_n 2, 1) := db_X8_quarrels_20.2.2.2.1
theorem dX8_quarrels_26 : decode cX8_quarrels 26 = .ok (.if_icmp .ne 7, 3) := db_X8_quarrels_20.2.2.2.2.1
theorem dX8_quarrels_33 : decode cX8_quarrels 33 = .ok (.iconst 0, 1) := db_X8_quarrels_20.2.2.2.2.2.1
theorem dX8_quarrels_34 : decode cX8_quarrels 34 = .ok (.iadd, 1) := db_X8_quarrels_20.2.2.2.2.2.2.1
theorem dX8_quarrels_35 : decode cX8_quarrels 35 = .ok (.istore_n 1, 1) := db_X8_quarrels_20.2.2.2.2.2.2.2
set_option maxRecDepth 20000 in
theorem db_X8_quarrels_36 : (decode cX8_quarrels 36 = .ok (.iinc 2 1, 3)) ∧ (decode cX8_quarrels 39 = .ok (.goto (-31), 3)) ∧ (decode cX8_quarrels 29 = .ok (.iconst 1, 1)) ∧ (decode cX8_quarrels 30 = .ok (.goto 4, 3)) := by decide +kernel
theorem dX8_quarrels_36 : decode cX8_quarrels 36 = .ok (.iinc 2 1, 3) := db_X8_quarrels_36.1
theorem dX8_quarrels_39 : decode cX8_quarrels 39 = .ok (.goto (-31), 3) := db_X8_quarrels_36.2.1
theorem dX8_quarrels_29 : decode cX8_quarrels 29 = .ok (.iconst 1, 1) := db_X8_quarrels_36.2.2.1
theorem dX8_quarrels_30 : decode cX8_quarrels 30 = .ok (.goto 4, 3) := db_X8_quarrels_36.2.2.2
set_option maxRecDepth 20000 in
theorem db_X8_many_0 : (decode cX8_many 0 = .ok (.iload_n 1, 1)) ∧ (decode cX8_many 1 = .ok (.tableswitch 128 0 10 #[59, 66, 73, 80, 86, 92, 99, 104, 110, 116, 122], 59)) ∧ (decode cX8_many 129 = .ok (.iconst (-1), 1)) ∧ (decode cX8_many 130 = .ok (.ireturn, 1)) ∧ (decode cX8_many 60 = .ok (.aload_n 0, 1)) ∧ (decode cX8_many 61 = .ok (.getfield 7, 3)) ∧ (decode cX8_many 64 = .ok (.iconst 0, 1)) ∧ (decode cX8_many 65 = .ok (.iaload, 1)) := by decide +kernel
theorem dX8_many_0 : decode cX8_many 0 = .ok (.iload_n 1, 1) := db_X8_many_0.1
theorem dX8_many_1 : decode cX8_many 1 = .ok (.tableswitch 128 0 10 #[59, 66, 73, 80, 86, 92, 99, 104, 110, 116, 122], 59) := db_X8_many_0.2.1
theorem dX8_many_129 : decode cX8_many 129 = .ok (.iconst (-1), 1) := db_X8_many_0.2.2.1
theorem dX8_many_130 : decode cX8_many 130 = .ok (.ireturn, 1) := db_X8_many_0.2.2.2.1
theorem dX8_many_60 : decode cX8_many 60 = .ok (.aload_n 0, 1) := db_X8_many_0.2.2.2.2.1
theorem dX8_many_61 : decode cX8_many 61 = .ok (.getfield 7, 3) := db_X8_many_0.2.2.2.2.2.1
theorem dX8_many_64 : decode cX8_many 64 = .ok (.iconst 0, 1) := db_X8_many_0.2.2.2.2.2.2.1
theorem dX8_many_65 : decode cX8_many 65 = .ok (.iaload, 1) := db_X8_many_0.2.2.2.2.2.2.2
set_option maxRecDepth 20000 in
theorem db_X8_many_66 : (decode cX8_many 66 = .ok (.ireturn, 1)) ∧ (decode cX8_many 67 = .ok (.aload_n 0, 1)) ∧ (decode cX8_many 68 = .ok (.getfield 7, 3)) ∧ (decode cX8_many 71 = .ok (.iconst 1, 1)) ∧ (decode cX8_many 72 = .ok (.iaload, 1)) ∧ (decode cX8_many 73 = .ok (.ireturn, 1)) ∧ (decode cX8_many 74 = .ok (.aload_n 0, 1)) ∧ (decode cX8_many 75 = .ok (.getfield 7, 3)) := by decide +kernel
theorem dX8_many_66 : decode cX8_many 66 = .ok (.ireturn, 1) := db_X8_many_66.1
theorem dX8_many_67 : decode cX8_many 67 = .ok (.aload_n 0, 1) := db_X8_many_66.2.1
theorem dX8_many_68 : decode cX8_many 68 = .ok (.getfield 7, 3) := db_X8_many_66.2.2.1
theorem dX8_many_71 : decode cX8_many 71 = .ok (.iconst 1, 1) := db_X8_many_66.2.2.2.1
theorem dX8_many_72 : decode cX8_many 72 = .ok (.iaload, 1) := db_X8_many_66.2.2.2.2.1
theorem dX8_many_73 : decode cX8_many 73 = .ok (.ireturn, 1) := db_X8_many_66.2.2.2.2.2.1
theorem dX8_many_74 : decode cX8_many 74 = .ok (.aload_n 0, 1) := db_X8_many_66.2.2.2.2.2.2.1
theorem dX8_many_75 : decode cX8_many 75 = .ok (.getfield 7, 3) := db_X8_many_66.2.2.2.2.2.2.2
set_option maxRecDepth 20000 in
theorem db_X8_many_78 : (decode cX8_many 78 = .ok (.iconst 2, 1)) ∧ (decode cX8_many 79 = .ok (.iaload, 1)) ∧ (decode cX8_many 80 = .ok (.ireturn, 1)) ∧ (decode cX8_many 81 = .ok (.aload_n 0, 1)) ∧ (decode cX8_many 82 = .ok (.iconst 0, 1)) ∧ (decode cX8_many 83 = .ok (.invokevirtual 124, 3)) ∧ (decode cX8_many 86 = .ok (.ireturn, 1)) ∧ (decode cX8_many 87 = .ok (.aload_n 0, 1)) := by decide +kernel
theorem dX8_many_78 : decode cX8_many 78 = .ok (.iconst 2, 1) := db_X8_many_78.1
theorem dX8_many_79 : decode cX8_many 79 = .ok (.iaload, 1) := db_X8_many_78.2.1
theorem dX8_many_80 : decode cX8_many 80 = .ok (.ireturn, 1) := db_X8_many_78.2.2.1
theorem dX8_many_81 : decode cX8_many 81 = .ok (.aload_n 0, 1) := db_X8_many_78.2.2.2.1
theorem dX8_many_82 : decode cX8_many 82 = .ok (.iconst 0, 1) := db_X8_many_78.2.2.2.2.1
set_option maxRecDepth 20000 in
theorem ggX8_many_X8_casesThat : GoodIn wsX8_many wsX8_casesThat := goodIn_r _ [6, 1, 7, 8, 5, 9, 30, 31, 32, 33, 34, 35, 36, 37, 38, 39, 40] rfl (by decide +kernel)
set_option maxRecDepth 20000 in
theorem gX8_many_X8_casesThat : GoodIn wsX8_many (wsV RX8 124 RX8 yX8_casesThat wsX8_casesThat) := goodIn_app (goodIn_r _ [2, 3, 4, 5] rfl (by decide +kernel)) ggX8_many_X8_casesThat
theorem dX8_many_83 : decode cX8_many 83 = .ok (.invokevirtual 124, 3) := db_X8_many_78.2.2.2.2.2.1
theorem dX8_many_86 : decode cX8_many 86 = .ok (.ireturn, 1) := db_X8_many_78.2.2.2.2.2.2.1
theorem dX8_many_87 : decode cX8_many 87 = .ok (.aload_n 0, 1) := db_X8_many_78.2.2.2.2.2.2.2
set_option maxRecDepth 20000 in
theorem db_X8_many_88 : (decode cX8_many 88 = .ok (.iconst 1, 1)) ∧ (decode cX8_many 89 = .ok (.invokevirtual 124, 3)) ∧ (decode cX8_many 92 = .ok (.ireturn, 1)) ∧ (decode cX8_many 93 = .ok (.aload_n 0, 1)) ∧ (decode cX8_many 94 = .ok (.getfield 7, 3)) ∧ (decode cX8_many 97 = .ok (.iconst 3, 1)) ∧ (decode cX8_many 98 = .ok (.iaload, 1)) ∧ (decode cX8_many 99 = .ok (.ireturn, 1)) := by decide +kernel
theorem dX8_many_88 : decode cX8_many 88 = .ok (.iconst 1, 1) := db_X8_many_88.1
theorem dX8_many_89 : decode cX8_many 89 = .ok (.invokevirtual 124, 3) := db_X8_many_88.2.1
theorem dX8_many_92 : decode cX8_many 92 = .ok (.ireturn, 1) := db_X8_many_88.2.2.1
theorem dX8_many_93 : decode cX8_many 93 = .ok (.aload_n 0, 1) := db_X8_many_88.2.2.2.1
theorem dX8_many_94 : decode cX8_many 94 = .ok (.getfield 7, 3) := db_X8_many_88.2.2.2.2.1
theorem dX8_many_97 : decode cX8_many 97 = .ok (.iconst 3, 1) := db_X8_many_88.2.2.2.2.2.1
theorem dX8_many_98 : decode cX8_many 98 = .ok (.iaload, 1) := db_X8_many_88.2.2.2.2.2.2.1
theorem dX8_many_99 : decode cX8_many 99 = .ok (.ireturn, 1) := db_X8_many_88.2.2.2.2.2.2.2
set_option maxRecDepth 20000 in
theorem db_X8_many_100 : (decode cX8_many 100 = .ok (.aload_n 0, 1)) ∧ (decode cX8_many 101 = .ok (.invokevirtual 127, 3)) ∧ (decode cX8_many 104 = .ok (.ireturn, 1)) ∧ (decode cX8_many 105 = .ok (.aload_n 0, 1)) ∧ (decode cX8_many 106 = .ok (.iconst (-1), 1)) ∧ (decode cX8_many 107 = .ok (.invokevirtual 131, 3)) ∧ (decode cX8_many 110 = .ok (.ireturn, 1)) ∧ (decode cX8_many 111 = .ok (.aload_n 0, 1)) := by decide +kernel
theorem dX8_many_100 : decode cX8_many 100 = .ok (.aload_n 0, 1) := db_X8_many_100.1
set_option maxRecDepth 20000 in
theorem ggX8_many_X8_quarrels : GoodIn wsX8_many wsX8_quarrels := goodIn_r _ [13, 1, 14, 15, 16, 17, 5, 18, 30, 31, 32, 33, 34, 35, 36, 37, 38, 39, 40] rfl (by decide +kernel)
set_option maxRecDepth 20000 in
theorem gX8_many_X8_quarrels : GoodIn wsX8_many (wsV RX8 127 RX8 yX8_quarrels wsX8_quarrels) := goodIn_app (goodIn_r _ [10, 11, 12, 5] rfl (by decide +kernel)) ggX8_many_X8_quarrels
theorem dX8_many_101 : decode cX8_many 101 = .ok (.invokevirtual 127, 3) := db_X8_many_100.2.1
theorem dX8_many_104 : decode cX8_many 104 = .ok (.ireturn, 1) := db_X8_many_100.2.2.1
theorem dX8_many_105 : decode cX8_many 105 = .ok (.aload_n 0, 1) := db_X8_many_100.2.2.2.1
theorem dX8_many_106 : decode cX8_many 106 = .ok (.iconst (-1), 1) := db_X8_many_100.2.2.2.2.1
set_option maxRecDepth 20000 in
theorem ggX8_many_X8_termsThat : GoodIn wsX8_many wsX8_termsThat := goodIn_r _ [22, 1, 7, 8, 5, 9, 23, 24, 25, 26, 27, 28, 29, 30, 31, 32, 33, 34, 35, 36, 37, 38, 39, 40] rfl (by decide +kernel)
set_option maxRecDepth 20000 in
theorem gX8_many_X8_termsThat : GoodIn wsX8_many (wsV RX8 131 RX8 yX8_termsThat wsX8_termsThat) := goodIn_app (goodIn_r _ [19, 20, 21, 5] rfl (by decide +kernel)) ggX8_many_X8_termsThat
theorem dX8_many_107 : decode cX8_many 107 = .ok (.invokevirtual 131, 3) := db_X8_many_100.2.2.2.2.2.1
theorem dX8_many_110 : decode cX8_many 110 = .ok (.ireturn, 1) := db_X8_many_100.2.2.2.2.2.2.1
theorem dX8_many_111 : decode cX8_many 111 = .ok (.aload_n 0, 1) := db_X8_many_100.2.2.2.2.2.2.2
set_option maxRecDepth 20000 in
theorem db_X8_many_112 : (decode cX8_many 112 = .ok (.iconst 1, 1)) ∧ (decode cX8_many 113 = .ok (.invokevirtual 131, 3)) ∧ (decode cX8_many 116 = .ok (.ireturn, 1)) ∧ (decode cX8_many 117 = .ok (.aload_n 0, 1)) ∧ (decode cX8_many 118 = .ok (.iconst 0, 1)) ∧ (decode cX8_many 119 = .ok (.invokevirtual 131, 3)) ∧ (decode cX8_many 122 = .ok (.ireturn, 1)) ∧ (decode cX8_many 123 = .ok (.aload_n 0, 1)) := by decide +kernel
theorem dX8_many_112 : decode cX8_many 112 = .ok (.iconst 1, 1) := db_X8_many_112.1
theorem dX8_many_113 : decode cX8_many 113 = .ok (.invokevirtual 131, 3) := db_X8_many_112.2.1
theorem dX8_many_116 : decode cX8_many 116 = .ok (.ireturn, 1) := db_X8_many_112.2.2.1
theorem dX8_many_117 : decode cX8_many 117 = .ok (.aload_n 0, 1) := db_X8_many_112.2.2.2.1
theorem dX8_many_118 : decode cX8_many 118 = .ok (.iconst 0, 1) := db_X8_many_112.2.2.2.2.1
theorem dX8_many_119 : decode cX8_many 119 = .ok (.invokevirtual 131, 3) := db_X8_many_112.2.2.2.2.2.1
theorem dX8_many_122 : decode cX8_many 122 = .ok (.ireturn, 1) := db_X8_many_112.2.2.2.2.2.2.1
theorem dX8_many_123 : decode cX8_many 123 = .ok (.aload_n 0, 1) := db_X8_many_112.2.2.2.2.2.2.2
set_option maxRecDepth 20000 in
theorem db_X8_many_124 : (decode cX8_many 124 = .ok (.iconst 2, 1)) ∧ (decode cX8_many 125 = .ok (.invokevirtual 131, 3)) ∧ (decode cX8_many 128 = .ok (.ireturn, 1)) := by decide +kernel
theorem dX8_many_124 : decode cX8_many 124 = .ok (.iconst 2, 1) := db_X8_many_124.1
theorem dX8_many_125 : decode cX8_many 125 = .ok (.invokevirtual 131, 3) := db_X8_many_124.2.1
theorem dX8_many_128 : decode cX8_many 128 = .ok (.ireturn, 1) := db_X8_many_124.2.2
set_option maxHeartbeats 4000000 in
set_option maxRecDepth 100000 in
theorem q_X8_findHeads (l : Launch) (dC : Nat → ClassId) (dI : Nat → Nat → Nat) (cy : Nat → ClassId) (sz : Nat) (ad : Nat → Nat) (v : Nat → Nat → Int32) (hv : Ir v)  : Met l yX8_findHeads wsX8_findHeads ({ frames := 0, cells := 0, slots := 0, locals := 0 }) (va_Pc [.ref (ad 0)] (ex_Pre dC dI cy sz (wm ad cy v))) (va_Qv (fun (u : Nat → Nat → Int32) => Ir u ∧ Fq v u) (fun u t => ex_Pst dC dI (va_A (wm ad cy v) sz) (wm ad cy u) t) (va_A (wm ad cy v) sz)) 0 0 (va_A (wm ad cy v) sz) := by
  refine Met.ofW (cc := cX8_findHeads) (maxL := 6) (ret := none) (by decide) rfl ?_
  intro p e s m args below meth c s₁ B hml hv
  obtain ⟨rfl, hsz, hE, hP, hK, hD0⟩ := hv
  have hx := B.exec
  have hb := B.bytes
  have hr := B.returns
  have hts := atoms_spec (ws := wsX8_findHeads) B.pre
  have hown : s.vm.findClass RX8 = some m.cls := findClass_of_methodNamed B.named
  have hlocks := B.notSynchronized
  subst hsz
  have hD := hD0.self (sz := s.heap.size)
  generalize hAe : va_A (wm ad cy v) s.heap.size = A at hD ⊢
  have hA : ∀ q : Nat, s.heap.size ≤ q → A q := fun q h => by rw [← hAe]; exact Or.inr h
  have hS : va_S A s.heap s.heap [] := va_S.rf
  have hP : va_P (dC, dI) vwCl (wm ad cy v) s.heap := hP
  have hl := lv_entry ([.ref (ad 0)]) (n := 6) (Nat.le_of_ble_eq_true rfl)
  rw [lg_entry_eq]
  generalize (lg_sl ([.ref (ad 0)]) ++ List.replicate (6 - (lg_sl ([.ref (ad 0)])).length) Slot.unset).toArray = ls at hl ⊢
  have hl : lv_has ls 6 [(0, .ref (ad 0))] := hl
  have hfr : Fq v v := Fq.rf
  refine lv_iconst (v := 0) hx hb dX8_findHeads_0 (by decide) ?_
  refine lv_istore_n (lv' := [(1, .int 0), (0, .ref (ad 0))]) hx hb dX8_findHeads_1 rfl hl (by decide) rfl (fun ls hl => ?_)
  have hc_1 : ∀ (n : Nat) (y1_1 : Int32) (u1 : Nat → Nat → Int32) (H : Heap) (locs : List Loc), 0 ≤ y1_1.toInt → y1_1.toInt ≤ 6 → (6 - y1_1.toInt).toNat < n → Ir u1 → Fq v u1 → va_P (dC, dI) vwCl (wm ad cy u1) H → va_D A (wm ad cy u1) → va_S A s.heap H locs → ∀ ls : Array Slot, lv_has ls 6 [(1, .int y1_1), (0, .ref (ad 0))] → W p l e (headSpec wsX8_findHeads ({ frames := 0, cells := 0, slots := 0, locals := 0 })).room s m [Value.ref (ad 0)].toArray below meth c H locs 0 0 (MQ below (va_Qv (fun (u : Nat → Nat → Int32) => Ir u ∧ Fq v u) (fun u t => ex_Pst dC dI A (wm ad cy u) t) A) [Value.ref (ad 0)].toArray s 0 0 A) (F0 m 2 ls []) := by
    intro n
    induction n with
    | zero =>
      intro y1_1 u1 H locs ay1_1 by1_1 hm_1 hv hfr hP hD hS ls hl
      exact absurd hm_1 (by omega)
    | succ n ih_1 =>
      intro y1_1 u1 H locs ay1_1 by1_1 hm_1 hv hfr hP hD hS ls hl
      refine lv_iload_n hx hb dX8_findHeads_2 rfl (lv_at hl 0 rfl) ?_
      refine lv_aload_n hx hb dX8_findHeads_3 rfl (lv_at hl 1 rfl) ?_
      refine va_get (D := (dC, dI)) (ci := 8) (v := .ref (ad 1)) (C := RX8) (T := TX8) (N := 11) hx hb hts iwX8_findHeads_X8 hown hK hP (0) (wm_at (by decide) rc_0) rfl 0 (by decide) (hts (.fieldLink RX8 7 "QuietStairsModel" "s" "[I") fwX8_findHeads_1) (fun _ h9 => h9) rfl dX8_findHeads_4 ?_
      refine lv_iconst (v := 2) hx hb dX8_findHeads_7 (by decide) ?_
      have k_2 : (2 : Int32).toInt = 2 := by decide
      refine va_iald hx hb hK hP (1) 0 (wm_at (by decide) rc_1) rfl (by unfold vp_in; decide) dX8_findHeads_8 ?_
      refine lv_topi (fun x_2 ex_2 => ?_)
      have ex_2 : x_2 = u1 1 2 := ex_2
      have bzx_2 : 0 ≤ x_2.toInt ∧ x_2.toInt ≤ 6 := by rw [ex_2]; exact hv 1 _ 6 (show bS 2 = some 6 from by decide)
      refine lv_icmp_ge (tgt := 25) hx hb dX8_findHeads_9 (by decide) (fun c_3 => ?_) (fun c_3 => ?_)
      · have tc_3 : y1_1.toInt ≥ x_2.toInt := Int32.le_iff_toInt_le.mp c_3
        refine lv_iconst (v := 1) hx hb dX8_findHeads_25 (by decide) ?_
        refine lv_istore_n (lv' := [(1, .int 1), (0, .ref (ad 0))]) hx hb dX8_findHeads_26 rfl hl (by decide) rfl (fun ls hl => ?_)
        have hc_4 : ∀ (n : Nat) (y4_1 : Int32) (u4 : Nat → Nat → Int32) (H : Heap) (locs : List Loc), 0 ≤ y4_1.toInt → y4_1.toInt ≤ 1 → (hs (u4 3)).toNat + y4_1.toInt.toNat < n → Ir u4 → Fq v u4 → va_P (dC, dI) vwCl (wm ad cy u4) H → va_D A (wm ad cy u4) → va_S A s.heap H locs → ∀ ls : Array Slot, lv_has ls 6 [(1, .int y4_1), (0, .ref (ad 0))] → W p l e (headSpec wsX8_findHeads ({ frames := 0, cells := 0, slots := 0, locals := 0 })).room s m [Value.ref (ad 0)].toArray below meth c H locs 0 0 (MQ below (va_Qv (fun (u : Nat → Nat → Int32) => Ir u ∧ Fq v u) (fun u t => ex_Pst dC dI A (wm ad cy u) t) A) [Value.ref (ad 0)].toArray s 0 0 A) (F0 m 27 ls []) := by
          intro n
          induction n with
          | zero =>
            intro y4_1 u4 H locs ay4_1 by4_1 hm_4 hv hfr hP hD hS ls hl
            exact absurd hm_4 (by omega)
          | succ n ih_4 =>
            intro y4_1 u4 H locs ay4_1 by4_1 hm_4 hv hfr hP hD hS ls hl
            refine lv_iload_n hx hb dX8_findHeads_27 rfl (lv_at hl 0 rfl) ?_
            have k_0 : (0 : Int32).toInt = 0 := by decide
            refine lv_if_eq (tgt := 152) hx hb dX8_findHeads_28 (by decide) (fun c_5 => ?_) (fun c_5 => ?_)
            · have tc_5 : y4_1.toInt = (0 : Int32).toInt := by rw [c_5]
              exact W.vret hx hb hr (fun t ht hW => ⟨⟨u4, rfl, ⟨hv, hfr⟩, by rw [ht]; exact hP, hD⟩, hS.F ht⟩) hS.2.2 dX8_findHeads_152
            · have tc_5 : y4_1.toInt ≠ (0 : Int32).toInt := fun q => absurd (Int32.toInt_inj.mp q) c_5
              refine lv_iconst (v := 0) hx hb dX8_findHeads_31 (by decide) ?_
              refine lv_istore_n (lv' := [(1, .int 0), (0, .ref (ad 0))]) hx hb dX8_findHeads_32 rfl hl (by decide) rfl (fun ls hl => ?_)
              refine lv_iconst (v := 0) hx hb dX8_findHeads_33 (by decide) ?_
              refine lv_istore_n (lv' := [(2, .int 0), (1, .int 0), (0, .ref (ad 0))]) hx hb dX8_findHeads_34 rfl hl (by decide) rfl (fun ls hl => ?_)
              have hc_6 : ∀ (n : Nat) (y6_1 y6_2 : Int32) (u6 : Nat → Nat → Int32) (H : Heap) (locs : List Loc), 0 ≤ y6_1.toInt → y6_1.toInt ≤ 1 → 0 ≤ y6_2.toInt → y6_2.toInt ≤ 6 → (hs (u6 3) + y6_1.toInt ≤ hs (u4 3)) → (6 - y6_2.toInt).toNat < n → Ir u6 → Fq v u6 → va_P (dC, dI) vwCl (wm ad cy u6) H → va_D A (wm ad cy u6) → va_S A s.heap H locs → ∀ ls : Array Slot, lv_has ls 6 [(2, .int y6_2), (1, .int y6_1), (0, .ref (ad 0))] → W p l e (headSpec wsX8_findHeads ({ frames := 0, cells := 0, slots := 0, locals := 0 })).room s m [Value.ref (ad 0)].toArray below meth c H locs 0 0 (MQ below (va_Qv (fun (u : Nat → Nat → Int32) => Ir u ∧ Fq v u) (fun u t => ex_Pst dC dI A (wm ad cy u) t) A) [Value.ref (ad 0)].toArray s 0 0 A) (F0 m 35 ls []) := by
                intro n
                induction n with
                | zero =>
                  intro y6_1 y6_2 u6 H locs ay6_1 by6_1 ay6_2 by6_2 hi6_0 hm_6 hv hfr hP hD hS ls hl
                  exact absurd hm_6 (by omega)
                | succ n ih_6 =>
                  intro y6_1 y6_2 u6 H locs ay6_1 by6_1 ay6_2 by6_2 hi6_0 hm_6 hv hfr hP hD hS ls hl
                  refine lv_iload_n hx hb dX8_findHeads_35 rfl (lv_at hl 0 rfl) ?_
                  refine lv_aload_n hx hb dX8_findHeads_36 rfl (lv_at hl 2 rfl) ?_
                  refine va_get (D := (dC, dI)) (ci := 8) (v := .ref (ad 1)) (C := RX8) (T := TX8) (N := 11) hx hb hts iwX8_findHeads_X8 hown hK hP (0) (wm_at (by decide) rc_0) rfl 0 (by decide) (hts (.fieldLink RX8 7 "QuietStairsModel" "s" "[I") fwX8_findHeads_1) (fun _ h9 => h9) rfl dX8_findHeads_37 ?_
                  refine lv_iconst (v := 3) hx hb dX8_findHeads_40 (by decide) ?_
                  have k_3 : (3 : Int32).toInt = 3 := by decide
                  refine va_iald hx hb hK hP (1) 0 (wm_at (by decide) rc_1) rfl (by unfold vp_in; decide) dX8_findHeads_41 ?_
                  refine lv_topi (fun x_7 ex_7 => ?_)
                  have ex_7 : x_7 = u6 1 3 := ex_7
                  have bzx_7 : 0 ≤ x_7.toInt ∧ x_7.toInt ≤ 6 := by rw [ex_7]; exact hv 1 _ 6 (show bS 3 = some 6 from by decide)
                  refine lv_icmp_ge (tgt := 149) hx hb dX8_findHeads_42 (by decide) (fun c_8 => ?_) (fun c_8 => ?_)
                  · have tc_8 : y6_2.toInt ≥ x_7.toInt := Int32.le_iff_toInt_le.mp c_8
                    refine lv_goto (tgt := 27) hx hb dX8_findHeads_149 (by decide) ?_
                    exact ih_4 y6_1 u6 _ _ (by omega) (by omega) (by have z1 := hs_nn hv; omega) hv hfr hP hD hS ls (lv_sub hl [1, 2] rfl)
                  · have tc_8 : y6_2.toInt < x_7.toInt := Int32.lt_iff_toInt_lt.mp (Int32.not_le.mp c_8)
                    refine lv_aload_n hx hb dX8_findHeads_45 rfl (lv_at hl 2 rfl) ?_
                    refine va_get (D := (dC, dI)) (ci := 8) (v := .ref (ad 1)) (C := RX8) (T := TX8) (N := 11) hx hb hts iwX8_findHeads_X8 hown hK hP (0) (wm_at (by decide) rc_0) rfl 0 (by decide) (hts (.fieldLink RX8 7 "QuietStairsModel" "s" "[I") fwX8_findHeads_1) (fun _ h9 => h9) rfl dX8_findHeads_46 ?_
                    refine lv_sipush (v := 146) hx hb dX8_findHeads_49 (by decide) ?_
                    refine lv_iconst (v := 2) hx hb dX8_findHeads_52 (by decide) ?_
                    refine lv_iload_n hx hb dX8_findHeads_53 rfl (lv_at hl 0 rfl) ?_
                    refine lv_imul hx hb dX8_findHeads_54 ?_
                    refine lv_topi (fun x_9 ex_9 => ?_)
                    have tx_9 : x_9.toInt = 2 * y6_2.toInt := by rw [ex_9, t_mul (by rw [k_2]; omega), k_2]
                    refine lv_iadd hx hb dX8_findHeads_55 ?_
                    refine lv_topi (fun x_10 ex_10 => ?_)
                    have k_146 : (146 : Int32).toInt = 146 := by decide
                    have tx_10 : x_10.toInt = (146 : Int32).toInt + x_9.toInt := by rw [ex_10]; exact t_add ⟨by omega, by omega⟩
                    refine va_iald hx hb hK hP (1) 0 (wm_at (by decide) rc_1) rfl (vp_in_iff.mpr ⟨by omega, by omega⟩) dX8_findHeads_56 ?_
                    refine lv_topi (fun x_11 ex_11 => ?_)
                    have bzx_11 : 0 ≤ x_11.toInt ∧ x_11.toInt ≤ 5 := by rw [ex_11]; exact hv 1 _ 5 (bx_m ⟨by omega, by omega⟩)
                    refine lv_istore_n (lv' := [(3, .int x_11), (2, .int y6_2), (1, .int y6_1), (0, .ref (ad 0))]) hx hb dX8_findHeads_57 rfl hl (by decide) rfl (fun ls hl => ?_)
                    refine lv_aload_n hx hb dX8_findHeads_58 rfl (lv_at hl 3 rfl) ?_
                    refine va_get (D := (dC, dI)) (ci := 8) (v := .ref (ad 1)) (C := RX8) (T := TX8) (N := 11) hx hb hts iwX8_findHeads_X8 hown hK hP (0) (wm_at (by decide) rc_0) rfl 0 (by decide) (hts (.fieldLink RX8 7 "QuietStairsModel" "s" "[I") fwX8_findHeads_1) (fun _ h9 => h9) rfl dX8_findHeads_59 ?_
                    refine lv_sipush (v := 146) hx hb dX8_findHeads_62 (by decide) ?_
                    refine lv_iconst (v := 2) hx hb dX8_findHeads_65 (by decide) ?_
                    refine lv_iload_n hx hb dX8_findHeads_66 rfl (lv_at hl 1 rfl) ?_
                    refine lv_imul hx hb dX8_findHeads_67 ?_
                    refine lv_topi (fun x_12 ex_12 => ?_)
                    obtain rfl : x_9 = x_12 := ex_9.trans ex_12.symm
                    refine lv_iadd hx hb dX8_findHeads_68 ?_
                    refine lv_topi (fun x_13 ex_13 => ?_)
                    obtain rfl : x_10 = x_13 := ex_10.trans ex_13.symm
                    refine lv_iconst (v := 1) hx hb dX8_findHeads_69 (by decide) ?_
                    refine lv_iadd hx hb dX8_findHeads_70 ?_
                    refine lv_topi (fun x_14 ex_14 => ?_)
                    have k_1 : (1 : Int32).toInt = 1 := by decide
                    have tx_14 : x_14.toInt = x_10.toInt + (1 : Int32).toInt := by rw [ex_14]; exact t_add ⟨by omega, by omega⟩
                    refine va_iald hx hb hK hP (1) 0 (wm_at (by decide) rc_1) rfl (vp_in_iff.mpr ⟨by omega, by omega⟩) dX8_findHeads_71 ?_
                    refine lv_topi (fun x_15 ex_15 => ?_)
                    have bzx_15 : 0 ≤ x_15.toInt ∧ x_15.toInt ≤ 5 := by rw [ex_15]; exact hv 1 _ 5 (bx_m ⟨by omega, by omega⟩)
                    refine lv_istore (lv' := [(4, .int x_15), (3, .int x_11), (2, .int y6_2), (1, .int y6_1), (0, .ref (ad 0))]) hx hb dX8_findHeads_72 hl (by decide) rfl (fun ls hl => ?_)
                    refine lv_aload_n hx hb dX8_findHeads_74 rfl (lv_at hl 4 rfl) ?_
                    refine va_get (D := (dC, dI)) (ci := 8) (v := .ref (ad 3)) (C := RX8) (T := TX8) (N := 11) hx hb hts iwX8_findHeads_X8 hown hK hP (0) (wm_at (by decide) rc_0) rfl 4 (by decide) (hts (.fieldLink RX8 20 "QuietStairsModel" "headOf" "[I") fwX8_findHeads_2) (fun _ h9 => h9) rfl dX8_findHeads_75 ?_
                    refine lv_iload_n hx hb dX8_findHeads_78 rfl (lv_at hl 1 rfl) ?_
                    refine va_iald hx hb hK hP (3) 0 (wm_at (by decide) rc_3) rfl (vp_in_iff.mpr ⟨by omega, by omega⟩) dX8_findHeads_79 ?_
                    refine lv_topi (fun x_16 ex_16 => ?_)
                    have bzx_16 : 0 ≤ x_16.toInt ∧ x_16.toInt ≤ 5 := by rw [ex_16]; exact hv 3 _ 5 rfl
                    refine lv_aload_n hx hb dX8_findHeads_80 rfl (lv_at hl 4 rfl) ?_
                    refine va_get (D := (dC, dI)) (ci := 8) (v := .ref (ad 3)) (C := RX8) (T := TX8) (N := 11) hx hb hts iwX8_findHeads_X8 hown hK hP (0) (wm_at (by decide) rc_0) rfl 4 (by decide) (hts (.fieldLink RX8 20 "QuietStairsModel" "headOf" "[I") fwX8_findHeads_2) (fun _ h9 => h9) rfl dX8_findHeads_81 ?_
                    refine lv_iload hx hb dX8_findHeads_84 (lv_at hl 0 rfl) ?_
                    refine va_iald hx hb hK hP (3) 0 (wm_at (by decide) rc_3) rfl (vp_in_iff.mpr ⟨by omega, by omega⟩) dX8_findHeads_86 ?_
                    refine lv_topi (fun x_17 ex_17 => ?_)
                    have bzx_17 : 0 ≤ x_17.toInt ∧ x_17.toInt ≤ 5 := by rw [ex_17]; exact hv 3 _ 5 rfl
                    refine lv_icmp_eq (tgt := 143) hx hb dX8_findHeads_87 (by decide) (fun c_18 => ?_) (fun c_18 => ?_)
                    · have tc_18 : x_16.toInt = x_17.toInt := by rw [c_18]
                      obtain ⟨x_19, ex_19⟩ : ∃ y : Int32, y = y6_2 + 1 := ⟨_, rfl⟩
                      refine lv_iinc (v := x_19) (lv' := [(2, .int x_19), (4, .int x_15), (3, .int x_11), (1, .int y6_1), (0, .ref (ad 0))]) hx hb dX8_findHeads_143 hl (k := 2) rfl (by rw [ex_19]; rfl) (by decide) rfl (fun ls hl => ?_)
                      have tx_19 : x_19.toInt = y6_2.toInt + (1 : Int32).toInt := by rw [ex_19]; exact t_add ⟨by omega, by omega⟩
                      refine lv_goto (tgt := 35) hx hb dX8_findHeads_146 (by decide) ?_
                      exact ih_6 y6_1 x_19 u6 _ _ (by omega) (by omega) (by omega) (by omega) (hi6_0) (by omega) hv hfr hP hD hS ls (lv_sub hl [0, 3, 4] rfl)
                    · have tc_18 : x_16.toInt ≠ x_17.toInt := fun q => absurd (Int32.toInt_inj.mp q) c_18
                      refine lv_aload_n hx hb dX8_findHeads_90 rfl (lv_at hl 4 rfl) ?_
                      refine va_get (D := (dC, dI)) (ci := 8) (v := .ref (ad 3)) (C := RX8) (T := TX8) (N := 11) hx hb hts iwX8_findHeads_X8 hown hK hP (0) (wm_at (by decide) rc_0) rfl 4 (by decide) (hts (.fieldLink RX8 20 "QuietStairsModel" "headOf" "[I") fwX8_findHeads_2) (fun _ h9 => h9) rfl dX8_findHeads_91 ?_
                      refine lv_iload_n hx hb dX8_findHeads_94 rfl (lv_at hl 1 rfl) ?_
                      refine va_iald hx hb hK hP (3) 0 (wm_at (by decide) rc_3) rfl (vp_in_iff.mpr ⟨by omega, by omega⟩) dX8_findHeads_95 ?_
                      refine lv_topi (fun x_19 ex_19 => ?_)
                      obtain rfl : x_16 = x_19 := (ex_19.trans ex_16.symm).symm
                      refine lv_aload_n hx hb dX8_findHeads_96 rfl (lv_at hl 4 rfl) ?_
                      refine va_get (D := (dC, dI)) (ci := 8) (v := .ref (ad 3)) (C := RX8) (T := TX8) (N := 11) hx hb hts iwX8_findHeads_X8 hown hK hP (0) (wm_at (by decide) rc_0) rfl 4 (by decide) (hts (.fieldLink RX8 20 "QuietStairsModel" "headOf" "[I") fwX8_findHeads_2) (fun _ h9 => h9) rfl dX8_findHeads_97 ?_
                      refine lv_iload hx hb dX8_findHeads_100 (lv_at hl 0 rfl) ?_
                      refine va_iald hx hb hK hP (3) 0 (wm_at (by decide) rc_3) rfl (vp_in_iff.mpr ⟨by omega, by omega⟩) dX8_findHeads_102 ?_
                      refine lv_topi (fun x_20 ex_20 => ?_)
                      obtain rfl : x_17 = x_20 := (ex_20.trans ex_17.symm).symm
                      refine lv_icmp_ge (tgt := 115) hx hb dX8_findHeads_103 (by decide) (fun c_21 => ?_) (fun c_21 => ?_)
                      · have tc_21 : x_16.toInt ≥ x_17.toInt := Int32.le_iff_toInt_le.mp c_21
                        refine lv_aload_n hx hb dX8_findHeads_115 rfl (lv_at hl 4 rfl) ?_
                        refine va_get (D := (dC, dI)) (ci := 8) (v := .ref (ad 3)) (C := RX8) (T := TX8) (N := 11) hx hb hts iwX8_findHeads_X8 hown hK hP (0) (wm_at (by decide) rc_0) rfl 4 (by decide) (hts (.fieldLink RX8 20 "QuietStairsModel" "headOf" "[I") fwX8_findHeads_2) (fun _ h9 => h9) rfl dX8_findHeads_116 ?_
                        refine lv_iload hx hb dX8_findHeads_119 (lv_at hl 0 rfl) ?_
                        refine va_iald hx hb hK hP (3) 0 (wm_at (by decide) rc_3) rfl (vp_in_iff.mpr ⟨by omega, by omega⟩) dX8_findHeads_121 ?_
                        refine lv_topi (fun x_22 ex_22 => ?_)
                        obtain rfl : x_17 = x_22 := (ex_22.trans ex_17.symm).symm
                        refine lv_istore (lv' := [(5, .int x_17), (4, .int x_15), (3, .int x_11), (2, .int y6_2), (1, .int y6_1), (0, .ref (ad 0))]) hx hb dX8_findHeads_122 hl (by decide) rfl (fun ls hl => ?_)
                        refine lv_aload_n hx hb dX8_findHeads_124 rfl (lv_at hl 5 rfl) ?_
                        refine va_get (D := (dC, dI)) (ci := 8) (v := .ref (ad 3)) (C := RX8) (T := TX8) (N := 11) hx hb hts iwX8_findHeads_X8 hown hK hP (0) (wm_at (by decide) rc_0) rfl 4 (by decide) (hts (.fieldLink RX8 20 "QuietStairsModel" "headOf" "[I") fwX8_findHeads_2) (fun _ h9 => h9) rfl dX8_findHeads_125 ?_
                        refine lv_iload_n hx hb dX8_findHeads_128 rfl (lv_at hl 2 rfl) ?_
                        refine lv_iload hx hb dX8_findHeads_129 (lv_at hl 0 rfl) ?_
                        refine va_iast hx hb hK hP hD hS (3) 0 (wm_at (by decide) rc_3) rfl (vp_in_iff.mpr ⟨by omega, by omega⟩) dX8_findHeads_131 (fun H locs hP hD hS => ?_)
                        obtain ⟨v_23, ev_23⟩ : ∃ u : Nat → Nat → Int32, u = upr u6 3 (upd (u6 3) (x_11.toNatClampNeg) x_17) := ⟨_, rfl⟩
                        have hP : va_P (dC, dI) vwCl (wm ad cy v_23) H := by rw [ev_23, ← wm_put (e := _) rc_3]; exact hP
                        have hD : va_D A (wm ad cy v_23) := by rw [ev_23, ← wm_put (e := _) rc_3]; exact hD
                        have hv : Ir v_23 := by rw [ev_23]; exact hv.put (k := 3) (fun h q => by rw [(show br 3 _ = some 5 from rfl)] at q; cases q; exact ⟨by omega, by omega⟩)
                        have hfr : Fq v v_23 := by rw [ev_23]; exact hfr.row (by decide)
                        refine lv_aload_n hx hb dX8_findHeads_132 rfl (lv_at hl 5 rfl) ?_
                        refine va_get (D := (dC, dI)) (ci := 8) (v := .ref (ad 3)) (C := RX8) (T := TX8) (N := 11) hx hb hts iwX8_findHeads_X8 hown hK hP (0) (wm_at (by decide) rc_0) rfl 4 (by decide) (hts (.fieldLink RX8 20 "QuietStairsModel" "headOf" "[I") fwX8_findHeads_2) (fun _ h9 => h9) rfl dX8_findHeads_133 ?_
                        refine lv_iload hx hb dX8_findHeads_136 (lv_at hl 1 rfl) ?_
                        refine lv_iload hx hb dX8_findHeads_138 (lv_at hl 0 rfl) ?_
                        refine va_iast hx hb hK hP hD hS (3) 0 (wm_at (by decide) rc_3) rfl (vp_in_iff.mpr ⟨by omega, by omega⟩) dX8_findHeads_140 (fun H locs hP hD hS => ?_)
                        obtain ⟨v_24, ev_24⟩ : ∃ u : Nat → Nat → Int32, u = upr v_23 3 (upd (v_23 3) (x_15.toNatClampNeg) x_17) := ⟨_, rfl⟩
                        have hP : va_P (dC, dI) vwCl (wm ad cy v_24) H := by rw [ev_24, ← wm_put (e := _) rc_3]; exact hP
                        have hD : va_D A (wm ad cy v_24) := by rw [ev_24, ← wm_put (e := _) rc_3]; exact hD
                        have hv : Ir v_24 := by rw [ev_24]; exact hv.put (k := 3) (fun h q => by rw [(show br 3 _ = some 5 from rfl)] at q; cases q; exact ⟨by omega, by omega⟩)
                        have hfr : Fq v v_24 := by rw [ev_24]; exact hfr.row (by decide)
                        refine lv_iconst (v := 1) hx hb dX8_findHeads_141 (by decide) ?_
                        refine lv_istore_n (lv' := [(1, .int 1), (5, .int x_17), (4, .int x_15), (3, .int x_11), (2, .int y6_2), (0, .ref (ad 0))]) hx hb dX8_findHeads_142 rfl hl (by decide) rfl (fun ls hl => ?_)
                        obtain ⟨x_25, ex_25⟩ : ∃ y : Int32, y = y6_2 + 1 := ⟨_, rfl⟩
                        refine lv_iinc (v := x_25) (lv' := [(2, .int x_25), (1, .int 1), (5, .int x_17), (4, .int x_15), (3, .int x_11), (0, .ref (ad 0))]) hx hb dX8_findHeads_143 hl (k := 4) rfl (by rw [ex_25]; rfl) (by decide) rfl (fun ls hl => ?_)
                        have tx_25 : x_25.toInt = y6_2.toInt + (1 : Int32).toInt := by rw [ex_25]; exact t_add ⟨by omega, by omega⟩
                        refine lv_goto (tgt := 35) hx hb dX8_findHeads_146 (by decide) ?_
                        exact ih_6 1 x_25 v_24 _ _ (by omega) (by omega) (by omega) (by omega) (by have z1 := hs_2 (v := u6) (a := x_11) (b := x_15) (x := x_17) ⟨by omega, by omega⟩ ⟨by omega, by omega⟩ ex_16 ex_17 (by omega) (by omega) (by omega); rw [ev_24, upr_s, ev_23, upr_s]; have z2 := hi6_0; omega) (by omega) hv hfr hP hD hS ls (lv_sub hl [0, 1, 5] rfl)
                      · have tc_21 : x_16.toInt < x_17.toInt := Int32.lt_iff_toInt_lt.mp (Int32.not_le.mp c_21)
                        refine lv_aload_n hx hb dX8_findHeads_106 rfl (lv_at hl 4 rfl) ?_
                        refine va_get (D := (dC, dI)) (ci := 8) (v := .ref (ad 3)) (C := RX8) (T := TX8) (N := 11) hx hb hts iwX8_findHeads_X8 hown hK hP (0) (wm_at (by decide) rc_0) rfl 4 (by decide) (hts (.fieldLink RX8 20 "QuietStairsModel" "headOf" "[I") fwX8_findHeads_2) (fun _ h9 => h9) rfl dX8_findHeads_107 ?_
                        refine lv_iload_n hx hb dX8_findHeads_110 rfl (lv_at hl 1 rfl) ?_
                        refine va_iald hx hb hK hP (3) 0 (wm_at (by decide) rc_3) rfl (vp_in_iff.mpr ⟨by omega, by omega⟩) dX8_findHeads_111 ?_
                        refine lv_topi (fun x_22 ex_22 => ?_)
                        obtain rfl : x_16 = x_22 := (ex_22.trans ex_16.symm).symm
                        refine lv_goto (tgt := 122) hx hb dX8_findHeads_112 (by decide) ?_
                        refine lv_istore (lv' := [(5, .int x_16), (4, .int x_15), (3, .int x_11), (2, .int y6_2), (1, .int y6_1), (0, .ref (ad 0))]) hx hb dX8_findHeads_122 hl (by decide) rfl (fun ls hl => ?_)
                        refine lv_aload_n hx hb dX8_findHeads_124 rfl (lv_at hl 5 rfl) ?_
                        refine va_get (D := (dC, dI)) (ci := 8) (v := .ref (ad 3)) (C := RX8) (T := TX8) (N := 11) hx hb hts iwX8_findHeads_X8 hown hK hP (0) (wm_at (by decide) rc_0) rfl 4 (by decide) (hts (.fieldLink RX8 20 "QuietStairsModel" "headOf" "[I") fwX8_findHeads_2) (fun _ h9 => h9) rfl dX8_findHeads_125 ?_
                        refine lv_iload_n hx hb dX8_findHeads_128 rfl (lv_at hl 2 rfl) ?_
                        refine lv_iload hx hb dX8_findHeads_129 (lv_at hl 0 rfl) ?_
                        refine va_iast hx hb hK hP hD hS (3) 0 (wm_at (by decide) rc_3) rfl (vp_in_iff.mpr ⟨by omega, by omega⟩) dX8_findHeads_131 (fun H locs hP hD hS => ?_)
                        obtain ⟨v_23, ev_23⟩ : ∃ u : Nat → Nat → Int32, u = upr u6 3 (upd (u6 3) (x_11.toNatClampNeg) x_16) := ⟨_, rfl⟩
                        have hP : va_P (dC, dI) vwCl (wm ad cy v_23) H := by rw [ev_23, ← wm_put (e := _) rc_3]; exact hP
                        have hD : va_D A (wm ad cy v_23) := by rw [ev_23, ← wm_put (e := _) rc_3]; exact hD
                        have hv : Ir v_23 := by rw [ev_23]; exact hv.put (k := 3) (fun h q => by rw [(show br 3 _ = some 5 from rfl)] at q; cases q; exact ⟨by omega, by omega⟩)
                        have hfr : Fq v v_23 := by rw [ev_23]; exact hfr.row (by decide)
                        refine lv_aload_n hx hb dX8_findHeads_132 rfl (lv_at hl 5 rfl) ?_
                        refine va_get (D := (dC, dI)) (ci := 8) (v := .ref (ad 3)) (C := RX8) (T := TX8) (N := 11) hx hb hts iwX8_findHeads_X8 hown hK hP (0) (wm_at (by decide) rc_0) rfl 4 (by decide) (hts (.fieldLink RX8 20 "QuietStairsModel" "headOf" "[I") fwX8_findHeads_2) (fun _ h9 => h9) rfl dX8_findHeads_133 ?_
                        refine lv_iload hx hb dX8_findHeads_136 (lv_at hl 1 rfl) ?_
                        refine lv_iload hx hb dX8_findHeads_138 (lv_at hl 0 rfl) ?_
                        refine va_iast hx hb hK hP hD hS (3) 0 (wm_at (by decide) rc_3) rfl (vp_in_iff.mpr ⟨by omega, by omega⟩) dX8_findHeads_140 (fun H locs hP hD hS => ?_)
                        obtain ⟨v_24, ev_24⟩ : ∃ u : Nat → Nat → Int32, u = upr v_23 3 (upd (v_23 3) (x_15.toNatClampNeg) x_16) := ⟨_, rfl⟩
                        have hP : va_P (dC, dI) vwCl (wm ad cy v_24) H := by rw [ev_24, ← wm_put (e := _) rc_3]; exact hP
                        have hD : va_D A (wm ad cy v_24) := by rw [ev_24, ← wm_put (e := _) rc_3]; exact hD
                        have hv : Ir v_24 := by rw [ev_24]; exact hv.put (k := 3) (fun h q => by rw [(show br 3 _ = some 5 from rfl)] at q; cases q; exact ⟨by omega, by omega⟩)
                        have hfr : Fq v v_24 := by rw [ev_24]; exact hfr.row (by decide)
                        refine lv_iconst (v := 1) hx hb dX8_findHeads_141 (by decide) ?_
                        refine lv_istore_n (lv' := [(1, .int 1), (5, .int x_16), (4, .int x_15), (3, .int x_11), (2, .int y6_2), (0, .ref (ad 0))]) hx hb dX8_findHeads_142 rfl hl (by decide) rfl (fun ls hl => ?_)
                        obtain ⟨x_25, ex_25⟩ : ∃ y : Int32, y = y6_2 + 1 := ⟨_, rfl⟩
                        refine lv_iinc (v := x_25) (lv' := [(2, .int x_25), (1, .int 1), (5, .int x_16), (4, .int x_15), (3, .int x_11), (0, .ref (ad 0))]) hx hb dX8_findHeads_143 hl (k := 4) rfl (by rw [ex_25]; rfl) (by decide) rfl (fun ls hl => ?_)
                        have tx_25 : x_25.toInt = y6_2.toInt + (1 : Int32).toInt := by rw [ex_25]; exact t_add ⟨by omega, by omega⟩
                        refine lv_goto (tgt := 35) hx hb dX8_findHeads_146 (by decide) ?_
                        exact ih_6 1 x_25 v_24 _ _ (by omega) (by omega) (by omega) (by omega) (by have z1 := hs_2 (v := u6) (a := x_11) (b := x_15) (x := x_16) ⟨by omega, by omega⟩ ⟨by omega, by omega⟩ ex_16 ex_17 (by omega) (by omega) (by omega); rw [ev_24, upr_s, ev_23, upr_s]; have z2 := hi6_0; omega) (by omega) hv hfr hP hD hS ls (lv_sub hl [0, 1, 5] rfl)
              exact hc_6 ((6 - (0 : Int32).toInt).toNat + 1) 0 0 u4 _ _ (by omega) (by omega) (by omega) (by omega) (by omega) (by omega) hv hfr hP hD hS ls (lv_sub hl [0, 1, 2] rfl)
        have k_1 : (1 : Int32).toInt = 1 := by decide
        exact hc_4 ((hs (u1 3)).toNat + (1 : Int32).toInt.toNat + 1) 1 u1 _ _ (by omega) (by omega) (by omega) hv hfr hP hD hS ls (lv_sub hl [0, 1] rfl)
      · have tc_3 : y1_1.toInt < x_2.toInt := Int32.lt_iff_toInt_lt.mp (Int32.not_le.mp c_3)
        refine lv_aload_n hx hb dX8_findHeads_12 rfl (lv_at hl 1 rfl) ?_
        refine va_get (D := (dC, dI)) (ci := 8) (v := .ref (ad 3)) (C := RX8) (T := TX8) (N := 11) hx hb hts iwX8_findHeads_X8 hown hK hP (0) (wm_at (by decide) rc_0) rfl 4 (by decide) (hts (.fieldLink RX8 20 "QuietStairsModel" "headOf" "[I") fwX8_findHeads_2) (fun _ h9 => h9) rfl dX8_findHeads_13 ?_
        refine lv_iload_n hx hb dX8_findHeads_16 rfl (lv_at hl 0 rfl) ?_
        refine lv_iload_n hx hb dX8_findHeads_17 rfl (lv_at hl 0 rfl) ?_
        refine va_iast hx hb hK hP hD hS (3) 0 (wm_at (by decide) rc_3) rfl (vp_in_iff.mpr ⟨by omega, by omega⟩) dX8_findHeads_18 (fun H locs hP hD hS => ?_)
        obtain ⟨v_4, ev_4⟩ : ∃ u : Nat → Nat → Int32, u = upr u1 3 (upd (u1 3) (y1_1.toNatClampNeg) y1_1) := ⟨_, rfl⟩
        have hP : va_P (dC, dI) vwCl (wm ad cy v_4) H := by rw [ev_4, ← wm_put (e := _) rc_3]; exact hP
        have hD : va_D A (wm ad cy v_4) := by rw [ev_4, ← wm_put (e := _) rc_3]; exact hD
        have hv : Ir v_4 := by rw [ev_4]; exact hv.put (k := 3) (fun h q => by rw [(show br 3 _ = some 5 from rfl)] at q; cases q; exact ⟨by omega, by omega⟩)
        have hfr : Fq v v_4 := by rw [ev_4]; exact hfr.row (by decide)
        obtain ⟨x_5, ex_5⟩ : ∃ y : Int32, y = y1_1 + 1 := ⟨_, rfl⟩
        refine lv_iinc (v := x_5) (lv' := [(1, .int x_5), (0, .ref (ad 0))]) hx hb dX8_findHeads_19 hl (k := 0) rfl (by rw [ex_5]; rfl) (by decide) rfl (fun ls hl => ?_)
        have k_1 : (1 : Int32).toInt = 1 := by decide
        have tx_5 : x_5.toInt = y1_1.toInt + (1 : Int32).toInt := by rw [ex_5]; exact t_add ⟨by omega, by omega⟩
        refine lv_goto (tgt := 2) hx hb dX8_findHeads_22 (by decide) ?_
        exact ih_1 x_5 v_4 _ _ (by omega) (by omega) (by omega) hv hfr hP hD hS ls (lv_sub hl [0, 1] rfl)
  have k_0 : (0 : Int32).toInt = 0 := by decide
  exact hc_1 ((6 - (0 : Int32).toInt).toNat + 1) 0 v _ _ (by omega) (by omega) (by omega) hv hfr hP hD hS ls (lv_sub hl [0, 1] rfl)

set_option maxHeartbeats 4000000 in
set_option maxRecDepth 100000 in
theorem q_X8_of (l : Launch) (dC : Nat → ClassId) (dI : Nat → Nat → Nat) (cy : Nat → ClassId) (sz : Nat) (ad : Nat → Nat) (v : Nat → Nat → Int32) (hv : Ir v) (x0 x1 : Int32) : Met l yX8_of wsX8_of ({ frames := 2, cells := 0, slots := 0, locals := 128 }) (va_Pc [.ref (ad 0), .int x0, .int x1] (ex_Pre dC dI cy sz (wm ad cy v))) (va_Qi (fun (r : Int32) (u : Nat → Nat → Int32) => Ir u ∧ Fq v u) (fun u t => ex_Pst dC dI (va_A (wm ad cy v) sz) (wm ad cy u) t) (va_A (wm ad cy v) sz)) 0 0 (va_A (wm ad cy v) sz) := by
  refine Met.ofW (cc := cX8_of) (maxL := 3) (ret := (some .int)) (by decide) rfl ?_
  intro p e s m args below meth c s₁ B hml hv
  obtain ⟨rfl, hsz, hE, hP, hK, hD0⟩ := hv
  have hx := B.exec
  have hb := B.bytes
  have hr := B.returns
  have hts := atoms_spec (ws := wsX8_of) B.pre
  have hown : s.vm.findClass RX8 = some m.cls := findClass_of_methodNamed B.named
  have hlocks := B.notSynchronized
  subst hsz
  have hD := hD0.self (sz := s.heap.size)
  generalize hAe : va_A (wm ad cy v) s.heap.size = A at hD ⊢
  have hA : ∀ q : Nat, s.heap.size ≤ q → A q := fun q h => by rw [← hAe]; exact Or.inr h
  have hS : va_S A s.heap s.heap [] := va_S.rf
  have hP : va_P (dC, dI) vwCl (wm ad cy v) s.heap := hP
  have hl := lv_entry ([.ref (ad 0), .int x0, .int x1]) (n := 3) (Nat.le_of_ble_eq_true rfl)
  rw [lg_entry_eq]
  generalize (lg_sl ([.ref (ad 0), .int x0, .int x1]) ++ List.replicate (3 - (lg_sl ([.ref (ad 0), .int x0, .int x1])).length) Slot.unset).toArray = ls at hl ⊢
  have hl : lv_has ls 3 [(0, .ref (ad 0)), (1, .int x0), (2, .int x1)] := hl
  have hfr : Fq v v := Fq.rf
  refine lv_aload_n hx hb dX8_of_0 rfl (lv_at hl 0 rfl) ?_
  refine lv_iload_n hx hb dX8_of_1 rfl (lv_at hl 1 rfl) ?_
  refine yw_i (w1 := fun (u : Nat → Nat → Int32) => wm ad cy u) hD hS hA (va_runV (As := [.int x0]) (rest := []) ⟨hx, hb, hml, hown, hts⟩ (q_X8_isCase l dC dI cy _ ad v hv x0) (cwV 1 hts gX8_of_X8_isCase rfl rfl rfl hd_V_X8_isCase_1 ⟨Nat.le_of_ble_eq_true rfl, Nat.le_of_ble_eq_true rfl⟩) (yw_preV hE hK hP hD (ci := 8) (q0 := 0) rfl (wm_at (by decide) rc_0)) rfl rfl hl.1 rfl (lv_room (Nat.le_of_ble_eq_true rfl)) dX8_of_2 ⟨Nat.le_of_ble_eq_true rfl, Nat.le_of_ble_eq_true rfl⟩) (fun r_1 v_1 H locs hw_1 hP hD hS => ?_)
  obtain ⟨-, hu_1, hw_1⟩ := hw_1
  replace hu_1 := hu_1.symm
  subst hu_1
  rcases hw_1 with ⟨rfl, ha_2⟩ | ⟨rfl, ha_2⟩
  · have hb_2 := hv 1 2 6 (by decide)
    have hj_2 : 0 ≤ x0.toInt ∧ x0.toInt ≤ 5 := ⟨by omega, by omega⟩
    refine lv_if_eq (tgt := 18) hx hb dX8_of_5 (by decide) (fun c9 => absurd c9 (by decide)) (fun _ => ?_)
    refine lv_iload_n hx hb dX8_of_8 rfl (lv_at hl 2 rfl) ?_
    refine lv_iconst (v := 0) hx hb dX8_of_9 (by decide) ?_
    refine lv_bipush (v := 7) hx hb dX8_of_10 (by decide) ?_
    refine yc_p hP hS (va_runS (As := [.int x1, .int 0, .int 7]) (rest := []) ⟨hx, hb, hml, hown, hts⟩ (c_X8_in l x1 0 7) (cwS 3 hts gX8_of_X8_in rfl rfl rfl hd_S_X8_in_3 ⟨Nat.le_of_ble_eq_true rfl, Nat.le_of_ble_eq_true rfl⟩) ex_preP rfl rfl hl.1 rfl (lv_room (Nat.le_of_ble_eq_true rfl)) dX8_of_12 ⟨Nat.le_of_ble_eq_true rfl, Nat.le_of_ble_eq_true rfl⟩) (fun r_3 H locs hw_3 hP hS => ?_)
    rcases wi_ca hw_3 with ⟨rfl, hc_4⟩ | ⟨rfl, hc_4⟩
    · have k_0 : (0 : Int32).toInt = 0 := by decide
      have k_7 : (7 : Int32).toInt = 7 := by decide
      have tc_4 := wi_tl hc_4
      refine lv_if_ne (tgt := 20) hx hb dX8_of_15 (by decide) (fun _ => ?_) (fun c9 => absurd c9 (by decide))
      refine lv_iload_n hx hb dX8_of_20 rfl (lv_at hl 2 rfl) ?_
      refine lv_iconst (v := 5) hx hb dX8_of_21 (by decide) ?_
      have k_5 : (5 : Int32).toInt = 5 := by decide
      refine lv_icmp_eq (tgt := 31) hx hb dX8_of_22 (by decide) (fun c_5 => ?_) (fun c_5 => ?_)
      · have tc_5 : x1.toInt = (5 : Int32).toInt := by rw [c_5]
        refine lv_aload_n hx hb dX8_of_31 rfl (lv_at hl 0 rfl) ?_
        refine yw_v (w1 := fun (u : Nat → Nat → Int32) => wm ad cy u) hD hS hA (va_runV (As := []) (rest := []) ⟨hx, hb, hml, hown, hts⟩ (q_X8_findHeads l dC dI cy _ ad v hv ) (cwV 0 hts gX8_of_X8_findHeads rfl rfl rfl hd_V_X8_findHeads_0 ⟨Nat.le_of_ble_eq_true rfl, Nat.le_of_ble_eq_true rfl⟩) (yw_preV hE hK hP hD (ci := 8) (q0 := 0) rfl (wm_at (by decide) rc_0)) rfl rfl hl.1 rfl (lv_room (Nat.le_of_ble_eq_true rfl)) dX8_of_32 ⟨Nat.le_of_ble_eq_true rfl, Nat.le_of_ble_eq_true rfl⟩) (fun v_6 H locs hw_6 hP hD hS => ?_)
        obtain ⟨hv, hf_6⟩ := hw_6
        have hfr : Fq v v_6 := hfr.trans hf_6
        refine lv_iload_n hx hb dX8_of_35 rfl (lv_at hl 2 rfl) ?_
        refine lv_iconst (v := 5) hx hb dX8_of_36 (by decide) ?_
        refine lv_icmp_ne (tgt := 49) hx hb dX8_of_37 (by decide) (fun c_7 => ?_) (fun c_7 => ?_)
        · have tc_7 : x1.toInt ≠ (5 : Int32).toInt := fun q => absurd (Int32.toInt_inj.mp q) c_7
          exfalso
          omega
        · have tc_7 : x1.toInt = (5 : Int32).toInt := by rw [c_7]
          refine lv_aload_n hx hb dX8_of_40 rfl (lv_at hl 0 rfl) ?_
          refine va_get (D := (dC, dI)) (ci := 8) (v := .ref (ad 3)) (C := RX8) (T := TX8) (N := 11) hx hb hts iwX8_of_X8 hown hK hP (0) (wm_at (by decide) rc_0) rfl 4 (by decide) (hts (.fieldLink RX8 20 "QuietStairsModel" "headOf" "[I") fwX8_of_1) (fun _ h9 => h9) rfl dX8_of_41 ?_
          refine lv_iload_n hx hb dX8_of_44 rfl (lv_at hl 1 rfl) ?_
          refine va_iald hx hb hK hP (3) 0 (wm_at (by decide) rc_3) rfl (vp_in_iff.mpr ⟨by omega, by omega⟩) dX8_of_45 ?_
          refine lv_topi (fun x_8 ex_8 => ?_)
          have bzx_8 : 0 ≤ x_8.toInt ∧ x_8.toInt ≤ 5 := by rw [ex_8]; exact hv 3 _ 5 rfl
          refine lv_goto (tgt := 54) hx hb dX8_of_46 (by decide) ?_
          exact W.iret (v := x_8) hx hb hr (fun t ht hW => ⟨⟨x_8, v_6, rfl, ⟨hv, hfr⟩, by rw [ht]; exact hP, hD⟩, hS.F ht⟩) hS.2.2 dX8_of_54
      · have tc_5 : x1.toInt ≠ (5 : Int32).toInt := fun q => absurd (Int32.toInt_inj.mp q) c_5
        refine lv_iload_n hx hb dX8_of_25 rfl (lv_at hl 2 rfl) ?_
        refine lv_bipush (v := 6) hx hb dX8_of_26 (by decide) ?_
        have k_6 : (6 : Int32).toInt = 6 := by decide
        refine lv_icmp_ne (tgt := 55) hx hb dX8_of_28 (by decide) (fun c_6 => ?_) (fun c_6 => ?_)
        · have tc_6 : x1.toInt ≠ (6 : Int32).toInt := fun q => absurd (Int32.toInt_inj.mp q) c_6
          refine lv_aload_n hx hb dX8_of_55 rfl (lv_at hl 0 rfl) ?_
          refine va_get (D := (dC, dI)) (ci := 8) (v := .ref (ad 1)) (C := RX8) (T := TX8) (N := 11) hx hb hts iwX8_of_X8 hown hK hP (0) (wm_at (by decide) rc_0) rfl 0 (by decide) (hts (.fieldLink RX8 7 "QuietStairsModel" "s" "[I") fwX8_of_2) (fun _ h9 => h9) rfl dX8_of_56 ?_
          refine lv_iload_n hx hb dX8_of_59 rfl (lv_at hl 1 rfl) ?_
          refine lv_iload_n hx hb dX8_of_60 rfl (lv_at hl 2 rfl) ?_
          refine lv_bipush (v := 7) hx hb dX8_of_61 (by decide) ?_
          refine lv_icmp_ne (tgt := 70) hx hb dX8_of_63 (by decide) (fun c_7 => ?_) (fun c_7 => ?_)
          · have tc_7 : x1.toInt ≠ (7 : Int32).toInt := fun q => absurd (Int32.toInt_inj.mp q) c_7
            refine lv_iload_n hx hb dX8_of_70 rfl (lv_at hl 2 rfl) ?_
            refine yc_p hP hS (va_runS (As := [.int x0, .int x1]) (rest := [.ref (ad 1)]) ⟨hx, hb, hml, hown, hts⟩ (c_X8_at l x0 x1) (cwS 2 hts gX8_of_X8_at rfl rfl rfl hd_S_X8_at_2 ⟨Nat.le_of_ble_eq_true rfl, Nat.le_of_ble_eq_true rfl⟩) ex_preP rfl rfl hl.1 rfl (lv_room (Nat.le_of_ble_eq_true rfl)) dX8_of_71 ⟨Nat.le_of_ble_eq_true rfl, Nat.le_of_ble_eq_true rfl⟩) (fun r_8 H locs hw_8 hP hS => ?_)
            have tr_8 : r_8.toInt = 32 + 7 * x0.toInt + x1.toInt := t_at hw_8 ⟨by omega, by omega⟩ ⟨by omega, by omega⟩
            refine va_iald hx hb hK hP (1) 0 (wm_at (by decide) rc_1) rfl (vp_in_iff.mpr ⟨by omega, by omega⟩) dX8_of_74 ?_
            refine lv_topi (fun x_9 ex_9 => ?_)
            exact W.iret (v := x_9) hx hb hr (fun t ht hW => ⟨⟨x_9, v, rfl, ⟨hv, hfr⟩, by rw [ht]; exact hP, hD⟩, hS.F ht⟩) hS.2.2 dX8_of_75
          · have tc_7 : x1.toInt = (7 : Int32).toInt := by rw [c_7]
            refine lv_iconst (v := 5) hx hb dX8_of_66 (by decide) ?_
            refine lv_goto (tgt := 71) hx hb dX8_of_67 (by decide) ?_
            refine yc_p hP hS (va_runS (As := [.int x0, .int 5]) (rest := [.ref (ad 1)]) ⟨hx, hb, hml, hown, hts⟩ (c_X8_at l x0 5) (cwS 2 hts gX8_of_X8_at rfl rfl rfl hd_S_X8_at_2 ⟨Nat.le_of_ble_eq_true rfl, Nat.le_of_ble_eq_true rfl⟩) ex_preP rfl rfl hl.1 rfl (lv_room (Nat.le_of_ble_eq_true rfl)) dX8_of_71 ⟨Nat.le_of_ble_eq_true rfl, Nat.le_of_ble_eq_true rfl⟩) (fun r_8 H locs hw_8 hP hS => ?_)
            have tr_8 : r_8.toInt = 32 + 7 * x0.toInt + (5 : Int32).toInt := t_at hw_8 ⟨by omega, by omega⟩ ⟨by omega, by omega⟩
            refine va_iald hx hb hK hP (1) 0 (wm_at (by decide) rc_1) rfl (vp_in_iff.mpr ⟨by omega, by omega⟩) dX8_of_74 ?_
            refine lv_topi (fun x_9 ex_9 => ?_)
            exact W.iret (v := x_9) hx hb hr (fun t ht hW => ⟨⟨x_9, v, rfl, ⟨hv, hfr⟩, by rw [ht]; exact hP, hD⟩, hS.F ht⟩) hS.2.2 dX8_of_75
        · have tc_6 : x1.toInt = (6 : Int32).toInt := by rw [c_6]
          refine lv_aload_n hx hb dX8_of_31 rfl (lv_at hl 0 rfl) ?_
          refine yw_v (w1 := fun (u : Nat → Nat → Int32) => wm ad cy u) hD hS hA (va_runV (As := []) (rest := []) ⟨hx, hb, hml, hown, hts⟩ (q_X8_findHeads l dC dI cy _ ad v hv ) (cwV 0 hts gX8_of_X8_findHeads rfl rfl rfl hd_V_X8_findHeads_0 ⟨Nat.le_of_ble_eq_true rfl, Nat.le_of_ble_eq_true rfl⟩) (yw_preV hE hK hP hD (ci := 8) (q0 := 0) rfl (wm_at (by decide) rc_0)) rfl rfl hl.1 rfl (lv_room (Nat.le_of_ble_eq_true rfl)) dX8_of_32 ⟨Nat.le_of_ble_eq_true rfl, Nat.le_of_ble_eq_true rfl⟩) (fun v_7 H locs hw_7 hP hD hS => ?_)
          obtain ⟨hv, hf_7⟩ := hw_7
          have hfr : Fq v v_7 := hfr.trans hf_7
          refine lv_iload_n hx hb dX8_of_35 rfl (lv_at hl 2 rfl) ?_
          refine lv_iconst (v := 5) hx hb dX8_of_36 (by decide) ?_
          refine lv_icmp_ne (tgt := 49) hx hb dX8_of_37 (by decide) (fun c_8 => ?_) (fun c_8 => ?_)
          · have tc_8 : x1.toInt ≠ (5 : Int32).toInt := fun q => absurd (Int32.toInt_inj.mp q) c_8
            refine lv_aload_n hx hb dX8_of_49 rfl (lv_at hl 0 rfl) ?_
            refine lv_iload_n hx hb dX8_of_50 rfl (lv_at hl 1 rfl) ?_
            refine yw_i (w1 := fun (u : Nat → Nat → Int32) => wm ad cy u) hD hS hA (va_runV (As := [.int x0]) (rest := []) ⟨hx, hb, hml, hown, hts⟩ (q_X8_joined l dC dI cy _ ad v_7 hv x0 ⟨by omega, by omega⟩) (cwV 1 hts gX8_of_X8_joined rfl rfl rfl hd_V_X8_joined_1 ⟨Nat.le_of_ble_eq_true rfl, Nat.le_of_ble_eq_true rfl⟩) (yw_preV hE hK hP hD (ci := 8) (q0 := 0) rfl (wm_at (by decide) rc_0)) rfl rfl hl.1 rfl (lv_room (Nat.le_of_ble_eq_true rfl)) dX8_of_51 ⟨Nat.le_of_ble_eq_true rfl, Nat.le_of_ble_eq_true rfl⟩) (fun r_9 v_9 H locs hw_9 hP hD hS => ?_)
            obtain ⟨-, hw_9⟩ := hw_9
            replace hw_9 := hw_9.symm
            subst hw_9
            exact W.iret (v := r_9) hx hb hr (fun t ht hW => ⟨⟨r_9, v_7, rfl, ⟨hv, hfr⟩, by rw [ht]; exact hP, hD⟩, hS.F ht⟩) hS.2.2 dX8_of_54
          · have tc_8 : x1.toInt = (5 : Int32).toInt := by rw [c_8]
            exfalso
            omega
    · have k_0 : (0 : Int32).toInt = 0 := by decide
      have k_7 : (7 : Int32).toInt = 7 := by decide
      have tc_4 : ¬ ((0 : Int32).toInt ≤ x1.toInt ∧ x1.toInt ≤ (7 : Int32).toInt) := fun q => hc_4 ⟨Int32.le_iff_toInt_le.mpr q.1, Int32.le_iff_toInt_le.mpr q.2⟩
      refine lv_if_ne (tgt := 20) hx hb dX8_of_15 (by decide) (fun c9 => absurd c9 (by decide)) (fun _ => ?_)
      refine lv_iconst (v := (-1)) hx hb dX8_of_18 (by decide) ?_
      exact W.iret (v := (-1)) hx hb hr (fun t ht hW => ⟨⟨(-1), v, rfl, ⟨hv, hfr⟩, by rw [ht]; exact hP, hD⟩, hS.F ht⟩) hS.2.2 dX8_of_19
  · refine lv_if_eq (tgt := 18) hx hb dX8_of_5 (by decide) (fun _ => ?_) (fun c9 => absurd c9 (by decide))
    refine lv_iconst (v := (-1)) hx hb dX8_of_18 (by decide) ?_
    exact W.iret (v := (-1)) hx hb hr (fun t ht hW => ⟨⟨(-1), v, rfl, ⟨hv, hfr⟩, by rw [ht]; exact hP, hD⟩, hS.F ht⟩) hS.2.2 dX8_of_19

set_option maxHeartbeats 4000000 in
set_option maxRecDepth 100000 in
theorem q_X8_quarrels (l : Launch) (dC : Nat → ClassId) (dI : Nat → Nat → Nat) (cy : Nat → ClassId) (sz : Nat) (ad : Nat → Nat) (v : Nat → Nat → Int32) (hv : Ir v)  : Met l yX8_quarrels wsX8_quarrels ({ frames := 1, cells := 0, slots := 0, locals := 64 }) (va_Pc [.ref (ad 0)] (ex_Pre dC dI cy sz (wm ad cy v))) (va_Qi (fun (r : Int32) (u : Nat → Nat → Int32) => Ir u ∧ Fq v u) (fun u t => ex_Pst dC dI (va_A (wm ad cy v) sz) (wm ad cy u) t) (va_A (wm ad cy v) sz)) 0 0 (va_A (wm ad cy v) sz) := by
  refine Met.ofW (cc := cX8_quarrels) (maxL := 3) (ret := (some .int)) (by decide) rfl ?_
  intro p e s m args below meth c s₁ B hml hv
  obtain ⟨rfl, hsz, hE, hP, hK, hD0⟩ := hv
  have hx := B.exec
  have hb := B.bytes
  have hr := B.returns
  have hts := atoms_spec (ws := wsX8_quarrels) B.pre
  have hown : s.vm.findClass RX8 = some m.cls := findClass_of_methodNamed B.named
  have hlocks := B.notSynchronized
  subst hsz
  have hD := hD0.self (sz := s.heap.size)
  generalize hAe : va_A (wm ad cy v) s.heap.size = A at hD ⊢
  have hA : ∀ q : Nat, s.heap.size ≤ q → A q := fun q h => by rw [← hAe]; exact Or.inr h
  have hS : va_S A s.heap s.heap [] := va_S.rf
  have hP : va_P (dC, dI) vwCl (wm ad cy v) s.heap := hP
  have hl := lv_entry ([.ref (ad 0)]) (n := 3) (Nat.le_of_ble_eq_true rfl)
  rw [lg_entry_eq]
  generalize (lg_sl ([.ref (ad 0)]) ++ List.replicate (3 - (lg_sl ([.ref (ad 0)])).length) Slot.unset).toArray = ls at hl ⊢
  have hl : lv_has ls 3 [(0, .ref (ad 0))] := hl
  have hfr : Fq v v := Fq.rf
  refine lv_aload_n hx hb dX8_quarrels_0 rfl (lv_at hl 0 rfl) ?_
  refine yw_v (w1 := fun (u : Nat → Nat → Int32) => wm ad cy u) hD hS hA (va_runV (As := []) (rest := []) ⟨hx, hb, hml, hown, hts⟩ (q_X8_findHeads l dC dI cy _ ad v hv ) (cwV 0 hts gX8_quarrels_X8_findHeads rfl rfl rfl hd_V_X8_findHeads_0 ⟨Nat.le_of_ble_eq_true rfl, Nat.le_of_ble_eq_true rfl⟩) (yw_preV hE hK hP hD (ci := 8) (q0 := 0) rfl (wm_at (by decide) rc_0)) rfl rfl hl.1 rfl (lv_room (Nat.le_of_ble_eq_true rfl)) dX8_quarrels_1 ⟨Nat.le_of_ble_eq_true rfl, Nat.le_of_ble_eq_true rfl⟩) (fun v_1 H locs hw_1 hP hD hS => ?_)
  obtain ⟨hv, hf_1⟩ := hw_1
  have hfr : Fq v v_1 := hfr.trans hf_1
  refine lv_iconst (v := 0) hx hb dX8_quarrels_4 (by decide) ?_
  refine lv_istore_n (lv' := [(1, .int 0), (0, .ref (ad 0))]) hx hb dX8_quarrels_5 rfl hl (by decide) rfl (fun ls hl => ?_)
  refine lv_iconst (v := 0) hx hb dX8_quarrels_6 (by decide) ?_
  refine lv_istore_n (lv' := [(2, .int 0), (1, .int 0), (0, .ref (ad 0))]) hx hb dX8_quarrels_7 rfl hl (by decide) rfl (fun ls hl => ?_)
  have hc_2 : ∀ (n : Nat) (y2_2 y2_1 : Int32) (H : Heap) (locs : List Loc), 0 ≤ y2_2.toInt → y2_2.toInt ≤ 6 → (6 - y2_2.toInt).toNat < n → va_P (dC, dI) vwCl (wm ad cy v_1) H → va_D A (wm ad cy v_1) → va_S A s.heap H locs → ∀ ls : Array Slot, lv_has ls 3 [(2, .int y2_2), (1, .int y2_1), (0, .ref (ad 0))] → W p l e (headSpec wsX8_quarrels ({ frames := 1, cells := 0, slots := 0, locals := 64 })).room s m [Value.ref (ad 0)].toArray below meth c H locs 0 0 (MQ below (va_Qi (fun (r : Int32) (u : Nat → Nat → Int32) => Ir u ∧ Fq v u) (fun u t => ex_Pst dC dI A (wm ad cy u) t) A) [Value.ref (ad 0)].toArray s 0 0 A) (F0 m 8 ls []) := by
    intro n
    induction n with
    | zero =>
      intro y2_2 y2_1 H locs ay2_2 by2_2 hm_2 hP hD hS ls hl
      exact absurd hm_2 (by omega)
    | succ n ih_2 =>
      intro y2_2 y2_1 H locs ay2_2 by2_2 hm_2 hP hD hS ls hl
      refine lv_iload_n hx hb dX8_quarrels_8 rfl (lv_at hl 0 rfl) ?_
      refine lv_aload_n hx hb dX8_quarrels_9 rfl (lv_at hl 2 rfl) ?_
      refine va_get (D := (dC, dI)) (ci := 8) (v := .ref (ad 1)) (C := RX8) (T := TX8) (N := 11) hx hb hts iwX8_quarrels_X8 hown hK hP (0) (wm_at (by decide) rc_0) rfl 0 (by decide) (hts (.fieldLink RX8 7 "QuietStairsModel" "s" "[I") fwX8_quarrels_1) (fun _ h9 => h9) rfl dX8_quarrels_10 ?_
      refine lv_iconst (v := 2) hx hb dX8_quarrels_13 (by decide) ?_
      have k_2 : (2 : Int32).toInt = 2 := by decide
      refine va_iald hx hb hK hP (1) 0 (wm_at (by decide) rc_1) rfl (by unfold vp_in; decide) dX8_quarrels_14 ?_
      refine lv_topi (fun x_3 ex_3 => ?_)
      have ex_3 : x_3 = v_1 1 2 := ex_3
      have bzx_3 : 0 ≤ x_3.toInt ∧ x_3.toInt ≤ 6 := by rw [ex_3]; exact hv 1 _ 6 (show bS 2 = some 6 from by decide)
      refine lv_icmp_ge (tgt := 42) hx hb dX8_quarrels_15 (by decide) (fun c_4 => ?_) (fun c_4 => ?_)
      · have tc_4 : y2_2.toInt ≥ x_3.toInt := Int32.le_iff_toInt_le.mp c_4
        refine lv_iload_n hx hb dX8_quarrels_42 rfl (lv_at hl 1 rfl) ?_
        exact W.iret (v := y2_1) hx hb hr (fun t ht hW => ⟨⟨y2_1, v_1, rfl, ⟨hv, hfr⟩, by rw [ht]; exact hP, hD⟩, hS.F ht⟩) hS.2.2 dX8_quarrels_43
      · have tc_4 : y2_2.toInt < x_3.toInt := Int32.lt_iff_toInt_lt.mp (Int32.not_le.mp c_4)
        refine lv_iload_n hx hb dX8_quarrels_18 rfl (lv_at hl 1 rfl) ?_
        refine lv_aload_n hx hb dX8_quarrels_19 rfl (lv_at hl 2 rfl) ?_
        refine va_get (D := (dC, dI)) (ci := 8) (v := .ref (ad 3)) (C := RX8) (T := TX8) (N := 11) hx hb hts iwX8_quarrels_X8 hown hK hP (0) (wm_at (by decide) rc_0) rfl 4 (by decide) (hts (.fieldLink RX8 20 "QuietStairsModel" "headOf" "[I") fwX8_quarrels_2) (fun _ h9 => h9) rfl dX8_quarrels_20 ?_
        refine lv_iload_n hx hb dX8_quarrels_23 rfl (lv_at hl 0 rfl) ?_
        refine va_iald hx hb hK hP (3) 0 (wm_at (by decide) rc_3) rfl (vp_in_iff.mpr ⟨by omega, by omega⟩) dX8_quarrels_24 ?_
        refine lv_topi (fun x_5 ex_5 => ?_)
        have bzx_5 : 0 ≤ x_5.toInt ∧ x_5.toInt ≤ 5 := by rw [ex_5]; exact hv 3 _ 5 rfl
        refine lv_iload_n hx hb dX8_quarrels_25 rfl (lv_at hl 0 rfl) ?_
        refine lv_icmp_ne (tgt := 33) hx hb dX8_quarrels_26 (by decide) (fun c_6 => ?_) (fun c_6 => ?_)
        · have tc_6 : x_5.toInt ≠ y2_2.toInt := fun q => absurd (Int32.toInt_inj.mp q) c_6
          refine lv_iconst (v := 0) hx hb dX8_quarrels_33 (by decide) ?_
          refine lv_iadd hx hb dX8_quarrels_34 ?_
          refine lv_topi (fun x_7 ex_7 => ?_)
          have k_0 : (0 : Int32).toInt = 0 := by decide
          refine lv_istore_n (lv' := [(1, .int x_7), (2, .int y2_2), (0, .ref (ad 0))]) hx hb dX8_quarrels_35 rfl hl (by decide) rfl (fun ls hl => ?_)
          obtain ⟨x_8, ex_8⟩ : ∃ y : Int32, y = y2_2 + 1 := ⟨_, rfl⟩
          refine lv_iinc (v := x_8) (lv' := [(2, .int x_8), (1, .int x_7), (0, .ref (ad 0))]) hx hb dX8_quarrels_36 hl (k := 1) rfl (by rw [ex_8]; rfl) (by decide) rfl (fun ls hl => ?_)
          have k_1 : (1 : Int32).toInt = 1 := by decide
          have tx_8 : x_8.toInt = y2_2.toInt + (1 : Int32).toInt := by rw [ex_8]; exact t_add ⟨by omega, by omega⟩
          refine lv_goto (tgt := 8) hx hb dX8_quarrels_39 (by decide) ?_
          exact ih_2 x_8 x_7 _ _ (by omega) (by omega) (by omega) hP hD hS ls (lv_sub hl [0, 1, 2] rfl)
        · have tc_6 : x_5.toInt = y2_2.toInt := by rw [c_6]
          refine lv_iconst (v := 1) hx hb dX8_quarrels_29 (by decide) ?_
          refine lv_goto (tgt := 34) hx hb dX8_quarrels_30 (by decide) ?_
          refine lv_iadd hx hb dX8_quarrels_34 ?_
          refine lv_topi (fun x_7 ex_7 => ?_)
          have k_1 : (1 : Int32).toInt = 1 := by decide
          refine lv_istore_n (lv' := [(1, .int x_7), (2, .int y2_2), (0, .ref (ad 0))]) hx hb dX8_quarrels_35 rfl hl (by decide) rfl (fun ls hl => ?_)
          obtain ⟨x_8, ex_8⟩ : ∃ y : Int32, y = y2_2 + 1 := ⟨_, rfl⟩
          refine lv_iinc (v := x_8) (lv' := [(2, .int x_8), (1, .int x_7), (0, .ref (ad 0))]) hx hb dX8_quarrels_36 hl (k := 1) rfl (by rw [ex_8]; rfl) (by decide) rfl (fun ls hl => ?_)
          have tx_8 : x_8.toInt = y2_2.toInt + (1 : Int32).toInt := by rw [ex_8]; exact t_add ⟨by omega, by omega⟩
          refine lv_goto (tgt := 8) hx hb dX8_quarrels_39 (by decide) ?_
          exact ih_2 x_8 x_7 _ _ (by omega) (by omega) (by omega) hP hD hS ls (lv_sub hl [0, 1, 2] rfl)
  have k_0 : (0 : Int32).toInt = 0 := by decide
  exact hc_2 ((6 - (0 : Int32).toInt).toNat + 1) 0 0 _ _ (by omega) (by omega) (by omega) hP hD hS ls (lv_sub hl [0, 1, 2] rfl)

set_option maxHeartbeats 4000000 in
set_option maxRecDepth 100000 in
theorem q_X8_many (l : Launch) (dC : Nat → ClassId) (dI : Nat → Nat → Nat) (cy : Nat → ClassId) (sz : Nat) (ad : Nat → Nat) (v : Nat → Nat → Int32) (hv : Ir v) (x0 : Int32) : Met l yX8_many wsX8_many ({ frames := 3, cells := 0, slots := 0, locals := 192 }) (va_Pc [.ref (ad 0), .int x0] (ex_Pre dC dI cy sz (wm ad cy v))) (va_Qi (fun (r : Int32) (u : Nat → Nat → Int32) => Ir u ∧ Fq v u) (fun u t => ex_Pst dC dI (va_A (wm ad cy v) sz) (wm ad cy u) t) (va_A (wm ad cy v) sz)) 0 0 (va_A (wm ad cy v) sz) := by
  refine Met.ofW (cc := cX8_many) (maxL := 2) (ret := (some .int)) (by decide) rfl ?_
  intro p e s m args below meth c s₁ B hml hv
  obtain ⟨rfl, hsz, hE, hP, hK, hD0⟩ := hv
  have hx := B.exec
  have hb := B.bytes
  have hr := B.returns
  have hts := atoms_spec (ws := wsX8_many) B.pre
  have hown : s.vm.findClass RX8 = some m.cls := findClass_of_methodNamed B.named
  have hlocks := B.notSynchronized
  subst hsz
  have hD := hD0.self (sz := s.heap.size)
  generalize hAe : va_A (wm ad cy v) s.heap.size = A at hD ⊢
  have hA : ∀ q : Nat, s.heap.size ≤ q → A q := fun q h => by rw [← hAe]; exact Or.inr h
  have hS : va_S A s.heap s.heap [] := va_S.rf
  have hP : va_P (dC, dI) vwCl (wm ad cy v) s.heap := hP
  have hl := lv_entry ([.ref (ad 0), .int x0]) (n := 2) (Nat.le_of_ble_eq_true rfl)
  rw [lg_entry_eq]
  generalize (lg_sl ([.ref (ad 0), .int x0]) ++ List.replicate (2 - (lg_sl ([.ref (ad 0), .int x0])).length) Slot.unset).toArray = ls at hl ⊢
  have hl : lv_has ls 2 [(0, .ref (ad 0)), (1, .int x0)] := hl
  have hfr : Fq v v := Fq.rf
  refine lv_iload_n hx hb dX8_many_0 rfl (lv_at hl 1 rfl) ?_
  rcases sw_11 x0 with hsw | hsw | hsw | hsw | hsw | hsw | hsw | hsw | hsw | hsw | hsw | hsw
  · refine lv_tableOut (tgt := 129) hx hb dX8_many_1 hsw (by decide) ?_
    refine lv_iconst (v := (-1)) hx hb dX8_many_129 (by decide) ?_
    exact W.iret (v := (-1)) hx hb hr (fun t ht hW => ⟨⟨(-1), v, rfl, ⟨hv, hfr⟩, by rw [ht]; exact hP, hD⟩, hS.F ht⟩) hS.2.2 dX8_many_130
  · refine lv_tableIn (off := 59) (tgt := 60) hx hb dX8_many_1 (by rw [hsw]; decide) (by rw [hsw]; decide) (by rw [hsw]; decide) (by decide) ?_
    refine lv_aload_n hx hb dX8_many_60 rfl (lv_at hl 0 rfl) ?_
    refine va_get (D := (dC, dI)) (ci := 8) (v := .ref (ad 1)) (C := RX8) (T := TX8) (N := 11) hx hb hts iwX8_many_X8 hown hK hP (0) (wm_at (by decide) rc_0) rfl 0 (by decide) (hts (.fieldLink RX8 7 "QuietStairsModel" "s" "[I") fwX8_many_1) (fun _ h9 => h9) rfl dX8_many_61 ?_
    refine lv_iconst (v := 0) hx hb dX8_many_64 (by decide) ?_
    have k_0 : (0 : Int32).toInt = 0 := by decide
    refine va_iald hx hb hK hP (1) 0 (wm_at (by decide) rc_1) rfl (by unfold vp_in; decide) dX8_many_65 ?_
    refine lv_topi (fun x_1 ex_1 => ?_)
    have ex_1 : x_1 = v 1 0 := ex_1
    have bzx_1 : 0 ≤ x_1.toInt ∧ x_1.toInt ≤ 8 := by rw [ex_1]; exact hv 1 _ 8 (show bS 0 = some 8 from by decide)
    exact W.iret (v := x_1) hx hb hr (fun t ht hW => ⟨⟨x_1, v, rfl, ⟨hv, hfr⟩, by rw [ht]; exact hP, hD⟩, hS.F ht⟩) hS.2.2 dX8_many_66
  · refine lv_tableIn (off := 66) (tgt := 67) hx hb dX8_many_1 (by rw [hsw]; decide) (by rw [hsw]; decide) (by rw [hsw]; decide) (by decide) ?_
    refine lv_aload_n hx hb dX8_many_67 rfl (lv_at hl 0 rfl) ?_
    refine va_get (D := (dC, dI)) (ci := 8) (v := .ref (ad 1)) (C := RX8) (T := TX8) (N := 11) hx hb hts iwX8_many_X8 hown hK hP (0) (wm_at (by decide) rc_0) rfl 0 (by decide) (hts (.fieldLink RX8 7 "QuietStairsModel" "s" "[I") fwX8_many_1) (fun _ h9 => h9) rfl dX8_many_68 ?_
    refine lv_iconst (v := 1) hx hb dX8_many_71 (by decide) ?_
    have k_1 : (1 : Int32).toInt = 1 := by decide
    refine va_iald hx hb hK hP (1) 0 (wm_at (by decide) rc_1) rfl (by unfold vp_in; decide) dX8_many_72 ?_
    refine lv_topi (fun x_1 ex_1 => ?_)
    have ex_1 : x_1 = v 1 1 := ex_1
    have bzx_1 : 0 ≤ x_1.toInt ∧ x_1.toInt ≤ 4 := by rw [ex_1]; exact hv 1 _ 4 (show bS 1 = some 4 from by decide)
    exact W.iret (v := x_1) hx hb hr (fun t ht hW => ⟨⟨x_1, v, rfl, ⟨hv, hfr⟩, by rw [ht]; exact hP, hD⟩, hS.F ht⟩) hS.2.2 dX8_many_73
  · refine lv_tableIn (off := 73) (tgt := 74) hx hb dX8_many_1 (by rw [hsw]; decide) (by rw [hsw]; decide) (by rw [hsw]; decide) (by decide) ?_
    refine lv_aload_n hx hb dX8_many_74 rfl (lv_at hl 0 rfl) ?_
    refine va_get (D := (dC, dI)) (ci := 8) (v := .ref (ad 1)) (C := RX8) (T := TX8) (N := 11) hx hb hts iwX8_many_X8 hown hK hP (0) (wm_at (by decide) rc_0) rfl 0 (by decide) (hts (.fieldLink RX8 7 "QuietStairsModel" "s" "[I") fwX8_many_1) (fun _ h9 => h9) rfl dX8_many_75 ?_
    refine lv_iconst (v := 2) hx hb dX8_many_78 (by decide) ?_
    have k_2 : (2 : Int32).toInt = 2 := by decide
    refine va_iald hx hb hK hP (1) 0 (wm_at (by decide) rc_1) rfl (by unfold vp_in; decide) dX8_many_79 ?_
    refine lv_topi (fun x_1 ex_1 => ?_)
    have ex_1 : x_1 = v 1 2 := ex_1
    have bzx_1 : 0 ≤ x_1.toInt ∧ x_1.toInt ≤ 6 := by rw [ex_1]; exact hv 1 _ 6 (show bS 2 = some 6 from by decide)
    exact W.iret (v := x_1) hx hb hr (fun t ht hW => ⟨⟨x_1, v, rfl, ⟨hv, hfr⟩, by rw [ht]; exact hP, hD⟩, hS.F ht⟩) hS.2.2 dX8_many_80
  · refine lv_tableIn (off := 80) (tgt := 81) hx hb dX8_many_1 (by rw [hsw]; decide) (by rw [hsw]; decide) (by rw [hsw]; decide) (by decide) ?_
    refine lv_aload_n hx hb dX8_many_81 rfl (lv_at hl 0 rfl) ?_
    refine lv_iconst (v := 0) hx hb dX8_many_82 (by decide) ?_
    have k_0 : (0 : Int32).toInt = 0 := by decide
    refine yw_i (w1 := fun (u : Nat → Nat → Int32) => wm ad cy u) hD hS hA (va_runV (As := [.int 0]) (rest := []) ⟨hx, hb, hml, hown, hts⟩ (q_X8_casesThat l dC dI cy _ ad v hv 0) (cwV 1 hts gX8_many_X8_casesThat rfl rfl rfl hd_V_X8_casesThat_1 ⟨Nat.le_of_ble_eq_true rfl, Nat.le_of_ble_eq_true rfl⟩) (yw_preV hE hK hP hD (ci := 8) (q0 := 0) rfl (wm_at (by decide) rc_0)) rfl rfl hl.1 rfl (lv_room (Nat.le_of_ble_eq_true rfl)) dX8_many_83 ⟨Nat.le_of_ble_eq_true rfl, Nat.le_of_ble_eq_true rfl⟩) (fun r_1 v_1 H locs hw_1 hP hD hS => ?_)
    obtain ⟨-, hw_1⟩ := hw_1
    replace hw_1 := hw_1.symm
    subst hw_1
    exact W.iret (v := r_1) hx hb hr (fun t ht hW => ⟨⟨r_1, v, rfl, ⟨hv, hfr⟩, by rw [ht]; exact hP, hD⟩, hS.F ht⟩) hS.2.2 dX8_many_86
  · refine lv_tableIn (off := 86) (tgt := 87) hx hb dX8_many_1 (by rw [hsw]; decide) (by rw [hsw]; decide) (by rw [hsw]; decide) (by decide) ?_
    refine lv_aload_n hx hb dX8_many_87 rfl (lv_at hl 0 rfl) ?_
    refine lv_iconst (v := 1) hx hb dX8_many_88 (by decide) ?_
    have k_1 : (1 : Int32).toInt = 1 := by decide
    refine yw_i (w1 := fun (u : Nat → Nat → Int32) => wm ad cy u) hD hS hA (va_runV (As := [.int 1]) (rest := []) ⟨hx, hb, hml, hown, hts⟩ (q_X8_casesThat l dC dI cy _ ad v hv 1) (cwV 1 hts gX8_many_X8_casesThat rfl rfl rfl hd_V_X8_casesThat_1 ⟨Nat.le_of_ble_eq_true rfl, Nat.le_of_ble_eq_true rfl⟩) (yw_preV hE hK hP hD (ci := 8) (q0 := 0) rfl (wm_at (by decide) rc_0)) rfl rfl hl.1 rfl (lv_room (Nat.le_of_ble_eq_true rfl)) dX8_many_89 ⟨Nat.le_of_ble_eq_true rfl, Nat.le_of_ble_eq_true rfl⟩) (fun r_1 v_1 H locs hw_1 hP hD hS => ?_)
    obtain ⟨-, hw_1⟩ := hw_1
    replace hw_1 := hw_1.symm
    subst hw_1
    exact W.iret (v := r_1) hx hb hr (fun t ht hW => ⟨⟨r_1, v, rfl, ⟨hv, hfr⟩, by rw [ht]; exact hP, hD⟩, hS.F ht⟩) hS.2.2 dX8_many_92
  · refine lv_tableIn (off := 92) (tgt := 93) hx hb dX8_many_1 (by rw [hsw]; decide) (by rw [hsw]; decide) (by rw [hsw]; decide) (by decide) ?_
    refine lv_aload_n hx hb dX8_many_93 rfl (lv_at hl 0 rfl) ?_
    refine va_get (D := (dC, dI)) (ci := 8) (v := .ref (ad 1)) (C := RX8) (T := TX8) (N := 11) hx hb hts iwX8_many_X8 hown hK hP (0) (wm_at (by decide) rc_0) rfl 0 (by decide) (hts (.fieldLink RX8 7 "QuietStairsModel" "s" "[I") fwX8_many_1) (fun _ h9 => h9) rfl dX8_many_94 ?_
    refine lv_iconst (v := 3) hx hb dX8_many_97 (by decide) ?_
    have k_3 : (3 : Int32).toInt = 3 := by decide
    refine va_iald hx hb hK hP (1) 0 (wm_at (by decide) rc_1) rfl (by unfold vp_in; decide) dX8_many_98 ?_
    refine lv_topi (fun x_1 ex_1 => ?_)
    have ex_1 : x_1 = v 1 3 := ex_1
    have bzx_1 : 0 ≤ x_1.toInt ∧ x_1.toInt ≤ 6 := by rw [ex_1]; exact hv 1 _ 6 (show bS 3 = some 6 from by decide)
    exact W.iret (v := x_1) hx hb hr (fun t ht hW => ⟨⟨x_1, v, rfl, ⟨hv, hfr⟩, by rw [ht]; exact hP, hD⟩, hS.F ht⟩) hS.2.2 dX8_many_99
  · refine lv_tableIn (off := 99) (tgt := 100) hx hb dX8_many_1 (by rw [hsw]; decide) (by rw [hsw]; decide) (by rw [hsw]; decide) (by decide) ?_
    refine lv_aload_n hx hb dX8_many_100 rfl (lv_at hl 0 rfl) ?_
    refine yw_i (w1 := fun (u : Nat → Nat → Int32) => wm ad cy u) hD hS hA (va_runV (As := []) (rest := []) ⟨hx, hb, hml, hown, hts⟩ (q_X8_quarrels l dC dI cy _ ad v hv ) (cwV 0 hts gX8_many_X8_quarrels rfl rfl rfl hd_V_X8_quarrels_0 ⟨Nat.le_of_ble_eq_true rfl, Nat.le_of_ble_eq_true rfl⟩) (yw_preV hE hK hP hD (ci := 8) (q0 := 0) rfl (wm_at (by decide) rc_0)) rfl rfl hl.1 rfl (lv_room (Nat.le_of_ble_eq_true rfl)) dX8_many_101 ⟨Nat.le_of_ble_eq_true rfl, Nat.le_of_ble_eq_true rfl⟩) (fun r_1 v_1 H locs hw_1 hP hD hS => ?_)
    obtain ⟨hv, hf_1⟩ := hw_1
    have hfr : Fq v v_1 := hfr.trans hf_1
    exact W.iret (v := r_1) hx hb hr (fun t ht hW => ⟨⟨r_1, v_1, rfl, ⟨hv, hfr⟩, by rw [ht]; exact hP, hD⟩, hS.F ht⟩) hS.2.2 dX8_many_104
  · refine lv_tableIn (off := 104) (tgt := 105) hx hb dX8_many_1 (by rw [hsw]; decide) (by rw [hsw]; decide) (by rw [hsw]; decide) (by decide) ?_
    refine lv_aload_n hx hb dX8_many_105 rfl (lv_at hl 0 rfl) ?_
    refine lv_iconst (v := (-1)) hx hb dX8_many_106 (by decide) ?_
    have k_m1 : ((-1) : Int32).toInt = -1 := by decide
    refine yw_i (w1 := fun (u : Nat → Nat → Int32) => wm ad cy u) hD hS hA (va_runV (As := [.int (-1)]) (rest := []) ⟨hx, hb, hml, hown, hts⟩ (q_X8_termsThat l dC dI cy _ ad v hv (-1)) (cwV 1 hts gX8_many_X8_termsThat rfl rfl rfl hd_V_X8_termsThat_1 ⟨Nat.le_of_ble_eq_true rfl, Nat.le_of_ble_eq_true rfl⟩) (yw_preV hE hK hP hD (ci := 8) (q0 := 0) rfl (wm_at (by decide) rc_0)) rfl rfl hl.1 rfl (lv_room (Nat.le_of_ble_eq_true rfl)) dX8_many_107 ⟨Nat.le_of_ble_eq_true rfl, Nat.le_of_ble_eq_true rfl⟩) (fun r_1 v_1 H locs hw_1 hP hD hS => ?_)
    obtain ⟨-, hw_1⟩ := hw_1
    replace hw_1 := hw_1.symm
    subst hw_1
    exact W.iret (v := r_1) hx hb hr (fun t ht hW => ⟨⟨r_1, v, rfl, ⟨hv, hfr⟩, by rw [ht]; exact hP, hD⟩, hS.F ht⟩) hS.2.2 dX8_many_110
  · refine lv_tableIn (off := 110) (tgt := 111) hx hb dX8_many_1 (by rw [hsw]; decide) (by rw [hsw]; decide) (by rw [hsw]; decide) (by decide) ?_
    refine lv_aload_n hx hb dX8_many_111 rfl (lv_at hl 0 rfl) ?_
    refine lv_iconst (v := 1) hx hb dX8_many_112 (by decide) ?_
    have k_1 : (1 : Int32).toInt = 1 := by decide
    refine yw_i (w1 := fun (u : Nat → Nat → Int32) => wm ad cy u) hD hS hA (va_runV (As := [.int 1]) (rest := []) ⟨hx, hb, hml, hown, hts⟩ (q_X8_termsThat l dC dI cy _ ad v hv 1) (cwV 1 hts gX8_many_X8_termsThat rfl rfl rfl hd_V_X8_termsThat_1 ⟨Nat.le_of_ble_eq_true rfl, Nat.le_of_ble_eq_true rfl⟩) (yw_preV hE hK hP hD (ci := 8) (q0 := 0) rfl (wm_at (by decide) rc_0)) rfl rfl hl.1 rfl (lv_room (Nat.le_of_ble_eq_true rfl)) dX8_many_113 ⟨Nat.le_of_ble_eq_true rfl, Nat.le_of_ble_eq_true rfl⟩) (fun r_1 v_1 H locs hw_1 hP hD hS => ?_)
    obtain ⟨-, hw_1⟩ := hw_1
    replace hw_1 := hw_1.symm
    subst hw_1
    exact W.iret (v := r_1) hx hb hr (fun t ht hW => ⟨⟨r_1, v, rfl, ⟨hv, hfr⟩, by rw [ht]; exact hP, hD⟩, hS.F ht⟩) hS.2.2 dX8_many_116
  · refine lv_tableIn (off := 116) (tgt := 117) hx hb dX8_many_1 (by rw [hsw]; decide) (by rw [hsw]; decide) (by rw [hsw]; decide) (by decide) ?_
    refine lv_aload_n hx hb dX8_many_117 rfl (lv_at hl 0 rfl) ?_
    refine lv_iconst (v := 0) hx hb dX8_many_118 (by decide) ?_
    have k_0 : (0 : Int32).toInt = 0 := by decide
    refine yw_i (w1 := fun (u : Nat → Nat → Int32) => wm ad cy u) hD hS hA (va_runV (As := [.int 0]) (rest := []) ⟨hx, hb, hml, hown, hts⟩ (q_X8_termsThat l dC dI cy _ ad v hv 0) (cwV 1 hts gX8_many_X8_termsThat rfl rfl rfl hd_V_X8_termsThat_1 ⟨Nat.le_of_ble_eq_true rfl, Nat.le_of_ble_eq_true rfl⟩) (yw_preV hE hK hP hD (ci := 8) (q0 := 0) rfl (wm_at (by decide) rc_0)) rfl rfl hl.1 rfl (lv_room (Nat.le_of_ble_eq_true rfl)) dX8_many_119 ⟨Nat.le_of_ble_eq_true rfl, Nat.le_of_ble_eq_true rfl⟩) (fun r_1 v_1 H locs hw_1 hP hD hS => ?_)
    obtain ⟨-, hw_1⟩ := hw_1
    replace hw_1 := hw_1.symm
    subst hw_1
    exact W.iret (v := r_1) hx hb hr (fun t ht hW => ⟨⟨r_1, v, rfl, ⟨hv, hfr⟩, by rw [ht]; exact hP, hD⟩, hS.F ht⟩) hS.2.2 dX8_many_122
  · refine lv_tableIn (off := 122) (tgt := 123) hx hb dX8_many_1 (by rw [hsw]; decide) (by rw [hsw]; decide) (by rw [hsw]; decide) (by decide) ?_
    refine lv_aload_n hx hb dX8_many_123 rfl (lv_at hl 0 rfl) ?_
    refine lv_iconst (v := 2) hx hb dX8_many_124 (by decide) ?_
    have k_2 : (2 : Int32).toInt = 2 := by decide
    refine yw_i (w1 := fun (u : Nat → Nat → Int32) => wm ad cy u) hD hS hA (va_runV (As := [.int 2]) (rest := []) ⟨hx, hb, hml, hown, hts⟩ (q_X8_termsThat l dC dI cy _ ad v hv 2) (cwV 1 hts gX8_many_X8_termsThat rfl rfl rfl hd_V_X8_termsThat_1 ⟨Nat.le_of_ble_eq_true rfl, Nat.le_of_ble_eq_true rfl⟩) (yw_preV hE hK hP hD (ci := 8) (q0 := 0) rfl (wm_at (by decide) rc_0)) rfl rfl hl.1 rfl (lv_room (Nat.le_of_ble_eq_true rfl)) dX8_many_125 ⟨Nat.le_of_ble_eq_true rfl, Nat.le_of_ble_eq_true rfl⟩) (fun r_1 v_1 H locs hw_1 hP hD hS => ?_)
    obtain ⟨-, hw_1⟩ := hw_1
    replace hw_1 := hw_1.symm
    subst hw_1
    exact W.iret (v := r_1) hx hb hr (fun t ht hW => ⟨⟨r_1, v, rfl, ⟨hv, hfr⟩, by rw [ht]; exact hP, hD⟩, hS.F ht⟩) hS.2.2 dX8_many_128
