set_option maxRecDepth 20000 in
theorem db_X8_note_0 : (decode cX8_note 0 = .ok (.aload_n 0, 1)) ∧ (decode cX8_note 1 = .ok (.aload_n 0, 1)) ∧ (decode cX8_note 2 = .ok (.getfield 79, 3)) ∧ (decode cX8_note 5 = .ok (.iconst 1, 1)) ∧ (decode cX8_note 6 = .ok (.isub, 1)) ∧ (decode cX8_note 7 = .ok (.invokevirtual 82, 3)) ∧ (decode cX8_note 10 = .ok (.istore_n 1, 1)) ∧ (decode cX8_note 11 = .ok (.iload_n 1, 1)) := by decide +kernel
theorem dX8_note_0 : decode cX8_note 0 = .ok (.aload_n 0, 1) := db_X8_note_0.1
theorem dX8_note_1 : decode cX8_note 1 = .ok (.aload_n 0, 1) := db_X8_note_0.2.1
theorem dX8_note_2 : decode cX8_note 2 = .ok (.getfield 79, 3) := db_X8_note_0.2.2.1
theorem dX8_note_5 : decode cX8_note 5 = .ok (.iconst 1, 1) := db_X8_note_0.2.2.2.1
theorem dX8_note_6 : decode cX8_note 6 = .ok (.isub, 1) := db_X8_note_0.2.2.2.2.1
set_option maxRecDepth 20000 in
theorem ggX8_note_X8_waitsOf : GoodIn wsX8_note wsX8_waitsOf := goodIn_r _ [9, 10, 11, 4, 12, 13, 8, 14, 15, 16, 17, 18, 19, 20, 21, 22, 23, 24, 25] rfl (by decide +kernel)
set_option maxRecDepth 20000 in
theorem gX8_note_X8_waitsOf : GoodIn wsX8_note (wsV RX8 82 RX8 yX8_waitsOf wsX8_waitsOf) := goodIn_app (goodIn_r _ [5, 6, 7, 8] rfl (by decide +kernel)) ggX8_note_X8_waitsOf
theorem dX8_note_7 : decode cX8_note 7 = .ok (.invokevirtual 82, 3) := db_X8_note_0.2.2.2.2.2.1
theorem dX8_note_10 : decode cX8_note 10 = .ok (.istore_n 1, 1) := db_X8_note_0.2.2.2.2.2.2.1
theorem dX8_note_11 : decode cX8_note 11 = .ok (.iload_n 1, 1) := db_X8_note_0.2.2.2.2.2.2.2
set_option maxRecDepth 20000 in
theorem db_X8_note_12 : (decode cX8_note 12 = .ok (.aload_n 0, 1)) ∧ (decode cX8_note 13 = .ok (.getfield 85, 3)) ∧ (decode cX8_note 16 = .ok (.if_icmp .ge 36, 3)) ∧ (decode cX8_note 52 = .ok (.return_, 1)) ∧ (decode cX8_note 19 = .ok (.aload_n 0, 1)) ∧ (decode cX8_note 20 = .ok (.iload_n 1, 1)) ∧ (decode cX8_note 21 = .ok (.putfield 85, 3)) ∧ (decode cX8_note 24 = .ok (.iconst 0, 1)) := by decide +kernel
theorem dX8_note_12 : decode cX8_note 12 = .ok (.aload_n 0, 1) := db_X8_note_12.1
theorem dX8_note_13 : decode cX8_note 13 = .ok (.getfield 85, 3) := db_X8_note_12.2.1
theorem dX8_note_16 : decode cX8_note 16 = .ok (.if_icmp .ge 36, 3) := db_X8_note_12.2.2.1
theorem dX8_note_52 : decode cX8_note 52 = .ok (.return_, 1) := db_X8_note_12.2.2.2.1
theorem dX8_note_19 : decode cX8_note 19 = .ok (.aload_n 0, 1) := db_X8_note_12.2.2.2.2.1
theorem dX8_note_20 : decode cX8_note 20 = .ok (.iload_n 1, 1) := db_X8_note_12.2.2.2.2.2.1
theorem dX8_note_21 : decode cX8_note 21 = .ok (.putfield 85, 3) := db_X8_note_12.2.2.2.2.2.2.1
theorem dX8_note_24 : decode cX8_note 24 = .ok (.iconst 0, 1) := db_X8_note_12.2.2.2.2.2.2.2
set_option maxRecDepth 20000 in
theorem db_X8_note_25 : (decode cX8_note 25 = .ok (.istore_n 2, 1)) ∧ (decode cX8_note 26 = .ok (.iload_n 2, 1)) ∧ (decode cX8_note 27 = .ok (.aload_n 0, 1)) ∧ (decode cX8_note 28 = .ok (.getfield 79, 3)) ∧ (decode cX8_note 31 = .ok (.if_icmp .ge 21, 3)) ∧ (decode cX8_note 34 = .ok (.aload_n 0, 1)) ∧ (decode cX8_note 35 = .ok (.getfield 29, 3)) ∧ (decode cX8_note 38 = .ok (.iload_n 2, 1)) := by decide +kernel
theorem dX8_note_25 : decode cX8_note 25 = .ok (.istore_n 2, 1) := db_X8_note_25.1
theorem dX8_note_26 : decode cX8_note 26 = .ok (.iload_n 2, 1) := db_X8_note_25.2.1
theorem dX8_note_27 : decode cX8_note 27 = .ok (.aload_n 0, 1) := db_X8_note_25.2.2.1
theorem dX8_note_28 : decode cX8_note 28 = .ok (.getfield 79, 3) := db_X8_note_25.2.2.2.1
theorem dX8_note_31 : decode cX8_note 31 = .ok (.if_icmp .ge 21, 3) := db_X8_note_25.2.2.2.2.1
theorem dX8_note_34 : decode cX8_note 34 = .ok (.aload_n 0, 1) := db_X8_note_25.2.2.2.2.2.1
theorem dX8_note_35 : decode cX8_note 35 = .ok (.getfield 29, 3) := db_X8_note_25.2.2.2.2.2.2.1
theorem dX8_note_38 : decode cX8_note 38 = .ok (.iload_n 2, 1) := db_X8_note_25.2.2.2.2.2.2.2
set_option maxRecDepth 20000 in
theorem db_X8_note_39 : (decode cX8_note 39 = .ok (.aload_n 0, 1)) ∧ (decode cX8_note 40 = .ok (.getfield 26, 3)) ∧ (decode cX8_note 43 = .ok (.iload_n 2, 1)) ∧ (decode cX8_note 44 = .ok (.iaload, 1)) ∧ (decode cX8_note 45 = .ok (.iastore, 1)) ∧ (decode cX8_note 46 = .ok (.iinc 2 1, 3)) ∧ (decode cX8_note 49 = .ok (.goto (-23), 3)) := by decide +kernel
theorem dX8_note_39 : decode cX8_note 39 = .ok (.aload_n 0, 1) := db_X8_note_39.1
theorem dX8_note_40 : decode cX8_note 40 = .ok (.getfield 26, 3) := db_X8_note_39.2.1
theorem dX8_note_43 : decode cX8_note 43 = .ok (.iload_n 2, 1) := db_X8_note_39.2.2.1
theorem dX8_note_44 : decode cX8_note 44 = .ok (.iaload, 1) := db_X8_note_39.2.2.2.1
theorem dX8_note_45 : decode cX8_note 45 = .ok (.iastore, 1) := db_X8_note_39.2.2.2.2.1
theorem dX8_note_46 : decode cX8_note 46 = .ok (.iinc 2 1, 3) := db_X8_note_39.2.2.2.2.2.1
theorem dX8_note_49 : decode cX8_note 49 = .ok (.goto (-23), 3) := db_X8_note_39.2.2.2.2.2.2
set_option maxRecDepth 20000 in
theorem db_X8_makePlan_0 : (decode cX8_makePlan 0 = .ok (.aload_n 0, 1)) ∧ (decode cX8_makePlan 1 = .ok (.iconst 0, 1)) ∧ (decode cX8_makePlan 2 = .ok (.putfield 79, 3)) ∧ (decode cX8_makePlan 5 = .ok (.iconst 0, 1)) ∧ (decode cX8_makePlan 6 = .ok (.istore_n 1, 1)) ∧ (decode cX8_makePlan 7 = .ok (.iload_n 1, 1)) ∧ (decode cX8_makePlan 8 = .ok (.aload_n 0, 1)) ∧ (decode cX8_makePlan 9 = .ok (.getfield 7, 3)) := by decide +kernel
theorem dX8_makePlan_0 : decode cX8_makePlan 0 = .ok (.aload_n 0, 1) := db_X8_makePlan_0.1
theorem dX8_makePlan_1 : decode cX8_makePlan 1 = .ok (.iconst 0, 1) := db_X8_makePlan_0.2.1
theorem dX8_makePlan_2 : decode cX8_makePlan 2 = .ok (.putfield 79, 3) := db_X8_makePlan_0.2.2.1
theorem dX8_makePlan_5 : decode cX8_makePlan 5 = .ok (.iconst 0, 1) := db_X8_makePlan_0.2.2.2.1
theorem dX8_makePlan_6 : decode cX8_makePlan 6 = .ok (.istore_n 1, 1) := db_X8_makePlan_0.2.2.2.2.1
theorem dX8_makePlan_7 : decode cX8_makePlan 7 = .ok (.iload_n 1, 1) := db_X8_makePlan_0.2.2.2.2.2.1
theorem dX8_makePlan_8 : decode cX8_makePlan 8 = .ok (.aload_n 0, 1) := db_X8_makePlan_0.2.2.2.2.2.2.1
theorem dX8_makePlan_9 : decode cX8_makePlan 9 = .ok (.getfield 7, 3) := db_X8_makePlan_0.2.2.2.2.2.2.2
set_option maxRecDepth 20000 in
theorem db_X8_makePlan_12 : (decode cX8_makePlan 12 = .ok (.iconst 2, 1)) ∧ (decode cX8_makePlan 13 = .ok (.iaload, 1)) ∧ (decode cX8_makePlan 14 = .ok (.if_icmp .ge 50, 3)) ∧ (decode cX8_makePlan 64 = .ok (.aload_n 0, 1)) ∧ (decode cX8_makePlan 65 = .ok (.ldc 88, 2)) ∧ (decode cX8_makePlan 67 = .ok (.putfield 85, 3)) ∧ (decode cX8_makePlan 70 = .ok (.iconst 0, 1)) ∧ (decode cX8_makePlan 71 = .ok (.istore_n 1, 1)) := by decide +kernel
theorem dX8_makePlan_12 : decode cX8_makePlan 12 = .ok (.iconst 2, 1) := db_X8_makePlan_12.1
theorem dX8_makePlan_13 : decode cX8_makePlan 13 = .ok (.iaload, 1) := db_X8_makePlan_12.2.1
theorem dX8_makePlan_14 : decode cX8_makePlan 14 = .ok (.if_icmp .ge 50, 3) := db_X8_makePlan_12.2.2.1
theorem dX8_makePlan_64 : decode cX8_makePlan 64 = .ok (.aload_n 0, 1) := db_X8_makePlan_12.2.2.2.1
theorem dX8_makePlan_65 : decode cX8_makePlan 65 = .ok (.ldc 88, 2) := db_X8_makePlan_12.2.2.2.2.1
theorem dX8_makePlan_67 : decode cX8_makePlan 67 = .ok (.putfield 85, 3) := db_X8_makePlan_12.2.2.2.2.2.1
theorem dX8_makePlan_70 : decode cX8_makePlan 70 = .ok (.iconst 0, 1) := db_X8_makePlan_12.2.2.2.2.2.2.1
theorem dX8_makePlan_71 : decode cX8_makePlan 71 = .ok (.istore_n 1, 1) := db_X8_makePlan_12.2.2.2.2.2.2.2
set_option maxRecDepth 20000 in
theorem db_X8_makePlan_72 : (decode cX8_makePlan 72 = .ok (.aload_n 0, 1)) ∧ (decode cX8_makePlan 73 = .ok (.getfield 26, 3)) ∧ (decode cX8_makePlan 76 = .ok (.iconst 0, 1)) ∧ (decode cX8_makePlan 77 = .ok (.iconst 0, 1)) ∧ (decode cX8_makePlan 78 = .ok (.iastore, 1)) ∧ (decode cX8_makePlan 79 = .ok (.iload_n 1, 1)) ∧ (decode cX8_makePlan 80 = .ok (.ifCond .lt 131, 3)) ∧ (decode cX8_makePlan 211 = .ok (.return_, 1)) := by decide +kernel
theorem dX8_makePlan_72 : decode cX8_makePlan 72 = .ok (.aload_n 0, 1) := db_X8_makePlan_72.1
theorem dX8_makePlan_73 : decode cX8_makePlan 73 = .ok (.getfield 26, 3) := db_X8_makePlan_72.2.1
theorem dX8_makePlan_76 : decode cX8_makePlan 76 = .ok (.iconst 0, 1) := db_X8_makePlan_72.2.2.1
theorem dX8_makePlan_77 : decode cX8_makePlan 77 = .ok (.iconst 0, 1) := db_X8_makePlan_72.2.2.2.1
theorem dX8_makePlan_78 : decode cX8_makePlan 78 = .ok (.iastore, 1) := db_X8_makePlan_72.2.2.2.2.1
theorem dX8_makePlan_79 : decode cX8_makePlan 79 = .ok (.iload_n 1, 1) := db_X8_makePlan_72.2.2.2.2.2.1
theorem dX8_makePlan_80 : decode cX8_makePlan 80 = .ok (.ifCond .lt 131, 3) := db_X8_makePlan_72.2.2.2.2.2.2.1
theorem dX8_makePlan_211 : decode cX8_makePlan 211 = .ok (.return_, 1) := db_X8_makePlan_72.2.2.2.2.2.2.2
set_option maxRecDepth 20000 in
theorem db_X8_makePlan_83 : (decode cX8_makePlan 83 = .ok (.iload_n 1, 1)) ∧ (decode cX8_makePlan 84 = .ok (.aload_n 0, 1)) ∧ (decode cX8_makePlan 85 = .ok (.getfield 79, 3)) ∧ (decode cX8_makePlan 88 = .ok (.if_icmp .ne 31, 3)) ∧ (decode cX8_makePlan 119 = .ok (.aload_n 0, 1)) ∧ (decode cX8_makePlan 120 = .ok (.getfield 26, 3)) ∧ (decode cX8_makePlan 123 = .ok (.iload_n 1, 1)) ∧ (decode cX8_makePlan 124 = .ok (.iaload, 1)) := by decide +kernel
theorem dX8_makePlan_83 : decode cX8_makePlan 83 = .ok (.iload_n 1, 1) := db_X8_makePlan_83.1
theorem dX8_makePlan_84 : decode cX8_makePlan 84 = .ok (.aload_n 0, 1) := db_X8_makePlan_83.2.1
theorem dX8_makePlan_85 : decode cX8_makePlan 85 = .ok (.getfield 79, 3) := db_X8_makePlan_83.2.2.1
theorem dX8_makePlan_88 : decode cX8_makePlan 88 = .ok (.if_icmp .ne 31, 3) := db_X8_makePlan_83.2.2.2.1
theorem dX8_makePlan_119 : decode cX8_makePlan 119 = .ok (.aload_n 0, 1) := db_X8_makePlan_83.2.2.2.2.1
theorem dX8_makePlan_120 : decode cX8_makePlan 120 = .ok (.getfield 26, 3) := db_X8_makePlan_83.2.2.2.2.2.1
theorem dX8_makePlan_123 : decode cX8_makePlan 123 = .ok (.iload_n 1, 1) := db_X8_makePlan_83.2.2.2.2.2.2.1
theorem dX8_makePlan_124 : decode cX8_makePlan 124 = .ok (.iaload, 1) := db_X8_makePlan_83.2.2.2.2.2.2.2
set_option maxRecDepth 20000 in
theorem db_X8_makePlan_125 : (decode cX8_makePlan 125 = .ok (.bipush 18, 2)) ∧ (decode cX8_makePlan 127 = .ok (.if_icmp .gt 36, 3)) ∧ (decode cX8_makePlan 163 = .ok (.aload_n 0, 1)) ∧ (decode cX8_makePlan 164 = .ok (.getfield 26, 3)) ∧ (decode cX8_makePlan 167 = .ok (.iload_n 1, 1)) ∧ (decode cX8_makePlan 168 = .ok (.iaload, 1)) ∧ (decode cX8_makePlan 169 = .ok (.bipush 18, 2)) ∧ (decode cX8_makePlan 171 = .ok (.if_icmp .gt 16, 3)) := by decide +kernel
theorem dX8_makePlan_125 : decode cX8_makePlan 125 = .ok (.bipush 18, 2) := db_X8_makePlan_125.1
theorem dX8_makePlan_127 : decode cX8_makePlan 127 = .ok (.if_icmp .gt 36, 3) := db_X8_makePlan_125.2.1
theorem dX8_makePlan_163 : decode cX8_makePlan 163 = .ok (.aload_n 0, 1) := db_X8_makePlan_125.2.2.1
theorem dX8_makePlan_164 : decode cX8_makePlan 164 = .ok (.getfield 26, 3) := db_X8_makePlan_125.2.2.2.1
theorem dX8_makePlan_167 : decode cX8_makePlan 167 = .ok (.iload_n 1, 1) := db_X8_makePlan_125.2.2.2.2.1
theorem dX8_makePlan_168 : decode cX8_makePlan 168 = .ok (.iaload, 1) := db_X8_makePlan_125.2.2.2.2.2.1
theorem dX8_makePlan_169 : decode cX8_makePlan 169 = .ok (.bipush 18, 2) := db_X8_makePlan_125.2.2.2.2.2.2.1
theorem dX8_makePlan_171 : decode cX8_makePlan 171 = .ok (.if_icmp .gt 16, 3) := db_X8_makePlan_125.2.2.2.2.2.2.2
set_option maxRecDepth 20000 in
theorem db_X8_makePlan_187 : (decode cX8_makePlan 187 = .ok (.iinc 1 (-1), 3)) ∧ (decode cX8_makePlan 190 = .ok (.aload_n 0, 1)) ∧ (decode cX8_makePlan 191 = .ok (.getfield 26, 3)) ∧ (decode cX8_makePlan 194 = .ok (.iload_n 1, 1)) ∧ (decode cX8_makePlan 195 = .ok (.ifCond .ge 7, 3)) ∧ (decode cX8_makePlan 202 = .ok (.iload_n 1, 1)) ∧ (decode cX8_makePlan 203 = .ok (.dup2, 1)) ∧ (decode cX8_makePlan 204 = .ok (.iaload, 1)) := by decide +kernel
theorem dX8_makePlan_187 : decode cX8_makePlan 187 = .ok (.iinc 1 (-1), 3) := db_X8_makePlan_187.1
theorem dX8_makePlan_190 : decode cX8_makePlan 190 = .ok (.aload_n 0, 1) := db_X8_makePlan_187.2.1
theorem dX8_makePlan_191 : decode cX8_makePlan 191 = .ok (.getfield 26, 3) := db_X8_makePlan_187.2.2.1
theorem dX8_makePlan_194 : decode cX8_makePlan 194 = .ok (.iload_n 1, 1) := db_X8_makePlan_187.2.2.2.1
theorem dX8_makePlan_195 : decode cX8_makePlan 195 = .ok (.ifCond .ge 7, 3) := db_X8_makePlan_187.2.2.2.2.1
theorem dX8_makePlan_202 : decode cX8_makePlan 202 = .ok (.iload_n 1, 1) := db_X8_makePlan_187.2.2.2.2.2.1
theorem dX8_makePlan_203 : decode cX8_makePlan 203 = .ok (.dup2, 1) := db_X8_makePlan_187.2.2.2.2.2.2.1
theorem dX8_makePlan_204 : decode cX8_makePlan 204 = .ok (.iaload, 1) := db_X8_makePlan_187.2.2.2.2.2.2.2
set_option maxRecDepth 20000 in
theorem db_X8_makePlan_205 : (decode cX8_makePlan 205 = .ok (.iconst 1, 1)) ∧ (decode cX8_makePlan 206 = .ok (.iadd, 1)) ∧ (decode cX8_makePlan 207 = .ok (.iastore, 1)) ∧ (decode cX8_makePlan 208 = .ok (.goto (-129), 3)) ∧ (decode cX8_makePlan 198 = .ok (.iconst 0, 1)) ∧ (decode cX8_makePlan 199 = .ok (.goto 4, 3)) ∧ (decode cX8_makePlan 130 = .ok (.aload_n 0, 1)) ∧ (decode cX8_makePlan 131 = .ok (.iload_n 1, 1)) := by decide +kernel
theorem dX8_makePlan_205 : decode cX8_makePlan 205 = .ok (.iconst 1, 1) := db_X8_makePlan_205.1
theorem dX8_makePlan_206 : decode cX8_makePlan 206 = .ok (.iadd, 1) := db_X8_makePlan_205.2.1
theorem dX8_makePlan_207 : decode cX8_makePlan 207 = .ok (.iastore, 1) := db_X8_makePlan_205.2.2.1
theorem dX8_makePlan_208 : decode cX8_makePlan 208 = .ok (.goto (-129), 3) := db_X8_makePlan_205.2.2.2.1
theorem dX8_makePlan_198 : decode cX8_makePlan 198 = .ok (.iconst 0, 1) := db_X8_makePlan_205.2.2.2.2.1
theorem dX8_makePlan_199 : decode cX8_makePlan 199 = .ok (.goto 4, 3) := db_X8_makePlan_205.2.2.2.2.2.1
theorem dX8_makePlan_130 : decode cX8_makePlan 130 = .ok (.aload_n 0, 1) := db_X8_makePlan_205.2.2.2.2.2.2.1
theorem dX8_makePlan_131 : decode cX8_makePlan 131 = .ok (.iload_n 1, 1) := db_X8_makePlan_205.2.2.2.2.2.2.2
set_option maxRecDepth 20000 in
theorem ggX8_makePlan_X8_fits : GoodIn wsX8_makePlan wsX8_fits := goodIn_r _ [23, 6, 3, 24, 25, 26, 27, 9, 28, 29, 30, 31, 32, 33, 34, 35, 36, 37, 38, 2, 39, 40, 41, 42, 43, 44, 45, 7, 8, 10, 46, 47, 48, 49, 50, 51, 52, 53, 54, 55, 56, 57, 58, 59, 60] rfl (by decide +kernel)
set_option maxRecDepth 20000 in
theorem gX8_makePlan_X8_fits : GoodIn wsX8_makePlan (wsV RX8 92 RX8 yX8_fits wsX8_fits) := goodIn_app (goodIn_r _ [20, 21, 22, 9] rfl (by decide +kernel)) ggX8_makePlan_X8_fits
set_option maxRecDepth 20000 in
theorem db_X8_makePlan_132 : (decode cX8_makePlan 132 = .ok (.invokevirtual 92, 3)) ∧ (decode cX8_makePlan 135 = .ok (.ifCond .eq 15, 3)) ∧ (decode cX8_makePlan 150 = .ok (.aload_n 0, 1)) ∧ (decode cX8_makePlan 151 = .ok (.getfield 26, 3)) ∧ (decode cX8_makePlan 154 = .ok (.iload_n 1, 1)) ∧ (decode cX8_makePlan 155 = .ok (.dup2, 1)) ∧ (decode cX8_makePlan 156 = .ok (.iaload, 1)) ∧ (decode cX8_makePlan 157 = .ok (.iconst 1, 1)) := by decide +kernel
theorem dX8_makePlan_132 : decode cX8_makePlan 132 = .ok (.invokevirtual 92, 3) := db_X8_makePlan_132.1
theorem dX8_makePlan_135 : decode cX8_makePlan 135 = .ok (.ifCond .eq 15, 3) := db_X8_makePlan_132.2.1
theorem dX8_makePlan_150 : decode cX8_makePlan 150 = .ok (.aload_n 0, 1) := db_X8_makePlan_132.2.2.1
theorem dX8_makePlan_151 : decode cX8_makePlan 151 = .ok (.getfield 26, 3) := db_X8_makePlan_132.2.2.2.1
theorem dX8_makePlan_154 : decode cX8_makePlan 154 = .ok (.iload_n 1, 1) := db_X8_makePlan_132.2.2.2.2.1
theorem dX8_makePlan_155 : decode cX8_makePlan 155 = .ok (.dup2, 1) := db_X8_makePlan_132.2.2.2.2.2.1
theorem dX8_makePlan_156 : decode cX8_makePlan 156 = .ok (.iaload, 1) := db_X8_makePlan_132.2.2.2.2.2.2.1
theorem dX8_makePlan_157 : decode cX8_makePlan 157 = .ok (.iconst 1, 1) := db_X8_makePlan_132.2.2.2.2.2.2.2
set_option maxRecDepth 20000 in
theorem db_X8_makePlan_158 : (decode cX8_makePlan 158 = .ok (.iadd, 1)) ∧ (decode cX8_makePlan 159 = .ok (.iastore, 1)) ∧ (decode cX8_makePlan 160 = .ok (.goto (-41), 3)) ∧ (decode cX8_makePlan 138 = .ok (.aload_n 0, 1)) ∧ (decode cX8_makePlan 139 = .ok (.iload_n 1, 1)) ∧ (decode cX8_makePlan 140 = .ok (.invokevirtual 82, 3)) ∧ (decode cX8_makePlan 143 = .ok (.aload_n 0, 1)) ∧ (decode cX8_makePlan 144 = .ok (.getfield 85, 3)) := by decide +kernel
theorem dX8_makePlan_158 : decode cX8_makePlan 158 = .ok (.iadd, 1) := db_X8_makePlan_158.1
theorem dX8_makePlan_159 : decode cX8_makePlan 159 = .ok (.iastore, 1) := db_X8_makePlan_158.2.1
theorem dX8_makePlan_160 : decode cX8_makePlan 160 = .ok (.goto (-41), 3) := db_X8_makePlan_158.2.2.1
theorem dX8_makePlan_138 : decode cX8_makePlan 138 = .ok (.aload_n 0, 1) := db_X8_makePlan_158.2.2.2.1
theorem dX8_makePlan_139 : decode cX8_makePlan 139 = .ok (.iload_n 1, 1) := db_X8_makePlan_158.2.2.2.2.1
set_option maxRecDepth 20000 in
theorem ggX8_makePlan_X8_waitsOf : GoodIn wsX8_makePlan wsX8_waitsOf := goodIn_r _ [19, 2, 3, 6, 7, 8, 9, 10, 50, 51, 52, 53, 54, 55, 56, 57, 58, 59, 60] rfl (by decide +kernel)
set_option maxRecDepth 20000 in
theorem gX8_makePlan_X8_waitsOf : GoodIn wsX8_makePlan (wsV RX8 82 RX8 yX8_waitsOf wsX8_waitsOf) := goodIn_app (goodIn_r _ [16, 17, 18, 9] rfl (by decide +kernel)) ggX8_makePlan_X8_waitsOf
theorem dX8_makePlan_140 : decode cX8_makePlan 140 = .ok (.invokevirtual 82, 3) := db_X8_makePlan_158.2.2.2.2.2.1
theorem dX8_makePlan_143 : decode cX8_makePlan 143 = .ok (.aload_n 0, 1) := db_X8_makePlan_158.2.2.2.2.2.2.1
theorem dX8_makePlan_144 : decode cX8_makePlan 144 = .ok (.getfield 85, 3) := db_X8_makePlan_158.2.2.2.2.2.2.2
set_option maxRecDepth 20000 in
theorem db_X8_makePlan_147 : (decode cX8_makePlan 147 = .ok (.if_icmp .lt 16, 3)) ∧ (decode cX8_makePlan 174 = .ok (.iinc 1 1, 3)) ∧ (decode cX8_makePlan 177 = .ok (.aload_n 0, 1)) ∧ (decode cX8_makePlan 178 = .ok (.getfield 26, 3)) ∧ (decode cX8_makePlan 181 = .ok (.iload_n 1, 1)) ∧ (decode cX8_makePlan 182 = .ok (.iconst 0, 1)) ∧ (decode cX8_makePlan 183 = .ok (.iastore, 1)) ∧ (decode cX8_makePlan 184 = .ok (.goto (-105), 3)) := by decide +kernel
theorem dX8_makePlan_147 : decode cX8_makePlan 147 = .ok (.if_icmp .lt 16, 3) := db_X8_makePlan_147.1
theorem dX8_makePlan_174 : decode cX8_makePlan 174 = .ok (.iinc 1 1, 3) := db_X8_makePlan_147.2.1
theorem dX8_makePlan_177 : decode cX8_makePlan 177 = .ok (.aload_n 0, 1) := db_X8_makePlan_147.2.2.1
theorem dX8_makePlan_178 : decode cX8_makePlan 178 = .ok (.getfield 26, 3) := db_X8_makePlan_147.2.2.2.1
theorem dX8_makePlan_181 : decode cX8_makePlan 181 = .ok (.iload_n 1, 1) := db_X8_makePlan_147.2.2.2.2.1
theorem dX8_makePlan_182 : decode cX8_makePlan 182 = .ok (.iconst 0, 1) := db_X8_makePlan_147.2.2.2.2.2.1
theorem dX8_makePlan_183 : decode cX8_makePlan 183 = .ok (.iastore, 1) := db_X8_makePlan_147.2.2.2.2.2.2.1
theorem dX8_makePlan_184 : decode cX8_makePlan 184 = .ok (.goto (-105), 3) := db_X8_makePlan_147.2.2.2.2.2.2.2
set_option maxRecDepth 20000 in
theorem db_X8_makePlan_91 : (decode cX8_makePlan 91 = .ok (.aload_n 0, 1)) ∧ (decode cX8_makePlan 92 = .ok (.invokevirtual 89, 3)) ∧ (decode cX8_makePlan 95 = .ok (.iinc 1 (-1), 3)) ∧ (decode cX8_makePlan 98 = .ok (.aload_n 0, 1)) ∧ (decode cX8_makePlan 99 = .ok (.getfield 26, 3)) ∧ (decode cX8_makePlan 102 = .ok (.iload_n 1, 1)) ∧ (decode cX8_makePlan 103 = .ok (.ifCond .ge 7, 3)) ∧ (decode cX8_makePlan 110 = .ok (.iload_n 1, 1)) := by decide +kernel
theorem dX8_makePlan_91 : decode cX8_makePlan 91 = .ok (.aload_n 0, 1) := db_X8_makePlan_91.1
set_option maxRecDepth 20000 in
theorem ggX8_makePlan_X8_note : GoodIn wsX8_makePlan wsX8_note := goodIn_r _ [14, 1, 5, 15, 6, 16, 17, 18, 9, 19, 2, 3, 7, 8, 10, 50, 51, 52, 53, 54, 55, 56, 57, 58, 59, 60] rfl (by decide +kernel)
set_option maxRecDepth 20000 in
theorem gX8_makePlan_X8_note : GoodIn wsX8_makePlan (wsV RX8 89 RX8 yX8_note wsX8_note) := goodIn_app (goodIn_r _ [11, 12, 13, 9] rfl (by decide +kernel)) ggX8_makePlan_X8_note
theorem dX8_makePlan_92 : decode cX8_makePlan 92 = .ok (.invokevirtual 89, 3) := db_X8_makePlan_91.2.1
theorem dX8_makePlan_95 : decode cX8_makePlan 95 = .ok (.iinc 1 (-1), 3) := db_X8_makePlan_91.2.2.1
theorem dX8_makePlan_98 : decode cX8_makePlan 98 = .ok (.aload_n 0, 1) := db_X8_makePlan_91.2.2.2.1
theorem dX8_makePlan_99 : decode cX8_makePlan 99 = .ok (.getfield 26, 3) := db_X8_makePlan_91.2.2.2.2.1
theorem dX8_makePlan_102 : decode cX8_makePlan 102 = .ok (.iload_n 1, 1) := db_X8_makePlan_91.2.2.2.2.2.1
theorem dX8_makePlan_103 : decode cX8_makePlan 103 = .ok (.ifCond .ge 7, 3) := db_X8_makePlan_91.2.2.2.2.2.2.1
theorem dX8_makePlan_110 : decode cX8_makePlan 110 = .ok (.iload_n 1, 1) := db_X8_makePlan_91.2.2.2.2.2.2.2
set_option maxRecDepth 20000 in
theorem db_X8_makePlan_111 : (decode cX8_makePlan 111 = .ok (.dup2, 1)) ∧ (decode cX8_makePlan 112 = .ok (.iaload, 1)) ∧ (decode cX8_makePlan 113 = .ok (.iconst 1, 1)) ∧ (decode cX8_makePlan 114 = .ok (.iadd, 1)) ∧ (decode cX8_makePlan 115 = .ok (.iastore, 1)) ∧ (decode cX8_makePlan 116 = .ok (.goto (-37), 3)) ∧ (decode cX8_makePlan 106 = .ok (.iconst 0, 1)) ∧ (decode cX8_makePlan 107 = .ok (.goto 4, 3)) := by decide +kernel
theorem dX8_makePlan_111 : decode cX8_makePlan 111 = .ok (.dup2, 1) := db_X8_makePlan_111.1
theorem dX8_makePlan_112 : decode cX8_makePlan 112 = .ok (.iaload, 1) := db_X8_makePlan_111.2.1
theorem dX8_makePlan_113 : decode cX8_makePlan 113 = .ok (.iconst 1, 1) := db_X8_makePlan_111.2.2.1
theorem dX8_makePlan_114 : decode cX8_makePlan 114 = .ok (.iadd, 1) := db_X8_makePlan_111.2.2.2.1
theorem dX8_makePlan_115 : decode cX8_makePlan 115 = .ok (.iastore, 1) := db_X8_makePlan_111.2.2.2.2.1
theorem dX8_makePlan_116 : decode cX8_makePlan 116 = .ok (.goto (-37), 3) := db_X8_makePlan_111.2.2.2.2.2.1
theorem dX8_makePlan_106 : decode cX8_makePlan 106 = .ok (.iconst 0, 1) := db_X8_makePlan_111.2.2.2.2.2.2.1
theorem dX8_makePlan_107 : decode cX8_makePlan 107 = .ok (.goto 4, 3) := db_X8_makePlan_111.2.2.2.2.2.2.2
set_option maxRecDepth 20000 in
theorem db_X8_makePlan_17 : (decode cX8_makePlan 17 = .ok (.aload_n 0, 1)) ∧ (decode cX8_makePlan 18 = .ok (.getfield 7, 3)) ∧ (decode cX8_makePlan 21 = .ok (.iload_n 1, 1)) ∧ (decode cX8_makePlan 22 = .ok (.iconst 2, 1)) ∧ (decode cX8_makePlan 23 = .ok (.invokestatic 46, 3)) ∧ (decode cX8_makePlan 26 = .ok (.iaload, 1)) ∧ (decode cX8_makePlan 27 = .ok (.ifCond .ne 31, 3)) ∧ (decode cX8_makePlan 58 = .ok (.iinc 1 1, 3)) := by decide +kernel
theorem dX8_makePlan_17 : decode cX8_makePlan 17 = .ok (.aload_n 0, 1) := db_X8_makePlan_17.1
theorem dX8_makePlan_18 : decode cX8_makePlan 18 = .ok (.getfield 7, 3) := db_X8_makePlan_17.2.1
theorem dX8_makePlan_21 : decode cX8_makePlan 21 = .ok (.iload_n 1, 1) := db_X8_makePlan_17.2.2.1
theorem dX8_makePlan_22 : decode cX8_makePlan 22 = .ok (.iconst 2, 1) := db_X8_makePlan_17.2.2.2.1
set_option maxRecDepth 20000 in
theorem ggX8_makePlan_X8_at : GoodIn wsX8_makePlan wsX8_at := goodIn_r _ [10] rfl (by decide +kernel)
set_option maxRecDepth 20000 in
theorem gX8_makePlan_X8_at : GoodIn wsX8_makePlan (va_wsS RX8 46 yX8_at wsX8_at) := goodIn_app (goodIn_r _ [7, 8, 9] rfl (by decide +kernel)) ggX8_makePlan_X8_at
theorem dX8_makePlan_23 : decode cX8_makePlan 23 = .ok (.invokestatic 46, 3) := db_X8_makePlan_17.2.2.2.2.1
theorem dX8_makePlan_26 : decode cX8_makePlan 26 = .ok (.iaload, 1) := db_X8_makePlan_17.2.2.2.2.2.1
theorem dX8_makePlan_27 : decode cX8_makePlan 27 = .ok (.ifCond .ne 31, 3) := db_X8_makePlan_17.2.2.2.2.2.2.1
theorem dX8_makePlan_58 : decode cX8_makePlan 58 = .ok (.iinc 1 1, 3) := db_X8_makePlan_17.2.2.2.2.2.2.2
set_option maxRecDepth 20000 in
theorem db_X8_makePlan_61 : (decode cX8_makePlan 61 = .ok (.goto (-54), 3)) ∧ (decode cX8_makePlan 30 = .ok (.aload_n 0, 1)) ∧ (decode cX8_makePlan 31 = .ok (.getfield 79, 3)) ∧ (decode cX8_makePlan 34 = .ok (.iconst 4, 1)) ∧ (decode cX8_makePlan 35 = .ok (.if_icmp .ge 23, 3)) ∧ (decode cX8_makePlan 38 = .ok (.aload_n 0, 1)) ∧ (decode cX8_makePlan 39 = .ok (.getfield 23, 3)) ∧ (decode cX8_makePlan 42 = .ok (.aload_n 0, 1)) := by decide +kernel
theorem dX8_makePlan_61 : decode cX8_makePlan 61 = .ok (.goto (-54), 3) := db_X8_makePlan_61.1
theorem dX8_makePlan_30 : decode cX8_makePlan 30 = .ok (.aload_n 0, 1) := db_X8_makePlan_61.2.1
theorem dX8_makePlan_31 : decode cX8_makePlan 31 = .ok (.getfield 79, 3) := db_X8_makePlan_61.2.2.1
theorem dX8_makePlan_34 : decode cX8_makePlan 34 = .ok (.iconst 4, 1) := db_X8_makePlan_61.2.2.2.1
theorem dX8_makePlan_35 : decode cX8_makePlan 35 = .ok (.if_icmp .ge 23, 3) := db_X8_makePlan_61.2.2.2.2.1
theorem dX8_makePlan_38 : decode cX8_makePlan 38 = .ok (.aload_n 0, 1) := db_X8_makePlan_61.2.2.2.2.2.1
theorem dX8_makePlan_39 : decode cX8_makePlan 39 = .ok (.getfield 23, 3) := db_X8_makePlan_61.2.2.2.2.2.2.1
theorem dX8_makePlan_42 : decode cX8_makePlan 42 = .ok (.aload_n 0, 1) := db_X8_makePlan_61.2.2.2.2.2.2.2
set_option maxRecDepth 20000 in
theorem db_X8_makePlan_43 : (decode cX8_makePlan 43 = .ok (.getfield 79, 3)) ∧ (decode cX8_makePlan 46 = .ok (.iload_n 1, 1)) ∧ (decode cX8_makePlan 47 = .ok (.iastore, 1)) ∧ (decode cX8_makePlan 48 = .ok (.aload_n 0, 1)) ∧ (decode cX8_makePlan 49 = .ok (.dup, 1)) ∧ (decode cX8_makePlan 50 = .ok (.getfield 79, 3)) ∧ (decode cX8_makePlan 53 = .ok (.iconst 1, 1)) ∧ (decode cX8_makePlan 54 = .ok (.iadd, 1)) := by decide +kernel
theorem dX8_makePlan_43 : decode cX8_makePlan 43 = .ok (.getfield 79, 3) := db_X8_makePlan_43.1
theorem dX8_makePlan_46 : decode cX8_makePlan 46 = .ok (.iload_n 1, 1) := db_X8_makePlan_43.2.1
theorem dX8_makePlan_47 : decode cX8_makePlan 47 = .ok (.iastore, 1) := db_X8_makePlan_43.2.2.1
theorem dX8_makePlan_48 : decode cX8_makePlan 48 = .ok (.aload_n 0, 1) := db_X8_makePlan_43.2.2.2.1
theorem dX8_makePlan_49 : decode cX8_makePlan 49 = .ok (.dup, 1) := db_X8_makePlan_43.2.2.2.2.1
theorem dX8_makePlan_50 : decode cX8_makePlan 50 = .ok (.getfield 79, 3) := db_X8_makePlan_43.2.2.2.2.2.1
theorem dX8_makePlan_53 : decode cX8_makePlan 53 = .ok (.iconst 1, 1) := db_X8_makePlan_43.2.2.2.2.2.2.1
theorem dX8_makePlan_54 : decode cX8_makePlan 54 = .ok (.iadd, 1) := db_X8_makePlan_43.2.2.2.2.2.2.2
theorem dX8_makePlan_55 : decode cX8_makePlan 55 = .ok (.putfield 79, 3) := by decide +kernel
set_option maxRecDepth 20000 in
theorem db_X8_plan_0 : (decode cX8_plan 0 = .ok (.aload_n 0, 1)) ∧ (decode cX8_plan 1 = .ok (.iload_n 1, 1)) ∧ (decode cX8_plan 2 = .ok (.invokevirtual 50, 3)) ∧ (decode cX8_plan 5 = .ok (.ifCond .ne 5, 3)) ∧ (decode cX8_plan 10 = .ok (.aload_n 0, 1)) ∧ (decode cX8_plan 11 = .ok (.getfield 7, 3)) ∧ (decode cX8_plan 14 = .ok (.iload_n 1, 1)) ∧ (decode cX8_plan 15 = .ok (.iconst 2, 1)) := by decide +kernel
theorem dX8_plan_0 : decode cX8_plan 0 = .ok (.aload_n 0, 1) := db_X8_plan_0.1
theorem dX8_plan_1 : decode cX8_plan 1 = .ok (.iload_n 1, 1) := db_X8_plan_0.2.1
set_option maxRecDepth 20000 in
theorem ggX8_plan_X8_isCase : GoodIn wsX8_plan wsX8_isCase := goodIn_r _ [9, 1, 10, 11, 8, 12, 58, 59, 60, 61, 62, 63, 64, 65, 66, 67, 68] rfl (by decide +kernel)
set_option maxRecDepth 20000 in
theorem gX8_plan_X8_isCase : GoodIn wsX8_plan (wsV RX8 50 RX8 yX8_isCase wsX8_isCase) := goodIn_app (goodIn_r _ [5, 6, 7, 8] rfl (by decide +kernel)) ggX8_plan_X8_isCase
theorem dX8_plan_2 : decode cX8_plan 2 = .ok (.invokevirtual 50, 3) := db_X8_plan_0.2.2.1
theorem dX8_plan_5 : decode cX8_plan 5 = .ok (.ifCond .ne 5, 3) := db_X8_plan_0.2.2.2.1
theorem dX8_plan_10 : decode cX8_plan 10 = .ok (.aload_n 0, 1) := db_X8_plan_0.2.2.2.2.1
theorem dX8_plan_11 : decode cX8_plan 11 = .ok (.getfield 7, 3) := db_X8_plan_0.2.2.2.2.2.1
theorem dX8_plan_14 : decode cX8_plan 14 = .ok (.iload_n 1, 1) := db_X8_plan_0.2.2.2.2.2.2.1
theorem dX8_plan_15 : decode cX8_plan 15 = .ok (.iconst 2, 1) := db_X8_plan_0.2.2.2.2.2.2.2
set_option maxRecDepth 20000 in
theorem ggX8_plan_X8_at : GoodIn wsX8_plan wsX8_at := goodIn_r _ [15] rfl (by decide +kernel)
set_option maxRecDepth 20000 in
theorem gX8_plan_X8_at : GoodIn wsX8_plan (va_wsS RX8 46 yX8_at wsX8_at) := goodIn_app (goodIn_r _ [13, 14, 8] rfl (by decide +kernel)) ggX8_plan_X8_at
set_option maxRecDepth 20000 in
theorem db_X8_plan_16 : (decode cX8_plan 16 = .ok (.invokestatic 46, 3)) ∧ (decode cX8_plan 19 = .ok (.iaload, 1)) ∧ (decode cX8_plan 20 = .ok (.ifCond .eq 6, 3)) ∧ (decode cX8_plan 26 = .ok (.aload_n 0, 1)) ∧ (decode cX8_plan 27 = .ok (.invokevirtual 95, 3)) ∧ (decode cX8_plan 30 = .ok (.iconst 0, 1)) ∧ (decode cX8_plan 31 = .ok (.istore_n 2, 1)) ∧ (decode cX8_plan 32 = .ok (.iload_n 2, 1)) := by decide +kernel
theorem dX8_plan_16 : decode cX8_plan 16 = .ok (.invokestatic 46, 3) := db_X8_plan_16.1
theorem dX8_plan_19 : decode cX8_plan 19 = .ok (.iaload, 1) := db_X8_plan_16.2.1
theorem dX8_plan_20 : decode cX8_plan 20 = .ok (.ifCond .eq 6, 3) := db_X8_plan_16.2.2.1
theorem dX8_plan_26 : decode cX8_plan 26 = .ok (.aload_n 0, 1) := db_X8_plan_16.2.2.2.1
set_option maxRecDepth 20000 in
theorem ggX8_plan_X8_makePlan : GoodIn wsX8_plan wsX8_makePlan := goodIn_r _ [19, 2, 1, 3, 20, 21, 22, 13, 14, 8, 15, 23, 24, 25, 26, 4, 27, 28, 29, 30, 31, 32, 33, 34, 35, 36, 37, 38, 39, 10, 11, 12, 40, 41, 42, 43, 44, 45, 46, 47, 48, 49, 50, 51, 52, 53, 54, 55, 56, 57, 58, 59, 60, 61, 62, 63, 64, 65, 66, 67, 68] rfl (by decide +kernel)
set_option maxRecDepth 20000 in
theorem gX8_plan_X8_makePlan : GoodIn wsX8_plan (wsV RX8 95 RX8 yX8_makePlan wsX8_makePlan) := goodIn_app (goodIn_r _ [16, 17, 18, 8] rfl (by decide +kernel)) ggX8_plan_X8_makePlan
theorem dX8_plan_27 : decode cX8_plan 27 = .ok (.invokevirtual 95, 3) := db_X8_plan_16.2.2.2.2.1
theorem dX8_plan_30 : decode cX8_plan 30 = .ok (.iconst 0, 1) := db_X8_plan_16.2.2.2.2.2.1
theorem dX8_plan_31 : decode cX8_plan 31 = .ok (.istore_n 2, 1) := db_X8_plan_16.2.2.2.2.2.2.1
theorem dX8_plan_32 : decode cX8_plan 32 = .ok (.iload_n 2, 1) := db_X8_plan_16.2.2.2.2.2.2.2
set_option maxRecDepth 20000 in
theorem db_X8_plan_33 : (decode cX8_plan 33 = .ok (.aload_n 0, 1)) ∧ (decode cX8_plan 34 = .ok (.getfield 79, 3)) ∧ (decode cX8_plan 37 = .ok (.if_icmp .ge 37, 3)) ∧ (decode cX8_plan 74 = .ok (.bipush (-5), 2)) ∧ (decode cX8_plan 76 = .ok (.ireturn, 1)) ∧ (decode cX8_plan 40 = .ok (.aload_n 0, 1)) ∧ (decode cX8_plan 41 = .ok (.getfield 23, 3)) ∧ (decode cX8_plan 44 = .ok (.iload_n 2, 1)) := by decide +kernel
theorem dX8_plan_33 : decode cX8_plan 33 = .ok (.aload_n 0, 1) := db_X8_plan_33.1
theorem dX8_plan_34 : decode cX8_plan 34 = .ok (.getfield 79, 3) := db_X8_plan_33.2.1
theorem dX8_plan_37 : decode cX8_plan 37 = .ok (.if_icmp .ge 37, 3) := db_X8_plan_33.2.2.1
theorem dX8_plan_74 : decode cX8_plan 74 = .ok (.bipush (-5), 2) := db_X8_plan_33.2.2.2.1
theorem dX8_plan_76 : decode cX8_plan 76 = .ok (.ireturn, 1) := db_X8_plan_33.2.2.2.2.1
theorem dX8_plan_40 : decode cX8_plan 40 = .ok (.aload_n 0, 1) := db_X8_plan_33.2.2.2.2.2.1
theorem dX8_plan_41 : decode cX8_plan 41 = .ok (.getfield 23, 3) := db_X8_plan_33.2.2.2.2.2.2.1
theorem dX8_plan_44 : decode cX8_plan 44 = .ok (.iload_n 2, 1) := db_X8_plan_33.2.2.2.2.2.2.2
set_option maxRecDepth 20000 in
theorem db_X8_plan_45 : (decode cX8_plan 45 = .ok (.iaload, 1)) ∧ (decode cX8_plan 46 = .ok (.iload_n 1, 1)) ∧ (decode cX8_plan 47 = .ok (.if_icmp .ne 21, 3)) ∧ (decode cX8_plan 68 = .ok (.iinc 2 1, 3)) ∧ (decode cX8_plan 71 = .ok (.goto (-39), 3)) ∧ (decode cX8_plan 50 = .ok (.aload_n 0, 1)) ∧ (decode cX8_plan 51 = .ok (.getfield 29, 3)) ∧ (decode cX8_plan 54 = .ok (.iload_n 2, 1)) := by decide +kernel
theorem dX8_plan_45 : decode cX8_plan 45 = .ok (.iaload, 1) := db_X8_plan_45.1
theorem dX8_plan_46 : decode cX8_plan 46 = .ok (.iload_n 1, 1) := db_X8_plan_45.2.1
theorem dX8_plan_47 : decode cX8_plan 47 = .ok (.if_icmp .ne 21, 3) := db_X8_plan_45.2.2.1
theorem dX8_plan_68 : decode cX8_plan 68 = .ok (.iinc 2 1, 3) := db_X8_plan_45.2.2.2.1
theorem dX8_plan_71 : decode cX8_plan 71 = .ok (.goto (-39), 3) := db_X8_plan_45.2.2.2.2.1
theorem dX8_plan_50 : decode cX8_plan 50 = .ok (.aload_n 0, 1) := db_X8_plan_45.2.2.2.2.2.1
theorem dX8_plan_51 : decode cX8_plan 51 = .ok (.getfield 29, 3) := db_X8_plan_45.2.2.2.2.2.2.1
theorem dX8_plan_54 : decode cX8_plan 54 = .ok (.iload_n 2, 1) := db_X8_plan_45.2.2.2.2.2.2.2
set_option maxRecDepth 20000 in
theorem db_X8_plan_55 : (decode cX8_plan 55 = .ok (.iaload, 1)) ∧ (decode cX8_plan 56 = .ok (.bipush 18, 2)) ∧ (decode cX8_plan 58 = .ok (.if_icmp .eq 10, 3)) ∧ (decode cX8_plan 61 = .ok (.aload_n 0, 1)) ∧ (decode cX8_plan 62 = .ok (.getfield 29, 3)) ∧ (decode cX8_plan 65 = .ok (.iload_n 2, 1)) ∧ (decode cX8_plan 66 = .ok (.iaload, 1)) ∧ (decode cX8_plan 67 = .ok (.ireturn, 1)) := by decide +kernel
theorem dX8_plan_55 : decode cX8_plan 55 = .ok (.iaload, 1) := db_X8_plan_55.1
theorem dX8_plan_56 : decode cX8_plan 56 = .ok (.bipush 18, 2) := db_X8_plan_55.2.1
theorem dX8_plan_58 : decode cX8_plan 58 = .ok (.if_icmp .eq 10, 3) := db_X8_plan_55.2.2.1
theorem dX8_plan_61 : decode cX8_plan 61 = .ok (.aload_n 0, 1) := db_X8_plan_55.2.2.2.1
theorem dX8_plan_62 : decode cX8_plan 62 = .ok (.getfield 29, 3) := db_X8_plan_55.2.2.2.2.1
theorem dX8_plan_65 : decode cX8_plan 65 = .ok (.iload_n 2, 1) := db_X8_plan_55.2.2.2.2.2.1
theorem dX8_plan_66 : decode cX8_plan 66 = .ok (.iaload, 1) := db_X8_plan_55.2.2.2.2.2.2.1
theorem dX8_plan_67 : decode cX8_plan 67 = .ok (.ireturn, 1) := db_X8_plan_55.2.2.2.2.2.2.2
set_option maxRecDepth 20000 in
theorem db_X8_plan_23 : (decode cX8_plan 23 = .ok (.bipush (-4), 2)) ∧ (decode cX8_plan 25 = .ok (.ireturn, 1)) ∧ (decode cX8_plan 8 = .ok (.iconst (-1), 1)) ∧ (decode cX8_plan 9 = .ok (.ireturn, 1)) := by decide +kernel
theorem dX8_plan_23 : decode cX8_plan 23 = .ok (.bipush (-4), 2) := db_X8_plan_23.1
theorem dX8_plan_25 : decode cX8_plan 25 = .ok (.ireturn, 1) := db_X8_plan_23.2.1
theorem dX8_plan_8 : decode cX8_plan 8 = .ok (.iconst (-1), 1) := db_X8_plan_23.2.2.1
theorem dX8_plan_9 : decode cX8_plan 9 = .ok (.ireturn, 1) := db_X8_plan_23.2.2.2
set_option maxRecDepth 20000 in
theorem db_X8_waits_0 : (decode cX8_waits 0 = .ok (.aload_n 0, 1)) ∧ (decode cX8_waits 1 = .ok (.invokevirtual 95, 3)) ∧ (decode cX8_waits 4 = .ok (.aload_n 0, 1)) ∧ (decode cX8_waits 5 = .ok (.getfield 85, 3)) ∧ (decode cX8_waits 8 = .ok (.ireturn, 1)) := by decide +kernel
theorem dX8_waits_0 : decode cX8_waits 0 = .ok (.aload_n 0, 1) := db_X8_waits_0.1
set_option maxRecDepth 20000 in
theorem ggX8_waits_X8_makePlan : GoodIn wsX8_waits wsX8_makePlan := goodIn_r _ [6, 7, 8, 9, 10, 1, 11, 12, 13, 5, 14, 15, 16, 17, 18, 19, 20, 21, 22, 23, 24, 25, 26, 27, 28, 29, 30, 31, 32, 33, 34, 35, 36, 37, 38, 39, 40, 41, 42, 43, 44, 45, 46, 47, 48, 49, 50, 51, 52, 53, 54, 55, 56, 57, 58, 59, 60, 61, 62, 63, 64] rfl (by decide +kernel)
set_option maxRecDepth 20000 in
theorem gX8_waits_X8_makePlan : GoodIn wsX8_waits (wsV RX8 95 RX8 yX8_makePlan wsX8_makePlan) := goodIn_app (goodIn_r _ [2, 3, 4, 5] rfl (by decide +kernel)) ggX8_waits_X8_makePlan
theorem dX8_waits_1 : decode cX8_waits 1 = .ok (.invokevirtual 95, 3) := db_X8_waits_0.2.1
theorem dX8_waits_4 : decode cX8_waits 4 = .ok (.aload_n 0, 1) := db_X8_waits_0.2.2.1
theorem dX8_waits_5 : decode cX8_waits 5 = .ok (.getfield 85, 3) := db_X8_waits_0.2.2.2.1
theorem dX8_waits_8 : decode cX8_waits 8 = .ok (.ireturn, 1) := db_X8_waits_0.2.2.2.2
set_option maxHeartbeats 4000000 in
set_option maxRecDepth 100000 in
theorem q_X8_note (l : Launch) (dC : Nat → ClassId) (dI : Nat → Nat → Nat) (cy : Nat → ClassId) (sz : Nat) (ad : Nat → Nat) (v : Nat → Nat → Int32) (hv : Ir v)  : Met l yX8_note wsX8_note ({ frames := 2, cells := 0, slots := 0, locals := 128 }) (va_Pc [.ref (ad 0)] (ex_Pre dC dI cy sz (wm ad cy v))) (va_Qv (fun (u : Nat → Nat → Int32) => Ir u ∧ Fq v u ∧ u 5 = v 5 ∧ u 4 = v 4 ∧ u 0 5 = v 0 5) (fun u t => ex_Pst dC dI (va_A (wm ad cy v) sz) (wm ad cy u) t) (va_A (wm ad cy v) sz)) 0 0 (va_A (wm ad cy v) sz) := by
  refine Met.ofW (cc := cX8_note) (maxL := 3) (ret := none) (by decide) rfl ?_
  intro p e s m args below meth c s₁ B hml hv
  obtain ⟨rfl, hsz, hE, hP, hK, hD0⟩ := hv
  have hx := B.exec
  have hb := B.bytes
  have hr := B.returns
  have hts := atoms_spec (ws := wsX8_note) B.pre
  have hown : s.vm.findClass RX8 = some m.cls := findClass_of_methodNamed B.named
  have hlocks := B.notSynchronized
  subst hsz
  have hD := hD0.self (sz := s.heap.size)
  generalize hAe : va_A (wm ad cy v) s.heap.size = A at hD ⊢
  have hA : ∀ q : Nat, s.heap.size ≤ q → A q := fun q h => by rw [← hAe]; exact Or.inr h
  have hS : va_S A s.heap s.heap [] := va_S.rf
  have hP : va_P (dC, dI) vwCl (wm ad cy v) s.heap := hP
  have hl := lv_entry ([.ref (ad 0)]) (n := 3) (Nat.le_of_ble_eq_true rfl)
  rw [lg_entry_eq]
  generalize (lg_sl ([.ref (ad 0)]) ++ List.replicate (3 - (lg_sl ([.ref (ad 0)])).length) Slot.unset).toArray = ls at hl ⊢
  have hl : lv_has ls 3 [(0, .ref (ad 0))] := hl
  have hfr : Fq v v := Fq.rf
  refine lv_aload_n hx hb dX8_note_0 rfl (lv_at hl 0 rfl) ?_
  refine lv_aload_n hx hb dX8_note_1 rfl (lv_at hl 0 rfl) ?_
  refine va_get (D := (dC, dI)) (ci := 8) (v := .int (v 0 5)) (C := RX8) (T := TX8) (N := 11) hx hb hts iwX8_note_X8 hown hK hP (0) (wm_at (by decide) rc_0) rfl 5 (by decide) (hts (.fieldLink RX8 79 "QuietStairsModel" "many" "I") fwX8_note_1) (fun _ h9 => h9) rfl dX8_note_2 ?_
  refine lv_topi (fun x_1 ex_1 => ?_)
  have bzx_1 : 0 ≤ x_1.toInt ∧ x_1.toInt ≤ 4 := by rw [ex_1]; exact hv 0 5 4 (by decide)
  refine lv_iconst (v := 1) hx hb dX8_note_5 (by decide) ?_
  refine lv_isub hx hb dX8_note_6 ?_
  refine lv_topi (fun x_2 ex_2 => ?_)
  have k_1 : (1 : Int32).toInt = 1 := by decide
  have tx_2 : x_2.toInt = x_1.toInt - (1 : Int32).toInt := by rw [ex_2]; exact t_sub ⟨by omega, by omega⟩
  refine yw_i (w1 := fun (u : Nat → Nat → Int32) => wm ad cy u) hD hS hA (va_runV (As := [.int x_2]) (rest := []) ⟨hx, hb, hml, hown, hts⟩ (q_X8_waitsOf l dC dI cy _ ad v hv x_2 ⟨by omega, by omega⟩) (cwV 1 hts gX8_note_X8_waitsOf rfl rfl rfl hd_V_X8_waitsOf_1 ⟨Nat.le_of_ble_eq_true rfl, Nat.le_of_ble_eq_true rfl⟩) (yw_preV hE hK hP hD (ci := 8) (q := (RX8, TX8, 11)) (q0 := 0) rfl (wm_at (by decide) rc_0)) rfl rfl hl.1 rfl (lv_room (Nat.le_of_ble_eq_true rfl)) dX8_note_7 ⟨Nat.le_of_ble_eq_true rfl, Nat.le_of_ble_eq_true rfl⟩) (fun r_3 v_3 H locs hw_3 hP hD hS => ?_)
  obtain ⟨-, hw_3⟩ := hw_3
  replace hw_3 := hw_3.symm
  subst hw_3
  refine lv_istore_n (lv' := [(1, .int r_3), (0, .ref (ad 0))]) hx hb dX8_note_10 rfl hl (by decide) rfl (fun ls hl => ?_)
  refine lv_iload_n hx hb dX8_note_11 rfl (lv_at hl 0 rfl) ?_
  refine lv_aload_n hx hb dX8_note_12 rfl (lv_at hl 1 rfl) ?_
  refine va_get (D := (dC, dI)) (ci := 8) (v := .int (v 0 9)) (C := RX8) (T := TX8) (N := 11) hx hb hts iwX8_note_X8 hown hK hP (0) (wm_at (by decide) rc_0) rfl 9 (by decide) (hts (.fieldLink RX8 85 "QuietStairsModel" "least" "I") fwX8_note_2) (fun _ h9 => h9) rfl dX8_note_13 ?_
  refine lv_topi (fun x_4 ex_4 => ?_)
  refine lv_icmp_ge (tgt := 52) hx hb dX8_note_16 (by decide) (fun c_5 => ?_) (fun c_5 => ?_)
  · have tc_5 : r_3.toInt ≥ x_4.toInt := Int32.le_iff_toInt_le.mp c_5
    exact W.vret hx hb hr (fun t ht hW => ⟨⟨v, rfl, ⟨hv, hfr, rfl, rfl, rfl⟩, by rw [ht]; exact hP, hD⟩, hS.F ht⟩) hS.2.2 dX8_note_52
  · have tc_5 : r_3.toInt < x_4.toInt := Int32.lt_iff_toInt_lt.mp (Int32.not_le.mp c_5)
    refine lv_aload_n hx hb dX8_note_19 rfl (lv_at hl 1 rfl) ?_
    refine lv_iload_n hx hb dX8_note_20 rfl (lv_at hl 0 rfl) ?_
    refine va_put (D := (dC, dI)) (ci := 8) (v := .int r_3) (ty := .int) (C := RX8) (T := TX8) (N := 11) hx hb hts iwX8_note_X8 tyX8 tyX8_ok nmX8 hown hK hP hD hS (0) (wm_at (by decide) rc_0) rfl 9 (by decide) (hts (.fieldLink RX8 85 "QuietStairsModel" "least" "I") fwX8_note_2) (fun _ h9 => h9) rfl (by decide +kernel) rfl rfl (Nat.le_of_ble_eq_true rfl) dX8_note_21 (fun H locs hP hD hS => ?_)
    obtain ⟨v_6, ev_6⟩ : ∃ u : Nat → Nat → Int32, u = upr v 0 (upd (v 0) 9 r_3) := ⟨_, rfl⟩
    have hP : va_P (dC, dI) vwCl (wm ad cy v_6) H := by rw [ev_6, ← wm_put (e := _) rc_0]; exact hP
    have hD : va_D A (wm ad cy v_6) := by rw [ev_6, ← wm_put (e := _) rc_0]; exact hD
    have hv : Ir v_6 := by rw [ev_6]; exact hv.put (k := 0) (fun h q => by rw [show br 0 9 = none from by decide] at q; cases q)
    have hfr : Fq v v_6 := by rw [ev_6]; exact hfr.fld (by decide)
    refine lv_iconst (v := 0) hx hb dX8_note_24 (by decide) ?_
    refine lv_istore_n (lv' := [(2, .int 0), (1, .int r_3), (0, .ref (ad 0))]) hx hb dX8_note_25 rfl hl (by decide) rfl (fun ls hl => ?_)
    have hc_7 : ∀ (n : Nat) (y7_2 : Int32) (u7 : Nat → Nat → Int32) (H : Heap) (locs : List Loc), 0 ≤ y7_2.toInt → y7_2.toInt ≤ 4 → (u7 5 = v_6 5) → (u7 4 = v_6 4) → (u7 0 5 = v_6 0 5) → (4 - y7_2.toInt).toNat < n → Ir u7 → Fq v u7 → va_P (dC, dI) vwCl (wm ad cy u7) H → va_D A (wm ad cy u7) → va_S A s.heap H locs → ∀ ls : Array Slot, lv_has ls 3 [(2, .int y7_2), (1, .int r_3), (0, .ref (ad 0))] → W p l e (headSpec wsX8_note ({ frames := 2, cells := 0, slots := 0, locals := 128 })).room s m [Value.ref (ad 0)].toArray below meth c H locs 0 0 (MQ below (va_Qv (fun (u : Nat → Nat → Int32) => Ir u ∧ Fq v u ∧ u 5 = v 5 ∧ u 4 = v 4 ∧ u 0 5 = v 0 5) (fun u t => ex_Pst dC dI A (wm ad cy u) t) A) [Value.ref (ad 0)].toArray s 0 0 A) (F0 m 26 ls []) := by
      intro n
      induction n with
      | zero =>
        intro y7_2 u7 H locs ay7_2 by7_2 hi7_0 hi7_1 hi7_2 hm_7 hv hfr hP hD hS ls hl
        exact absurd hm_7 (by omega)
      | succ n ih_7 =>
        intro y7_2 u7 H locs ay7_2 by7_2 hi7_0 hi7_1 hi7_2 hm_7 hv hfr hP hD hS ls hl
        refine lv_iload_n hx hb dX8_note_26 rfl (lv_at hl 0 rfl) ?_
        refine lv_aload_n hx hb dX8_note_27 rfl (lv_at hl 2 rfl) ?_
        refine va_get (D := (dC, dI)) (ci := 8) (v := .int (u7 0 5)) (C := RX8) (T := TX8) (N := 11) hx hb hts iwX8_note_X8 hown hK hP (0) (wm_at (by decide) rc_0) rfl 5 (by decide) (hts (.fieldLink RX8 79 "QuietStairsModel" "many" "I") fwX8_note_1) (fun _ h9 => h9) rfl dX8_note_28 ?_
        refine lv_topi (fun x_8 ex_8 => ?_)
        rw [hi7_2, ev_6, upr_s, pk_un (by decide)] at ex_8
        obtain rfl : x_1 = x_8 := (ex_8.trans ex_1.symm).symm
        refine lv_icmp_ge (tgt := 52) hx hb dX8_note_31 (by decide) (fun c_9 => ?_) (fun c_9 => ?_)
        · have tc_9 : y7_2.toInt ≥ x_1.toInt := Int32.le_iff_toInt_le.mp c_9
          exact W.vret hx hb hr (fun t ht hW => ⟨⟨u7, rfl, ⟨hv, hfr, by rw [hi7_0, ev_6, upr_n (by decide)], by rw [hi7_1, ev_6, upr_n (by decide)], by rw [hi7_2, ev_6, upr_s, pk_un (by decide)]⟩, by rw [ht]; exact hP, hD⟩, hS.F ht⟩) hS.2.2 dX8_note_52
        · have tc_9 : y7_2.toInt < x_1.toInt := Int32.lt_iff_toInt_lt.mp (Int32.not_le.mp c_9)
          refine lv_aload_n hx hb dX8_note_34 rfl (lv_at hl 2 rfl) ?_
          refine va_get (D := (dC, dI)) (ci := 8) (v := .ref (ad 6)) (C := RX8) (T := TX8) (N := 11) hx hb hts iwX8_note_X8 hown hK hP (0) (wm_at (by decide) rc_0) rfl 8 (by decide) (hts (.fieldLink RX8 29 "QuietStairsModel" "best" "[I") fwX8_note_3) (fun _ h9 => h9) rfl dX8_note_35 ?_
          refine lv_iload_n hx hb dX8_note_38 rfl (lv_at hl 0 rfl) ?_
          refine lv_aload_n hx hb dX8_note_39 rfl (lv_at hl 2 rfl) ?_
          refine va_get (D := (dC, dI)) (ci := 8) (v := .ref (ad 5)) (C := RX8) (T := TX8) (N := 11) hx hb hts iwX8_note_X8 hown hK hP (0) (wm_at (by decide) rc_0) rfl 7 (by decide) (hts (.fieldLink RX8 26 "QuietStairsModel" "tried" "[I") fwX8_note_4) (fun _ h9 => h9) rfl dX8_note_40 ?_
          refine lv_iload_n hx hb dX8_note_43 rfl (lv_at hl 0 rfl) ?_
          refine va_iald hx hb hK hP (5) 0 (wm_at (by decide) rc_5) rfl (vp_in_iff.mpr ⟨by omega, by omega⟩) dX8_note_44 ?_
          refine lv_topi (fun x_10 ex_10 => ?_)
          refine va_iast hx hb hK hP hD hS (6) 0 (wm_at (by decide) rc_6) rfl (vp_in_iff.mpr ⟨by omega, by omega⟩) dX8_note_45 (fun H locs hP hD hS => ?_)
          obtain ⟨v_11, ev_11⟩ : ∃ u : Nat → Nat → Int32, u = upr u7 6 (upd (u7 6) (y7_2.toNatClampNeg) x_10) := ⟨_, rfl⟩
          have hP : va_P (dC, dI) vwCl (wm ad cy v_11) H := by rw [ev_11, ← wm_put (e := _) rc_6]; exact hP
          have hD : va_D A (wm ad cy v_11) := by rw [ev_11, ← wm_put (e := _) rc_6]; exact hD
          have hv : Ir v_11 := by rw [ev_11]; exact hv.put (k := 6) (fun h q => by rw [(show br 6 _ = none from rfl)] at q; cases q)
          have hfr : Fq v v_11 := by rw [ev_11]; exact hfr.row (by decide)
          obtain ⟨x_12, ex_12⟩ : ∃ y : Int32, y = y7_2 + 1 := ⟨_, rfl⟩
          refine lv_iinc (v := x_12) (lv' := [(2, .int x_12), (1, .int r_3), (0, .ref (ad 0))]) hx hb dX8_note_46 hl (k := 0) rfl (by rw [ex_12]; rfl) (by decide) rfl (fun ls hl => ?_)
          have tx_12 : x_12.toInt = y7_2.toInt + (1 : Int32).toInt := by rw [ex_12]; exact t_add ⟨by omega, by omega⟩
          refine lv_goto (tgt := 26) hx hb dX8_note_49 (by decide) ?_
          exact ih_7 x_12 v_11 _ _ (by omega) (by omega) (by rw [ev_11, upr_n (by decide)]; exact hi7_0) (by rw [ev_11, upr_n (by decide)]; exact hi7_1) (by rw [ev_11, upr_n (by decide)]; exact hi7_2) (by omega) hv hfr hP hD hS ls (lv_sub hl [0, 1, 2] rfl)
    have k_0 : (0 : Int32).toInt = 0 := by decide
    exact hc_7 ((4 - (0 : Int32).toInt).toNat + 1) 0 v_6 _ _ (by omega) (by omega) (rfl) (rfl) (rfl) (by omega) hv hfr hP hD hS ls (lv_sub hl [0, 1, 2] rfl)

set_option maxHeartbeats 4000000 in
set_option maxRecDepth 100000 in
theorem q_X8_makePlan (l : Launch) (dC : Nat → ClassId) (dI : Nat → Nat → Nat) (cy : Nat → ClassId) (sz : Nat) (ad : Nat → Nat) (v : Nat → Nat → Int32) (hv : Ir v)  : Met l yX8_makePlan wsX8_makePlan ({ frames := 4, cells := 0, slots := 0, locals := 256 }) (va_Pc [.ref (ad 0)] (ex_Pre dC dI cy sz (wm ad cy v))) (va_Qv (fun (u : Nat → Nat → Int32) => Ir u ∧ Fq v u) (fun u t => ex_Pst dC dI (va_A (wm ad cy v) sz) (wm ad cy u) t) (va_A (wm ad cy v) sz)) 0 0 (va_A (wm ad cy v) sz) := by
  refine Met.ofW (cc := cX8_makePlan) (maxL := 2) (ret := none) (by decide) rfl ?_
  intro p e s m args below meth c s₁ B hml hv
  obtain ⟨rfl, hsz, hE, hP, hK, hD0⟩ := hv
  have hx := B.exec
  have hb := B.bytes
  have hr := B.returns
  have hts := atoms_spec (ws := wsX8_makePlan) B.pre
  have hown : s.vm.findClass RX8 = some m.cls := findClass_of_methodNamed B.named
  have hlocks := B.notSynchronized
  subst hsz
  have hD := hD0.self (sz := s.heap.size)
  generalize hAe : va_A (wm ad cy v) s.heap.size = A at hD ⊢
  have hA : ∀ q : Nat, s.heap.size ≤ q → A q := fun q h => by rw [← hAe]; exact Or.inr h
  have hS : va_S A s.heap s.heap [] := va_S.rf
  have hP : va_P (dC, dI) vwCl (wm ad cy v) s.heap := hP
  have hl := lv_entry ([.ref (ad 0)]) (n := 2) (Nat.le_of_ble_eq_true rfl)
  rw [lg_entry_eq]
  generalize (lg_sl ([.ref (ad 0)]) ++ List.replicate (2 - (lg_sl ([.ref (ad 0)])).length) Slot.unset).toArray = ls at hl ⊢
  have hl : lv_has ls 2 [(0, .ref (ad 0))] := hl
  have hfr : Fq v v := Fq.rf
  refine lv_aload_n hx hb dX8_makePlan_0 rfl (lv_at hl 0 rfl) ?_
  refine lv_iconst (v := 0) hx hb dX8_makePlan_1 (by decide) ?_
  refine va_put (D := (dC, dI)) (ci := 8) (v := .int 0) (ty := .int) (C := RX8) (T := TX8) (N := 11) hx hb hts iwX8_makePlan_X8 tyX8 tyX8_ok nmX8 hown hK hP hD hS (0) (wm_at (by decide) rc_0) rfl 5 (by decide) (hts (.fieldLink RX8 79 "QuietStairsModel" "many" "I") fwX8_makePlan_1) (fun _ h9 => h9) rfl (by decide +kernel) rfl rfl (Nat.le_of_ble_eq_true rfl) dX8_makePlan_2 (fun H locs hP hD hS => ?_)
  have k_0 : (0 : Int32).toInt = 0 := by decide
  obtain ⟨v_1, ev_1⟩ : ∃ u : Nat → Nat → Int32, u = upr v 0 (upd (v 0) 5 0) := ⟨_, rfl⟩
  have hP : va_P (dC, dI) vwCl (wm ad cy v_1) H := by rw [ev_1, ← wm_put (e := _) rc_0]; exact hP
  have hD : va_D A (wm ad cy v_1) := by rw [ev_1, ← wm_put (e := _) rc_0]; exact hD
  have hv : Ir v_1 := by rw [ev_1]; exact hv.put (k := 0) (fun h q => by rw [show br 0 5 = some 4 from by decide] at q; cases q; exact ⟨by omega, by omega⟩)
  have hfr : Fq v v_1 := by rw [ev_1]; exact hfr.fld (by decide)
  refine lv_iconst (v := 0) hx hb dX8_makePlan_5 (by decide) ?_
  refine lv_istore_n (lv' := [(1, .int 0), (0, .ref (ad 0))]) hx hb dX8_makePlan_6 rfl hl (by decide) rfl (fun ls hl => ?_)
  have hc_2 : ∀ (n : Nat) (y2_1 : Int32) (u2 : Nat → Nat → Int32) (H : Heap) (locs : List Loc), 0 ≤ y2_1.toInt → y2_1.toInt ≤ 6 → (6 - y2_1.toInt).toNat < n → Ir u2 → Fq v u2 → va_P (dC, dI) vwCl (wm ad cy u2) H → va_D A (wm ad cy u2) → va_S A s.heap H locs → ∀ ls : Array Slot, lv_has ls 2 [(1, .int y2_1), (0, .ref (ad 0))] → W p l e (headSpec wsX8_makePlan ({ frames := 4, cells := 0, slots := 0, locals := 256 })).room s m [Value.ref (ad 0)].toArray below meth c H locs 0 0 (MQ below (va_Qv (fun (u : Nat → Nat → Int32) => Ir u ∧ Fq v u) (fun u t => ex_Pst dC dI A (wm ad cy u) t) A) [Value.ref (ad 0)].toArray s 0 0 A) (F0 m 7 ls []) := by
    intro n
    induction n with
    | zero =>
      intro y2_1 u2 H locs ay2_1 by2_1 hm_2 hv hfr hP hD hS ls hl
      exact absurd hm_2 (by omega)
    | succ n ih_2 =>
      intro y2_1 u2 H locs ay2_1 by2_1 hm_2 hv hfr hP hD hS ls hl
      refine lv_iload_n hx hb dX8_makePlan_7 rfl (lv_at hl 0 rfl) ?_
      refine lv_aload_n hx hb dX8_makePlan_8 rfl (lv_at hl 1 rfl) ?_
      refine va_get (D := (dC, dI)) (ci := 8) (v := .ref (ad 1)) (C := RX8) (T := TX8) (N := 11) hx hb hts iwX8_makePlan_X8 hown hK hP (0) (wm_at (by decide) rc_0) rfl 0 (by decide) (hts (.fieldLink RX8 7 "QuietStairsModel" "s" "[I") fwX8_makePlan_2) (fun _ h9 => h9) rfl dX8_makePlan_9 ?_
      refine lv_iconst (v := 2) hx hb dX8_makePlan_12 (by decide) ?_
      have k_2 : (2 : Int32).toInt = 2 := by decide
      refine va_iald hx hb hK hP (1) 0 (wm_at (by decide) rc_1) rfl (by unfold vp_in; decide) dX8_makePlan_13 ?_
      refine lv_topi (fun x_3 ex_3 => ?_)
      have ex_3 : x_3 = u2 1 2 := ex_3
      have bzx_3 : 0 ≤ x_3.toInt ∧ x_3.toInt ≤ 6 := by rw [ex_3]; exact hv 1 _ 6 (show bS 2 = some 6 from by decide)
      refine lv_icmp_ge (tgt := 64) hx hb dX8_makePlan_14 (by decide) (fun c_4 => ?_) (fun c_4 => ?_)
      · have tc_4 : y2_1.toInt ≥ x_3.toInt := Int32.le_iff_toInt_le.mp c_4
        refine lv_aload_n hx hb dX8_makePlan_64 rfl (lv_at hl 1 rfl) ?_
        refine lv_ldc hx hb hown (hts (.constant RX8 88 (1000000)) fwX8_makePlan_4) dX8_makePlan_65 ?_
        refine va_put (D := (dC, dI)) (ci := 8) (v := .int (1000000)) (ty := .int) (C := RX8) (T := TX8) (N := 11) hx hb hts iwX8_makePlan_X8 tyX8 tyX8_ok nmX8 hown hK hP hD hS (0) (wm_at (by decide) rc_0) rfl 9 (by decide) (hts (.fieldLink RX8 85 "QuietStairsModel" "least" "I") fwX8_makePlan_5) (fun _ h9 => h9) rfl (by decide +kernel) rfl rfl (Nat.le_of_ble_eq_true rfl) dX8_makePlan_67 (fun H locs hP hD hS => ?_)
        have k_1000000 : ((1000000) : Int32).toInt = 1000000 := by decide
        obtain ⟨v_5, ev_5⟩ : ∃ u : Nat → Nat → Int32, u = upr u2 0 (upd (u2 0) 9 (1000000)) := ⟨_, rfl⟩
        have hP : va_P (dC, dI) vwCl (wm ad cy v_5) H := by rw [ev_5, ← wm_put (e := _) rc_0]; exact hP
        have hD : va_D A (wm ad cy v_5) := by rw [ev_5, ← wm_put (e := _) rc_0]; exact hD
        have hv : Ir v_5 := by rw [ev_5]; exact hv.put (k := 0) (fun h q => by rw [show br 0 9 = none from by decide] at q; cases q)
        have hfr : Fq v v_5 := by rw [ev_5]; exact hfr.fld (by decide)
        refine lv_iconst (v := 0) hx hb dX8_makePlan_70 (by decide) ?_
        refine lv_istore_n (lv' := [(1, .int 0), (0, .ref (ad 0))]) hx hb dX8_makePlan_71 rfl hl (by decide) rfl (fun ls hl => ?_)
        refine lv_aload_n hx hb dX8_makePlan_72 rfl (lv_at hl 1 rfl) ?_
        refine va_get (D := (dC, dI)) (ci := 8) (v := .ref (ad 5)) (C := RX8) (T := TX8) (N := 11) hx hb hts iwX8_makePlan_X8 hown hK hP (0) (wm_at (by decide) rc_0) rfl 7 (by decide) (hts (.fieldLink RX8 26 "QuietStairsModel" "tried" "[I") fwX8_makePlan_6) (fun _ h9 => h9) rfl dX8_makePlan_73 ?_
        refine lv_iconst (v := 0) hx hb dX8_makePlan_76 (by decide) ?_
        refine lv_iconst (v := 0) hx hb dX8_makePlan_77 (by decide) ?_
        refine va_iast hx hb hK hP hD hS (5) 0 (wm_at (by decide) rc_5) rfl (by unfold vp_in; decide) dX8_makePlan_78 (fun H locs hP hD hS => ?_)
        obtain ⟨v_6, ev_6⟩ : ∃ u : Nat → Nat → Int32, u = upr v_5 5 (upd (v_5 5) 0 0) := ⟨_, rfl⟩
        have hP : va_P (dC, dI) vwCl (wm ad cy v_6) H := by rw [ev_6, ← wm_put (e := _) rc_5]; exact hP
        have hD : va_D A (wm ad cy v_6) := by rw [ev_6, ← wm_put (e := _) rc_5]; exact hD
        have hv : Ir v_6 := by rw [ev_6]; exact hv.put (k := 5) (fun h q => by rw [(show br 5 _ = none from rfl)] at q; cases q)
        have hfr : Fq v v_6 := by rw [ev_6]; exact hfr.row (by decide)
        have hc_7 : ∀ (n : Nat) (y7_1 : Int32) (u7 : Nat → Nat → Int32) (H : Heap) (locs : List Loc), -1 ≤ y7_1.toInt → y7_1.toInt ≤ 4 → (pl y7_1.toInt (u7 5)) → (y7_1.toInt ≤ (u7 0 5).toInt) → (mp y7_1.toInt (u7 5)).toNat < n → Ir u7 → Fq v u7 → va_P (dC, dI) vwCl (wm ad cy u7) H → va_D A (wm ad cy u7) → va_S A s.heap H locs → ∀ ls : Array Slot, lv_has ls 2 [(1, .int y7_1), (0, .ref (ad 0))] → W p l e (headSpec wsX8_makePlan ({ frames := 4, cells := 0, slots := 0, locals := 256 })).room s m [Value.ref (ad 0)].toArray below meth c H locs 0 0 (MQ below (va_Qv (fun (u : Nat → Nat → Int32) => Ir u ∧ Fq v u) (fun u t => ex_Pst dC dI A (wm ad cy u) t) A) [Value.ref (ad 0)].toArray s 0 0 A) (F0 m 79 ls []) := by
          intro n
          induction n with
          | zero =>
            intro y7_1 u7 H locs ay7_1 by7_1 hi7_0 hi7_1 hm_7 hv hfr hP hD hS ls hl
            exact absurd hm_7 (by omega)
          | succ n ih_7 =>
            intro y7_1 u7 H locs ay7_1 by7_1 hi7_0 hi7_1 hm_7 hv hfr hP hD hS ls hl
            refine lv_iload_n hx hb dX8_makePlan_79 rfl (lv_at hl 0 rfl) ?_
            refine lv_if_lt (tgt := 211) hx hb dX8_makePlan_80 (by decide) (fun c_8 => ?_) (fun c_8 => ?_)
            · have tc_8 : y7_1.toInt < (0 : Int32).toInt := Int32.lt_iff_toInt_lt.mp c_8
              exact W.vret hx hb hr (fun t ht hW => ⟨⟨u7, rfl, ⟨hv, hfr⟩, by rw [ht]; exact hP, hD⟩, hS.F ht⟩) hS.2.2 dX8_makePlan_211
            · have tc_8 : y7_1.toInt ≥ (0 : Int32).toInt := Int32.le_iff_toInt_le.mp (Int32.not_lt.mp c_8)
              refine lv_iload_n hx hb dX8_makePlan_83 rfl (lv_at hl 0 rfl) ?_
              refine lv_aload_n hx hb dX8_makePlan_84 rfl (lv_at hl 1 rfl) ?_
              refine va_get (D := (dC, dI)) (ci := 8) (v := .int (u7 0 5)) (C := RX8) (T := TX8) (N := 11) hx hb hts iwX8_makePlan_X8 hown hK hP (0) (wm_at (by decide) rc_0) rfl 5 (by decide) (hts (.fieldLink RX8 79 "QuietStairsModel" "many" "I") fwX8_makePlan_1) (fun _ h9 => h9) rfl dX8_makePlan_85 ?_
              refine lv_topi (fun x_9 ex_9 => ?_)
              have bzx_9 : 0 ≤ x_9.toInt ∧ x_9.toInt ≤ 4 := by rw [ex_9]; exact hv 0 5 4 (by decide)
              have kx_x_9 : y7_1.toInt ≤ x_9.toInt ∧ x_9.toInt = (u7 0 5).toInt := ⟨by rw [ex_9]; exact hi7_1, by rw [ex_9]⟩
              refine lv_icmp_ne (tgt := 119) hx hb dX8_makePlan_88 (by decide) (fun c_10 => ?_) (fun c_10 => ?_)
              · have tc_10 : y7_1.toInt ≠ x_9.toInt := fun q => absurd (Int32.toInt_inj.mp q) c_10
                have hc_11 : ∀ (n : Nat) (u11 : Nat → Nat → Int32) (H : Heap) (locs : List Loc), (pl y7_1.toInt (u11 5)) → (mp y7_1.toInt (u11 5) ≤ mp y7_1.toInt (u7 5)) → (u11 0 5 = u7 0 5) → (mp y7_1.toInt (u11 5)).toNat < n → Ir u11 → Fq v u11 → va_P (dC, dI) vwCl (wm ad cy u11) H → va_D A (wm ad cy u11) → va_S A s.heap H locs → ∀ ls : Array Slot, lv_has ls 2 [(1, .int y7_1), (0, .ref (ad 0))] → W p l e (headSpec wsX8_makePlan ({ frames := 4, cells := 0, slots := 0, locals := 256 })).room s m [Value.ref (ad 0)].toArray below meth c H locs 0 0 (MQ below (va_Qv (fun (u : Nat → Nat → Int32) => Ir u ∧ Fq v u) (fun u t => ex_Pst dC dI A (wm ad cy u) t) A) [Value.ref (ad 0)].toArray s 0 0 A) (F0 m 119 ls []) := by
                  intro n
                  induction n with
                  | zero =>
                    intro u11 H locs hi11_0 hi11_1 hi11_2 hm_11 hv hfr hP hD hS ls hl
                    exact absurd hm_11 (by omega)
                  | succ n ih_11 =>
                    intro u11 H locs hi11_0 hi11_1 hi11_2 hm_11 hv hfr hP hD hS ls hl
                    refine lv_aload_n hx hb dX8_makePlan_119 rfl (lv_at hl 1 rfl) ?_
                    refine va_get (D := (dC, dI)) (ci := 8) (v := .ref (ad 5)) (C := RX8) (T := TX8) (N := 11) hx hb hts iwX8_makePlan_X8 hown hK hP (0) (wm_at (by decide) rc_0) rfl 7 (by decide) (hts (.fieldLink RX8 26 "QuietStairsModel" "tried" "[I") fwX8_makePlan_6) (fun _ h9 => h9) rfl dX8_makePlan_120 ?_
                    refine lv_iload_n hx hb dX8_makePlan_123 rfl (lv_at hl 0 rfl) ?_
                    refine va_iald hx hb hK hP (5) 0 (wm_at (by decide) rc_5) rfl (vp_in_iff.mpr ⟨by omega, by omega⟩) dX8_makePlan_124 ?_
                    refine lv_topi (fun x_12 ex_12 => ?_)
                    have bzx_12 : 0 ≤ x_12.toInt ∧ x_12.toInt ≤ 19 := by rw [ex_12]; exact pl_c hi11_0 ⟨by omega, by omega⟩
                    refine lv_bipush (v := 18) hx hb dX8_makePlan_125 (by decide) ?_
                    have k_18 : (18 : Int32).toInt = 18 := by decide
                    refine lv_icmp_gt (tgt := 163) hx hb dX8_makePlan_127 (by decide) (fun c_13 => ?_) (fun c_13 => ?_)
                    · have tc_13 : x_12.toInt > (18 : Int32).toInt := Int32.lt_iff_toInt_lt.mp c_13
                      refine lv_aload_n hx hb dX8_makePlan_163 rfl (lv_at hl 1 rfl) ?_
                      refine va_get (D := (dC, dI)) (ci := 8) (v := .ref (ad 5)) (C := RX8) (T := TX8) (N := 11) hx hb hts iwX8_makePlan_X8 hown hK hP (0) (wm_at (by decide) rc_0) rfl 7 (by decide) (hts (.fieldLink RX8 26 "QuietStairsModel" "tried" "[I") fwX8_makePlan_6) (fun _ h9 => h9) rfl dX8_makePlan_164 ?_
                      refine lv_iload_n hx hb dX8_makePlan_167 rfl (lv_at hl 0 rfl) ?_
                      refine va_iald hx hb hK hP (5) 0 (wm_at (by decide) rc_5) rfl (vp_in_iff.mpr ⟨by omega, by omega⟩) dX8_makePlan_168 ?_
                      refine lv_topi (fun x_14 ex_14 => ?_)
                      obtain rfl : x_12 = x_14 := (ex_14.trans ex_12.symm).symm
                      refine lv_bipush (v := 18) hx hb dX8_makePlan_169 (by decide) ?_
                      refine lv_icmp_gt (tgt := 187) hx hb dX8_makePlan_171 (by decide) (fun c_15 => ?_) (fun c_15 => ?_)
                      · have tc_15 : x_12.toInt > (18 : Int32).toInt := Int32.lt_iff_toInt_lt.mp c_15
                        obtain ⟨x_16, ex_16⟩ : ∃ y : Int32, y = y7_1 + (-1) := ⟨_, rfl⟩
                        refine lv_iinc (v := x_16) (lv' := [(1, .int x_16), (0, .ref (ad 0))]) hx hb dX8_makePlan_187 hl (k := 0) rfl (by rw [ex_16]; rfl) (by decide) rfl (fun ls hl => ?_)
                        have k_m1 : ((-1) : Int32).toInt = -1 := by decide
                        have tx_16 : x_16.toInt = y7_1.toInt + ((-1) : Int32).toInt := by rw [ex_16]; exact t_add ⟨by omega, by omega⟩
                        refine lv_aload_n hx hb dX8_makePlan_190 rfl (lv_at hl 1 rfl) ?_
                        refine va_get (D := (dC, dI)) (ci := 8) (v := .ref (ad 5)) (C := RX8) (T := TX8) (N := 11) hx hb hts iwX8_makePlan_X8 hown hK hP (0) (wm_at (by decide) rc_0) rfl 7 (by decide) (hts (.fieldLink RX8 26 "QuietStairsModel" "tried" "[I") fwX8_makePlan_6) (fun _ h9 => h9) rfl dX8_makePlan_191 ?_
                        refine lv_iload_n hx hb dX8_makePlan_194 rfl (lv_at hl 0 rfl) ?_
                        refine lv_if_ge (tgt := 202) hx hb dX8_makePlan_195 (by decide) (fun c_17 => ?_) (fun c_17 => ?_)
                        · have tc_17 : x_16.toInt ≥ (0 : Int32).toInt := Int32.le_iff_toInt_le.mp c_17
                          refine lv_iload_n hx hb dX8_makePlan_202 rfl (lv_at hl 0 rfl) ?_
                          refine lv_dup2_11 hx hb dX8_makePlan_203 rfl rfl ?_
                          refine va_iald hx hb hK hP (5) 0 (wm_at (by decide) rc_5) rfl (vp_in_iff.mpr ⟨by omega, by omega⟩) dX8_makePlan_204 ?_
                          refine lv_topi (fun x_18 ex_18 => ?_)
                          have bzx_18 : 0 ≤ x_18.toInt ∧ x_18.toInt ≤ 18 := by rw [ex_18]; exact pl_b hi11_0 (by omega) ⟨by omega, by omega⟩
                          refine lv_iconst (v := 1) hx hb dX8_makePlan_205 (by decide) ?_
                          refine lv_iadd hx hb dX8_makePlan_206 ?_
                          refine lv_topi (fun x_19 ex_19 => ?_)
                          have k_1 : (1 : Int32).toInt = 1 := by decide
                          have tx_19 : x_19.toInt = x_18.toInt + (1 : Int32).toInt := by rw [ex_19]; exact t_add ⟨by omega, by omega⟩
                          refine va_iast hx hb hK hP hD hS (5) 0 (wm_at (by decide) rc_5) rfl (vp_in_iff.mpr ⟨by omega, by omega⟩) dX8_makePlan_207 (fun H locs hP hD hS => ?_)
                          obtain ⟨v_20, ev_20⟩ : ∃ u : Nat → Nat → Int32, u = upr u11 5 (upd (u11 5) (x_16.toNatClampNeg) x_19) := ⟨_, rfl⟩
                          have hP : va_P (dC, dI) vwCl (wm ad cy v_20) H := by rw [ev_20, ← wm_put (e := _) rc_5]; exact hP
                          have hD : va_D A (wm ad cy v_20) := by rw [ev_20, ← wm_put (e := _) rc_5]; exact hD
                          have hv : Ir v_20 := by rw [ev_20]; exact hv.put (k := 5) (fun h q => by rw [(show br 5 _ = none from rfl)] at q; cases q)
                          have hfr : Fq v v_20 := by rw [ev_20]; exact hfr.row (by decide)
                          have hg_21 : pl x_16.toInt (v_20 5) ∧ 0 < mp y7_1.toInt (u11 5) ∧ mp x_16.toInt (v_20 5) < mp y7_1.toInt (u11 5) := by rw [ev_20, upr_s]; exact pl_dn (k := y7_1) (k' := x_16) hi11_0 ⟨by omega, by omega⟩ (by omega) ex_18 (by omega)
                          have hc_21 : v_20 0 5 = u7 0 5 := by rw [ev_20, upr_n (by decide), hi11_2]
                          refine lv_goto (tgt := 79) hx hb dX8_makePlan_208 (by decide) ?_
                          exact ih_7 x_16 v_20 _ _ (by omega) (by omega) (hg_21.1) (by rw [hc_21]; omega) (by have z2 := hi11_1; omega) hv hfr hP hD hS ls (lv_sub hl [0, 1] rfl)
                        · have tc_17 : x_16.toInt < (0 : Int32).toInt := Int32.lt_iff_toInt_lt.mp (Int32.not_le.mp c_17)
                          refine lv_iconst (v := 0) hx hb dX8_makePlan_198 (by decide) ?_
                          refine lv_goto (tgt := 203) hx hb dX8_makePlan_199 (by decide) ?_
                          refine lv_dup2_11 hx hb dX8_makePlan_203 rfl rfl ?_
                          refine va_iald hx hb hK hP (5) 0 (wm_at (by decide) rc_5) rfl (by unfold vp_in; decide) dX8_makePlan_204 ?_
                          refine lv_topi (fun x_18 ex_18 => ?_)
                          have ex_18 : x_18 = u11 5 0 := ex_18
                          refine lv_iconst (v := 1) hx hb dX8_makePlan_205 (by decide) ?_
                          refine lv_iadd hx hb dX8_makePlan_206 ?_
                          refine lv_topi (fun x_19 ex_19 => ?_)
                          have k_1 : (1 : Int32).toInt = 1 := by decide
                          refine va_iast hx hb hK hP hD hS (5) 0 (wm_at (by decide) rc_5) rfl (by unfold vp_in; decide) dX8_makePlan_207 (fun H locs hP hD hS => ?_)
                          obtain ⟨v_20, ev_20⟩ : ∃ u : Nat → Nat → Int32, u = upr u11 5 (upd (u11 5) 0 x_19) := ⟨_, rfl⟩
                          have hP : va_P (dC, dI) vwCl (wm ad cy v_20) H := by rw [ev_20, ← wm_put (e := _) rc_5]; exact hP
                          have hD : va_D A (wm ad cy v_20) := by rw [ev_20, ← wm_put (e := _) rc_5]; exact hD
                          have hv : Ir v_20 := by rw [ev_20]; exact hv.put (k := 5) (fun h q => by rw [(show br 5 _ = none from rfl)] at q; cases q)
                          have hfr : Fq v v_20 := by rw [ev_20]; exact hfr.row (by decide)
                          have hg_21 : pl x_16.toInt (v_20 5) ∧ 0 < mp y7_1.toInt (u11 5) ∧ mp x_16.toInt (v_20 5) < mp y7_1.toInt (u11 5) := by rw [ev_20, upr_s]; exact pl_ex (k := y7_1) (k' := x_16) _ hi11_0 (by omega) (by omega)
                          have hc_21 : v_20 0 5 = u7 0 5 := by rw [ev_20, upr_n (by decide), hi11_2]
                          refine lv_goto (tgt := 79) hx hb dX8_makePlan_208 (by decide) ?_
                          exact ih_7 x_16 v_20 _ _ (by omega) (by omega) (hg_21.1) (by rw [hc_21]; omega) (by have z2 := hi11_1; omega) hv hfr hP hD hS ls (lv_sub hl [0, 1] rfl)
                      · have tc_15 : x_12.toInt ≤ (18 : Int32).toInt := Int32.le_iff_toInt_le.mp (Int32.not_lt.mp c_15)
                        exfalso
                        omega
                    · have tc_13 : x_12.toInt ≤ (18 : Int32).toInt := Int32.le_iff_toInt_le.mp (Int32.not_lt.mp c_13)
                      refine lv_aload_n hx hb dX8_makePlan_130 rfl (lv_at hl 1 rfl) ?_
                      refine lv_iload_n hx hb dX8_makePlan_131 rfl (lv_at hl 0 rfl) ?_
                      refine yw_i (w1 := fun (u : Nat → Nat → Int32) => wm ad cy u) hD hS hA (va_runV (As := [.int y7_1]) (rest := []) ⟨hx, hb, hml, hown, hts⟩ (q_X8_fits l dC dI cy _ ad u11 hv y7_1 ⟨by omega, by omega⟩) (cwV 1 hts gX8_makePlan_X8_fits rfl rfl rfl hd_V_X8_fits_1 ⟨Nat.le_of_ble_eq_true rfl, Nat.le_of_ble_eq_true rfl⟩) (yw_preV hE hK hP hD (ci := 8) (q := (RX8, TX8, 11)) (q0 := 0) rfl (wm_at (by decide) rc_0)) rfl rfl hl.1 rfl (lv_room (Nat.le_of_ble_eq_true rfl)) dX8_makePlan_132 ⟨Nat.le_of_ble_eq_true rfl, Nat.le_of_ble_eq_true rfl⟩) (fun r_14 v_14 H locs hw_14 hP hD hS => ?_)
                      obtain ⟨-, hu_14, hw_14⟩ := hw_14
                      replace hu_14 := hu_14.symm
                      subst hu_14
                      rcases hw_14 with rfl | rfl
                      · refine lv_if_eq (tgt := 150) hx hb dX8_makePlan_135 (by decide) (fun _ => ?_) (fun c9 => absurd c9 (by decide))
                        refine lv_aload_n hx hb dX8_makePlan_150 rfl (lv_at hl 1 rfl) ?_
                        refine va_get (D := (dC, dI)) (ci := 8) (v := .ref (ad 5)) (C := RX8) (T := TX8) (N := 11) hx hb hts iwX8_makePlan_X8 hown hK hP (0) (wm_at (by decide) rc_0) rfl 7 (by decide) (hts (.fieldLink RX8 26 "QuietStairsModel" "tried" "[I") fwX8_makePlan_6) (fun _ h9 => h9) rfl dX8_makePlan_151 ?_
                        refine lv_iload_n hx hb dX8_makePlan_154 rfl (lv_at hl 0 rfl) ?_
                        refine lv_dup2_11 hx hb dX8_makePlan_155 rfl rfl ?_
                        refine va_iald hx hb hK hP (5) 0 (wm_at (by decide) rc_5) rfl (vp_in_iff.mpr ⟨by omega, by omega⟩) dX8_makePlan_156 ?_
                        refine lv_topi (fun x_15 ex_15 => ?_)
                        obtain rfl : x_12 = x_15 := (ex_15.trans ex_12.symm).symm
                        refine lv_iconst (v := 1) hx hb dX8_makePlan_157 (by decide) ?_
                        refine lv_iadd hx hb dX8_makePlan_158 ?_
                        refine lv_topi (fun x_16 ex_16 => ?_)
                        have k_1 : (1 : Int32).toInt = 1 := by decide
                        have tx_16 : x_16.toInt = x_12.toInt + (1 : Int32).toInt := by rw [ex_16]; exact t_add ⟨by omega, by omega⟩
                        refine va_iast hx hb hK hP hD hS (5) 0 (wm_at (by decide) rc_5) rfl (vp_in_iff.mpr ⟨by omega, by omega⟩) dX8_makePlan_159 (fun H locs hP hD hS => ?_)
                        obtain ⟨v_17, ev_17⟩ : ∃ u : Nat → Nat → Int32, u = upr u11 5 (upd (u11 5) (y7_1.toNatClampNeg) x_16) := ⟨_, rfl⟩
                        have hP : va_P (dC, dI) vwCl (wm ad cy v_17) H := by rw [ev_17, ← wm_put (e := _) rc_5]; exact hP
                        have hD : va_D A (wm ad cy v_17) := by rw [ev_17, ← wm_put (e := _) rc_5]; exact hD
                        have hv : Ir v_17 := by rw [ev_17]; exact hv.put (k := 5) (fun h q => by rw [(show br 5 _ = none from rfl)] at q; cases q)
                        have hfr : Fq v v_17 := by rw [ev_17]; exact hfr.row (by decide)
                        have hg_18 : pl y7_1.toInt (v_17 5) ∧ 0 < mp y7_1.toInt (u11 5) ∧ mp y7_1.toInt (v_17 5) < mp y7_1.toInt (u11 5) := by rw [ev_17, upr_s]; exact pl_in (k := y7_1) (k' := y7_1) hi11_0 ⟨by omega, by omega⟩ rfl ex_12 (by omega) (by omega)
                        refine lv_goto (tgt := 119) hx hb dX8_makePlan_160 (by decide) ?_
                        exact ih_11 v_17 _ _  (hg_18.1) (by have z1 := hi11_1; omega) (by rw [ev_17, upr_n (by decide)]; exact hi11_2) (by omega) hv hfr hP hD hS ls (lv_sub hl [0, 1] rfl)
                      · refine lv_if_eq (tgt := 150) hx hb dX8_makePlan_135 (by decide) (fun c9 => absurd c9 (by decide)) (fun _ => ?_)
                        refine lv_aload_n hx hb dX8_makePlan_138 rfl (lv_at hl 1 rfl) ?_
                        refine lv_iload_n hx hb dX8_makePlan_139 rfl (lv_at hl 0 rfl) ?_
                        refine yw_i (w1 := fun (u : Nat → Nat → Int32) => wm ad cy u) hD hS hA (va_runV (As := [.int y7_1]) (rest := []) ⟨hx, hb, hml, hown, hts⟩ (q_X8_waitsOf l dC dI cy _ ad u11 hv y7_1 ⟨by omega, by omega⟩) (cwV 1 hts gX8_makePlan_X8_waitsOf rfl rfl rfl hd_V_X8_waitsOf_1 ⟨Nat.le_of_ble_eq_true rfl, Nat.le_of_ble_eq_true rfl⟩) (yw_preV hE hK hP hD (ci := 8) (q := (RX8, TX8, 11)) (q0 := 0) rfl (wm_at (by decide) rc_0)) rfl rfl hl.1 rfl (lv_room (Nat.le_of_ble_eq_true rfl)) dX8_makePlan_140 ⟨Nat.le_of_ble_eq_true rfl, Nat.le_of_ble_eq_true rfl⟩) (fun r_15 v_15 H locs hw_15 hP hD hS => ?_)
                        obtain ⟨-, hw_15⟩ := hw_15
                        replace hw_15 := hw_15.symm
                        subst hw_15
                        refine lv_aload_n hx hb dX8_makePlan_143 rfl (lv_at hl 1 rfl) ?_
                        refine va_get (D := (dC, dI)) (ci := 8) (v := .int (u11 0 9)) (C := RX8) (T := TX8) (N := 11) hx hb hts iwX8_makePlan_X8 hown hK hP (0) (wm_at (by decide) rc_0) rfl 9 (by decide) (hts (.fieldLink RX8 85 "QuietStairsModel" "least" "I") fwX8_makePlan_5) (fun _ h9 => h9) rfl dX8_makePlan_144 ?_
                        refine lv_topi (fun x_16 ex_16 => ?_)
                        refine lv_icmp_lt (tgt := 163) hx hb dX8_makePlan_147 (by decide) (fun c_17 => ?_) (fun c_17 => ?_)
                        · have tc_17 : r_15.toInt < x_16.toInt := Int32.lt_iff_toInt_lt.mp c_17
                          refine lv_aload_n hx hb dX8_makePlan_163 rfl (lv_at hl 1 rfl) ?_
                          refine va_get (D := (dC, dI)) (ci := 8) (v := .ref (ad 5)) (C := RX8) (T := TX8) (N := 11) hx hb hts iwX8_makePlan_X8 hown hK hP (0) (wm_at (by decide) rc_0) rfl 7 (by decide) (hts (.fieldLink RX8 26 "QuietStairsModel" "tried" "[I") fwX8_makePlan_6) (fun _ h9 => h9) rfl dX8_makePlan_164 ?_
                          refine lv_iload_n hx hb dX8_makePlan_167 rfl (lv_at hl 0 rfl) ?_
                          refine va_iald hx hb hK hP (5) 0 (wm_at (by decide) rc_5) rfl (vp_in_iff.mpr ⟨by omega, by omega⟩) dX8_makePlan_168 ?_
                          refine lv_topi (fun x_18 ex_18 => ?_)
                          obtain rfl : x_12 = x_18 := (ex_18.trans ex_12.symm).symm
                          refine lv_bipush (v := 18) hx hb dX8_makePlan_169 (by decide) ?_
                          refine lv_icmp_gt (tgt := 187) hx hb dX8_makePlan_171 (by decide) (fun c_19 => ?_) (fun c_19 => ?_)
                          · have tc_19 : x_12.toInt > (18 : Int32).toInt := Int32.lt_iff_toInt_lt.mp c_19
                            exfalso
                            omega
                          · have tc_19 : x_12.toInt ≤ (18 : Int32).toInt := Int32.le_iff_toInt_le.mp (Int32.not_lt.mp c_19)
                            obtain ⟨x_20, ex_20⟩ : ∃ y : Int32, y = y7_1 + 1 := ⟨_, rfl⟩
                            refine lv_iinc (v := x_20) (lv' := [(1, .int x_20), (0, .ref (ad 0))]) hx hb dX8_makePlan_174 hl (k := 0) rfl (by rw [ex_20]; rfl) (by decide) rfl (fun ls hl => ?_)
                            have k_1 : (1 : Int32).toInt = 1 := by decide
                            have tx_20 : x_20.toInt = y7_1.toInt + (1 : Int32).toInt := by rw [ex_20]; exact t_add ⟨by omega, by omega⟩
                            refine lv_aload_n hx hb dX8_makePlan_177 rfl (lv_at hl 1 rfl) ?_
                            refine va_get (D := (dC, dI)) (ci := 8) (v := .ref (ad 5)) (C := RX8) (T := TX8) (N := 11) hx hb hts iwX8_makePlan_X8 hown hK hP (0) (wm_at (by decide) rc_0) rfl 7 (by decide) (hts (.fieldLink RX8 26 "QuietStairsModel" "tried" "[I") fwX8_makePlan_6) (fun _ h9 => h9) rfl dX8_makePlan_178 ?_
                            refine lv_iload_n hx hb dX8_makePlan_181 rfl (lv_at hl 0 rfl) ?_
                            refine lv_iconst (v := 0) hx hb dX8_makePlan_182 (by decide) ?_
                            refine va_iast hx hb hK hP hD hS (5) 0 (wm_at (by decide) rc_5) rfl (vp_in_iff.mpr ⟨by omega, by omega⟩) dX8_makePlan_183 (fun H locs hP hD hS => ?_)
                            obtain ⟨v_21, ev_21⟩ : ∃ u : Nat → Nat → Int32, u = upr u11 5 (upd (u11 5) (x_20.toNatClampNeg) 0) := ⟨_, rfl⟩
                            have hP : va_P (dC, dI) vwCl (wm ad cy v_21) H := by rw [ev_21, ← wm_put (e := _) rc_5]; exact hP
                            have hD : va_D A (wm ad cy v_21) := by rw [ev_21, ← wm_put (e := _) rc_5]; exact hD
                            have hv : Ir v_21 := by rw [ev_21]; exact hv.put (k := 5) (fun h q => by rw [(show br 5 _ = none from rfl)] at q; cases q)
                            have hfr : Fq v v_21 := by rw [ev_21]; exact hfr.row (by decide)
                            have hg_22 : pl x_20.toInt (v_21 5) ∧ 0 < mp y7_1.toInt (u11 5) ∧ mp x_20.toInt (v_21 5) < mp y7_1.toInt (u11 5) := by rw [ev_21, upr_s]; exact pl_up (k := y7_1) (k' := x_20) hi11_0 ⟨by omega, by omega⟩ (by rw [← ex_12]; omega) (by omega) (by decide)
                            have hc_22 : v_21 0 5 = u7 0 5 := by rw [ev_21, upr_n (by decide), hi11_2]
                            refine lv_goto (tgt := 79) hx hb dX8_makePlan_184 (by decide) ?_
                            exact ih_7 x_20 v_21 _ _ (by omega) (by omega) (hg_22.1) (by rw [hc_22]; omega) (by have z2 := hi11_1; omega) hv hfr hP hD hS ls (lv_sub hl [0, 1] rfl)
                        · have tc_17 : r_15.toInt ≥ x_16.toInt := Int32.le_iff_toInt_le.mp (Int32.not_lt.mp c_17)
                          refine lv_aload_n hx hb dX8_makePlan_150 rfl (lv_at hl 1 rfl) ?_
                          refine va_get (D := (dC, dI)) (ci := 8) (v := .ref (ad 5)) (C := RX8) (T := TX8) (N := 11) hx hb hts iwX8_makePlan_X8 hown hK hP (0) (wm_at (by decide) rc_0) rfl 7 (by decide) (hts (.fieldLink RX8 26 "QuietStairsModel" "tried" "[I") fwX8_makePlan_6) (fun _ h9 => h9) rfl dX8_makePlan_151 ?_
                          refine lv_iload_n hx hb dX8_makePlan_154 rfl (lv_at hl 0 rfl) ?_
                          refine lv_dup2_11 hx hb dX8_makePlan_155 rfl rfl ?_
                          refine va_iald hx hb hK hP (5) 0 (wm_at (by decide) rc_5) rfl (vp_in_iff.mpr ⟨by omega, by omega⟩) dX8_makePlan_156 ?_
                          refine lv_topi (fun x_18 ex_18 => ?_)
                          obtain rfl : x_12 = x_18 := (ex_18.trans ex_12.symm).symm
                          refine lv_iconst (v := 1) hx hb dX8_makePlan_157 (by decide) ?_
                          refine lv_iadd hx hb dX8_makePlan_158 ?_
                          refine lv_topi (fun x_19 ex_19 => ?_)
                          have k_1 : (1 : Int32).toInt = 1 := by decide
                          have tx_19 : x_19.toInt = x_12.toInt + (1 : Int32).toInt := by rw [ex_19]; exact t_add ⟨by omega, by omega⟩
                          refine va_iast hx hb hK hP hD hS (5) 0 (wm_at (by decide) rc_5) rfl (vp_in_iff.mpr ⟨by omega, by omega⟩) dX8_makePlan_159 (fun H locs hP hD hS => ?_)
                          obtain ⟨v_20, ev_20⟩ : ∃ u : Nat → Nat → Int32, u = upr u11 5 (upd (u11 5) (y7_1.toNatClampNeg) x_19) := ⟨_, rfl⟩
                          have hP : va_P (dC, dI) vwCl (wm ad cy v_20) H := by rw [ev_20, ← wm_put (e := _) rc_5]; exact hP
                          have hD : va_D A (wm ad cy v_20) := by rw [ev_20, ← wm_put (e := _) rc_5]; exact hD
                          have hv : Ir v_20 := by rw [ev_20]; exact hv.put (k := 5) (fun h q => by rw [(show br 5 _ = none from rfl)] at q; cases q)
                          have hfr : Fq v v_20 := by rw [ev_20]; exact hfr.row (by decide)
                          have hg_21 : pl y7_1.toInt (v_20 5) ∧ 0 < mp y7_1.toInt (u11 5) ∧ mp y7_1.toInt (v_20 5) < mp y7_1.toInt (u11 5) := by rw [ev_20, upr_s]; exact pl_in (k := y7_1) (k' := y7_1) hi11_0 ⟨by omega, by omega⟩ rfl ex_12 (by omega) (by omega)
                          refine lv_goto (tgt := 119) hx hb dX8_makePlan_160 (by decide) ?_
                          exact ih_11 v_20 _ _  (hg_21.1) (by have z1 := hi11_1; omega) (by rw [ev_20, upr_n (by decide)]; exact hi11_2) (by omega) hv hfr hP hD hS ls (lv_sub hl [0, 1] rfl)
                exact hc_11 ((mp y7_1.toInt (u7 5)).toNat + 1) u7 _ _  (hi7_0) (Int.le_refl _) (rfl) (by omega) hv hfr hP hD hS ls (lv_sub hl [0, 1] rfl)
              · have tc_10 : y7_1.toInt = x_9.toInt := by rw [c_10]
                refine lv_aload_n hx hb dX8_makePlan_91 rfl (lv_at hl 1 rfl) ?_
                refine yw_v (w1 := fun (u : Nat → Nat → Int32) => wm ad cy u) hD hS hA (va_runV (As := []) (rest := []) ⟨hx, hb, hml, hown, hts⟩ (q_X8_note l dC dI cy _ ad u7 hv ) (cwV 0 hts gX8_makePlan_X8_note rfl rfl rfl hd_V_X8_note_0 ⟨Nat.le_of_ble_eq_true rfl, Nat.le_of_ble_eq_true rfl⟩) (yw_preV hE hK hP hD (ci := 8) (q := (RX8, TX8, 11)) (q0 := 0) rfl (wm_at (by decide) rc_0)) rfl rfl hl.1 rfl (lv_room (Nat.le_of_ble_eq_true rfl)) dX8_makePlan_92 ⟨Nat.le_of_ble_eq_true rfl, Nat.le_of_ble_eq_true rfl⟩) (fun v_11 H locs hw_11 hP hD hS => ?_)
                obtain ⟨hv, hf_11, hw_11⟩ := hw_11
                have hfr : Fq v v_11 := hfr.trans hf_11
                have hp_12 : pl y7_1.toInt (v_11 5) := by rw [hw_11.1]; exact hi7_0
                have hl_12 : mp y7_1.toInt (v_11 5) = mp y7_1.toInt (u7 5) := by rw [hw_11.1]
                obtain ⟨x_13, ex_13⟩ : ∃ y : Int32, y = y7_1 + (-1) := ⟨_, rfl⟩
                refine lv_iinc (v := x_13) (lv' := [(1, .int x_13), (0, .ref (ad 0))]) hx hb dX8_makePlan_95 hl (k := 0) rfl (by rw [ex_13]; rfl) (by decide) rfl (fun ls hl => ?_)
                have k_m1 : ((-1) : Int32).toInt = -1 := by decide
                have tx_13 : x_13.toInt = y7_1.toInt + ((-1) : Int32).toInt := by rw [ex_13]; exact t_add ⟨by omega, by omega⟩
                refine lv_aload_n hx hb dX8_makePlan_98 rfl (lv_at hl 1 rfl) ?_
                refine va_get (D := (dC, dI)) (ci := 8) (v := .ref (ad 5)) (C := RX8) (T := TX8) (N := 11) hx hb hts iwX8_makePlan_X8 hown hK hP (0) (wm_at (by decide) rc_0) rfl 7 (by decide) (hts (.fieldLink RX8 26 "QuietStairsModel" "tried" "[I") fwX8_makePlan_6) (fun _ h9 => h9) rfl dX8_makePlan_99 ?_
                refine lv_iload_n hx hb dX8_makePlan_102 rfl (lv_at hl 0 rfl) ?_
                refine lv_if_ge (tgt := 110) hx hb dX8_makePlan_103 (by decide) (fun c_14 => ?_) (fun c_14 => ?_)
                · have tc_14 : x_13.toInt ≥ (0 : Int32).toInt := Int32.le_iff_toInt_le.mp c_14
                  refine lv_iload_n hx hb dX8_makePlan_110 rfl (lv_at hl 0 rfl) ?_
                  refine lv_dup2_11 hx hb dX8_makePlan_111 rfl rfl ?_
                  refine va_iald hx hb hK hP (5) 0 (wm_at (by decide) rc_5) rfl (vp_in_iff.mpr ⟨by omega, by omega⟩) dX8_makePlan_112 ?_
                  refine lv_topi (fun x_15 ex_15 => ?_)
                  have bzx_15 : 0 ≤ x_15.toInt ∧ x_15.toInt ≤ 18 := by rw [ex_15]; exact pl_b hp_12 (by omega) ⟨by omega, by omega⟩
                  refine lv_iconst (v := 1) hx hb dX8_makePlan_113 (by decide) ?_
                  refine lv_iadd hx hb dX8_makePlan_114 ?_
                  refine lv_topi (fun x_16 ex_16 => ?_)
                  have k_1 : (1 : Int32).toInt = 1 := by decide
                  have tx_16 : x_16.toInt = x_15.toInt + (1 : Int32).toInt := by rw [ex_16]; exact t_add ⟨by omega, by omega⟩
                  refine va_iast hx hb hK hP hD hS (5) 0 (wm_at (by decide) rc_5) rfl (vp_in_iff.mpr ⟨by omega, by omega⟩) dX8_makePlan_115 (fun H locs hP hD hS => ?_)
                  obtain ⟨v_17, ev_17⟩ : ∃ u : Nat → Nat → Int32, u = upr v_11 5 (upd (v_11 5) (x_13.toNatClampNeg) x_16) := ⟨_, rfl⟩
                  have hP : va_P (dC, dI) vwCl (wm ad cy v_17) H := by rw [ev_17, ← wm_put (e := _) rc_5]; exact hP
                  have hD : va_D A (wm ad cy v_17) := by rw [ev_17, ← wm_put (e := _) rc_5]; exact hD
                  have hv : Ir v_17 := by rw [ev_17]; exact hv.put (k := 5) (fun h q => by rw [(show br 5 _ = none from rfl)] at q; cases q)
                  have hfr : Fq v v_17 := by rw [ev_17]; exact hfr.row (by decide)
                  have hg_18 : pl x_13.toInt (v_17 5) ∧ 0 < mp y7_1.toInt (v_11 5) ∧ mp x_13.toInt (v_17 5) < mp y7_1.toInt (v_11 5) := by rw [ev_17, upr_s]; exact pl_dn (k := y7_1) (k' := x_13) hp_12 ⟨by omega, by omega⟩ (by omega) ex_15 (by omega)
                  have hc_18 : v_17 0 5 = u7 0 5 := by rw [ev_17, upr_n (by decide), hw_11.2.2]
                  refine lv_goto (tgt := 79) hx hb dX8_makePlan_116 (by decide) ?_
                  exact ih_7 x_13 v_17 _ _ (by omega) (by omega) (hg_18.1) (by rw [hc_18]; omega) (by omega) hv hfr hP hD hS ls (lv_sub hl [0, 1] rfl)
                · have tc_14 : x_13.toInt < (0 : Int32).toInt := Int32.lt_iff_toInt_lt.mp (Int32.not_le.mp c_14)
                  refine lv_iconst (v := 0) hx hb dX8_makePlan_106 (by decide) ?_
                  refine lv_goto (tgt := 111) hx hb dX8_makePlan_107 (by decide) ?_
                  refine lv_dup2_11 hx hb dX8_makePlan_111 rfl rfl ?_
                  refine va_iald hx hb hK hP (5) 0 (wm_at (by decide) rc_5) rfl (by unfold vp_in; decide) dX8_makePlan_112 ?_
                  refine lv_topi (fun x_15 ex_15 => ?_)
                  have ex_15 : x_15 = v_11 5 0 := ex_15
                  refine lv_iconst (v := 1) hx hb dX8_makePlan_113 (by decide) ?_
                  refine lv_iadd hx hb dX8_makePlan_114 ?_
                  refine lv_topi (fun x_16 ex_16 => ?_)
                  have k_1 : (1 : Int32).toInt = 1 := by decide
                  refine va_iast hx hb hK hP hD hS (5) 0 (wm_at (by decide) rc_5) rfl (by unfold vp_in; decide) dX8_makePlan_115 (fun H locs hP hD hS => ?_)
                  obtain ⟨v_17, ev_17⟩ : ∃ u : Nat → Nat → Int32, u = upr v_11 5 (upd (v_11 5) 0 x_16) := ⟨_, rfl⟩
                  have hP : va_P (dC, dI) vwCl (wm ad cy v_17) H := by rw [ev_17, ← wm_put (e := _) rc_5]; exact hP
                  have hD : va_D A (wm ad cy v_17) := by rw [ev_17, ← wm_put (e := _) rc_5]; exact hD
                  have hv : Ir v_17 := by rw [ev_17]; exact hv.put (k := 5) (fun h q => by rw [(show br 5 _ = none from rfl)] at q; cases q)
                  have hfr : Fq v v_17 := by rw [ev_17]; exact hfr.row (by decide)
                  have hg_18 : pl x_13.toInt (v_17 5) ∧ 0 < mp y7_1.toInt (v_11 5) ∧ mp x_13.toInt (v_17 5) < mp y7_1.toInt (v_11 5) := by rw [ev_17, upr_s]; exact pl_ex (k := y7_1) (k' := x_13) _ hp_12 (by omega) (by omega)
                  have hc_18 : v_17 0 5 = u7 0 5 := by rw [ev_17, upr_n (by decide), hw_11.2.2]
                  refine lv_goto (tgt := 79) hx hb dX8_makePlan_116 (by decide) ?_
                  exact ih_7 x_13 v_17 _ _ (by omega) (by omega) (hg_18.1) (by rw [hc_18]; omega) (by omega) hv hfr hP hD hS ls (lv_sub hl [0, 1] rfl)
        exact hc_7 ((mp (0 : Int32).toInt (v_6 5)).toNat + 1) 0 v_6 _ _ (by omega) (by omega) (by rw [ev_6, upr_s]; exact pl_z (by decide)) (by have z1 := hv 0 5 4 (by decide); omega) (by omega) hv hfr hP hD hS ls (lv_sub hl [0, 1] rfl)
      · have tc_4 : y2_1.toInt < x_3.toInt := Int32.lt_iff_toInt_lt.mp (Int32.not_le.mp c_4)
        refine lv_aload_n hx hb dX8_makePlan_17 rfl (lv_at hl 1 rfl) ?_
        refine va_get (D := (dC, dI)) (ci := 8) (v := .ref (ad 1)) (C := RX8) (T := TX8) (N := 11) hx hb hts iwX8_makePlan_X8 hown hK hP (0) (wm_at (by decide) rc_0) rfl 0 (by decide) (hts (.fieldLink RX8 7 "QuietStairsModel" "s" "[I") fwX8_makePlan_2) (fun _ h9 => h9) rfl dX8_makePlan_18 ?_
        refine lv_iload_n hx hb dX8_makePlan_21 rfl (lv_at hl 0 rfl) ?_
        refine lv_iconst (v := 2) hx hb dX8_makePlan_22 (by decide) ?_
        refine yc_p hP hS (va_runS (As := [.int y2_1, .int 2]) (rest := [.ref (ad 1)]) ⟨hx, hb, hml, hown, hts⟩ (c_X8_at l y2_1 2) (cwS 2 hts gX8_makePlan_X8_at rfl rfl rfl hd_S_X8_at_2 ⟨Nat.le_of_ble_eq_true rfl, Nat.le_of_ble_eq_true rfl⟩) ex_preP rfl rfl hl.1 rfl (lv_room (Nat.le_of_ble_eq_true rfl)) dX8_makePlan_23 ⟨Nat.le_of_ble_eq_true rfl, Nat.le_of_ble_eq_true rfl⟩) (fun r_5 H locs hw_5 hP hS => ?_)
        have tr_5 : r_5.toInt = 32 + 7 * y2_1.toInt + (2 : Int32).toInt := t_at hw_5 ⟨by omega, by omega⟩ ⟨by omega, by omega⟩
        refine va_iald hx hb hK hP (1) 0 (wm_at (by decide) rc_1) rfl (vp_in_iff.mpr ⟨by omega, by omega⟩) dX8_makePlan_26 ?_
        refine lv_topi (fun x_6 ex_6 => ?_)
        refine lv_if_ne (tgt := 58) hx hb dX8_makePlan_27 (by decide) (fun c_7 => ?_) (fun c_7 => ?_)
        · have tc_7 : x_6.toInt ≠ (0 : Int32).toInt := fun q => absurd (Int32.toInt_inj.mp q) c_7
          obtain ⟨x_8, ex_8⟩ : ∃ y : Int32, y = y2_1 + 1 := ⟨_, rfl⟩
          refine lv_iinc (v := x_8) (lv' := [(1, .int x_8), (0, .ref (ad 0))]) hx hb dX8_makePlan_58 hl (k := 0) rfl (by rw [ex_8]; rfl) (by decide) rfl (fun ls hl => ?_)
          have k_1 : (1 : Int32).toInt = 1 := by decide
          have tx_8 : x_8.toInt = y2_1.toInt + (1 : Int32).toInt := by rw [ex_8]; exact t_add ⟨by omega, by omega⟩
          refine lv_goto (tgt := 7) hx hb dX8_makePlan_61 (by decide) ?_
          exact ih_2 x_8 u2 _ _ (by omega) (by omega) (by omega) hv hfr hP hD hS ls (lv_sub hl [0, 1] rfl)
        · have tc_7 : x_6.toInt = (0 : Int32).toInt := by rw [c_7]
          refine lv_aload_n hx hb dX8_makePlan_30 rfl (lv_at hl 1 rfl) ?_
          refine va_get (D := (dC, dI)) (ci := 8) (v := .int (u2 0 5)) (C := RX8) (T := TX8) (N := 11) hx hb hts iwX8_makePlan_X8 hown hK hP (0) (wm_at (by decide) rc_0) rfl 5 (by decide) (hts (.fieldLink RX8 79 "QuietStairsModel" "many" "I") fwX8_makePlan_1) (fun _ h9 => h9) rfl dX8_makePlan_31 ?_
          refine lv_topi (fun x_8 ex_8 => ?_)
          have bzx_8 : 0 ≤ x_8.toInt ∧ x_8.toInt ≤ 4 := by rw [ex_8]; exact hv 0 5 4 (by decide)
          refine lv_iconst (v := 4) hx hb dX8_makePlan_34 (by decide) ?_
          have k_4 : (4 : Int32).toInt = 4 := by decide
          refine lv_icmp_ge (tgt := 58) hx hb dX8_makePlan_35 (by decide) (fun c_9 => ?_) (fun c_9 => ?_)
          · have tc_9 : x_8.toInt ≥ (4 : Int32).toInt := Int32.le_iff_toInt_le.mp c_9
            obtain ⟨x_10, ex_10⟩ : ∃ y : Int32, y = y2_1 + 1 := ⟨_, rfl⟩
            refine lv_iinc (v := x_10) (lv' := [(1, .int x_10), (0, .ref (ad 0))]) hx hb dX8_makePlan_58 hl (k := 0) rfl (by rw [ex_10]; rfl) (by decide) rfl (fun ls hl => ?_)
            have k_1 : (1 : Int32).toInt = 1 := by decide
            have tx_10 : x_10.toInt = y2_1.toInt + (1 : Int32).toInt := by rw [ex_10]; exact t_add ⟨by omega, by omega⟩
            refine lv_goto (tgt := 7) hx hb dX8_makePlan_61 (by decide) ?_
            exact ih_2 x_10 u2 _ _ (by omega) (by omega) (by omega) hv hfr hP hD hS ls (lv_sub hl [0, 1] rfl)
          · have tc_9 : x_8.toInt < (4 : Int32).toInt := Int32.lt_iff_toInt_lt.mp (Int32.not_le.mp c_9)
            refine lv_aload_n hx hb dX8_makePlan_38 rfl (lv_at hl 1 rfl) ?_
            refine va_get (D := (dC, dI)) (ci := 8) (v := .ref (ad 4)) (C := RX8) (T := TX8) (N := 11) hx hb hts iwX8_makePlan_X8 hown hK hP (0) (wm_at (by decide) rc_0) rfl 6 (by decide) (hts (.fieldLink RX8 23 "QuietStairsModel" "planned" "[I") fwX8_makePlan_3) (fun _ h9 => h9) rfl dX8_makePlan_39 ?_
            refine lv_aload_n hx hb dX8_makePlan_42 rfl (lv_at hl 1 rfl) ?_
            refine va_get (D := (dC, dI)) (ci := 8) (v := .int (u2 0 5)) (C := RX8) (T := TX8) (N := 11) hx hb hts iwX8_makePlan_X8 hown hK hP (0) (wm_at (by decide) rc_0) rfl 5 (by decide) (hts (.fieldLink RX8 79 "QuietStairsModel" "many" "I") fwX8_makePlan_1) (fun _ h9 => h9) rfl dX8_makePlan_43 ?_
            refine lv_topi (fun x_10 ex_10 => ?_)
            obtain rfl : x_8 = x_10 := (ex_10.trans ex_8.symm).symm
            refine lv_iload_n hx hb dX8_makePlan_46 rfl (lv_at hl 0 rfl) ?_
            refine va_iast hx hb hK hP hD hS (4) 0 (wm_at (by decide) rc_4) rfl (vp_in_iff.mpr ⟨by omega, by omega⟩) dX8_makePlan_47 (fun H locs hP hD hS => ?_)
            obtain ⟨v_11, ev_11⟩ : ∃ u : Nat → Nat → Int32, u = upr u2 4 (upd (u2 4) (x_8.toNatClampNeg) y2_1) := ⟨_, rfl⟩
            have hP : va_P (dC, dI) vwCl (wm ad cy v_11) H := by rw [ev_11, ← wm_put (e := _) rc_4]; exact hP
            have hD : va_D A (wm ad cy v_11) := by rw [ev_11, ← wm_put (e := _) rc_4]; exact hD
            have hv : Ir v_11 := by rw [ev_11]; exact hv.put (k := 4) (fun h q => by rw [(show br 4 _ = some 5 from rfl)] at q; cases q; exact ⟨by omega, by omega⟩)
            have hfr : Fq v v_11 := by rw [ev_11]; exact hfr.row (by decide)
            refine lv_aload_n hx hb dX8_makePlan_48 rfl (lv_at hl 1 rfl) ?_
            refine lv_dup hx hb dX8_makePlan_49 rfl ?_
            refine va_get (D := (dC, dI)) (ci := 8) (v := .int (v_11 0 5)) (C := RX8) (T := TX8) (N := 11) hx hb hts iwX8_makePlan_X8 hown hK hP (0) (wm_at (by decide) rc_0) rfl 5 (by decide) (hts (.fieldLink RX8 79 "QuietStairsModel" "many" "I") fwX8_makePlan_1) (fun _ h9 => h9) rfl dX8_makePlan_50 ?_
            refine lv_topi (fun x_12 ex_12 => ?_)
            rw [ev_11, upr_n (by decide)] at ex_12
            obtain rfl : x_8 = x_12 := (ex_12.trans ex_8.symm).symm
            refine lv_iconst (v := 1) hx hb dX8_makePlan_53 (by decide) ?_
            refine lv_iadd hx hb dX8_makePlan_54 ?_
            refine lv_topi (fun x_13 ex_13 => ?_)
            have k_1 : (1 : Int32).toInt = 1 := by decide
            have tx_13 : x_13.toInt = x_8.toInt + (1 : Int32).toInt := by rw [ex_13]; exact t_add ⟨by omega, by omega⟩
            refine va_put (D := (dC, dI)) (ci := 8) (v := .int x_13) (ty := .int) (C := RX8) (T := TX8) (N := 11) hx hb hts iwX8_makePlan_X8 tyX8 tyX8_ok nmX8 hown hK hP hD hS (0) (wm_at (by decide) rc_0) rfl 5 (by decide) (hts (.fieldLink RX8 79 "QuietStairsModel" "many" "I") fwX8_makePlan_1) (fun _ h9 => h9) rfl (by decide +kernel) rfl rfl (Nat.le_of_ble_eq_true rfl) dX8_makePlan_55 (fun H locs hP hD hS => ?_)
            obtain ⟨v_14, ev_14⟩ : ∃ u : Nat → Nat → Int32, u = upr v_11 0 (upd (v_11 0) 5 x_13) := ⟨_, rfl⟩
            have hP : va_P (dC, dI) vwCl (wm ad cy v_14) H := by rw [ev_14, ← wm_put (e := _) rc_0]; exact hP
            have hD : va_D A (wm ad cy v_14) := by rw [ev_14, ← wm_put (e := _) rc_0]; exact hD
            have hv : Ir v_14 := by rw [ev_14]; exact hv.put (k := 0) (fun h q => by rw [show br 0 5 = some 4 from by decide] at q; cases q; exact ⟨by omega, by omega⟩)
            have hfr : Fq v v_14 := by rw [ev_14]; exact hfr.fld (by decide)
            obtain ⟨x_15, ex_15⟩ : ∃ y : Int32, y = y2_1 + 1 := ⟨_, rfl⟩
            refine lv_iinc (v := x_15) (lv' := [(1, .int x_15), (0, .ref (ad 0))]) hx hb dX8_makePlan_58 hl (k := 0) rfl (by rw [ex_15]; rfl) (by decide) rfl (fun ls hl => ?_)
            have tx_15 : x_15.toInt = y2_1.toInt + (1 : Int32).toInt := by rw [ex_15]; exact t_add ⟨by omega, by omega⟩
            refine lv_goto (tgt := 7) hx hb dX8_makePlan_61 (by decide) ?_
            exact ih_2 x_15 v_14 _ _ (by omega) (by omega) (by omega) hv hfr hP hD hS ls (lv_sub hl [0, 1] rfl)
  exact hc_2 ((6 - (0 : Int32).toInt).toNat + 1) 0 v_1 _ _ (by omega) (by omega) (by omega) hv hfr hP hD hS ls (lv_sub hl [0, 1] rfl)

set_option maxHeartbeats 4000000 in
set_option maxRecDepth 100000 in
theorem q_X8_plan (l : Launch) (dC : Nat → ClassId) (dI : Nat → Nat → Nat) (cy : Nat → ClassId) (sz : Nat) (ad : Nat → Nat) (v : Nat → Nat → Int32) (hv : Ir v) (x0 : Int32) : Met l yX8_plan wsX8_plan ({ frames := 5, cells := 0, slots := 0, locals := 320 }) (va_Pc [.ref (ad 0), .int x0] (ex_Pre dC dI cy sz (wm ad cy v))) (va_Qi (fun (r : Int32) (u : Nat → Nat → Int32) => Ir u ∧ Fq v u) (fun u t => ex_Pst dC dI (va_A (wm ad cy v) sz) (wm ad cy u) t) (va_A (wm ad cy v) sz)) 0 0 (va_A (wm ad cy v) sz) := by
  refine Met.ofW (cc := cX8_plan) (maxL := 3) (ret := (some .int)) (by decide) rfl ?_
  intro p e s m args below meth c s₁ B hml hv
  obtain ⟨rfl, hsz, hE, hP, hK, hD0⟩ := hv
  have hx := B.exec
  have hb := B.bytes
  have hr := B.returns
  have hts := atoms_spec (ws := wsX8_plan) B.pre
  have hown : s.vm.findClass RX8 = some m.cls := findClass_of_methodNamed B.named
  have hlocks := B.notSynchronized
  subst hsz
  have hD := hD0.self (sz := s.heap.size)
  generalize hAe : va_A (wm ad cy v) s.heap.size = A at hD ⊢
  have hA : ∀ q : Nat, s.heap.size ≤ q → A q := fun q h => by rw [← hAe]; exact Or.inr h
  have hS : va_S A s.heap s.heap [] := va_S.rf
  have hP : va_P (dC, dI) vwCl (wm ad cy v) s.heap := hP
  have hl := lv_entry ([.ref (ad 0), .int x0]) (n := 3) (Nat.le_of_ble_eq_true rfl)
  rw [lg_entry_eq]
  generalize (lg_sl ([.ref (ad 0), .int x0]) ++ List.replicate (3 - (lg_sl ([.ref (ad 0), .int x0])).length) Slot.unset).toArray = ls at hl ⊢
  have hl : lv_has ls 3 [(0, .ref (ad 0)), (1, .int x0)] := hl
  have hfr : Fq v v := Fq.rf
  refine lv_aload_n hx hb dX8_plan_0 rfl (lv_at hl 0 rfl) ?_
  refine lv_iload_n hx hb dX8_plan_1 rfl (lv_at hl 1 rfl) ?_
  refine yw_i (w1 := fun (u : Nat → Nat → Int32) => wm ad cy u) hD hS hA (va_runV (As := [.int x0]) (rest := []) ⟨hx, hb, hml, hown, hts⟩ (q_X8_isCase l dC dI cy _ ad v hv x0) (cwV 1 hts gX8_plan_X8_isCase rfl rfl rfl hd_V_X8_isCase_1 ⟨Nat.le_of_ble_eq_true rfl, Nat.le_of_ble_eq_true rfl⟩) (yw_preV hE hK hP hD (ci := 8) (q := (RX8, TX8, 11)) (q0 := 0) rfl (wm_at (by decide) rc_0)) rfl rfl hl.1 rfl (lv_room (Nat.le_of_ble_eq_true rfl)) dX8_plan_2 ⟨Nat.le_of_ble_eq_true rfl, Nat.le_of_ble_eq_true rfl⟩) (fun r_1 v_1 H locs hw_1 hP hD hS => ?_)
  obtain ⟨-, hu_1, hw_1⟩ := hw_1
  replace hu_1 := hu_1.symm
  subst hu_1
  rcases hw_1 with ⟨rfl, ha_2⟩ | ⟨rfl, ha_2⟩
  · have hb_2 := hv 1 2 6 (by decide)
    have hj_2 : 0 ≤ x0.toInt ∧ x0.toInt ≤ 5 := ⟨by omega, by omega⟩
    refine lv_if_ne (tgt := 10) hx hb dX8_plan_5 (by decide) (fun _ => ?_) (fun c9 => absurd c9 (by decide))
    refine lv_aload_n hx hb dX8_plan_10 rfl (lv_at hl 0 rfl) ?_
    refine va_get (D := (dC, dI)) (ci := 8) (v := .ref (ad 1)) (C := RX8) (T := TX8) (N := 11) hx hb hts iwX8_plan_X8 hown hK hP (0) (wm_at (by decide) rc_0) rfl 0 (by decide) (hts (.fieldLink RX8 7 "QuietStairsModel" "s" "[I") fwX8_plan_1) (fun _ h9 => h9) rfl dX8_plan_11 ?_
    refine lv_iload_n hx hb dX8_plan_14 rfl (lv_at hl 1 rfl) ?_
    refine lv_iconst (v := 2) hx hb dX8_plan_15 (by decide) ?_
    refine yc_p hP hS (va_runS (As := [.int x0, .int 2]) (rest := [.ref (ad 1)]) ⟨hx, hb, hml, hown, hts⟩ (c_X8_at l x0 2) (cwS 2 hts gX8_plan_X8_at rfl rfl rfl hd_S_X8_at_2 ⟨Nat.le_of_ble_eq_true rfl, Nat.le_of_ble_eq_true rfl⟩) ex_preP rfl rfl hl.1 rfl (lv_room (Nat.le_of_ble_eq_true rfl)) dX8_plan_16 ⟨Nat.le_of_ble_eq_true rfl, Nat.le_of_ble_eq_true rfl⟩) (fun r_3 H locs hw_3 hP hS => ?_)
    have k_2 : (2 : Int32).toInt = 2 := by decide
    have tr_3 : r_3.toInt = 32 + 7 * x0.toInt + (2 : Int32).toInt := t_at hw_3 ⟨by omega, by omega⟩ ⟨by omega, by omega⟩
    refine va_iald hx hb hK hP (1) 0 (wm_at (by decide) rc_1) rfl (vp_in_iff.mpr ⟨by omega, by omega⟩) dX8_plan_19 ?_
    refine lv_topi (fun x_4 ex_4 => ?_)
    have k_0 : (0 : Int32).toInt = 0 := by decide
    refine lv_if_eq (tgt := 26) hx hb dX8_plan_20 (by decide) (fun c_5 => ?_) (fun c_5 => ?_)
    · have tc_5 : x_4.toInt = (0 : Int32).toInt := by rw [c_5]
      refine lv_aload_n hx hb dX8_plan_26 rfl (lv_at hl 0 rfl) ?_
      refine yw_v (w1 := fun (u : Nat → Nat → Int32) => wm ad cy u) hD hS hA (va_runV (As := []) (rest := []) ⟨hx, hb, hml, hown, hts⟩ (q_X8_makePlan l dC dI cy _ ad v hv ) (cwV 0 hts gX8_plan_X8_makePlan rfl rfl rfl hd_V_X8_makePlan_0 ⟨Nat.le_of_ble_eq_true rfl, Nat.le_of_ble_eq_true rfl⟩) (yw_preV hE hK hP hD (ci := 8) (q := (RX8, TX8, 11)) (q0 := 0) rfl (wm_at (by decide) rc_0)) rfl rfl hl.1 rfl (lv_room (Nat.le_of_ble_eq_true rfl)) dX8_plan_27 ⟨Nat.le_of_ble_eq_true rfl, Nat.le_of_ble_eq_true rfl⟩) (fun v_6 H locs hw_6 hP hD hS => ?_)
      obtain ⟨hv, hf_6⟩ := hw_6
      have hfr : Fq v v_6 := hfr.trans hf_6
      refine lv_iconst (v := 0) hx hb dX8_plan_30 (by decide) ?_
      refine lv_istore_n (lv' := [(2, .int 0), (0, .ref (ad 0)), (1, .int x0)]) hx hb dX8_plan_31 rfl hl (by decide) rfl (fun ls hl => ?_)
      have hc_7 : ∀ (n : Nat) (y7_2 : Int32) (H : Heap) (locs : List Loc), 0 ≤ y7_2.toInt → y7_2.toInt ≤ 4 → (4 - y7_2.toInt).toNat < n → va_P (dC, dI) vwCl (wm ad cy v_6) H → va_D A (wm ad cy v_6) → va_S A s.heap H locs → ∀ ls : Array Slot, lv_has ls 3 [(2, .int y7_2), (0, .ref (ad 0)), (1, .int x0)] → W p l e (headSpec wsX8_plan ({ frames := 5, cells := 0, slots := 0, locals := 320 })).room s m [Value.ref (ad 0), Value.int x0].toArray below meth c H locs 0 0 (MQ below (va_Qi (fun (r : Int32) (u : Nat → Nat → Int32) => Ir u ∧ Fq v u) (fun u t => ex_Pst dC dI A (wm ad cy u) t) A) [Value.ref (ad 0), Value.int x0].toArray s 0 0 A) (F0 m 32 ls []) := by
        intro n
        induction n with
        | zero =>
          intro y7_2 H locs ay7_2 by7_2 hm_7 hP hD hS ls hl
          exact absurd hm_7 (by omega)
        | succ n ih_7 =>
          intro y7_2 H locs ay7_2 by7_2 hm_7 hP hD hS ls hl
          refine lv_iload_n hx hb dX8_plan_32 rfl (lv_at hl 0 rfl) ?_
          refine lv_aload_n hx hb dX8_plan_33 rfl (lv_at hl 1 rfl) ?_
          refine va_get (D := (dC, dI)) (ci := 8) (v := .int (v_6 0 5)) (C := RX8) (T := TX8) (N := 11) hx hb hts iwX8_plan_X8 hown hK hP (0) (wm_at (by decide) rc_0) rfl 5 (by decide) (hts (.fieldLink RX8 79 "QuietStairsModel" "many" "I") fwX8_plan_2) (fun _ h9 => h9) rfl dX8_plan_34 ?_
          refine lv_topi (fun x_8 ex_8 => ?_)
          have bzx_8 : 0 ≤ x_8.toInt ∧ x_8.toInt ≤ 4 := by rw [ex_8]; exact hv 0 5 4 (by decide)
          refine lv_icmp_ge (tgt := 74) hx hb dX8_plan_37 (by decide) (fun c_9 => ?_) (fun c_9 => ?_)
          · have tc_9 : y7_2.toInt ≥ x_8.toInt := Int32.le_iff_toInt_le.mp c_9
            refine lv_bipush (v := (-5)) hx hb dX8_plan_74 (by decide) ?_
            exact W.iret (v := (-5)) hx hb hr (fun t ht hW => ⟨⟨(-5), v_6, rfl, ⟨hv, hfr⟩, by rw [ht]; exact hP, hD⟩, hS.F ht⟩) hS.2.2 dX8_plan_76
          · have tc_9 : y7_2.toInt < x_8.toInt := Int32.lt_iff_toInt_lt.mp (Int32.not_le.mp c_9)
            refine lv_aload_n hx hb dX8_plan_40 rfl (lv_at hl 1 rfl) ?_
            refine va_get (D := (dC, dI)) (ci := 8) (v := .ref (ad 4)) (C := RX8) (T := TX8) (N := 11) hx hb hts iwX8_plan_X8 hown hK hP (0) (wm_at (by decide) rc_0) rfl 6 (by decide) (hts (.fieldLink RX8 23 "QuietStairsModel" "planned" "[I") fwX8_plan_3) (fun _ h9 => h9) rfl dX8_plan_41 ?_
            refine lv_iload_n hx hb dX8_plan_44 rfl (lv_at hl 0 rfl) ?_
            refine va_iald hx hb hK hP (4) 0 (wm_at (by decide) rc_4) rfl (vp_in_iff.mpr ⟨by omega, by omega⟩) dX8_plan_45 ?_
            refine lv_topi (fun x_10 ex_10 => ?_)
            have bzx_10 : 0 ≤ x_10.toInt ∧ x_10.toInt ≤ 5 := by rw [ex_10]; exact hv 4 _ 5 rfl
            refine lv_iload_n hx hb dX8_plan_46 rfl (lv_at hl 2 rfl) ?_
            refine lv_icmp_ne (tgt := 68) hx hb dX8_plan_47 (by decide) (fun c_11 => ?_) (fun c_11 => ?_)
            · have tc_11 : x_10.toInt ≠ x0.toInt := fun q => absurd (Int32.toInt_inj.mp q) c_11
              obtain ⟨x_12, ex_12⟩ : ∃ y : Int32, y = y7_2 + 1 := ⟨_, rfl⟩
              refine lv_iinc (v := x_12) (lv' := [(2, .int x_12), (0, .ref (ad 0)), (1, .int x0)]) hx hb dX8_plan_68 hl (k := 0) rfl (by rw [ex_12]; rfl) (by decide) rfl (fun ls hl => ?_)
              have k_1 : (1 : Int32).toInt = 1 := by decide
              have tx_12 : x_12.toInt = y7_2.toInt + (1 : Int32).toInt := by rw [ex_12]; exact t_add ⟨by omega, by omega⟩
              refine lv_goto (tgt := 32) hx hb dX8_plan_71 (by decide) ?_
              exact ih_7 x_12 _ _ (by omega) (by omega) (by omega) hP hD hS ls (lv_sub hl [0, 1, 2] rfl)
            · have tc_11 : x_10.toInt = x0.toInt := by rw [c_11]
              refine lv_aload_n hx hb dX8_plan_50 rfl (lv_at hl 1 rfl) ?_
              refine va_get (D := (dC, dI)) (ci := 8) (v := .ref (ad 6)) (C := RX8) (T := TX8) (N := 11) hx hb hts iwX8_plan_X8 hown hK hP (0) (wm_at (by decide) rc_0) rfl 8 (by decide) (hts (.fieldLink RX8 29 "QuietStairsModel" "best" "[I") fwX8_plan_4) (fun _ h9 => h9) rfl dX8_plan_51 ?_
              refine lv_iload_n hx hb dX8_plan_54 rfl (lv_at hl 0 rfl) ?_
              refine va_iald hx hb hK hP (6) 0 (wm_at (by decide) rc_6) rfl (vp_in_iff.mpr ⟨by omega, by omega⟩) dX8_plan_55 ?_
              refine lv_topi (fun x_12 ex_12 => ?_)
              refine lv_bipush (v := 18) hx hb dX8_plan_56 (by decide) ?_
              have k_18 : (18 : Int32).toInt = 18 := by decide
              refine lv_icmp_eq (tgt := 68) hx hb dX8_plan_58 (by decide) (fun c_13 => ?_) (fun c_13 => ?_)
              · have tc_13 : x_12.toInt = (18 : Int32).toInt := by rw [c_13]
                obtain ⟨x_14, ex_14⟩ : ∃ y : Int32, y = y7_2 + 1 := ⟨_, rfl⟩
                refine lv_iinc (v := x_14) (lv' := [(2, .int x_14), (0, .ref (ad 0)), (1, .int x0)]) hx hb dX8_plan_68 hl (k := 0) rfl (by rw [ex_14]; rfl) (by decide) rfl (fun ls hl => ?_)
                have k_1 : (1 : Int32).toInt = 1 := by decide
                have tx_14 : x_14.toInt = y7_2.toInt + (1 : Int32).toInt := by rw [ex_14]; exact t_add ⟨by omega, by omega⟩
                refine lv_goto (tgt := 32) hx hb dX8_plan_71 (by decide) ?_
                exact ih_7 x_14 _ _ (by omega) (by omega) (by omega) hP hD hS ls (lv_sub hl [0, 1, 2] rfl)
              · have tc_13 : x_12.toInt ≠ (18 : Int32).toInt := fun q => absurd (Int32.toInt_inj.mp q) c_13
                refine lv_aload_n hx hb dX8_plan_61 rfl (lv_at hl 1 rfl) ?_
                refine va_get (D := (dC, dI)) (ci := 8) (v := .ref (ad 6)) (C := RX8) (T := TX8) (N := 11) hx hb hts iwX8_plan_X8 hown hK hP (0) (wm_at (by decide) rc_0) rfl 8 (by decide) (hts (.fieldLink RX8 29 "QuietStairsModel" "best" "[I") fwX8_plan_4) (fun _ h9 => h9) rfl dX8_plan_62 ?_
                refine lv_iload_n hx hb dX8_plan_65 rfl (lv_at hl 0 rfl) ?_
                refine va_iald hx hb hK hP (6) 0 (wm_at (by decide) rc_6) rfl (vp_in_iff.mpr ⟨by omega, by omega⟩) dX8_plan_66 ?_
                refine lv_topi (fun x_14 ex_14 => ?_)
                obtain rfl : x_12 = x_14 := (ex_14.trans ex_12.symm).symm
                exact W.iret (v := x_12) hx hb hr (fun t ht hW => ⟨⟨x_12, v_6, rfl, ⟨hv, hfr⟩, by rw [ht]; exact hP, hD⟩, hS.F ht⟩) hS.2.2 dX8_plan_67
      exact hc_7 ((4 - (0 : Int32).toInt).toNat + 1) 0 _ _ (by omega) (by omega) (by omega) hP hD hS ls (lv_sub hl [0, 1, 2] rfl)
    · have tc_5 : x_4.toInt ≠ (0 : Int32).toInt := fun q => absurd (Int32.toInt_inj.mp q) c_5
      refine lv_bipush (v := (-4)) hx hb dX8_plan_23 (by decide) ?_
      exact W.iret (v := (-4)) hx hb hr (fun t ht hW => ⟨⟨(-4), v, rfl, ⟨hv, hfr⟩, by rw [ht]; exact hP, hD⟩, hS.F ht⟩) hS.2.2 dX8_plan_25
  · refine lv_if_ne (tgt := 10) hx hb dX8_plan_5 (by decide) (fun c9 => absurd c9 (by decide)) (fun _ => ?_)
    refine lv_iconst (v := (-1)) hx hb dX8_plan_8 (by decide) ?_
    exact W.iret (v := (-1)) hx hb hr (fun t ht hW => ⟨⟨(-1), v, rfl, ⟨hv, hfr⟩, by rw [ht]; exact hP, hD⟩, hS.F ht⟩) hS.2.2 dX8_plan_9

set_option maxHeartbeats 4000000 in
set_option maxRecDepth 100000 in
theorem q_X8_waits (l : Launch) (dC : Nat → ClassId) (dI : Nat → Nat → Nat) (cy : Nat → ClassId) (sz : Nat) (ad : Nat → Nat) (v : Nat → Nat → Int32) (hv : Ir v)  : Met l yX8_waits wsX8_waits ({ frames := 5, cells := 0, slots := 0, locals := 320 }) (va_Pc [.ref (ad 0)] (ex_Pre dC dI cy sz (wm ad cy v))) (va_Qi (fun (r : Int32) (u : Nat → Nat → Int32) => Ir u ∧ Fq v u) (fun u t => ex_Pst dC dI (va_A (wm ad cy v) sz) (wm ad cy u) t) (va_A (wm ad cy v) sz)) 0 0 (va_A (wm ad cy v) sz) := by
  refine Met.ofW (cc := cX8_waits) (maxL := 1) (ret := (some .int)) (by decide) rfl ?_
  intro p e s m args below meth c s₁ B hml hv
  obtain ⟨rfl, hsz, hE, hP, hK, hD0⟩ := hv
  have hx := B.exec
  have hb := B.bytes
  have hr := B.returns
  have hts := atoms_spec (ws := wsX8_waits) B.pre
  have hown : s.vm.findClass RX8 = some m.cls := findClass_of_methodNamed B.named
  have hlocks := B.notSynchronized
  subst hsz
  have hD := hD0.self (sz := s.heap.size)
  generalize hAe : va_A (wm ad cy v) s.heap.size = A at hD ⊢
  have hA : ∀ q : Nat, s.heap.size ≤ q → A q := fun q h => by rw [← hAe]; exact Or.inr h
  have hS : va_S A s.heap s.heap [] := va_S.rf
  have hP : va_P (dC, dI) vwCl (wm ad cy v) s.heap := hP
  have hl := lv_entry ([.ref (ad 0)]) (n := 1) (Nat.le_of_ble_eq_true rfl)
  rw [lg_entry_eq]
  generalize (lg_sl ([.ref (ad 0)]) ++ List.replicate (1 - (lg_sl ([.ref (ad 0)])).length) Slot.unset).toArray = ls at hl ⊢
  have hl : lv_has ls 1 [(0, .ref (ad 0))] := hl
  have hfr : Fq v v := Fq.rf
  refine lv_aload_n hx hb dX8_waits_0 rfl (lv_at hl 0 rfl) ?_
  refine yw_v (w1 := fun (u : Nat → Nat → Int32) => wm ad cy u) hD hS hA (va_runV (As := []) (rest := []) ⟨hx, hb, hml, hown, hts⟩ (q_X8_makePlan l dC dI cy _ ad v hv ) (cwV 0 hts gX8_waits_X8_makePlan rfl rfl rfl hd_V_X8_makePlan_0 ⟨Nat.le_of_ble_eq_true rfl, Nat.le_of_ble_eq_true rfl⟩) (yw_preV hE hK hP hD (ci := 8) (q := (RX8, TX8, 11)) (q0 := 0) rfl (wm_at (by decide) rc_0)) rfl rfl hl.1 rfl (lv_room (Nat.le_of_ble_eq_true rfl)) dX8_waits_1 ⟨Nat.le_of_ble_eq_true rfl, Nat.le_of_ble_eq_true rfl⟩) (fun v_1 H locs hw_1 hP hD hS => ?_)
  obtain ⟨hv, hf_1⟩ := hw_1
  have hfr : Fq v v_1 := hfr.trans hf_1
  refine lv_aload_n hx hb dX8_waits_4 rfl (lv_at hl 0 rfl) ?_
  refine va_get (D := (dC, dI)) (ci := 8) (v := .int (v_1 0 9)) (C := RX8) (T := TX8) (N := 11) hx hb hts iwX8_waits_X8 hown hK hP (0) (wm_at (by decide) rc_0) rfl 9 (by decide) (hts (.fieldLink RX8 85 "QuietStairsModel" "least" "I") fwX8_waits_1) (fun _ h9 => h9) rfl dX8_waits_5 ?_
  refine lv_topi (fun x_2 ex_2 => ?_)
  exact W.iret (v := x_2) hx hb hr (fun t ht hW => ⟨⟨x_2, v_1, rfl, ⟨hv, hfr⟩, by rw [ht]; exact hP, hD⟩, hS.F ht⟩) hS.2.2 dX8_waits_8
theorem kb_l : ∀ k, k < 119 → (kd k = 3 → k + 3 < 119) ∧ (kd k = 4 → k + 10 < 119) ∧ (kd k = 5 → k + 13 < 119) ∧ (kd k = 6 → k + 88 < 119) ∧ (kd k = 9 → k + 9 < 119) ∧ (kd k = 11 → k + 2 < 119) ∧ (kd k = 13 → k + 2 < 119) ∧ (kd k = 15 → k + 5 < 119) := by decide
theorem kd_19 : ∀ k, k < 119 → k = 0 ∨ kd k = 1 ∨ kd k = 2 ∨ kd k = 3 ∨ kd k = 4 ∨ kd k = 5 ∨ kd k = 6 ∨ kd k = 7 ∨ kd k = 8 ∨ kd k = 9 ∨ kd k = 10 ∨ kd k = 11 ∨ kd k = 12 ∨ kd k = 13 ∨ kd k = 14 ∨ kd k = 15 ∨ kd k = 16 ∨ kd k = 17 ∨ kd k = 18 ∨ kd k = 19 ∨ kd k = 20 ∨ kd k = 21 := by decide
theorem kd_06 : ∀ o, o < 106 → kd (119 + o) = kd (13 + o) ∧ (kd (13 + o) = 3 ∨ kd (13 + o) = 4 ∨ kd (13 + o) = 5 ∨ kd (13 + o) = 6 ∨ kd (13 + o) = 7 ∨ kd (13 + o) = 8 ∨ kd (13 + o) = 9 ∨ kd (13 + o) = 10 ∨ kd (13 + o) = 11 ∨ kd (13 + o) = 12 ∨ kd (13 + o) = 13 ∨ kd (13 + o) = 14 ∨ kd (13 + o) = 15 ∨ kd (13 + o) = 16 ∨ kd (13 + o) = 20) := by decide
theorem fn_eq {n : Nat} {f g : Nat → Nat} (h : ∀ i, i < n → f i = g i) : (fun i => if i < n then some (f i) else none) = (fun i => if i < n then some (g i) else none) := by
  funext i
  by_cases hi : i < n
  · rw [if_pos hi, if_pos hi, h i hi]
  · rw [if_neg hi, if_neg hi]
/-- a place below 119, with other places from 119 on and another field kept -/
theorem ce_lo {ad ad' : Nat → Nat} {kv kv' : Value} {cy : Nat → ClassId} {k : Nat} {r : Nat → Int32} (h : ∀ j, j < 119 → ad' j = ad j) (hk : k < 119) (h0 : k ≠ 0) : ce ad' kv' cy k r = ce ad kv cy k r := by
  have hb := kb_l k hk
  rcases kd_19 k hk with q | q | q | q | q | q | q | q | q | q | q | q | q | q | q | q | q | q | q | q | q | q
  · exact absurd q h0
  · rw [ce_1 q, ce_1 q, h 2 (by omega), h 3 (by omega), h 4 (by omega), h 5 (by omega), h 6 (by omega), h 7 (by omega), h 8 (by omega), h 9 (by omega)]
  · rw [ce_2 q, ce_2 q, h 11 (by omega), h 12 (by omega)]
  · rw [ce_3 q, ce_3 q, h (k + 1) (by omega), h (k + 2) (by omega), h (k + 3) (by omega)]
  · rw [ce_4 q, ce_4 q]
    exact congrArg (fun z => (.inl (cy 1, 8, .inr (.inr (.inr (.inr z)))) : va_E)) (fn_eq fun i hi => h _ (by omega))
  · rw [ce_5 q, ce_5 q]
    exact congrArg (fun z => (.inl (cy 2, 4, .inr (.inr (.inr (.inr z)))) : va_E)) (fn_eq fun i hi => h _ (by omega))
  · rw [ce_6 q, ce_6 q]
    exact congrArg (fun z => (.inl (cy 3, 6, .inr (.inr (.inr (.inr z)))) : va_E)) (fn_eq fun i hi => h _ (by omega))
  · rw [ce_7 q, ce_7 q]
  · rw [ce_8 q, ce_8 q]
  · rw [ce_9 q, ce_9 q, h (k + 1) (by omega), h (k + 2) (by omega), h (k + 3) (by omega), h (k + 6) (by omega), h (k + 9) (by omega)]
  · rw [ce_10 q, ce_10 q]
  · rw [ce_11 q, ce_11 q]
    exact congrArg (fun z => (.inl (cy 5, 2, .inr (.inr (.inr (.inr z)))) : va_E)) (fn_eq fun i hi => h _ (by omega))
  · rw [ce_12 q, ce_12 q]
  · rw [ce_13 q, ce_13 q]
    exact congrArg (fun z => (.inl (cy 5, 2, .inr (.inr (.inr (.inr z)))) : va_E)) (fn_eq fun i hi => h _ (by omega))
  · rw [ce_14 q, ce_14 q]
  · rw [ce_15 q, ce_15 q]
    exact congrArg (fun z => (.inl (cy 4, 5, .inr (.inr (.inr (.inr z)))) : va_E)) (fn_eq fun i hi => h _ (by omega))
  · rw [ce_16 q, ce_16 q]
  · rw [ce_17 q, ce_17 q]
  · rw [ce_18 q, ce_18 q]
  · rw [ce_19 q, ce_19 q]
  · rw [ce_20 q, ce_20 q]
  · rw [ce_21 q, ce_21 q]
/-- a place of the kept House -/
theorem ce_hi {u ad' : Nat → Nat} {kv kv' : Value} {cy : Nat → ClassId} {o : Nat} {r : Nat → Int32} (hh : ∀ x, ad' (119 + x) = u (13 + x)) (ho : o < 106) : ce ad' kv' cy (119 + o) r = ce u kv cy (13 + o) r := by
  have e1 : ∀ a, ad' (119 + o + a) = u (13 + o + a) := fun a => by rw [Nat.add_assoc, hh, Nat.add_assoc]
  have e2 : ∀ a b, ad' (119 + o + a + b) = u (13 + o + a + b) := fun a b => by rw [Nat.add_assoc (119 + o), e1, Nat.add_assoc (13 + o)]
  obtain ⟨hd, hq⟩ := kd_06 o ho
  rcases hq with q | q | q | q | q | q | q | q | q | q | q | q | q | q | q
  · rw [ce_3 (hd.trans q), ce_3 q, e1, e1, e1]
  · rw [ce_4 (hd.trans q), ce_4 q]
    exact congrArg (fun z => (.inl (cy 1, 8, .inr (.inr (.inr (.inr z)))) : va_E)) (fn_eq fun i _ => e2 _ _)
  · rw [ce_5 (hd.trans q), ce_5 q]
    exact congrArg (fun z => (.inl (cy 2, 4, .inr (.inr (.inr (.inr z)))) : va_E)) (fn_eq fun i _ => e2 _ _)
  · rw [ce_6 (hd.trans q), ce_6 q]
    exact congrArg (fun z => (.inl (cy 3, 6, .inr (.inr (.inr (.inr z)))) : va_E)) (fn_eq fun i _ => e2 _ _)
  · rw [ce_7 (hd.trans q), ce_7 q]
  · rw [ce_8 (hd.trans q), ce_8 q]
  · rw [ce_9 (hd.trans q), ce_9 q, e1, e1, e1, e1, e1]
  · rw [ce_10 (hd.trans q), ce_10 q]
  · rw [ce_11 (hd.trans q), ce_11 q]
    exact congrArg (fun z => (.inl (cy 5, 2, .inr (.inr (.inr (.inr z)))) : va_E)) (fn_eq fun i _ => e2 _ _)
  · rw [ce_12 (hd.trans q), ce_12 q]
  · rw [ce_13 (hd.trans q), ce_13 q]
    exact congrArg (fun z => (.inl (cy 5, 2, .inr (.inr (.inr (.inr z)))) : va_E)) (fn_eq fun i _ => e2 _ _)
  · rw [ce_14 (hd.trans q), ce_14 q]
  · rw [ce_15 (hd.trans q), ce_15 q]
    exact congrArg (fun z => (.inl (cy 4, 5, .inr (.inr (.inr (.inr z)))) : va_E)) (fn_eq fun i _ => e2 _ _)
  · rw [ce_16 (hd.trans q), ce_16 q]
  · rw [ce_20 (hd.trans q), ce_20 q]
theorem wl_len {ad : Nat → Nat} {kv : Value} {cy : Nat → ClassId} {N : Nat} {v : Nat → Nat → Int32} : (wl ad kv cy N v).length = N := by
  unfold wl
  rw [List.length_map, List.length_range]
theorem wH_len {cy : Nat → ClassId} {u : Nat → Nat} : (wH cy u).length = 106 := by
  unfold wH
  rw [List.length_map, List.length_range]
/-- the first keep: the new House stands behind the world, the field kept names it -/
theorem keep_wl {dC : Nat → ClassId} {dI : Nat → Nat → Nat} {cy : Nat → ClassId} {A : Nat → Prop} {H : Heap} {ad u : Nat → Nat} {v : Nat → Nat → Int32} {k0 : Nat} (hu : u 13 = k0) (hP : va_P (dC, dI) vwCl ((wl ad .null cy 119 v ++ wH cy u).set 0 (ad 0, .inr (7, [.ref (ad 13), .ref (ad 1), .ref (ad 10), .ref k0, .int (v 0 4)]))) H) (hD : va_D A ((wl ad .null cy 119 v ++ wH cy u).set 0 (ad 0, .inr (7, [.ref (ad 13), .ref (ad 1), .ref (ad 10), .ref k0, .int (v 0 4)])))) : ∃ (ad' : Nat → Nat) (v' : Nat → Nat → Int32), (∀ k, k < 119 → ad' k = ad k) ∧ (∀ k, k < 119 → v' k = v k) ∧ (∀ k, 119 ≤ k → v' k = fun _ => 0) ∧ va_P (dC, dI) vwCl (wl ad' (.ref (ad' 119)) cy 225 v') H ∧ va_D A (wl ad' (.ref (ad' 119)) cy 225 v') := by
  subst hu
  obtain ⟨ad', had⟩ : ∃ ad' : Nat → Nat, ad' = fun k => if k < 119 then ad k else u (k - 106) := ⟨_, rfl⟩
  obtain ⟨v', hv'⟩ : ∃ v' : Nat → Nat → Int32, v' = fun k => if k < 119 then v k else fun _ => 0 := ⟨_, rfl⟩
  have al : ∀ k, k < 119 → ad' k = ad k := fun k hk => by
    rw [had]
    exact if_pos hk
  have ah : ∀ x, ad' (119 + x) = u (13 + x) := fun x => by
    have e : ad' (119 + x) = u (119 + x - 106) := by
      rw [had]
      exact if_neg (by omega)
    rw [e, show 119 + x - 106 = 13 + x from by omega]
  have vl : ∀ k, k < 119 → v' k = v k := fun k hk => by
    rw [hv']
    exact if_pos hk
  have vh : ∀ k, 119 ≤ k → v' k = fun _ => 0 := fun k hk => by
    rw [hv']
    exact if_neg (by omega)
  have hlen : (wl ad .null cy 119 v).length = 119 := wl_len
  have a119 : ad' 119 = u 13 := ah 0
  refine ⟨ad', v', al, vl, vh, wl_pi (fun k => k) (fun k hk => ?_) (fun i j _ _ h => h) hP hD⟩
  by_cases k0 : k = 0
  · subst k0
    have e0 : ce ad' (.ref (ad' 119)) cy 0 (v' 0) = .inr (7, [.ref (ad' 13), .ref (ad' 1), .ref (ad' 10), .ref (ad' 119), .int (v' 0 4)]) := ce_0 (by decide)
    rw [e0, al 0 (by decide), al 13 (by decide), al 1 (by decide), al 10 (by decide), a119, vl 0 (by decide)]
    exact List.getElem?_set_self (by rw [List.length_append, hlen]; omega)
  · rw [List.getElem?_set_ne (fun q => k0 q.symm)]
    by_cases h1 : k < 119
    · rw [List.getElem?_append_left (by rw [hlen]; exact h1), wl_at h1 rfl, al k h1, vl k h1, ce_lo (kv := .null) al h1 k0]
    · obtain ⟨o, rfl⟩ : ∃ o, k = 119 + o := ⟨k - 119, by omega⟩
      have ho : o < 106 := by omega
      rw [List.getElem?_append_right (by rw [hlen]; omega), hlen, show 119 + o - 119 = o from by omega, ah, vh _ (by omega), ce_hi (kv := .null) ah ho]
      unfold wH
      rw [List.getElem?_map, List.getElem?_range ho]
      rfl
theorem Iv_k {v v' : Nat → Nat → Int32} (hv : Iv v) (vl : ∀ k, k < 119 → v' k = v k) (vh : ∀ k, 119 ≤ k → v' k = fun _ => 0) : Iv v' := by
  intro k j h q
  by_cases hk : k < 119
  · rw [vl k hk]
    exact hv k j h q
  · have z : (0 : Int32).toInt = 0 := by decide
    rw [vh k (by omega), z]
    refine ⟨Int.le_refl 0, ?_⟩
    unfold bd at q
    split at q <;> (repeat' split at q) <;> first | (cases q; decide) | cases q
/-- places of the first of two worlds that lie side by side, and of the second -/
theorem at_left (X Y : va_W) : (List.range X.length).map (fun i => (X ++ Y)[i]?) = X.map some := at_range X Y
theorem at_right (X Y : va_W) : ((List.range Y.length).map (fun i => X.length + i)).map (fun i => (X ++ Y)[i]?) = Y.map some := by
  rw [List.map_map]
  apply List.ext_getElem?
  intro i
  rw [List.getElem?_map, List.getElem?_map]
  by_cases h : i < Y.length
  · rw [List.getElem?_range h]
    show some ((X ++ Y)[X.length + i]?) = _
    rw [List.getElem?_append_right (Nat.le_add_right _ _), Nat.add_sub_cancel_left, List.getElem?_eq_getElem h]
    rfl
  · rw [List.getElem?_eq_none (by rw [List.length_range]; omega), List.getElem?_eq_none (by omega)]
    rfl
theorem nd_shift : ∀ a n, va_nd ((List.range n).map (fun i => a + i)) = true := by
  have key : ∀ (l : List Nat), l.Nodup → va_nd l = true := by
    intro l
    induction l with
    | nil => intro _; rfl
    | cons a l ih =>
      intro h
      obtain ⟨h1, h2⟩ := List.nodup_cons.mp h
      show (decide (a ∉ l) && va_nd l) = true
      rw [ih h2, decide_eq_true h1]
      rfl
  intro a n
  refine key _ ?_
  rw [show (fun i => a + i) = (a + ·) from rfl, ← List.range'_eq_map_range]
  exact List.nodup_range'
section YL
variable {p : Program} {l : Launch} {e : Env} {R : Room} {s : State} {m : MethodId} {args : Array Value} {below : List Frame} {meth : Method} {c : Code} {H : Heap} {locs : List Loc} {cells slots : Nat} {Q : State → Prop}
variable {pc : Nat} {ls : Array Slot} {rest st0 : List Value} {a : Array Value} {A : Nat → Prop} {H0 : Heap} {mc ms : Nat} {dC : Nat → ClassId} {dI : Nat → Nat → Nat} {cy : Nat → ClassId} {X Y : va_W}
theorem yl_P (hP : va_P (dC, dI) vwCl (X ++ Y) H) : va_P (dC, dI) vwCl X H := fun k q h => hP k q (by
  rw [List.getElem?_append_left (List.getElem?_eq_some_iff.mp h).1]
  exact h)
theorem yl_D (hD : va_D A (X ++ Y)) : va_D A X := hD.sub (List.range X.length) (nd_range _) (at_left X Y)
/-- a call whose callee owns the first of two worlds: behind it stands the other one first -/
theorem yl_i {S : Type} {post : Int32 → S → Prop} {w1 : S → va_W} (hP : va_P (dC, dI) vwCl (X ++ Y) H) (hD : va_D A (X ++ Y)) (hS : va_S A H0 H locs) (hA : ∀ q, H0.size ≤ q → A q)
    (hr : va_Run p l e R s m args below meth c H locs cells slots mc ms (F0 m pc ls st0) rest (va_Qi post (fun u t => ex_Pst dC dI (va_A X H.size) (w1 u) t) (va_A X H.size) a) (va_A X H.size))
    (kk : ∀ (r : Int32) (u : S) (H1 : Heap) (locs1 : List Loc), post r u → va_P (dC, dI) vwCl (Y ++ w1 u) H1 → va_D A (Y ++ w1 u) → va_S A H0 H1 locs1 → W p l e R s m args below meth c H1 locs1 (cells + mc) (slots + ms) Q (F0 m (pc + 3) ls (.int r :: rest))) : W p l e R s m args below meth c H locs cells slots Q (F0 m pc ls st0) := by
  have hF := yw_F (yl_D hD) hS hA
  refine va_calli hr hS (fun q _ h => hF q h) hF (fun r u t H1 locs1 ht hvm hw hB hz1 hk1 hS1 => ?_)
  obtain ⟨hP1, hD1⟩ := hB
  rw [ht] at hP1
  obtain ⟨hP2, hD2⟩ := va_join hP hD (List.range X.length) ((List.range Y.length).map (fun i => X.length + i)) (at_left X Y) (at_right X Y) (nd_shift _ _) (fun i hi => by
    obtain ⟨j, -, rfl⟩ := List.mem_map.mp hi
    intro h2
    have h3 := List.mem_range.mp h2
    omega) hk1 hF hP1 hD1
  exact kk r u H1 locs1 hw hP2 hD2 hS1
theorem yl_preV {As : List Value} {b q0 ci : Nat} {q : vw_C} {fs : List Value} (hE : ex_K s) (hK : va_K (dC, dI) vwCl (ty_L cy) s) (hP : va_P (dC, dI) vwCl (X ++ Y) H) (hD : va_D A (X ++ Y)) (hc : vwCl[ci]? = some q) (he : X[q0]? = some (b, .inr (ci, fs))) : PreV s H q.1 b (va_Pc (.ref b :: As) (ex_Pre dC dI cy H.size X)) As :=
  yw_preV hE hK (yl_P hP) (yl_D hD) hc he
end YL
def m_0 : Nat → Nat → Int32 := fun k j => if k = 0 ∧ j = 3 then 1 else 0
/-- the reference's new object -/
theorem ref_wm {cy : Nat → ClassId} {g0 g1 g2 g3 g4 g5 g6 g7 : Nat} : ([(g0, .inr (8, [.ref g1, .ref g2, .int 0, .int 1, .ref g3, .int 0, .ref g4, .ref g5, .ref g6, .int 0, .ref g7])), (g1, .inl (cy 0, 596, .inl (fun _ => 0))), (g2, .inl (cy 0, 596, .inl (fun _ => 0))), (g3, .inl (cy 0, 6, .inl (fun _ => 0))), (g4, .inl (cy 0, 4, .inl (fun _ => 0))), (g5, .inl (cy 0, 5, .inl (fun _ => 0))), (g6, .inl (cy 0, 4, .inl (fun _ => 0))), (g7, .inl (cy 0, 6, .inl (fun _ => 0)))] : va_W) = wm (fun k => ([g0, g1, g2, g3, g4, g5, g6, g7] : List Nat).getD k 0) cy m_0 := rfl
theorem Ir_0 : Ir m_0 := by
  intro k j h q
  have key : ∀ x : Int32, x = 0 → 0 ≤ h → 0 ≤ x.toInt ∧ x.toInt ≤ h := fun x hx hh => by
    subst hx
    have z : (0 : Int32).toInt = 0 := by decide
    omega
  by_cases hk : k = 0 ∧ j = 3
  · obtain ⟨rfl, rfl⟩ := hk
    exact absurd q (by
      have : br 0 3 = none := by decide
      rw [this]
      intro z
      cases z)
  · refine key _ (if_neg hk) ?_
    unfold br at q
    split at q
    · repeat' split at q
      all_goals first | (cases q; decide) | cases q
    · unfold bS at q
      repeat' split at q
      all_goals first | (cases q; decide) | cases q
    · unfold bS at q
      repeat' split at q
      all_goals first | (cases q; decide) | cases q
    · cases q
      decide
    · cases q
      decide
    · cases q
set_option maxRecDepth 20000 in
theorem db_X8_init_0 : (decode cX8_init 0 = .ok (.aload_n 0, 1)) ∧ (decode cX8_init 1 = .ok (.invokespecial 1, 3)) ∧ (decode cX8_init 4 = .ok (.aload_n 0, 1)) ∧ (decode cX8_init 5 = .ok (.sipush 596, 3)) ∧ (decode cX8_init 8 = .ok (.newarray .int, 2)) ∧ (decode cX8_init 10 = .ok (.putfield 7, 3)) ∧ (decode cX8_init 13 = .ok (.aload_n 0, 1)) ∧ (decode cX8_init 14 = .ok (.sipush 596, 3)) := by decide +kernel
theorem dX8_init_0 : decode cX8_init 0 = .ok (.aload_n 0, 1) := db_X8_init_0.1
theorem dX8_init_1 : decode cX8_init 1 = .ok (.invokespecial 1, 3) := db_X8_init_0.2.1
theorem dX8_init_4 : decode cX8_init 4 = .ok (.aload_n 0, 1) := db_X8_init_0.2.2.1
theorem dX8_init_5 : decode cX8_init 5 = .ok (.sipush 596, 3) := db_X8_init_0.2.2.2.1
theorem dX8_init_8 : decode cX8_init 8 = .ok (.newarray .int, 2) := db_X8_init_0.2.2.2.2.1
theorem dX8_init_10 : decode cX8_init 10 = .ok (.putfield 7, 3) := db_X8_init_0.2.2.2.2.2.1
theorem dX8_init_13 : decode cX8_init 13 = .ok (.aload_n 0, 1) := db_X8_init_0.2.2.2.2.2.2.1
theorem dX8_init_14 : decode cX8_init 14 = .ok (.sipush 596, 3) := db_X8_init_0.2.2.2.2.2.2.2
set_option maxRecDepth 20000 in
theorem db_X8_init_17 : (decode cX8_init 17 = .ok (.newarray .int, 2)) ∧ (decode cX8_init 19 = .ok (.putfield 13, 3)) ∧ (decode cX8_init 22 = .ok (.aload_n 0, 1)) ∧ (decode cX8_init 23 = .ok (.iconst 1, 1)) ∧ (decode cX8_init 24 = .ok (.putfield 16, 3)) ∧ (decode cX8_init 27 = .ok (.aload_n 0, 1)) ∧ (decode cX8_init 28 = .ok (.bipush 6, 2)) ∧ (decode cX8_init 30 = .ok (.newarray .int, 2)) := by decide +kernel
theorem dX8_init_17 : decode cX8_init 17 = .ok (.newarray .int, 2) := db_X8_init_17.1
theorem dX8_init_19 : decode cX8_init 19 = .ok (.putfield 13, 3) := db_X8_init_17.2.1
theorem dX8_init_22 : decode cX8_init 22 = .ok (.aload_n 0, 1) := db_X8_init_17.2.2.1
theorem dX8_init_23 : decode cX8_init 23 = .ok (.iconst 1, 1) := db_X8_init_17.2.2.2.1
theorem dX8_init_24 : decode cX8_init 24 = .ok (.putfield 16, 3) := db_X8_init_17.2.2.2.2.1
theorem dX8_init_27 : decode cX8_init 27 = .ok (.aload_n 0, 1) := db_X8_init_17.2.2.2.2.2.1
theorem dX8_init_28 : decode cX8_init 28 = .ok (.bipush 6, 2) := db_X8_init_17.2.2.2.2.2.2.1
theorem dX8_init_30 : decode cX8_init 30 = .ok (.newarray .int, 2) := db_X8_init_17.2.2.2.2.2.2.2
set_option maxRecDepth 20000 in
theorem db_X8_init_32 : (decode cX8_init 32 = .ok (.putfield 20, 3)) ∧ (decode cX8_init 35 = .ok (.aload_n 0, 1)) ∧ (decode cX8_init 36 = .ok (.iconst 4, 1)) ∧ (decode cX8_init 37 = .ok (.newarray .int, 2)) ∧ (decode cX8_init 39 = .ok (.putfield 23, 3)) ∧ (decode cX8_init 42 = .ok (.aload_n 0, 1)) ∧ (decode cX8_init 43 = .ok (.iconst 5, 1)) ∧ (decode cX8_init 44 = .ok (.newarray .int, 2)) := by decide +kernel
theorem dX8_init_32 : decode cX8_init 32 = .ok (.putfield 20, 3) := db_X8_init_32.1
theorem dX8_init_35 : decode cX8_init 35 = .ok (.aload_n 0, 1) := db_X8_init_32.2.1
theorem dX8_init_36 : decode cX8_init 36 = .ok (.iconst 4, 1) := db_X8_init_32.2.2.1
theorem dX8_init_37 : decode cX8_init 37 = .ok (.newarray .int, 2) := db_X8_init_32.2.2.2.1
theorem dX8_init_39 : decode cX8_init 39 = .ok (.putfield 23, 3) := db_X8_init_32.2.2.2.2.1
theorem dX8_init_42 : decode cX8_init 42 = .ok (.aload_n 0, 1) := db_X8_init_32.2.2.2.2.2.1
theorem dX8_init_43 : decode cX8_init 43 = .ok (.iconst 5, 1) := db_X8_init_32.2.2.2.2.2.2.1
theorem dX8_init_44 : decode cX8_init 44 = .ok (.newarray .int, 2) := db_X8_init_32.2.2.2.2.2.2.2
set_option maxRecDepth 20000 in
theorem db_X8_init_46 : (decode cX8_init 46 = .ok (.putfield 26, 3)) ∧ (decode cX8_init 49 = .ok (.aload_n 0, 1)) ∧ (decode cX8_init 50 = .ok (.iconst 4, 1)) ∧ (decode cX8_init 51 = .ok (.newarray .int, 2)) ∧ (decode cX8_init 53 = .ok (.putfield 29, 3)) ∧ (decode cX8_init 56 = .ok (.aload_n 0, 1)) ∧ (decode cX8_init 57 = .ok (.bipush 6, 2)) ∧ (decode cX8_init 59 = .ok (.newarray .int, 2)) := by decide +kernel
theorem dX8_init_46 : decode cX8_init 46 = .ok (.putfield 26, 3) := db_X8_init_46.1
theorem dX8_init_49 : decode cX8_init 49 = .ok (.aload_n 0, 1) := db_X8_init_46.2.1
theorem dX8_init_50 : decode cX8_init 50 = .ok (.iconst 4, 1) := db_X8_init_46.2.2.1
theorem dX8_init_51 : decode cX8_init 51 = .ok (.newarray .int, 2) := db_X8_init_46.2.2.2.1
theorem dX8_init_53 : decode cX8_init 53 = .ok (.putfield 29, 3) := db_X8_init_46.2.2.2.2.1
theorem dX8_init_56 : decode cX8_init 56 = .ok (.aload_n 0, 1) := db_X8_init_46.2.2.2.2.2.1
theorem dX8_init_57 : decode cX8_init 57 = .ok (.bipush 6, 2) := db_X8_init_46.2.2.2.2.2.2.1
theorem dX8_init_59 : decode cX8_init 59 = .ok (.newarray .int, 2) := db_X8_init_46.2.2.2.2.2.2.2
set_option maxRecDepth 20000 in
theorem db_X8_init_61 : (decode cX8_init 61 = .ok (.putfield 32, 3)) ∧ (decode cX8_init 64 = .ok (.aload_n 0, 1)) ∧ (decode cX8_init 65 = .ok (.getfield 7, 3)) ∧ (decode cX8_init 68 = .ok (.iconst 0, 1)) ∧ (decode cX8_init 69 = .ok (.iconst 0, 1)) ∧ (decode cX8_init 70 = .ok (.iastore, 1)) ∧ (decode cX8_init 71 = .ok (.return_, 1)) := by decide +kernel
theorem dX8_init_61 : decode cX8_init 61 = .ok (.putfield 32, 3) := db_X8_init_61.1
theorem dX8_init_64 : decode cX8_init 64 = .ok (.aload_n 0, 1) := db_X8_init_61.2.1
theorem dX8_init_65 : decode cX8_init 65 = .ok (.getfield 7, 3) := db_X8_init_61.2.2.1
theorem dX8_init_68 : decode cX8_init 68 = .ok (.iconst 0, 1) := db_X8_init_61.2.2.2.1
theorem dX8_init_69 : decode cX8_init 69 = .ok (.iconst 0, 1) := db_X8_init_61.2.2.2.2.1
theorem dX8_init_70 : decode cX8_init 70 = .ok (.iastore, 1) := db_X8_init_61.2.2.2.2.2.1
theorem dX8_init_71 : decode cX8_init 71 = .ok (.return_, 1) := db_X8_init_61.2.2.2.2.2.2
set_option maxHeartbeats 4000000 in
set_option maxRecDepth 100000 in
theorem c_X8_init (l : Launch) (dC : Nat → ClassId) (dI : Nat → Nat → Nat) (cy : Nat → ClassId) (sz : Nat) (g0 : Nat) : Met l yX8_init wsX8_init ({ frames := 1, cells := 7, slots := 1217, locals := 64 }) (va_Pc [.ref g0] (ex_Pre dC dI cy sz [(g0, .inr (8, [.null, .null, .int 0, .int 0, .null, .int 0, .null, .null, .null, .int 0, .null]))])) (va_Qv (fun (u : Nat → Nat) => u 0 = g0) (fun u t => ex_Pst dC dI (va_A [(g0, .inr (8, [.null, .null, .int 0, .int 0, .null, .int 0, .null, .null, .null, .int 0, .null]))] sz) (wm u cy m_0) t) (va_A [(g0, .inr (8, [.null, .null, .int 0, .int 0, .null, .int 0, .null, .null, .null, .int 0, .null]))] sz)) 7 1217 (va_A [(g0, .inr (8, [.null, .null, .int 0, .int 0, .null, .int 0, .null, .null, .null, .int 0, .null]))] sz) := by
  refine Met.ofW (cc := cX8_init) (maxL := 1) (ret := none) (by decide) rfl ?_
  intro p e s m args below meth c s₁ B hml hv
  obtain ⟨rfl, hsz, hE, hP, hK, hD0⟩ := hv
  have hx := B.exec
  have hb := B.bytes
  have hr := B.returns
  have hts := atoms_spec (ws := wsX8_init) B.pre
  have hown : s.vm.findClass RX8 = some m.cls := findClass_of_methodNamed B.named
  have hlocks := B.notSynchronized
  have hin : meth.name = "<init>" := (name_of_methodNamed B.named B.method).1
  subst hsz
  have hD := hD0.self (sz := s.heap.size)
  generalize hAe : va_A [(g0, .inr (8, [.null, .null, .int 0, .int 0, .null, .int 0, .null, .null, .null, .int 0, .null]))] s.heap.size = A at hD ⊢
  have hA : ∀ q : Nat, s.heap.size ≤ q → A q := fun q h => by rw [← hAe]; exact Or.inr h
  have hS : va_S A s.heap s.heap [] := va_S.rf
  have hP : va_P (dC, dI) vwCl [(g0, .inr (8, [.null, .null, .int 0, .int 0, .null, .int 0, .null, .null, .null, .int 0, .null]))] s.heap := hP
  have hl := lv_entry ([.ref g0]) (n := 1) (Nat.le_of_ble_eq_true rfl)
  rw [lg_entry_eq]
  generalize (lg_sl ([.ref g0]) ++ List.replicate (1 - (lg_sl ([.ref g0])).length) Slot.unset).toArray = ls at hl ⊢
  have hl : lv_has ls 1 [(0, .ref g0)] := hl
  refine lv_aload_n hx hb dX8_init_0 rfl (lv_at hl 0 rfl) ?_
  refine W.objInit hx hb hown (hts (.methodLink RX8 1 objectInit) fwX8_init_1) (hts (.instanceMethod objectInit) fwX8_init_2) (hts (.code objectInit ⟨#[0xb1]⟩ 1 none) fwX8_init_3) rfl (by rw [hml]; exact hl.1) rfl dX8_init_1 (Nat.le_of_ble_eq_true rfl) (Nat.le_of_ble_eq_true rfl) ?_
  refine W.eq (g2 := F0 m 4 ls []) rfl ?_
  refine lv_aload_n hx hb dX8_init_4 rfl (lv_at hl 0 rfl) ?_
  refine lv_sipush (v := 596) hx hb dX8_init_5 (by decide) ?_
  refine yn_i hx hb (hts (.arrayClass .int) fwX8_init_4) hK hP hD hS hA 596 (by decide) (by decide) (by decide) (Nat.le_of_ble_eq_true rfl) (Nat.le_of_ble_eq_true rfl) dX8_init_8 (fun g1 H hP hD hS => ?_)
  have hP : va_P (dC, dI) vwCl [(g0, .inr (8, [.null, .null, .int 0, .int 0, .null, .int 0, .null, .null, .null, .int 0, .null])), (g1, .inl (cy 0, 596, .inl (fun _ => 0)))] H := hP
  have hD : va_D A [(g0, .inr (8, [.null, .null, .int 0, .int 0, .null, .int 0, .null, .null, .null, .int 0, .null])), (g1, .inl (cy 0, 596, .inl (fun _ => 0)))] := hD
  refine W.widen (k := 1) (n := 596) (by omega) (by omega) ?_
  refine va_putF (D := (dC, dI)) (ci := 8) (v := .ref g1) (ty := .array .int) (C := RX8) (T := TX8) (N := 11) hx hb hts iwX8_init_X8 tyX8 tyX8_ok nmX8 hown hK hP hD hS 0 rfl rfl 0 (by decide) (hts (.fieldLink RX8 7 "QuietStairsModel" "s" "[I") fwX8_init_5) (fun _ h9 => h9) rfl hin rfl (by decide +kernel) rfl rfl (Nat.le_of_ble_eq_true rfl) dX8_init_10 (fun H locs hP hD hS => ?_)
  have hP : va_P (dC, dI) vwCl [(g0, .inr (8, [.ref g1, .null, .int 0, .int 0, .null, .int 0, .null, .null, .null, .int 0, .null])), (g1, .inl (cy 0, 596, .inl (fun _ => 0)))] H := hP
  have hD : va_D A [(g0, .inr (8, [.ref g1, .null, .int 0, .int 0, .null, .int 0, .null, .null, .null, .int 0, .null])), (g1, .inl (cy 0, 596, .inl (fun _ => 0)))] := hD
  refine lv_aload_n hx hb dX8_init_13 rfl (lv_at hl 0 rfl) ?_
  refine lv_sipush (v := 596) hx hb dX8_init_14 (by decide) ?_
  refine yn_i hx hb (hts (.arrayClass .int) fwX8_init_4) hK hP hD hS hA 596 (by decide) (by decide) (by decide) (Nat.le_of_ble_eq_true rfl) (Nat.le_of_ble_eq_true rfl) dX8_init_17 (fun g2 H hP hD hS => ?_)
  have hP : va_P (dC, dI) vwCl [(g0, .inr (8, [.ref g1, .null, .int 0, .int 0, .null, .int 0, .null, .null, .null, .int 0, .null])), (g1, .inl (cy 0, 596, .inl (fun _ => 0))), (g2, .inl (cy 0, 596, .inl (fun _ => 0)))] H := hP
  have hD : va_D A [(g0, .inr (8, [.ref g1, .null, .int 0, .int 0, .null, .int 0, .null, .null, .null, .int 0, .null])), (g1, .inl (cy 0, 596, .inl (fun _ => 0))), (g2, .inl (cy 0, 596, .inl (fun _ => 0)))] := hD
  refine W.widen (k := 2) (n := 1192) (by omega) (by omega) ?_
  refine va_putF (D := (dC, dI)) (ci := 8) (v := .ref g2) (ty := .array .int) (C := RX8) (T := TX8) (N := 11) hx hb hts iwX8_init_X8 tyX8 tyX8_ok nmX8 hown hK hP hD hS 0 rfl rfl 1 (by decide) (hts (.fieldLink RX8 13 "QuietStairsModel" "kept" "[I") fwX8_init_6) (fun _ h9 => h9) rfl hin rfl (by decide +kernel) rfl rfl (Nat.le_of_ble_eq_true rfl) dX8_init_19 (fun H locs hP hD hS => ?_)
  have hP : va_P (dC, dI) vwCl [(g0, .inr (8, [.ref g1, .ref g2, .int 0, .int 0, .null, .int 0, .null, .null, .null, .int 0, .null])), (g1, .inl (cy 0, 596, .inl (fun _ => 0))), (g2, .inl (cy 0, 596, .inl (fun _ => 0)))] H := hP
  have hD : va_D A [(g0, .inr (8, [.ref g1, .ref g2, .int 0, .int 0, .null, .int 0, .null, .null, .null, .int 0, .null])), (g1, .inl (cy 0, 596, .inl (fun _ => 0))), (g2, .inl (cy 0, 596, .inl (fun _ => 0)))] := hD
  refine lv_aload_n hx hb dX8_init_22 rfl (lv_at hl 0 rfl) ?_
  refine lv_iconst (v := 1) hx hb dX8_init_23 (by decide) ?_
  refine va_put (D := (dC, dI)) (ci := 8) (v := .int 1) (ty := .int) (C := RX8) (T := TX8) (N := 11) hx hb hts iwX8_init_X8 tyX8 tyX8_ok nmX8 hown hK hP hD hS 0 rfl rfl 3 (by decide) (hts (.fieldLink RX8 16 "QuietStairsModel" "rooms" "I") fwX8_init_7) (fun _ h9 => h9) rfl (by decide +kernel) rfl rfl (Nat.le_of_ble_eq_true rfl) dX8_init_24 (fun H locs hP hD hS => ?_)
  have hP : va_P (dC, dI) vwCl [(g0, .inr (8, [.ref g1, .ref g2, .int 0, .int 1, .null, .int 0, .null, .null, .null, .int 0, .null])), (g1, .inl (cy 0, 596, .inl (fun _ => 0))), (g2, .inl (cy 0, 596, .inl (fun _ => 0)))] H := hP
  have hD : va_D A [(g0, .inr (8, [.ref g1, .ref g2, .int 0, .int 1, .null, .int 0, .null, .null, .null, .int 0, .null])), (g1, .inl (cy 0, 596, .inl (fun _ => 0))), (g2, .inl (cy 0, 596, .inl (fun _ => 0)))] := hD
  refine lv_aload_n hx hb dX8_init_27 rfl (lv_at hl 0 rfl) ?_
  refine lv_bipush (v := 6) hx hb dX8_init_28 (by decide) ?_
  refine yn_i hx hb (hts (.arrayClass .int) fwX8_init_4) hK hP hD hS hA 6 (by decide) (by decide) (by decide) (Nat.le_of_ble_eq_true rfl) (Nat.le_of_ble_eq_true rfl) dX8_init_30 (fun g3 H hP hD hS => ?_)
  have hP : va_P (dC, dI) vwCl [(g0, .inr (8, [.ref g1, .ref g2, .int 0, .int 1, .null, .int 0, .null, .null, .null, .int 0, .null])), (g1, .inl (cy 0, 596, .inl (fun _ => 0))), (g2, .inl (cy 0, 596, .inl (fun _ => 0))), (g3, .inl (cy 0, 6, .inl (fun _ => 0)))] H := hP
  have hD : va_D A [(g0, .inr (8, [.ref g1, .ref g2, .int 0, .int 1, .null, .int 0, .null, .null, .null, .int 0, .null])), (g1, .inl (cy 0, 596, .inl (fun _ => 0))), (g2, .inl (cy 0, 596, .inl (fun _ => 0))), (g3, .inl (cy 0, 6, .inl (fun _ => 0)))] := hD
  refine W.widen (k := 3) (n := 1198) (by omega) (by omega) ?_
  refine va_putF (D := (dC, dI)) (ci := 8) (v := .ref g3) (ty := .array .int) (C := RX8) (T := TX8) (N := 11) hx hb hts iwX8_init_X8 tyX8 tyX8_ok nmX8 hown hK hP hD hS 0 rfl rfl 4 (by decide) (hts (.fieldLink RX8 20 "QuietStairsModel" "headOf" "[I") fwX8_init_8) (fun _ h9 => h9) rfl hin rfl (by decide +kernel) rfl rfl (Nat.le_of_ble_eq_true rfl) dX8_init_32 (fun H locs hP hD hS => ?_)
  have hP : va_P (dC, dI) vwCl [(g0, .inr (8, [.ref g1, .ref g2, .int 0, .int 1, .ref g3, .int 0, .null, .null, .null, .int 0, .null])), (g1, .inl (cy 0, 596, .inl (fun _ => 0))), (g2, .inl (cy 0, 596, .inl (fun _ => 0))), (g3, .inl (cy 0, 6, .inl (fun _ => 0)))] H := hP
  have hD : va_D A [(g0, .inr (8, [.ref g1, .ref g2, .int 0, .int 1, .ref g3, .int 0, .null, .null, .null, .int 0, .null])), (g1, .inl (cy 0, 596, .inl (fun _ => 0))), (g2, .inl (cy 0, 596, .inl (fun _ => 0))), (g3, .inl (cy 0, 6, .inl (fun _ => 0)))] := hD
  refine lv_aload_n hx hb dX8_init_35 rfl (lv_at hl 0 rfl) ?_
  refine lv_iconst (v := 4) hx hb dX8_init_36 (by decide) ?_
  refine yn_i hx hb (hts (.arrayClass .int) fwX8_init_4) hK hP hD hS hA 4 (by decide) (by decide) (by decide) (Nat.le_of_ble_eq_true rfl) (Nat.le_of_ble_eq_true rfl) dX8_init_37 (fun g4 H hP hD hS => ?_)
  have hP : va_P (dC, dI) vwCl [(g0, .inr (8, [.ref g1, .ref g2, .int 0, .int 1, .ref g3, .int 0, .null, .null, .null, .int 0, .null])), (g1, .inl (cy 0, 596, .inl (fun _ => 0))), (g2, .inl (cy 0, 596, .inl (fun _ => 0))), (g3, .inl (cy 0, 6, .inl (fun _ => 0))), (g4, .inl (cy 0, 4, .inl (fun _ => 0)))] H := hP
  have hD : va_D A [(g0, .inr (8, [.ref g1, .ref g2, .int 0, .int 1, .ref g3, .int 0, .null, .null, .null, .int 0, .null])), (g1, .inl (cy 0, 596, .inl (fun _ => 0))), (g2, .inl (cy 0, 596, .inl (fun _ => 0))), (g3, .inl (cy 0, 6, .inl (fun _ => 0))), (g4, .inl (cy 0, 4, .inl (fun _ => 0)))] := hD
  refine W.widen (k := 4) (n := 1202) (by omega) (by omega) ?_
  refine va_putF (D := (dC, dI)) (ci := 8) (v := .ref g4) (ty := .array .int) (C := RX8) (T := TX8) (N := 11) hx hb hts iwX8_init_X8 tyX8 tyX8_ok nmX8 hown hK hP hD hS 0 rfl rfl 6 (by decide) (hts (.fieldLink RX8 23 "QuietStairsModel" "planned" "[I") fwX8_init_9) (fun _ h9 => h9) rfl hin rfl (by decide +kernel) rfl rfl (Nat.le_of_ble_eq_true rfl) dX8_init_39 (fun H locs hP hD hS => ?_)
  have hP : va_P (dC, dI) vwCl [(g0, .inr (8, [.ref g1, .ref g2, .int 0, .int 1, .ref g3, .int 0, .ref g4, .null, .null, .int 0, .null])), (g1, .inl (cy 0, 596, .inl (fun _ => 0))), (g2, .inl (cy 0, 596, .inl (fun _ => 0))), (g3, .inl (cy 0, 6, .inl (fun _ => 0))), (g4, .inl (cy 0, 4, .inl (fun _ => 0)))] H := hP
  have hD : va_D A [(g0, .inr (8, [.ref g1, .ref g2, .int 0, .int 1, .ref g3, .int 0, .ref g4, .null, .null, .int 0, .null])), (g1, .inl (cy 0, 596, .inl (fun _ => 0))), (g2, .inl (cy 0, 596, .inl (fun _ => 0))), (g3, .inl (cy 0, 6, .inl (fun _ => 0))), (g4, .inl (cy 0, 4, .inl (fun _ => 0)))] := hD
  refine lv_aload_n hx hb dX8_init_42 rfl (lv_at hl 0 rfl) ?_
  refine lv_iconst (v := 5) hx hb dX8_init_43 (by decide) ?_
  refine yn_i hx hb (hts (.arrayClass .int) fwX8_init_4) hK hP hD hS hA 5 (by decide) (by decide) (by decide) (Nat.le_of_ble_eq_true rfl) (Nat.le_of_ble_eq_true rfl) dX8_init_44 (fun g5 H hP hD hS => ?_)
  have hP : va_P (dC, dI) vwCl [(g0, .inr (8, [.ref g1, .ref g2, .int 0, .int 1, .ref g3, .int 0, .ref g4, .null, .null, .int 0, .null])), (g1, .inl (cy 0, 596, .inl (fun _ => 0))), (g2, .inl (cy 0, 596, .inl (fun _ => 0))), (g3, .inl (cy 0, 6, .inl (fun _ => 0))), (g4, .inl (cy 0, 4, .inl (fun _ => 0))), (g5, .inl (cy 0, 5, .inl (fun _ => 0)))] H := hP
  have hD : va_D A [(g0, .inr (8, [.ref g1, .ref g2, .int 0, .int 1, .ref g3, .int 0, .ref g4, .null, .null, .int 0, .null])), (g1, .inl (cy 0, 596, .inl (fun _ => 0))), (g2, .inl (cy 0, 596, .inl (fun _ => 0))), (g3, .inl (cy 0, 6, .inl (fun _ => 0))), (g4, .inl (cy 0, 4, .inl (fun _ => 0))), (g5, .inl (cy 0, 5, .inl (fun _ => 0)))] := hD
  refine W.widen (k := 5) (n := 1207) (by omega) (by omega) ?_
  refine va_putF (D := (dC, dI)) (ci := 8) (v := .ref g5) (ty := .array .int) (C := RX8) (T := TX8) (N := 11) hx hb hts iwX8_init_X8 tyX8 tyX8_ok nmX8 hown hK hP hD hS 0 rfl rfl 7 (by decide) (hts (.fieldLink RX8 26 "QuietStairsModel" "tried" "[I") fwX8_init_10) (fun _ h9 => h9) rfl hin rfl (by decide +kernel) rfl rfl (Nat.le_of_ble_eq_true rfl) dX8_init_46 (fun H locs hP hD hS => ?_)
  have hP : va_P (dC, dI) vwCl [(g0, .inr (8, [.ref g1, .ref g2, .int 0, .int 1, .ref g3, .int 0, .ref g4, .ref g5, .null, .int 0, .null])), (g1, .inl (cy 0, 596, .inl (fun _ => 0))), (g2, .inl (cy 0, 596, .inl (fun _ => 0))), (g3, .inl (cy 0, 6, .inl (fun _ => 0))), (g4, .inl (cy 0, 4, .inl (fun _ => 0))), (g5, .inl (cy 0, 5, .inl (fun _ => 0)))] H := hP
  have hD : va_D A [(g0, .inr (8, [.ref g1, .ref g2, .int 0, .int 1, .ref g3, .int 0, .ref g4, .ref g5, .null, .int 0, .null])), (g1, .inl (cy 0, 596, .inl (fun _ => 0))), (g2, .inl (cy 0, 596, .inl (fun _ => 0))), (g3, .inl (cy 0, 6, .inl (fun _ => 0))), (g4, .inl (cy 0, 4, .inl (fun _ => 0))), (g5, .inl (cy 0, 5, .inl (fun _ => 0)))] := hD
  refine lv_aload_n hx hb dX8_init_49 rfl (lv_at hl 0 rfl) ?_
  refine lv_iconst (v := 4) hx hb dX8_init_50 (by decide) ?_
  refine yn_i hx hb (hts (.arrayClass .int) fwX8_init_4) hK hP hD hS hA 4 (by decide) (by decide) (by decide) (Nat.le_of_ble_eq_true rfl) (Nat.le_of_ble_eq_true rfl) dX8_init_51 (fun g6 H hP hD hS => ?_)
  have hP : va_P (dC, dI) vwCl [(g0, .inr (8, [.ref g1, .ref g2, .int 0, .int 1, .ref g3, .int 0, .ref g4, .ref g5, .null, .int 0, .null])), (g1, .inl (cy 0, 596, .inl (fun _ => 0))), (g2, .inl (cy 0, 596, .inl (fun _ => 0))), (g3, .inl (cy 0, 6, .inl (fun _ => 0))), (g4, .inl (cy 0, 4, .inl (fun _ => 0))), (g5, .inl (cy 0, 5, .inl (fun _ => 0))), (g6, .inl (cy 0, 4, .inl (fun _ => 0)))] H := hP
  have hD : va_D A [(g0, .inr (8, [.ref g1, .ref g2, .int 0, .int 1, .ref g3, .int 0, .ref g4, .ref g5, .null, .int 0, .null])), (g1, .inl (cy 0, 596, .inl (fun _ => 0))), (g2, .inl (cy 0, 596, .inl (fun _ => 0))), (g3, .inl (cy 0, 6, .inl (fun _ => 0))), (g4, .inl (cy 0, 4, .inl (fun _ => 0))), (g5, .inl (cy 0, 5, .inl (fun _ => 0))), (g6, .inl (cy 0, 4, .inl (fun _ => 0)))] := hD
  refine W.widen (k := 6) (n := 1211) (by omega) (by omega) ?_
  refine va_putF (D := (dC, dI)) (ci := 8) (v := .ref g6) (ty := .array .int) (C := RX8) (T := TX8) (N := 11) hx hb hts iwX8_init_X8 tyX8 tyX8_ok nmX8 hown hK hP hD hS 0 rfl rfl 8 (by decide) (hts (.fieldLink RX8 29 "QuietStairsModel" "best" "[I") fwX8_init_11) (fun _ h9 => h9) rfl hin rfl (by decide +kernel) rfl rfl (Nat.le_of_ble_eq_true rfl) dX8_init_53 (fun H locs hP hD hS => ?_)
  have hP : va_P (dC, dI) vwCl [(g0, .inr (8, [.ref g1, .ref g2, .int 0, .int 1, .ref g3, .int 0, .ref g4, .ref g5, .ref g6, .int 0, .null])), (g1, .inl (cy 0, 596, .inl (fun _ => 0))), (g2, .inl (cy 0, 596, .inl (fun _ => 0))), (g3, .inl (cy 0, 6, .inl (fun _ => 0))), (g4, .inl (cy 0, 4, .inl (fun _ => 0))), (g5, .inl (cy 0, 5, .inl (fun _ => 0))), (g6, .inl (cy 0, 4, .inl (fun _ => 0)))] H := hP
  have hD : va_D A [(g0, .inr (8, [.ref g1, .ref g2, .int 0, .int 1, .ref g3, .int 0, .ref g4, .ref g5, .ref g6, .int 0, .null])), (g1, .inl (cy 0, 596, .inl (fun _ => 0))), (g2, .inl (cy 0, 596, .inl (fun _ => 0))), (g3, .inl (cy 0, 6, .inl (fun _ => 0))), (g4, .inl (cy 0, 4, .inl (fun _ => 0))), (g5, .inl (cy 0, 5, .inl (fun _ => 0))), (g6, .inl (cy 0, 4, .inl (fun _ => 0)))] := hD
  refine lv_aload_n hx hb dX8_init_56 rfl (lv_at hl 0 rfl) ?_
  refine lv_bipush (v := 6) hx hb dX8_init_57 (by decide) ?_
  refine yn_i hx hb (hts (.arrayClass .int) fwX8_init_4) hK hP hD hS hA 6 (by decide) (by decide) (by decide) (Nat.le_of_ble_eq_true rfl) (Nat.le_of_ble_eq_true rfl) dX8_init_59 (fun g7 H hP hD hS => ?_)
  have hP : va_P (dC, dI) vwCl [(g0, .inr (8, [.ref g1, .ref g2, .int 0, .int 1, .ref g3, .int 0, .ref g4, .ref g5, .ref g6, .int 0, .null])), (g1, .inl (cy 0, 596, .inl (fun _ => 0))), (g2, .inl (cy 0, 596, .inl (fun _ => 0))), (g3, .inl (cy 0, 6, .inl (fun _ => 0))), (g4, .inl (cy 0, 4, .inl (fun _ => 0))), (g5, .inl (cy 0, 5, .inl (fun _ => 0))), (g6, .inl (cy 0, 4, .inl (fun _ => 0))), (g7, .inl (cy 0, 6, .inl (fun _ => 0)))] H := hP
  have hD : va_D A [(g0, .inr (8, [.ref g1, .ref g2, .int 0, .int 1, .ref g3, .int 0, .ref g4, .ref g5, .ref g6, .int 0, .null])), (g1, .inl (cy 0, 596, .inl (fun _ => 0))), (g2, .inl (cy 0, 596, .inl (fun _ => 0))), (g3, .inl (cy 0, 6, .inl (fun _ => 0))), (g4, .inl (cy 0, 4, .inl (fun _ => 0))), (g5, .inl (cy 0, 5, .inl (fun _ => 0))), (g6, .inl (cy 0, 4, .inl (fun _ => 0))), (g7, .inl (cy 0, 6, .inl (fun _ => 0)))] := hD
  refine W.widen (k := 7) (n := 1217) (by omega) (by omega) ?_
  refine va_putF (D := (dC, dI)) (ci := 8) (v := .ref g7) (ty := .array .int) (C := RX8) (T := TX8) (N := 11) hx hb hts iwX8_init_X8 tyX8 tyX8_ok nmX8 hown hK hP hD hS 0 rfl rfl 10 (by decide) (hts (.fieldLink RX8 32 "QuietStairsModel" "hours" "[I") fwX8_init_12) (fun _ h9 => h9) rfl hin rfl (by decide +kernel) rfl rfl (Nat.le_of_ble_eq_true rfl) dX8_init_61 (fun H locs hP hD hS => ?_)
  have hP : va_P (dC, dI) vwCl [(g0, .inr (8, [.ref g1, .ref g2, .int 0, .int 1, .ref g3, .int 0, .ref g4, .ref g5, .ref g6, .int 0, .ref g7])), (g1, .inl (cy 0, 596, .inl (fun _ => 0))), (g2, .inl (cy 0, 596, .inl (fun _ => 0))), (g3, .inl (cy 0, 6, .inl (fun _ => 0))), (g4, .inl (cy 0, 4, .inl (fun _ => 0))), (g5, .inl (cy 0, 5, .inl (fun _ => 0))), (g6, .inl (cy 0, 4, .inl (fun _ => 0))), (g7, .inl (cy 0, 6, .inl (fun _ => 0)))] H := hP
  have hD : va_D A [(g0, .inr (8, [.ref g1, .ref g2, .int 0, .int 1, .ref g3, .int 0, .ref g4, .ref g5, .ref g6, .int 0, .ref g7])), (g1, .inl (cy 0, 596, .inl (fun _ => 0))), (g2, .inl (cy 0, 596, .inl (fun _ => 0))), (g3, .inl (cy 0, 6, .inl (fun _ => 0))), (g4, .inl (cy 0, 4, .inl (fun _ => 0))), (g5, .inl (cy 0, 5, .inl (fun _ => 0))), (g6, .inl (cy 0, 4, .inl (fun _ => 0))), (g7, .inl (cy 0, 6, .inl (fun _ => 0)))] := hD
  refine lv_aload_n hx hb dX8_init_64 rfl (lv_at hl 0 rfl) ?_
  refine va_get (D := (dC, dI)) (ci := 8) (v := .ref g1) (C := RX8) (T := TX8) (N := 11) hx hb hts iwX8_init_X8 hown hK hP 0 rfl rfl 0 (by decide) (hts (.fieldLink RX8 7 "QuietStairsModel" "s" "[I") fwX8_init_5) (fun _ h9 => h9) rfl dX8_init_65 ?_
  refine lv_iconst (v := 0) hx hb dX8_init_68 (by decide) ?_
  refine lv_iconst (v := 0) hx hb dX8_init_69 (by decide) ?_
  refine va_iast hx hb hK hP hD hS 1 0 rfl rfl (by unfold vp_in; decide) dX8_init_70 (fun H locs hP hD hS => ?_)
  have hP : va_P (dC, dI) vwCl [(g0, .inr (8, [.ref g1, .ref g2, .int 0, .int 1, .ref g3, .int 0, .ref g4, .ref g5, .ref g6, .int 0, .ref g7])), (g1, .inl (cy 0, 596, .inl (upd (fun _ => 0) (0 : Int32).toNatClampNeg 0))), (g2, .inl (cy 0, 596, .inl (fun _ => 0))), (g3, .inl (cy 0, 6, .inl (fun _ => 0))), (g4, .inl (cy 0, 4, .inl (fun _ => 0))), (g5, .inl (cy 0, 5, .inl (fun _ => 0))), (g6, .inl (cy 0, 4, .inl (fun _ => 0))), (g7, .inl (cy 0, 6, .inl (fun _ => 0)))] H := hP
  have hD : va_D A [(g0, .inr (8, [.ref g1, .ref g2, .int 0, .int 1, .ref g3, .int 0, .ref g4, .ref g5, .ref g6, .int 0, .ref g7])), (g1, .inl (cy 0, 596, .inl (upd (fun _ => 0) (0 : Int32).toNatClampNeg 0))), (g2, .inl (cy 0, 596, .inl (fun _ => 0))), (g3, .inl (cy 0, 6, .inl (fun _ => 0))), (g4, .inl (cy 0, 4, .inl (fun _ => 0))), (g5, .inl (cy 0, 5, .inl (fun _ => 0))), (g6, .inl (cy 0, 4, .inl (fun _ => 0))), (g7, .inl (cy 0, 6, .inl (fun _ => 0)))] := hD
  have eU : upd (fun _ => 0) (0 : Int32).toNatClampNeg 0 = fun _ => 0 := by funext j; simp [upd]
  rw [eU] at hP hD
  have hP9 := hP.sub (ws' := [(g0, .inr (8, [.ref g1, .ref g2, .int 0, .int 1, .ref g3, .int 0, .ref g4, .ref g5, .ref g6, .int 0, .ref g7])), (g1, .inl (cy 0, 596, .inl (fun _ => 0))), (g2, .inl (cy 0, 596, .inl (fun _ => 0))), (g3, .inl (cy 0, 6, .inl (fun _ => 0))), (g4, .inl (cy 0, 4, .inl (fun _ => 0))), (g5, .inl (cy 0, 5, .inl (fun _ => 0))), (g6, .inl (cy 0, 4, .inl (fun _ => 0))), (g7, .inl (cy 0, 6, .inl (fun _ => 0)))]) [0, 1, 2, 3, 4, 5, 6, 7] rfl
  have hD9 := hD.sub (ws' := [(g0, .inr (8, [.ref g1, .ref g2, .int 0, .int 1, .ref g3, .int 0, .ref g4, .ref g5, .ref g6, .int 0, .ref g7])), (g1, .inl (cy 0, 596, .inl (fun _ => 0))), (g2, .inl (cy 0, 596, .inl (fun _ => 0))), (g3, .inl (cy 0, 6, .inl (fun _ => 0))), (g4, .inl (cy 0, 4, .inl (fun _ => 0))), (g5, .inl (cy 0, 5, .inl (fun _ => 0))), (g6, .inl (cy 0, 4, .inl (fun _ => 0))), (g7, .inl (cy 0, 6, .inl (fun _ => 0)))]) [0, 1, 2, 3, 4, 5, 6, 7] (by decide) rfl
  rw [ref_wm] at hP9 hD9
  exact W.vret hx hb hr (fun t ht hW => ⟨⟨(fun k => ([g0, g1, g2, g3, g4, g5, g6, g7] : List Nat).getD k 0), rfl, rfl, by rw [ht]; exact hP9, hD9⟩, hS.F ht⟩) hS.2.2 dX8_init_71
