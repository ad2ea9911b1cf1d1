theorem dX8_learns_0 : decode cX8_learns 0 = .ok (.aload_n 0, 1) := by decide +kernel
theorem dX8_learns_1 : decode cX8_learns 1 = .ok (.iload_n 1, 1) := by decide +kernel
theorem dX8_learns_2 : decode cX8_learns 2 = .ok (.invokevirtual 50, 3) := by decide +kernel
theorem dX8_learns_5 : decode cX8_learns 5 = .ok (.ifCond .eq 10, 3) := by decide +kernel
theorem dX8_learns_8 : decode cX8_learns 8 = .ok (.iload_n 2, 1) := by decide +kernel
theorem dX8_learns_9 : decode cX8_learns 9 = .ok (.invokestatic 60, 3) := by decide +kernel
theorem dX8_learns_12 : decode cX8_learns 12 = .ok (.ifCond .ne 5, 3) := by decide +kernel
theorem dX8_learns_15 : decode cX8_learns 15 = .ok (.iconst (-1), 1) := by decide +kernel
theorem dX8_learns_16 : decode cX8_learns 16 = .ok (.ireturn, 1) := by decide +kernel
theorem dX8_learns_17 : decode cX8_learns 17 = .ok (.iload_n 3, 1) := by decide +kernel
theorem dX8_learns_18 : decode cX8_learns 18 = .ok (.iconst 0, 1) := by decide +kernel
theorem dX8_learns_19 : decode cX8_learns 19 = .ok (.aload_n 0, 1) := by decide +kernel
theorem dX8_learns_20 : decode cX8_learns 20 = .ok (.getfield 7, 3) := by decide +kernel
theorem dX8_learns_23 : decode cX8_learns 23 = .ok (.iload_n 1, 1) := by decide +kernel
theorem dX8_learns_24 : decode cX8_learns 24 = .ok (.iconst 4, 1) := by decide +kernel
theorem dX8_learns_25 : decode cX8_learns 25 = .ok (.invokestatic 46, 3) := by decide +kernel
theorem dX8_learns_28 : decode cX8_learns 28 = .ok (.iaload, 1) := by decide +kernel
theorem dX8_learns_29 : decode cX8_learns 29 = .ok (.iconst 1, 1) := by decide +kernel
theorem dX8_learns_30 : decode cX8_learns 30 = .ok (.isub, 1) := by decide +kernel
theorem dX8_learns_31 : decode cX8_learns 31 = .ok (.invokestatic 35, 3) := by decide +kernel
theorem dX8_learns_34 : decode cX8_learns 34 = .ok (.ifCond .ne 6, 3) := by decide +kernel
theorem dX8_learns_37 : decode cX8_learns 37 = .ok (.bipush (-5), 2) := by decide +kernel
theorem dX8_learns_39 : decode cX8_learns 39 = .ok (.ireturn, 1) := by decide +kernel
theorem dX8_learns_40 : decode cX8_learns 40 = .ok (.aload_n 0, 1) := by decide +kernel
theorem dX8_learns_41 : decode cX8_learns 41 = .ok (.getfield 7, 3) := by decide +kernel
theorem dX8_learns_44 : decode cX8_learns 44 = .ok (.bipush 86, 2) := by decide +kernel
theorem dX8_learns_46 : decode cX8_learns 46 = .ok (.bipush 10, 2) := by decide +kernel
theorem dX8_learns_48 : decode cX8_learns 48 = .ok (.iload_n 1, 1) := by decide +kernel
theorem dX8_learns_49 : decode cX8_learns 49 = .ok (.imul, 1) := by decide +kernel
theorem dX8_learns_50 : decode cX8_learns 50 = .ok (.iadd, 1) := by decide +kernel
theorem dX8_learns_51 : decode cX8_learns 51 = .ok (.iconst 2, 1) := by decide +kernel
theorem dX8_learns_52 : decode cX8_learns 52 = .ok (.iload_n 3, 1) := by decide +kernel
theorem dX8_learns_53 : decode cX8_learns 53 = .ok (.imul, 1) := by decide +kernel
theorem dX8_learns_54 : decode cX8_learns 54 = .ok (.iadd, 1) := by decide +kernel
theorem dX8_learns_55 : decode cX8_learns 55 = .ok (.iload_n 2, 1) := by decide +kernel
theorem dX8_learns_56 : decode cX8_learns 56 = .ok (.iadd, 1) := by decide +kernel
theorem dX8_learns_57 : decode cX8_learns 57 = .ok (.iaload, 1) := by decide +kernel
theorem dX8_learns_58 : decode cX8_learns 58 = .ok (.istore 5, 2) := by decide +kernel
theorem dX8_learns_60 : decode cX8_learns 60 = .ok (.aload_n 0, 1) := by decide +kernel
theorem dX8_learns_61 : decode cX8_learns 61 = .ok (.getfield 7, 3) := by decide +kernel
theorem dX8_learns_64 : decode cX8_learns 64 = .ok (.bipush 86, 2) := by decide +kernel
theorem dX8_learns_66 : decode cX8_learns 66 = .ok (.bipush 10, 2) := by decide +kernel
theorem dX8_learns_68 : decode cX8_learns 68 = .ok (.iload_n 1, 1) := by decide +kernel
theorem dX8_learns_69 : decode cX8_learns 69 = .ok (.imul, 1) := by decide +kernel
theorem dX8_learns_70 : decode cX8_learns 70 = .ok (.iadd, 1) := by decide +kernel
theorem dX8_learns_71 : decode cX8_learns 71 = .ok (.iconst 2, 1) := by decide +kernel
theorem dX8_learns_72 : decode cX8_learns 72 = .ok (.iload_n 3, 1) := by decide +kernel
theorem dX8_learns_73 : decode cX8_learns 73 = .ok (.imul, 1) := by decide +kernel
theorem dX8_learns_74 : decode cX8_learns 74 = .ok (.iadd, 1) := by decide +kernel
theorem dX8_learns_75 : decode cX8_learns 75 = .ok (.iconst 1, 1) := by decide +kernel
theorem dX8_learns_76 : decode cX8_learns 76 = .ok (.iadd, 1) := by decide +kernel
theorem dX8_learns_77 : decode cX8_learns 77 = .ok (.iload_n 2, 1) := by decide +kernel
theorem dX8_learns_78 : decode cX8_learns 78 = .ok (.isub, 1) := by decide +kernel
theorem dX8_learns_79 : decode cX8_learns 79 = .ok (.iaload, 1) := by decide +kernel
theorem dX8_learns_80 : decode cX8_learns 80 = .ok (.istore 6, 2) := by decide +kernel
theorem dX8_learns_82 : decode cX8_learns 82 = .ok (.iload_n 2, 1) := by decide +kernel
theorem dX8_learns_83 : decode cX8_learns 83 = .ok (.ifCond .ne 8, 3) := by decide +kernel
theorem dX8_learns_86 : decode cX8_learns 86 = .ok (.iload 5, 2) := by decide +kernel
theorem dX8_learns_88 : decode cX8_learns 88 = .ok (.goto 5, 3) := by decide +kernel
theorem dX8_learns_91 : decode cX8_learns 91 = .ok (.iload 6, 2) := by decide +kernel
theorem dX8_learns_93 : decode cX8_learns 93 = .ok (.istore 7, 2) := by decide +kernel
theorem dX8_learns_95 : decode cX8_learns 95 = .ok (.iload_n 2, 1) := by decide +kernel
theorem dX8_learns_96 : decode cX8_learns 96 = .ok (.ifCond .ne 8, 3) := by decide +kernel
theorem dX8_learns_99 : decode cX8_learns 99 = .ok (.iload 6, 2) := by decide +kernel
theorem dX8_learns_101 : decode cX8_learns 101 = .ok (.goto 5, 3) := by decide +kernel
theorem dX8_learns_104 : decode cX8_learns 104 = .ok (.iload 5, 2) := by decide +kernel
theorem dX8_learns_106 : decode cX8_learns 106 = .ok (.istore 8, 2) := by decide +kernel
theorem dX8_learns_108 : decode cX8_learns 108 = .ok (.bipush (-5), 2) := by decide +kernel
theorem dX8_learns_110 : decode cX8_learns 110 = .ok (.istore 9, 2) := by decide +kernel
theorem dX8_learns_112 : decode cX8_learns 112 = .ok (.iconst 0, 1) := by decide +kernel
theorem dX8_learns_113 : decode cX8_learns 113 = .ok (.istore 10, 2) := by decide +kernel
theorem dX8_learns_115 : decode cX8_learns 115 = .ok (.iload 10, 2) := by decide +kernel
theorem dX8_learns_117 : decode cX8_learns 117 = .ok (.bipush 100, 2) := by decide +kernel
theorem dX8_learns_119 : decode cX8_learns 119 = .ok (.if_icmp .gt 112, 3) := by decide +kernel
theorem dX8_learns_122 : decode cX8_learns 122 = .ok (.iload_n 2, 1) := by decide +kernel
theorem dX8_learns_123 : decode cX8_learns 123 = .ok (.ifCond .ne 8, 3) := by decide +kernel
theorem dX8_learns_126 : decode cX8_learns 126 = .ok (.iload 5, 2) := by decide +kernel
theorem dX8_learns_128 : decode cX8_learns 128 = .ok (.goto 5, 3) := by decide +kernel
theorem dX8_learns_131 : decode cX8_learns 131 = .ok (.iload 10, 2) := by decide +kernel
theorem dX8_learns_133 : decode cX8_learns 133 = .ok (.istore 11, 2) := by decide +kernel
theorem dX8_learns_135 : decode cX8_learns 135 = .ok (.iload_n 2, 1) := by decide +kernel
theorem dX8_learns_136 : decode cX8_learns 136 = .ok (.ifCond .ne 8, 3) := by decide +kernel
theorem dX8_learns_139 : decode cX8_learns 139 = .ok (.iload 10, 2) := by decide +kernel
theorem dX8_learns_141 : decode cX8_learns 141 = .ok (.goto 5, 3) := by decide +kernel
theorem dX8_learns_144 : decode cX8_learns 144 = .ok (.iload 5, 2) := by decide +kernel
theorem dX8_learns_146 : decode cX8_learns 146 = .ok (.istore 12, 2) := by decide +kernel
theorem dX8_learns_148 : decode cX8_learns 148 = .ok (.iload 8, 2) := by decide +kernel
theorem dX8_learns_150 : decode cX8_learns 150 = .ok (.iload 7, 2) := by decide +kernel
theorem dX8_learns_152 : decode cX8_learns 152 = .ok (.if_icmp .ge 18, 3) := by decide +kernel
theorem dX8_learns_155 : decode cX8_learns 155 = .ok (.iload 12, 2) := by decide +kernel
theorem dX8_learns_157 : decode cX8_learns 157 = .ok (.iload 11, 2) := by decide +kernel
theorem dX8_learns_159 : decode cX8_learns 159 = .ok (.if_icmp .ge 7, 3) := by decide +kernel
theorem dX8_learns_162 : decode cX8_learns 162 = .ok (.iconst 1, 1) := by decide +kernel
theorem dX8_learns_163 : decode cX8_learns 163 = .ok (.goto 36, 3) := by decide +kernel
theorem dX8_learns_166 : decode cX8_learns 166 = .ok (.iconst 0, 1) := by decide +kernel
theorem dX8_learns_167 : decode cX8_learns 167 = .ok (.goto 32, 3) := by decide +kernel
theorem dX8_learns_170 : decode cX8_learns 170 = .ok (.iload 12, 2) := by decide +kernel
theorem dX8_learns_172 : decode cX8_learns 172 = .ok (.iload 11, 2) := by decide +kernel
theorem dX8_learns_174 : decode cX8_learns 174 = .ok (.if_icmp .lt 24, 3) := by decide +kernel
theorem dX8_learns_177 : decode cX8_learns 177 = .ok (.iload 11, 2) := by decide +kernel
theorem dX8_learns_179 : decode cX8_learns 179 = .ok (.iload 12, 2) := by decide +kernel
theorem dX8_learns_181 : decode cX8_learns 181 = .ok (.iadd, 1) := by decide +kernel
theorem dX8_learns_182 : decode cX8_learns 182 = .ok (.iconst 2, 1) := by decide +kernel
theorem dX8_learns_183 : decode cX8_learns 183 = .ok (.idiv, 1) := by decide +kernel
theorem dX8_learns_184 : decode cX8_learns 184 = .ok (.iload 7, 2) := by decide +kernel
theorem dX8_learns_186 : decode cX8_learns 186 = .ok (.iload 8, 2) := by decide +kernel
theorem dX8_learns_188 : decode cX8_learns 188 = .ok (.iadd, 1) := by decide +kernel
theorem dX8_learns_189 : decode cX8_learns 189 = .ok (.iconst 2, 1) := by decide +kernel
theorem dX8_learns_190 : decode cX8_learns 190 = .ok (.idiv, 1) := by decide +kernel
theorem dX8_learns_191 : decode cX8_learns 191 = .ok (.if_icmp .ne 7, 3) := by decide +kernel
theorem dX8_learns_194 : decode cX8_learns 194 = .ok (.iconst 1, 1) := by decide +kernel
theorem dX8_learns_195 : decode cX8_learns 195 = .ok (.goto 4, 3) := by decide +kernel
theorem dX8_learns_198 : decode cX8_learns 198 = .ok (.iconst 0, 1) := by decide +kernel
theorem dX8_learns_199 : decode cX8_learns 199 = .ok (.istore 13, 2) := by decide +kernel
theorem dX8_learns_201 : decode cX8_learns 201 = .ok (.iload 13, 2) := by decide +kernel
theorem dX8_learns_203 : decode cX8_learns 203 = .ok (.ifCond .eq 18, 3) := by decide +kernel
theorem dX8_learns_206 : decode cX8_learns 206 = .ok (.iload 9, 2) := by decide +kernel
theorem dX8_learns_208 : decode cX8_learns 208 = .ok (.ifCond .lt 8, 3) := by decide +kernel
theorem dX8_learns_211 : decode cX8_learns 211 = .ok (.iload 4, 2) := by decide +kernel
theorem dX8_learns_213 : decode cX8_learns 213 = .ok (.ifCond .eq 8, 3) := by decide +kernel
theorem dX8_learns_216 : decode cX8_learns 216 = .ok (.iload 10, 2) := by decide +kernel
theorem dX8_learns_218 : decode cX8_learns 218 = .ok (.goto 5, 3) := by decide +kernel
theorem dX8_learns_221 : decode cX8_learns 221 = .ok (.iload 9, 2) := by decide +kernel
theorem dX8_learns_223 : decode cX8_learns 223 = .ok (.istore 9, 2) := by decide +kernel
theorem dX8_learns_225 : decode cX8_learns 225 = .ok (.iinc 10 1, 3) := by decide +kernel
theorem dX8_learns_228 : decode cX8_learns 228 = .ok (.goto (-113), 3) := by decide +kernel
theorem dX8_learns_231 : decode cX8_learns 231 = .ok (.iload 9, 2) := by decide +kernel
theorem dX8_learns_233 : decode cX8_learns 233 = .ok (.ireturn, 1) := by decide +kernel
theorem dX8_oneOf_0 : decode cX8_oneOf 0 = .ok (.iload_n 0, 1) := by decide +kernel
theorem dX8_oneOf_1 : decode cX8_oneOf 1 = .ok (.iconst 3, 1) := by decide +kernel
theorem dX8_oneOf_2 : decode cX8_oneOf 2 = .ok (.if_icmp .ge 7, 3) := by decide +kernel
theorem dX8_oneOf_5 : decode cX8_oneOf 5 = .ok (.iconst 0, 1) := by decide +kernel
theorem dX8_oneOf_6 : decode cX8_oneOf 6 = .ok (.goto 13, 3) := by decide +kernel
theorem dX8_oneOf_9 : decode cX8_oneOf 9 = .ok (.iload_n 0, 1) := by decide +kernel
theorem dX8_oneOf_10 : decode cX8_oneOf 10 = .ok (.iconst 5, 1) := by decide +kernel
theorem dX8_oneOf_11 : decode cX8_oneOf 11 = .ok (.if_icmp .ge 7, 3) := by decide +kernel
theorem dX8_oneOf_14 : decode cX8_oneOf 14 = .ok (.iconst 1, 1) := by decide +kernel
theorem dX8_oneOf_15 : decode cX8_oneOf 15 = .ok (.goto 4, 3) := by decide +kernel
theorem dX8_oneOf_18 : decode cX8_oneOf 18 = .ok (.iconst 2, 1) := by decide +kernel
theorem dX8_oneOf_19 : decode cX8_oneOf 19 = .ok (.ireturn, 1) := by decide +kernel
theorem dX8_otherOf_0 : decode cX8_otherOf 0 = .ok (.iload_n 0, 1) := by decide +kernel
theorem dX8_otherOf_1 : decode cX8_otherOf 1 = .ok (.iconst 3, 1) := by decide +kernel
theorem dX8_otherOf_2 : decode cX8_otherOf 2 = .ok (.if_icmp .ge 9, 3) := by decide +kernel
theorem dX8_otherOf_5 : decode cX8_otherOf 5 = .ok (.iload_n 0, 1) := by decide +kernel
theorem dX8_otherOf_6 : decode cX8_otherOf 6 = .ok (.iconst 1, 1) := by decide +kernel
theorem dX8_otherOf_7 : decode cX8_otherOf 7 = .ok (.iadd, 1) := by decide +kernel
theorem dX8_otherOf_8 : decode cX8_otherOf 8 = .ok (.goto 15, 3) := by decide +kernel
theorem dX8_otherOf_11 : decode cX8_otherOf 11 = .ok (.iload_n 0, 1) := by decide +kernel
theorem dX8_otherOf_12 : decode cX8_otherOf 12 = .ok (.iconst 5, 1) := by decide +kernel
theorem dX8_otherOf_13 : decode cX8_otherOf 13 = .ok (.if_icmp .ge 9, 3) := by decide +kernel
theorem dX8_otherOf_16 : decode cX8_otherOf 16 = .ok (.iload_n 0, 1) := by decide +kernel
theorem dX8_otherOf_17 : decode cX8_otherOf 17 = .ok (.iconst 1, 1) := by decide +kernel
theorem dX8_otherOf_18 : decode cX8_otherOf 18 = .ok (.isub, 1) := by decide +kernel
theorem dX8_otherOf_19 : decode cX8_otherOf 19 = .ok (.goto 4, 3) := by decide +kernel
theorem dX8_otherOf_22 : decode cX8_otherOf 22 = .ok (.iconst 3, 1) := by decide +kernel
theorem dX8_otherOf_23 : decode cX8_otherOf 23 = .ok (.ireturn, 1) := by decide +kernel
set_option maxRecDepth 20000 in
theorem ggX8_isPair_X8_in : GoodIn wsX8_isPair wsX8_in := goodIn_r _ [4] (by decide +kernel) (by decide +kernel)
set_option maxRecDepth 20000 in
theorem gX8_isPair_X8_in : GoodIn wsX8_isPair (va_wsS RX8 35 yX8_in wsX8_in) := goodIn_app (goodIn_of _ (by decide +kernel)) ggX8_isPair_X8_in
set_option maxRecDepth 20000 in
theorem ggX8_isPair_X8_otherOf : GoodIn wsX8_isPair wsX8_otherOf := goodIn_r _ [7] (by decide +kernel) (by decide +kernel)
set_option maxRecDepth 20000 in
theorem gX8_isPair_X8_otherOf : GoodIn wsX8_isPair (va_wsS RX8 63 yX8_otherOf wsX8_otherOf) := goodIn_app (goodIn_of _ (by decide +kernel)) ggX8_isPair_X8_otherOf
set_option maxRecDepth 20000 in
theorem ggX8_isPair_X8_isMediator : GoodIn wsX8_isPair wsX8_isMediator := goodIn_r _ [11, 12, 1, 2, 3, 4, 13, 14, 15, 16, 17, 18, 19, 20, 21, 22, 23] (by decide +kernel) (by decide +kernel)
set_option maxRecDepth 20000 in
theorem gX8_isPair_X8_isMediator : GoodIn wsX8_isPair (wsV RX8 39 RX8 yX8_isMediator wsX8_isMediator) := goodIn_app (goodIn_of _ (by decide +kernel)) ggX8_isPair_X8_isMediator
theorem dX8_isPair_0 : decode cX8_isPair 0 = .ok (.iload_n 1, 1) := by decide +kernel
theorem dX8_isPair_1 : decode cX8_isPair 1 = .ok (.iconst 0, 1) := by decide +kernel
theorem dX8_isPair_2 : decode cX8_isPair 2 = .ok (.iconst 5, 1) := by decide +kernel
theorem dX8_isPair_3 : decode cX8_isPair 3 = .ok (.invokestatic 35, 3) := by decide +kernel
theorem dX8_isPair_6 : decode cX8_isPair 6 = .ok (.ifCond .eq 18, 3) := by decide +kernel
theorem dX8_isPair_9 : decode cX8_isPair 9 = .ok (.aload_n 0, 1) := by decide +kernel
theorem dX8_isPair_10 : decode cX8_isPair 10 = .ok (.iload_n 1, 1) := by decide +kernel
theorem dX8_isPair_11 : decode cX8_isPair 11 = .ok (.invokestatic 63, 3) := by decide +kernel
theorem dX8_isPair_14 : decode cX8_isPair 14 = .ok (.invokevirtual 39, 3) := by decide +kernel
theorem dX8_isPair_17 : decode cX8_isPair 17 = .ok (.ifCond .eq 7, 3) := by decide +kernel
theorem dX8_isPair_20 : decode cX8_isPair 20 = .ok (.iconst 1, 1) := by decide +kernel
theorem dX8_isPair_21 : decode cX8_isPair 21 = .ok (.goto 4, 3) := by decide +kernel
theorem dX8_isPair_24 : decode cX8_isPair 24 = .ok (.iconst 0, 1) := by decide +kernel
theorem dX8_isPair_25 : decode cX8_isPair 25 = .ok (.ireturn, 1) := by decide +kernel
theorem dX8_mayMeet_0 : decode cX8_mayMeet 0 = .ok (.aload_n 0, 1) := by decide +kernel
theorem dX8_mayMeet_1 : decode cX8_mayMeet 1 = .ok (.getfield 7, 3) := by decide +kernel
theorem dX8_mayMeet_4 : decode cX8_mayMeet 4 = .ok (.bipush 20, 2) := by decide +kernel
theorem dX8_mayMeet_6 : decode cX8_mayMeet 6 = .ok (.iconst 2, 1) := by decide +kernel
theorem dX8_mayMeet_7 : decode cX8_mayMeet 7 = .ok (.iload_n 1, 1) := by decide +kernel
theorem dX8_mayMeet_8 : decode cX8_mayMeet 8 = .ok (.imul, 1) := by decide +kernel
theorem dX8_mayMeet_9 : decode cX8_mayMeet 9 = .ok (.iadd, 1) := by decide +kernel
theorem dX8_mayMeet_10 : decode cX8_mayMeet 10 = .ok (.iaload, 1) := by decide +kernel
theorem dX8_mayMeet_11 : decode cX8_mayMeet 11 = .ok (.aload_n 0, 1) := by decide +kernel
theorem dX8_mayMeet_12 : decode cX8_mayMeet 12 = .ok (.getfield 7, 3) := by decide +kernel
theorem dX8_mayMeet_15 : decode cX8_mayMeet 15 = .ok (.iconst 4, 1) := by decide +kernel
theorem dX8_mayMeet_16 : decode cX8_mayMeet 16 = .ok (.iconst 2, 1) := by decide +kernel
theorem dX8_mayMeet_17 : decode cX8_mayMeet 17 = .ok (.iload_n 2, 1) := by decide +kernel
theorem dX8_mayMeet_18 : decode cX8_mayMeet 18 = .ok (.imul, 1) := by decide +kernel
theorem dX8_mayMeet_19 : decode cX8_mayMeet 19 = .ok (.iadd, 1) := by decide +kernel
theorem dX8_mayMeet_20 : decode cX8_mayMeet 20 = .ok (.iaload, 1) := by decide +kernel
theorem dX8_mayMeet_21 : decode cX8_mayMeet 21 = .ok (.if_icmp .eq 23, 3) := by decide +kernel
theorem dX8_mayMeet_24 : decode cX8_mayMeet 24 = .ok (.aload_n 0, 1) := by decide +kernel
theorem dX8_mayMeet_25 : decode cX8_mayMeet 25 = .ok (.getfield 7, 3) := by decide +kernel
theorem dX8_mayMeet_28 : decode cX8_mayMeet 28 = .ok (.bipush 28, 2) := by decide +kernel
theorem dX8_mayMeet_30 : decode cX8_mayMeet 30 = .ok (.iload_n 1, 1) := by decide +kernel
theorem dX8_mayMeet_31 : decode cX8_mayMeet 31 = .ok (.iadd, 1) := by decide +kernel
theorem dX8_mayMeet_32 : decode cX8_mayMeet 32 = .ok (.iaload, 1) := by decide +kernel
theorem dX8_mayMeet_33 : decode cX8_mayMeet 33 = .ok (.iload_n 2, 1) := by decide +kernel
theorem dX8_mayMeet_34 : decode cX8_mayMeet 34 = .ok (.ishr, 1) := by decide +kernel
theorem dX8_mayMeet_35 : decode cX8_mayMeet 35 = .ok (.iconst 1, 1) := by decide +kernel
theorem dX8_mayMeet_36 : decode cX8_mayMeet 36 = .ok (.iand, 1) := by decide +kernel
theorem dX8_mayMeet_37 : decode cX8_mayMeet 37 = .ok (.ifCond .ne 7, 3) := by decide +kernel
theorem dX8_mayMeet_40 : decode cX8_mayMeet 40 = .ok (.iconst 1, 1) := by decide +kernel
theorem dX8_mayMeet_41 : decode cX8_mayMeet 41 = .ok (.goto 4, 3) := by decide +kernel
theorem dX8_mayMeet_44 : decode cX8_mayMeet 44 = .ok (.iconst 0, 1) := by decide +kernel
theorem dX8_mayMeet_45 : decode cX8_mayMeet 45 = .ok (.ireturn, 1) := by decide +kernel
set_option maxRecDepth 20000 in
theorem ggX8_may_X8_oneOf : GoodIn wsX8_may wsX8_oneOf := goodIn_r _ [5] (by decide +kernel) (by decide +kernel)
set_option maxRecDepth 20000 in
theorem gX8_may_X8_oneOf : GoodIn wsX8_may (va_wsS RX8 66 yX8_oneOf wsX8_oneOf) := goodIn_app (goodIn_of _ (by decide +kernel)) ggX8_may_X8_oneOf
set_option maxRecDepth 20000 in
theorem ggX8_may_X8_otherOf : GoodIn wsX8_may wsX8_otherOf := goodIn_r _ [8] (by decide +kernel) (by decide +kernel)
set_option maxRecDepth 20000 in
theorem gX8_may_X8_otherOf : GoodIn wsX8_may (va_wsS RX8 63 yX8_otherOf wsX8_otherOf) := goodIn_app (goodIn_of _ (by decide +kernel)) ggX8_may_X8_otherOf
set_option maxRecDepth 20000 in
theorem ggX8_may_X8_at : GoodIn wsX8_may wsX8_at := goodIn_r _ [11] (by decide +kernel) (by decide +kernel)
set_option maxRecDepth 20000 in
theorem gX8_may_X8_at : GoodIn wsX8_may (va_wsS RX8 46 yX8_at wsX8_at) := goodIn_app (goodIn_of _ (by decide +kernel)) ggX8_may_X8_at
set_option maxRecDepth 20000 in
theorem ggX8_may_X8_mayMeet : GoodIn wsX8_may wsX8_mayMeet := goodIn_r _ [15, 1, 16, 17, 18, 19, 20, 21, 22, 23, 24, 25, 26] (by decide +kernel) (by decide +kernel)
set_option maxRecDepth 20000 in
theorem gX8_may_X8_mayMeet : GoodIn wsX8_may (wsV RX8 69 RX8 yX8_mayMeet wsX8_mayMeet) := goodIn_app (goodIn_of _ (by decide +kernel)) ggX8_may_X8_mayMeet
theorem dX8_may_0 : decode cX8_may 0 = .ok (.iload_n 1, 1) := by decide +kernel
theorem dX8_may_1 : decode cX8_may 1 = .ok (.invokestatic 66, 3) := by decide +kernel
theorem dX8_may_4 : decode cX8_may 4 = .ok (.istore_n 3, 1) := by decide +kernel
theorem dX8_may_5 : decode cX8_may 5 = .ok (.iload_n 1, 1) := by decide +kernel
theorem dX8_may_6 : decode cX8_may 6 = .ok (.invokestatic 63, 3) := by decide +kernel
theorem dX8_may_9 : decode cX8_may 9 = .ok (.istore 4, 2) := by decide +kernel
theorem dX8_may_11 : decode cX8_may 11 = .ok (.aload_n 0, 1) := by decide +kernel
theorem dX8_may_12 : decode cX8_may 12 = .ok (.getfield 7, 3) := by decide +kernel
theorem dX8_may_15 : decode cX8_may 15 = .ok (.bipush 20, 2) := by decide +kernel
theorem dX8_may_17 : decode cX8_may 17 = .ok (.iconst 2, 1) := by decide +kernel
theorem dX8_may_18 : decode cX8_may 18 = .ok (.iload_n 3, 1) := by decide +kernel
theorem dX8_may_19 : decode cX8_may 19 = .ok (.imul, 1) := by decide +kernel
theorem dX8_may_20 : decode cX8_may 20 = .ok (.iadd, 1) := by decide +kernel
theorem dX8_may_21 : decode cX8_may 21 = .ok (.iconst 1, 1) := by decide +kernel
theorem dX8_may_22 : decode cX8_may 22 = .ok (.iadd, 1) := by decide +kernel
theorem dX8_may_23 : decode cX8_may 23 = .ok (.iaload, 1) := by decide +kernel
theorem dX8_may_24 : decode cX8_may 24 = .ok (.aload_n 0, 1) := by decide +kernel
theorem dX8_may_25 : decode cX8_may 25 = .ok (.getfield 7, 3) := by decide +kernel
theorem dX8_may_28 : decode cX8_may 28 = .ok (.bipush 20, 2) := by decide +kernel
theorem dX8_may_30 : decode cX8_may 30 = .ok (.iconst 2, 1) := by decide +kernel
theorem dX8_may_31 : decode cX8_may 31 = .ok (.iload 4, 2) := by decide +kernel
theorem dX8_may_33 : decode cX8_may 33 = .ok (.imul, 1) := by decide +kernel
theorem dX8_may_34 : decode cX8_may 34 = .ok (.iadd, 1) := by decide +kernel
theorem dX8_may_35 : decode cX8_may 35 = .ok (.iconst 1, 1) := by decide +kernel
theorem dX8_may_36 : decode cX8_may 36 = .ok (.iadd, 1) := by decide +kernel
theorem dX8_may_37 : decode cX8_may 37 = .ok (.iaload, 1) := by decide +kernel
theorem dX8_may_38 : decode cX8_may 38 = .ok (.ior, 1) := by decide +kernel
theorem dX8_may_39 : decode cX8_may 39 = .ok (.istore 5, 2) := by decide +kernel
theorem dX8_may_41 : decode cX8_may 41 = .ok (.iconst 1, 1) := by decide +kernel
theorem dX8_may_42 : decode cX8_may 42 = .ok (.istore 6, 2) := by decide +kernel
theorem dX8_may_44 : decode cX8_may 44 = .ok (.iconst 0, 1) := by decide +kernel
theorem dX8_may_45 : decode cX8_may 45 = .ok (.istore 7, 2) := by decide +kernel
theorem dX8_may_47 : decode cX8_may 47 = .ok (.iload 7, 2) := by decide +kernel
theorem dX8_may_49 : decode cX8_may 49 = .ok (.iconst 2, 1) := by decide +kernel
theorem dX8_may_50 : decode cX8_may 50 = .ok (.if_icmp .ge 77, 3) := by decide +kernel
theorem dX8_may_53 : decode cX8_may 53 = .ok (.aload_n 0, 1) := by decide +kernel
theorem dX8_may_54 : decode cX8_may 54 = .ok (.getfield 7, 3) := by decide +kernel
theorem dX8_may_57 : decode cX8_may 57 = .ok (.iload_n 2, 1) := by decide +kernel
theorem dX8_may_58 : decode cX8_may 58 = .ok (.iload 7, 2) := by decide +kernel
theorem dX8_may_60 : decode cX8_may 60 = .ok (.invokestatic 46, 3) := by decide +kernel
theorem dX8_may_63 : decode cX8_may 63 = .ok (.iaload, 1) := by decide +kernel
theorem dX8_may_64 : decode cX8_may 64 = .ok (.istore 8, 2) := by decide +kernel
theorem dX8_may_66 : decode cX8_may 66 = .ok (.iload 6, 2) := by decide +kernel
theorem dX8_may_68 : decode cX8_may 68 = .ok (.ifCond .eq 50, 3) := by decide +kernel
theorem dX8_may_71 : decode cX8_may 71 = .ok (.iload 5, 2) := by decide +kernel
theorem dX8_may_73 : decode cX8_may 73 = .ok (.aload_n 0, 1) := by decide +kernel
theorem dX8_may_74 : decode cX8_may 74 = .ok (.getfield 7, 3) := by decide +kernel
theorem dX8_may_77 : decode cX8_may 77 = .ok (.iconst 4, 1) := by decide +kernel
theorem dX8_may_78 : decode cX8_may 78 = .ok (.iconst 2, 1) := by decide +kernel
theorem dX8_may_79 : decode cX8_may 79 = .ok (.iload 8, 2) := by decide +kernel
theorem dX8_may_81 : decode cX8_may 81 = .ok (.imul, 1) := by decide +kernel
theorem dX8_may_82 : decode cX8_may 82 = .ok (.iadd, 1) := by decide +kernel
theorem dX8_may_83 : decode cX8_may 83 = .ok (.iconst 1, 1) := by decide +kernel
theorem dX8_may_84 : decode cX8_may 84 = .ok (.iadd, 1) := by decide +kernel
theorem dX8_may_85 : decode cX8_may 85 = .ok (.iaload, 1) := by decide +kernel
theorem dX8_may_86 : decode cX8_may 86 = .ok (.ishr, 1) := by decide +kernel
theorem dX8_may_87 : decode cX8_may 87 = .ok (.iconst 1, 1) := by decide +kernel
theorem dX8_may_88 : decode cX8_may 88 = .ok (.iand, 1) := by decide +kernel
theorem dX8_may_89 : decode cX8_may 89 = .ok (.iconst 1, 1) := by decide +kernel
theorem dX8_may_90 : decode cX8_may 90 = .ok (.if_icmp .ne 28, 3) := by decide +kernel
theorem dX8_may_93 : decode cX8_may 93 = .ok (.aload_n 0, 1) := by decide +kernel
theorem dX8_may_94 : decode cX8_may 94 = .ok (.iload_n 3, 1) := by decide +kernel
theorem dX8_may_95 : decode cX8_may 95 = .ok (.iload 8, 2) := by decide +kernel
theorem dX8_may_97 : decode cX8_may 97 = .ok (.invokevirtual 69, 3) := by decide +kernel
theorem dX8_may_100 : decode cX8_may 100 = .ok (.ifCond .eq 18, 3) := by decide +kernel
theorem dX8_may_103 : decode cX8_may 103 = .ok (.aload_n 0, 1) := by decide +kernel
theorem dX8_may_104 : decode cX8_may 104 = .ok (.iload 4, 2) := by decide +kernel
theorem dX8_may_106 : decode cX8_may 106 = .ok (.iload 8, 2) := by decide +kernel
theorem dX8_may_108 : decode cX8_may 108 = .ok (.invokevirtual 69, 3) := by decide +kernel
theorem dX8_may_111 : decode cX8_may 111 = .ok (.ifCond .eq 7, 3) := by decide +kernel
theorem dX8_may_114 : decode cX8_may 114 = .ok (.iconst 1, 1) := by decide +kernel
theorem dX8_may_115 : decode cX8_may 115 = .ok (.goto 4, 3) := by decide +kernel
theorem dX8_may_118 : decode cX8_may 118 = .ok (.iconst 0, 1) := by decide +kernel
theorem dX8_may_119 : decode cX8_may 119 = .ok (.istore 6, 2) := by decide +kernel
theorem dX8_may_121 : decode cX8_may 121 = .ok (.iinc 7 1, 3) := by decide +kernel
theorem dX8_may_124 : decode cX8_may 124 = .ok (.goto (-77), 3) := by decide +kernel
theorem dX8_may_127 : decode cX8_may 127 = .ok (.iload 6, 2) := by decide +kernel
theorem dX8_may_129 : decode cX8_may 129 = .ok (.ireturn, 1) := by decide +kernel
set_option maxRecDepth 20000 in
theorem ggX8_maySit_X8_isPair : GoodIn wsX8_maySit wsX8_isPair := goodIn_r _ [5, 6, 7, 4, 8, 9, 10, 11, 12, 13, 14, 15, 16, 35, 36, 37, 38, 39, 40, 41, 42, 43, 44, 45] (by decide +kernel) (by decide +kernel)
set_option maxRecDepth 20000 in
theorem gX8_maySit_X8_isPair : GoodIn wsX8_maySit (wsV RX8 73 RX8 yX8_isPair wsX8_isPair) := goodIn_app (goodIn_of _ (by decide +kernel)) ggX8_maySit_X8_isPair
set_option maxRecDepth 20000 in
theorem ggX8_maySit_X8_isCase : GoodIn wsX8_maySit wsX8_isCase := goodIn_r _ [20, 16, 6, 7, 4, 8, 35, 36, 37, 38, 39, 40, 41, 42, 43, 44, 45] (by decide +kernel) (by decide +kernel)
set_option maxRecDepth 20000 in
theorem gX8_maySit_X8_isCase : GoodIn wsX8_maySit (wsV RX8 50 RX8 yX8_isCase wsX8_isCase) := goodIn_app (goodIn_of _ (by decide +kernel)) ggX8_maySit_X8_isCase
set_option maxRecDepth 20000 in
theorem ggX8_maySit_X8_may : GoodIn wsX8_maySit wsX8_may := goodIn_r _ [24, 16, 25, 26, 4, 27, 9, 10, 11, 28, 29, 30, 31, 32, 33, 34, 35, 36, 37, 38, 39, 40, 41, 42, 43, 44, 45] (by decide +kernel) (by decide +kernel)
set_option maxRecDepth 20000 in
theorem gX8_maySit_X8_may : GoodIn wsX8_maySit (wsV RX8 76 RX8 yX8_may wsX8_may) := goodIn_app (goodIn_of _ (by decide +kernel)) ggX8_maySit_X8_may
theorem dX8_maySit_0 : decode cX8_maySit 0 = .ok (.aload_n 0, 1) := by decide +kernel
theorem dX8_maySit_1 : decode cX8_maySit 1 = .ok (.iload_n 1, 1) := by decide +kernel
theorem dX8_maySit_2 : decode cX8_maySit 2 = .ok (.invokevirtual 73, 3) := by decide +kernel
theorem dX8_maySit_5 : decode cX8_maySit 5 = .ok (.ifCond .eq 11, 3) := by decide +kernel
theorem dX8_maySit_8 : decode cX8_maySit 8 = .ok (.aload_n 0, 1) := by decide +kernel
theorem dX8_maySit_9 : decode cX8_maySit 9 = .ok (.iload_n 2, 1) := by decide +kernel
theorem dX8_maySit_10 : decode cX8_maySit 10 = .ok (.invokevirtual 50, 3) := by decide +kernel
theorem dX8_maySit_13 : decode cX8_maySit 13 = .ok (.ifCond .ne 5, 3) := by decide +kernel
theorem dX8_maySit_16 : decode cX8_maySit 16 = .ok (.iconst (-1), 1) := by decide +kernel
theorem dX8_maySit_17 : decode cX8_maySit 17 = .ok (.ireturn, 1) := by decide +kernel
theorem dX8_maySit_18 : decode cX8_maySit 18 = .ok (.aload_n 0, 1) := by decide +kernel
theorem dX8_maySit_19 : decode cX8_maySit 19 = .ok (.iload_n 1, 1) := by decide +kernel
theorem dX8_maySit_20 : decode cX8_maySit 20 = .ok (.iload_n 2, 1) := by decide +kernel
theorem dX8_maySit_21 : decode cX8_maySit 21 = .ok (.invokevirtual 76, 3) := by decide +kernel
theorem dX8_maySit_24 : decode cX8_maySit 24 = .ok (.ifCond .eq 7, 3) := by decide +kernel
theorem dX8_maySit_27 : decode cX8_maySit 27 = .ok (.iconst 1, 1) := by decide +kernel
theorem dX8_maySit_28 : decode cX8_maySit 28 = .ok (.goto 4, 3) := by decide +kernel
theorem dX8_maySit_31 : decode cX8_maySit 31 = .ok (.iconst 0, 1) := by decide +kernel
theorem dX8_maySit_32 : decode cX8_maySit 32 = .ok (.ireturn, 1) := by decide +kernel
set_option maxRecDepth 20000 in
theorem ggX8_rooms_X8_in : GoodIn wsX8_rooms wsX8_in := goodIn_r _ [5] (by decide +kernel) (by decide +kernel)
set_option maxRecDepth 20000 in
theorem gX8_rooms_X8_in : GoodIn wsX8_rooms (va_wsS RX8 35 yX8_in wsX8_in) := goodIn_app (goodIn_of _ (by decide +kernel)) ggX8_rooms_X8_in
theorem dX8_rooms_0 : decode cX8_rooms 0 = .ok (.iload_n 1, 1) := by decide +kernel
theorem dX8_rooms_1 : decode cX8_rooms 1 = .ok (.iconst 1, 1) := by decide +kernel
theorem dX8_rooms_2 : decode cX8_rooms 2 = .ok (.iconst 2, 1) := by decide +kernel
theorem dX8_rooms_3 : decode cX8_rooms 3 = .ok (.invokestatic 35, 3) := by decide +kernel
theorem dX8_rooms_6 : decode cX8_rooms 6 = .ok (.ifCond .ne 5, 3) := by decide +kernel
theorem dX8_rooms_9 : decode cX8_rooms 9 = .ok (.iconst (-1), 1) := by decide +kernel
theorem dX8_rooms_10 : decode cX8_rooms 10 = .ok (.ireturn, 1) := by decide +kernel
theorem dX8_rooms_11 : decode cX8_rooms 11 = .ok (.aload_n 0, 1) := by decide +kernel
theorem dX8_rooms_12 : decode cX8_rooms 12 = .ok (.getfield 16, 3) := by decide +kernel
theorem dX8_rooms_15 : decode cX8_rooms 15 = .ok (.istore_n 2, 1) := by decide +kernel
theorem dX8_rooms_16 : decode cX8_rooms 16 = .ok (.aload_n 0, 1) := by decide +kernel
theorem dX8_rooms_17 : decode cX8_rooms 17 = .ok (.iload_n 1, 1) := by decide +kernel
theorem dX8_rooms_18 : decode cX8_rooms 18 = .ok (.putfield 16, 3) := by decide +kernel
theorem dX8_rooms_21 : decode cX8_rooms 21 = .ok (.iload_n 2, 1) := by decide +kernel
theorem dX8_rooms_22 : decode cX8_rooms 22 = .ok (.ireturn, 1) := by decide +kernel
set_option maxRecDepth 20000 in
theorem ggX8_fits_X8_isPair : GoodIn wsX8_fits wsX8_isPair := goodIn_r _ [8, 9, 10, 7, 11, 12, 13, 14, 15, 16, 17, 18, 19, 34, 35, 36, 37, 38, 39, 40, 41, 42, 43, 44] (by decide +kernel) (by decide +kernel)
set_option maxRecDepth 20000 in
theorem gX8_fits_X8_isPair : GoodIn wsX8_fits (wsV RX8 73 RX8 yX8_isPair wsX8_isPair) := goodIn_app (goodIn_of _ (by decide +kernel)) ggX8_fits_X8_isPair
set_option maxRecDepth 20000 in
theorem ggX8_fits_X8_may : GoodIn wsX8_fits wsX8_may := goodIn_r _ [23, 19, 24, 25, 7, 26, 12, 13, 14, 27, 28, 29, 30, 31, 32, 33, 34, 35, 36, 37, 38, 39, 40, 41, 42, 43, 44] (by decide +kernel) (by decide +kernel)
set_option maxRecDepth 20000 in
theorem gX8_fits_X8_may : GoodIn wsX8_fits (wsV RX8 76 RX8 yX8_may wsX8_may) := goodIn_app (goodIn_of _ (by decide +kernel)) ggX8_fits_X8_may
set_option maxRecDepth 20000 in
theorem ggX8_fits_X8_oneOf : GoodIn wsX8_fits wsX8_oneOf := goodIn_r _ [26] (by decide +kernel) (by decide +kernel)
set_option maxRecDepth 20000 in
theorem gX8_fits_X8_oneOf : GoodIn wsX8_fits (va_wsS RX8 66 yX8_oneOf wsX8_oneOf) := goodIn_app (goodIn_of _ (by decide +kernel)) ggX8_fits_X8_oneOf
set_option maxRecDepth 20000 in
theorem ggX8_fits_X8_otherOf : GoodIn wsX8_fits wsX8_otherOf := goodIn_r _ [14] (by decide +kernel) (by decide +kernel)
set_option maxRecDepth 20000 in
theorem gX8_fits_X8_otherOf : GoodIn wsX8_fits (va_wsS RX8 63 yX8_otherOf wsX8_otherOf) := goodIn_app (goodIn_of _ (by decide +kernel)) ggX8_fits_X8_otherOf
theorem dX8_fits_0 : decode cX8_fits 0 = .ok (.aload_n 0, 1) := by decide +kernel
theorem dX8_fits_1 : decode cX8_fits 1 = .ok (.getfield 26, 3) := by decide +kernel
theorem dX8_fits_4 : decode cX8_fits 4 = .ok (.iload_n 1, 1) := by decide +kernel
theorem dX8_fits_5 : decode cX8_fits 5 = .ok (.iaload, 1) := by decide +kernel
theorem dX8_fits_6 : decode cX8_fits 6 = .ok (.istore_n 2, 1) := by decide +kernel
theorem dX8_fits_7 : decode cX8_fits 7 = .ok (.iload_n 2, 1) := by decide +kernel
theorem dX8_fits_8 : decode cX8_fits 8 = .ok (.bipush 18, 2) := by decide +kernel
theorem dX8_fits_10 : decode cX8_fits 10 = .ok (.if_icmp .ne 5, 3) := by decide +kernel
theorem dX8_fits_13 : decode cX8_fits 13 = .ok (.iconst 1, 1) := by decide +kernel
theorem dX8_fits_14 : decode cX8_fits 14 = .ok (.ireturn, 1) := by decide +kernel
theorem dX8_fits_15 : decode cX8_fits 15 = .ok (.iload_n 2, 1) := by decide +kernel
theorem dX8_fits_16 : decode cX8_fits 16 = .ok (.bipush 6, 2) := by decide +kernel
theorem dX8_fits_18 : decode cX8_fits 18 = .ok (.irem, 1) := by decide +kernel
theorem dX8_fits_19 : decode cX8_fits 19 = .ok (.istore_n 3, 1) := by decide +kernel
theorem dX8_fits_20 : decode cX8_fits 20 = .ok (.aload_n 0, 1) := by decide +kernel
theorem dX8_fits_21 : decode cX8_fits 21 = .ok (.iload_n 3, 1) := by decide +kernel
theorem dX8_fits_22 : decode cX8_fits 22 = .ok (.invokevirtual 73, 3) := by decide +kernel
theorem dX8_fits_25 : decode cX8_fits 25 = .ok (.ifCond .eq 17, 3) := by decide +kernel
theorem dX8_fits_28 : decode cX8_fits 28 = .ok (.aload_n 0, 1) := by decide +kernel
theorem dX8_fits_29 : decode cX8_fits 29 = .ok (.iload_n 3, 1) := by decide +kernel
theorem dX8_fits_30 : decode cX8_fits 30 = .ok (.aload_n 0, 1) := by decide +kernel
theorem dX8_fits_31 : decode cX8_fits 31 = .ok (.getfield 23, 3) := by decide +kernel
theorem dX8_fits_34 : decode cX8_fits 34 = .ok (.iload_n 1, 1) := by decide +kernel
theorem dX8_fits_35 : decode cX8_fits 35 = .ok (.iaload, 1) := by decide +kernel
theorem dX8_fits_36 : decode cX8_fits 36 = .ok (.invokevirtual 76, 3) := by decide +kernel
theorem dX8_fits_39 : decode cX8_fits 39 = .ok (.ifCond .ne 5, 3) := by decide +kernel
theorem dX8_fits_42 : decode cX8_fits 42 = .ok (.iconst 0, 1) := by decide +kernel
theorem dX8_fits_43 : decode cX8_fits 43 = .ok (.ireturn, 1) := by decide +kernel
theorem dX8_fits_44 : decode cX8_fits 44 = .ok (.iconst 0, 1) := by decide +kernel
theorem dX8_fits_45 : decode cX8_fits 45 = .ok (.istore 4, 2) := by decide +kernel
theorem dX8_fits_47 : decode cX8_fits 47 = .ok (.iconst 0, 1) := by decide +kernel
theorem dX8_fits_48 : decode cX8_fits 48 = .ok (.istore 5, 2) := by decide +kernel
theorem dX8_fits_50 : decode cX8_fits 50 = .ok (.iload 5, 2) := by decide +kernel
theorem dX8_fits_52 : decode cX8_fits 52 = .ok (.iload_n 1, 1) := by decide +kernel
theorem dX8_fits_53 : decode cX8_fits 53 = .ok (.if_icmp .ge 118, 3) := by decide +kernel
theorem dX8_fits_56 : decode cX8_fits 56 = .ok (.aload_n 0, 1) := by decide +kernel
theorem dX8_fits_57 : decode cX8_fits 57 = .ok (.getfield 26, 3) := by decide +kernel
theorem dX8_fits_60 : decode cX8_fits 60 = .ok (.iload 5, 2) := by decide +kernel
theorem dX8_fits_62 : decode cX8_fits 62 = .ok (.iaload, 1) := by decide +kernel
theorem dX8_fits_63 : decode cX8_fits 63 = .ok (.bipush 18, 2) := by decide +kernel
theorem dX8_fits_65 : decode cX8_fits 65 = .ok (.if_icmp .eq 100, 3) := by decide +kernel
theorem dX8_fits_68 : decode cX8_fits 68 = .ok (.aload_n 0, 1) := by decide +kernel
theorem dX8_fits_69 : decode cX8_fits 69 = .ok (.getfield 26, 3) := by decide +kernel
theorem dX8_fits_72 : decode cX8_fits 72 = .ok (.iload 5, 2) := by decide +kernel
theorem dX8_fits_74 : decode cX8_fits 74 = .ok (.iaload, 1) := by decide +kernel
theorem dX8_fits_75 : decode cX8_fits 75 = .ok (.bipush 6, 2) := by decide +kernel
theorem dX8_fits_77 : decode cX8_fits 77 = .ok (.idiv, 1) := by decide +kernel
theorem dX8_fits_78 : decode cX8_fits 78 = .ok (.iload_n 2, 1) := by decide +kernel
theorem dX8_fits_79 : decode cX8_fits 79 = .ok (.bipush 6, 2) := by decide +kernel
theorem dX8_fits_81 : decode cX8_fits 81 = .ok (.idiv, 1) := by decide +kernel
theorem dX8_fits_82 : decode cX8_fits 82 = .ok (.if_icmp .eq 6, 3) := by decide +kernel
theorem dX8_fits_85 : decode cX8_fits 85 = .ok (.goto 80, 3) := by decide +kernel
theorem dX8_fits_88 : decode cX8_fits 88 = .ok (.aload_n 0, 1) := by decide +kernel
theorem dX8_fits_89 : decode cX8_fits 89 = .ok (.getfield 26, 3) := by decide +kernel
theorem dX8_fits_92 : decode cX8_fits 92 = .ok (.iload 5, 2) := by decide +kernel
theorem dX8_fits_94 : decode cX8_fits 94 = .ok (.iaload, 1) := by decide +kernel
theorem dX8_fits_95 : decode cX8_fits 95 = .ok (.bipush 6, 2) := by decide +kernel
theorem dX8_fits_97 : decode cX8_fits 97 = .ok (.irem, 1) := by decide +kernel
theorem dX8_fits_98 : decode cX8_fits 98 = .ok (.istore 6, 2) := by decide +kernel
theorem dX8_fits_100 : decode cX8_fits 100 = .ok (.iload 6, 2) := by decide +kernel
theorem dX8_fits_102 : decode cX8_fits 102 = .ok (.invokestatic 66, 3) := by decide +kernel
theorem dX8_fits_105 : decode cX8_fits 105 = .ok (.iload_n 3, 1) := by decide +kernel
theorem dX8_fits_106 : decode cX8_fits 106 = .ok (.invokestatic 66, 3) := by decide +kernel
theorem dX8_fits_109 : decode cX8_fits 109 = .ok (.if_icmp .eq 39, 3) := by decide +kernel
theorem dX8_fits_112 : decode cX8_fits 112 = .ok (.iload 6, 2) := by decide +kernel
theorem dX8_fits_114 : decode cX8_fits 114 = .ok (.invokestatic 66, 3) := by decide +kernel
theorem dX8_fits_117 : decode cX8_fits 117 = .ok (.iload_n 3, 1) := by decide +kernel
theorem dX8_fits_118 : decode cX8_fits 118 = .ok (.invokestatic 63, 3) := by decide +kernel
theorem dX8_fits_121 : decode cX8_fits 121 = .ok (.if_icmp .eq 27, 3) := by decide +kernel
theorem dX8_fits_124 : decode cX8_fits 124 = .ok (.iload 6, 2) := by decide +kernel
theorem dX8_fits_126 : decode cX8_fits 126 = .ok (.invokestatic 63, 3) := by decide +kernel
theorem dX8_fits_129 : decode cX8_fits 129 = .ok (.iload_n 3, 1) := by decide +kernel
theorem dX8_fits_130 : decode cX8_fits 130 = .ok (.invokestatic 66, 3) := by decide +kernel
theorem dX8_fits_133 : decode cX8_fits 133 = .ok (.if_icmp .eq 15, 3) := by decide +kernel
theorem dX8_fits_136 : decode cX8_fits 136 = .ok (.iload 6, 2) := by decide +kernel
theorem dX8_fits_138 : decode cX8_fits 138 = .ok (.invokestatic 63, 3) := by decide +kernel
theorem dX8_fits_141 : decode cX8_fits 141 = .ok (.iload_n 3, 1) := by decide +kernel
theorem dX8_fits_142 : decode cX8_fits 142 = .ok (.invokestatic 63, 3) := by decide +kernel
theorem dX8_fits_145 : decode cX8_fits 145 = .ok (.if_icmp .ne 7, 3) := by decide +kernel
theorem dX8_fits_148 : decode cX8_fits 148 = .ok (.iconst 1, 1) := by decide +kernel
theorem dX8_fits_149 : decode cX8_fits 149 = .ok (.goto 4, 3) := by decide +kernel
theorem dX8_fits_152 : decode cX8_fits 152 = .ok (.iconst 0, 1) := by decide +kernel
theorem dX8_fits_153 : decode cX8_fits 153 = .ok (.istore 7, 2) := by decide +kernel
theorem dX8_fits_155 : decode cX8_fits 155 = .ok (.iload 7, 2) := by decide +kernel
theorem dX8_fits_157 : decode cX8_fits 157 = .ok (.ifCond .eq 5, 3) := by decide +kernel
theorem dX8_fits_160 : decode cX8_fits 160 = .ok (.iconst 0, 1) := by decide +kernel
theorem dX8_fits_161 : decode cX8_fits 161 = .ok (.ireturn, 1) := by decide +kernel
theorem dX8_fits_162 : decode cX8_fits 162 = .ok (.iinc 4 1, 3) := by decide +kernel
theorem dX8_fits_165 : decode cX8_fits 165 = .ok (.iinc 5 1, 3) := by decide +kernel
theorem dX8_fits_168 : decode cX8_fits 168 = .ok (.goto (-118), 3) := by decide +kernel
theorem dX8_fits_171 : decode cX8_fits 171 = .ok (.iload 4, 2) := by decide +kernel
theorem dX8_fits_173 : decode cX8_fits 173 = .ok (.aload_n 0, 1) := by decide +kernel
theorem dX8_fits_174 : decode cX8_fits 174 = .ok (.getfield 16, 3) := by decide +kernel
theorem dX8_fits_177 : decode cX8_fits 177 = .ok (.if_icmp .ge 7, 3) := by decide +kernel
theorem dX8_fits_180 : decode cX8_fits 180 = .ok (.iconst 1, 1) := by decide +kernel
theorem dX8_fits_181 : decode cX8_fits 181 = .ok (.goto 4, 3) := by decide +kernel
theorem dX8_fits_184 : decode cX8_fits 184 = .ok (.iconst 0, 1) := by decide +kernel
theorem dX8_fits_185 : decode cX8_fits 185 = .ok (.ireturn, 1) := by decide +kernel
set_option maxRecDepth 20000 in
theorem ggX8_waitsOf_X8_at : GoodIn wsX8_waitsOf wsX8_at := goodIn_r _ [7] (by decide +kernel) (by decide +kernel)
set_option maxRecDepth 20000 in
theorem gX8_waitsOf_X8_at : GoodIn wsX8_waitsOf (va_wsS RX8 46 yX8_at wsX8_at) := goodIn_app (goodIn_of _ (by decide +kernel)) ggX8_waitsOf_X8_at
theorem dX8_waitsOf_0 : decode cX8_waitsOf 0 = .ok (.iconst 0, 1) := by decide +kernel
theorem dX8_waitsOf_1 : decode cX8_waitsOf 1 = .ok (.istore_n 2, 1) := by decide +kernel
theorem dX8_waitsOf_2 : decode cX8_waitsOf 2 = .ok (.iconst 0, 1) := by decide +kernel
theorem dX8_waitsOf_3 : decode cX8_waitsOf 3 = .ok (.istore_n 3, 1) := by decide +kernel
theorem dX8_waitsOf_4 : decode cX8_waitsOf 4 = .ok (.iload_n 3, 1) := by decide +kernel
theorem dX8_waitsOf_5 : decode cX8_waitsOf 5 = .ok (.iload_n 1, 1) := by decide +kernel
theorem dX8_waitsOf_6 : decode cX8_waitsOf 6 = .ok (.if_icmp .gt 52, 3) := by decide +kernel
theorem dX8_waitsOf_9 : decode cX8_waitsOf 9 = .ok (.iload_n 2, 1) := by decide +kernel
theorem dX8_waitsOf_10 : decode cX8_waitsOf 10 = .ok (.aload_n 0, 1) := by decide +kernel
theorem dX8_waitsOf_11 : decode cX8_waitsOf 11 = .ok (.getfield 7, 3) := by decide +kernel
theorem dX8_waitsOf_14 : decode cX8_waitsOf 14 = .ok (.aload_n 0, 1) := by decide +kernel
theorem dX8_waitsOf_15 : decode cX8_waitsOf 15 = .ok (.getfield 23, 3) := by decide +kernel
theorem dX8_waitsOf_18 : decode cX8_waitsOf 18 = .ok (.iload_n 3, 1) := by decide +kernel
theorem dX8_waitsOf_19 : decode cX8_waitsOf 19 = .ok (.iaload, 1) := by decide +kernel
theorem dX8_waitsOf_20 : decode cX8_waitsOf 20 = .ok (.iconst 5, 1) := by decide +kernel
theorem dX8_waitsOf_21 : decode cX8_waitsOf 21 = .ok (.invokestatic 46, 3) := by decide +kernel
theorem dX8_waitsOf_24 : decode cX8_waitsOf 24 = .ok (.iaload, 1) := by decide +kernel
theorem dX8_waitsOf_25 : decode cX8_waitsOf 25 = .ok (.aload_n 0, 1) := by decide +kernel
theorem dX8_waitsOf_26 : decode cX8_waitsOf 26 = .ok (.getfield 26, 3) := by decide +kernel
theorem dX8_waitsOf_29 : decode cX8_waitsOf 29 = .ok (.iload_n 3, 1) := by decide +kernel
theorem dX8_waitsOf_30 : decode cX8_waitsOf 30 = .ok (.iaload, 1) := by decide +kernel
theorem dX8_waitsOf_31 : decode cX8_waitsOf 31 = .ok (.bipush 18, 2) := by decide +kernel
theorem dX8_waitsOf_33 : decode cX8_waitsOf 33 = .ok (.if_icmp .ne 7, 3) := by decide +kernel
theorem dX8_waitsOf_36 : decode cX8_waitsOf 36 = .ok (.iconst 4, 1) := by decide +kernel
theorem dX8_waitsOf_37 : decode cX8_waitsOf 37 = .ok (.goto 12, 3) := by decide +kernel
theorem dX8_waitsOf_40 : decode cX8_waitsOf 40 = .ok (.aload_n 0, 1) := by decide +kernel
theorem dX8_waitsOf_41 : decode cX8_waitsOf 41 = .ok (.getfield 26, 3) := by decide +kernel
theorem dX8_waitsOf_44 : decode cX8_waitsOf 44 = .ok (.iload_n 3, 1) := by decide +kernel
theorem dX8_waitsOf_45 : decode cX8_waitsOf 45 = .ok (.iaload, 1) := by decide +kernel
theorem dX8_waitsOf_46 : decode cX8_waitsOf 46 = .ok (.bipush 6, 2) := by decide +kernel
theorem dX8_waitsOf_48 : decode cX8_waitsOf 48 = .ok (.idiv, 1) := by decide +kernel
theorem dX8_waitsOf_49 : decode cX8_waitsOf 49 = .ok (.imul, 1) := by decide +kernel
theorem dX8_waitsOf_50 : decode cX8_waitsOf 50 = .ok (.iadd, 1) := by decide +kernel
theorem dX8_waitsOf_51 : decode cX8_waitsOf 51 = .ok (.istore_n 2, 1) := by decide +kernel
theorem dX8_waitsOf_52 : decode cX8_waitsOf 52 = .ok (.iinc 3 1, 3) := by decide +kernel
theorem dX8_waitsOf_55 : decode cX8_waitsOf 55 = .ok (.goto (-51), 3) := by decide +kernel
theorem dX8_waitsOf_58 : decode cX8_waitsOf 58 = .ok (.iload_n 2, 1) := by decide +kernel
theorem dX8_waitsOf_59 : decode cX8_waitsOf 59 = .ok (.ireturn, 1) := by decide +kernel
set_option maxRecDepth 20000 in
theorem ggX8_note_X8_waitsOf : GoodIn wsX8_note wsX8_waitsOf := goodIn_r _ [9, 10, 11, 4, 12, 13, 8, 14, 15, 16, 17, 18, 19, 20, 21, 22, 23, 24, 25] (by decide +kernel) (by decide +kernel)
set_option maxRecDepth 20000 in
theorem gX8_note_X8_waitsOf : GoodIn wsX8_note (wsV RX8 82 RX8 yX8_waitsOf wsX8_waitsOf) := goodIn_app (goodIn_of _ (by decide +kernel)) ggX8_note_X8_waitsOf
theorem dX8_note_0 : decode cX8_note 0 = .ok (.aload_n 0, 1) := by decide +kernel
theorem dX8_note_1 : decode cX8_note 1 = .ok (.aload_n 0, 1) := by decide +kernel
theorem dX8_note_2 : decode cX8_note 2 = .ok (.getfield 79, 3) := by decide +kernel
theorem dX8_note_5 : decode cX8_note 5 = .ok (.iconst 1, 1) := by decide +kernel
theorem dX8_note_6 : decode cX8_note 6 = .ok (.isub, 1) := by decide +kernel
theorem dX8_note_7 : decode cX8_note 7 = .ok (.invokevirtual 82, 3) := by decide +kernel
theorem dX8_note_10 : decode cX8_note 10 = .ok (.istore_n 1, 1) := by decide +kernel
theorem dX8_note_11 : decode cX8_note 11 = .ok (.iload_n 1, 1) := by decide +kernel
theorem dX8_note_12 : decode cX8_note 12 = .ok (.aload_n 0, 1) := by decide +kernel
theorem dX8_note_13 : decode cX8_note 13 = .ok (.getfield 85, 3) := by decide +kernel
theorem dX8_note_16 : decode cX8_note 16 = .ok (.if_icmp .ge 36, 3) := by decide +kernel
theorem dX8_note_19 : decode cX8_note 19 = .ok (.aload_n 0, 1) := by decide +kernel
theorem dX8_note_20 : decode cX8_note 20 = .ok (.iload_n 1, 1) := by decide +kernel
theorem dX8_note_21 : decode cX8_note 21 = .ok (.putfield 85, 3) := by decide +kernel
theorem dX8_note_24 : decode cX8_note 24 = .ok (.iconst 0, 1) := by decide +kernel
theorem dX8_note_25 : decode cX8_note 25 = .ok (.istore_n 2, 1) := by decide +kernel
theorem dX8_note_26 : decode cX8_note 26 = .ok (.iload_n 2, 1) := by decide +kernel
theorem dX8_note_27 : decode cX8_note 27 = .ok (.aload_n 0, 1) := by decide +kernel
theorem dX8_note_28 : decode cX8_note 28 = .ok (.getfield 79, 3) := by decide +kernel
theorem dX8_note_31 : decode cX8_note 31 = .ok (.if_icmp .ge 21, 3) := by decide +kernel
theorem dX8_note_34 : decode cX8_note 34 = .ok (.aload_n 0, 1) := by decide +kernel
theorem dX8_note_35 : decode cX8_note 35 = .ok (.getfield 29, 3) := by decide +kernel
theorem dX8_note_38 : decode cX8_note 38 = .ok (.iload_n 2, 1) := by decide +kernel
theorem dX8_note_39 : decode cX8_note 39 = .ok (.aload_n 0, 1) := by decide +kernel
theorem dX8_note_40 : decode cX8_note 40 = .ok (.getfield 26, 3) := by decide +kernel
theorem dX8_note_43 : decode cX8_note 43 = .ok (.iload_n 2, 1) := by decide +kernel
theorem dX8_note_44 : decode cX8_note 44 = .ok (.iaload, 1) := by decide +kernel
theorem dX8_note_45 : decode cX8_note 45 = .ok (.iastore, 1) := by decide +kernel
theorem dX8_note_46 : decode cX8_note 46 = .ok (.iinc 2 1, 3) := by decide +kernel
theorem dX8_note_49 : decode cX8_note 49 = .ok (.goto (-23), 3) := by decide +kernel
theorem dX8_note_52 : decode cX8_note 52 = .ok (.return_, 1) := by decide +kernel
set_option maxRecDepth 20000 in
theorem ggX8_makePlan_X8_at : GoodIn wsX8_makePlan wsX8_at := goodIn_r _ [10] (by decide +kernel) (by decide +kernel)
set_option maxRecDepth 20000 in
theorem gX8_makePlan_X8_at : GoodIn wsX8_makePlan (va_wsS RX8 46 yX8_at wsX8_at) := goodIn_app (goodIn_of _ (by decide +kernel)) ggX8_makePlan_X8_at
set_option maxRecDepth 20000 in
theorem ggX8_makePlan_X8_note : GoodIn wsX8_makePlan wsX8_note := goodIn_r _ [14, 1, 5, 15, 6, 16, 17, 18, 9, 19, 2, 3, 7, 8, 10, 50, 51, 52, 53, 54, 55, 56, 57, 58, 59, 60] (by decide +kernel) (by decide +kernel)
set_option maxRecDepth 20000 in
theorem gX8_makePlan_X8_note : GoodIn wsX8_makePlan (wsV RX8 89 RX8 yX8_note wsX8_note) := goodIn_app (goodIn_of _ (by decide +kernel)) ggX8_makePlan_X8_note
set_option maxRecDepth 20000 in
theorem ggX8_makePlan_X8_fits : GoodIn wsX8_makePlan wsX8_fits := goodIn_r _ [23, 6, 3, 24, 25, 26, 27, 9, 28, 29, 30, 31, 32, 33, 34, 35, 36, 37, 38, 2, 39, 40, 41, 42, 43, 44, 45, 7, 8, 10, 46, 47, 48, 49, 50, 51, 52, 53, 54, 55, 56, 57, 58, 59, 60] (by decide +kernel) (by decide +kernel)
set_option maxRecDepth 20000 in
theorem gX8_makePlan_X8_fits : GoodIn wsX8_makePlan (wsV RX8 92 RX8 yX8_fits wsX8_fits) := goodIn_app (goodIn_of _ (by decide +kernel)) ggX8_makePlan_X8_fits
set_option maxRecDepth 20000 in
theorem ggX8_makePlan_X8_waitsOf : GoodIn wsX8_makePlan wsX8_waitsOf := goodIn_r _ [19, 2, 3, 6, 7, 8, 9, 10, 50, 51, 52, 53, 54, 55, 56, 57, 58, 59, 60] (by decide +kernel) (by decide +kernel)
set_option maxRecDepth 20000 in
theorem gX8_makePlan_X8_waitsOf : GoodIn wsX8_makePlan (wsV RX8 82 RX8 yX8_waitsOf wsX8_waitsOf) := goodIn_app (goodIn_of _ (by decide +kernel)) ggX8_makePlan_X8_waitsOf
theorem dX8_makePlan_0 : decode cX8_makePlan 0 = .ok (.aload_n 0, 1) := by decide +kernel
theorem dX8_makePlan_1 : decode cX8_makePlan 1 = .ok (.iconst 0, 1) := by decide +kernel
theorem dX8_makePlan_2 : decode cX8_makePlan 2 = .ok (.putfield 79, 3) := by decide +kernel
theorem dX8_makePlan_5 : decode cX8_makePlan 5 = .ok (.iconst 0, 1) := by decide +kernel
theorem dX8_makePlan_6 : decode cX8_makePlan 6 = .ok (.istore_n 1, 1) := by decide +kernel
theorem dX8_makePlan_7 : decode cX8_makePlan 7 = .ok (.iload_n 1, 1) := by decide +kernel
theorem dX8_makePlan_8 : decode cX8_makePlan 8 = .ok (.aload_n 0, 1) := by decide +kernel
theorem dX8_makePlan_9 : decode cX8_makePlan 9 = .ok (.getfield 7, 3) := by decide +kernel
theorem dX8_makePlan_12 : decode cX8_makePlan 12 = .ok (.iconst 2, 1) := by decide +kernel
theorem dX8_makePlan_13 : decode cX8_makePlan 13 = .ok (.iaload, 1) := by decide +kernel
theorem dX8_makePlan_14 : decode cX8_makePlan 14 = .ok (.if_icmp .ge 50, 3) := by decide +kernel
theorem dX8_makePlan_17 : decode cX8_makePlan 17 = .ok (.aload_n 0, 1) := by decide +kernel
theorem dX8_makePlan_18 : decode cX8_makePlan 18 = .ok (.getfield 7, 3) := by decide +kernel
theorem dX8_makePlan_21 : decode cX8_makePlan 21 = .ok (.iload_n 1, 1) := by decide +kernel
theorem dX8_makePlan_22 : decode cX8_makePlan 22 = .ok (.iconst 2, 1) := by decide +kernel
theorem dX8_makePlan_23 : decode cX8_makePlan 23 = .ok (.invokestatic 46, 3) := by decide +kernel
theorem dX8_makePlan_26 : decode cX8_makePlan 26 = .ok (.iaload, 1) := by decide +kernel
theorem dX8_makePlan_27 : decode cX8_makePlan 27 = .ok (.ifCond .ne 31, 3) := by decide +kernel
theorem dX8_makePlan_30 : decode cX8_makePlan 30 = .ok (.aload_n 0, 1) := by decide +kernel
theorem dX8_makePlan_31 : decode cX8_makePlan 31 = .ok (.getfield 79, 3) := by decide +kernel
theorem dX8_makePlan_34 : decode cX8_makePlan 34 = .ok (.iconst 4, 1) := by decide +kernel
theorem dX8_makePlan_35 : decode cX8_makePlan 35 = .ok (.if_icmp .ge 23, 3) := by decide +kernel
theorem dX8_makePlan_38 : decode cX8_makePlan 38 = .ok (.aload_n 0, 1) := by decide +kernel
theorem dX8_makePlan_39 : decode cX8_makePlan 39 = .ok (.getfield 23, 3) := by decide +kernel
theorem dX8_makePlan_42 : decode cX8_makePlan 42 = .ok (.aload_n 0, 1) := by decide +kernel
theorem dX8_makePlan_43 : decode cX8_makePlan 43 = .ok (.getfield 79, 3) := by decide +kernel
theorem dX8_makePlan_46 : decode cX8_makePlan 46 = .ok (.iload_n 1, 1) := by decide +kernel
theorem dX8_makePlan_47 : decode cX8_makePlan 47 = .ok (.iastore, 1) := by decide +kernel
theorem dX8_makePlan_48 : decode cX8_makePlan 48 = .ok (.aload_n 0, 1) := by decide +kernel
theorem dX8_makePlan_49 : decode cX8_makePlan 49 = .ok (.dup, 1) := by decide +kernel
theorem dX8_makePlan_50 : decode cX8_makePlan 50 = .ok (.getfield 79, 3) := by decide +kernel
theorem dX8_makePlan_53 : decode cX8_makePlan 53 = .ok (.iconst 1, 1) := by decide +kernel
theorem dX8_makePlan_54 : decode cX8_makePlan 54 = .ok (.iadd, 1) := by decide +kernel
theorem dX8_makePlan_55 : decode cX8_makePlan 55 = .ok (.putfield 79, 3) := by decide +kernel
theorem dX8_makePlan_58 : decode cX8_makePlan 58 = .ok (.iinc 1 1, 3) := by decide +kernel
theorem dX8_makePlan_61 : decode cX8_makePlan 61 = .ok (.goto (-54), 3) := by decide +kernel
theorem dX8_makePlan_64 : decode cX8_makePlan 64 = .ok (.aload_n 0, 1) := by decide +kernel
theorem dX8_makePlan_65 : decode cX8_makePlan 65 = .ok (.ldc 88, 2) := by decide +kernel
theorem dX8_makePlan_67 : decode cX8_makePlan 67 = .ok (.putfield 85, 3) := by decide +kernel
theorem dX8_makePlan_70 : decode cX8_makePlan 70 = .ok (.iconst 0, 1) := by decide +kernel
theorem dX8_makePlan_71 : decode cX8_makePlan 71 = .ok (.istore_n 1, 1) := by decide +kernel
theorem dX8_makePlan_72 : decode cX8_makePlan 72 = .ok (.aload_n 0, 1) := by decide +kernel
theorem dX8_makePlan_73 : decode cX8_makePlan 73 = .ok (.getfield 26, 3) := by decide +kernel
theorem dX8_makePlan_76 : decode cX8_makePlan 76 = .ok (.iconst 0, 1) := by decide +kernel
theorem dX8_makePlan_77 : decode cX8_makePlan 77 = .ok (.iconst 0, 1) := by decide +kernel
theorem dX8_makePlan_78 : decode cX8_makePlan 78 = .ok (.iastore, 1) := by decide +kernel
theorem dX8_makePlan_79 : decode cX8_makePlan 79 = .ok (.iload_n 1, 1) := by decide +kernel
theorem dX8_makePlan_80 : decode cX8_makePlan 80 = .ok (.ifCond .lt 131, 3) := by decide +kernel
theorem dX8_makePlan_83 : decode cX8_makePlan 83 = .ok (.iload_n 1, 1) := by decide +kernel
theorem dX8_makePlan_84 : decode cX8_makePlan 84 = .ok (.aload_n 0, 1) := by decide +kernel
theorem dX8_makePlan_85 : decode cX8_makePlan 85 = .ok (.getfield 79, 3) := by decide +kernel
theorem dX8_makePlan_88 : decode cX8_makePlan 88 = .ok (.if_icmp .ne 31, 3) := by decide +kernel
theorem dX8_makePlan_91 : decode cX8_makePlan 91 = .ok (.aload_n 0, 1) := by decide +kernel
theorem dX8_makePlan_92 : decode cX8_makePlan 92 = .ok (.invokevirtual 89, 3) := by decide +kernel
theorem dX8_makePlan_95 : decode cX8_makePlan 95 = .ok (.iinc 1 (-1), 3) := by decide +kernel
theorem dX8_makePlan_98 : decode cX8_makePlan 98 = .ok (.aload_n 0, 1) := by decide +kernel
theorem dX8_makePlan_99 : decode cX8_makePlan 99 = .ok (.getfield 26, 3) := by decide +kernel
theorem dX8_makePlan_102 : decode cX8_makePlan 102 = .ok (.iload_n 1, 1) := by decide +kernel
theorem dX8_makePlan_103 : decode cX8_makePlan 103 = .ok (.ifCond .ge 7, 3) := by decide +kernel
theorem dX8_makePlan_106 : decode cX8_makePlan 106 = .ok (.iconst 0, 1) := by decide +kernel
theorem dX8_makePlan_107 : decode cX8_makePlan 107 = .ok (.goto 4, 3) := by decide +kernel
theorem dX8_makePlan_110 : decode cX8_makePlan 110 = .ok (.iload_n 1, 1) := by decide +kernel
theorem dX8_makePlan_111 : decode cX8_makePlan 111 = .ok (.dup2, 1) := by decide +kernel
theorem dX8_makePlan_112 : decode cX8_makePlan 112 = .ok (.iaload, 1) := by decide +kernel
theorem dX8_makePlan_113 : decode cX8_makePlan 113 = .ok (.iconst 1, 1) := by decide +kernel
theorem dX8_makePlan_114 : decode cX8_makePlan 114 = .ok (.iadd, 1) := by decide +kernel
theorem dX8_makePlan_115 : decode cX8_makePlan 115 = .ok (.iastore, 1) := by decide +kernel
theorem dX8_makePlan_116 : decode cX8_makePlan 116 = .ok (.goto (-37), 3) := by decide +kernel
theorem dX8_makePlan_119 : decode cX8_makePlan 119 = .ok (.aload_n 0, 1) := by decide +kernel
theorem dX8_makePlan_120 : decode cX8_makePlan 120 = .ok (.getfield 26, 3) := by decide +kernel
theorem dX8_makePlan_123 : decode cX8_makePlan 123 = .ok (.iload_n 1, 1) := by decide +kernel
theorem dX8_makePlan_124 : decode cX8_makePlan 124 = .ok (.iaload, 1) := by decide +kernel
theorem dX8_makePlan_125 : decode cX8_makePlan 125 = .ok (.bipush 18, 2) := by decide +kernel
theorem dX8_makePlan_127 : decode cX8_makePlan 127 = .ok (.if_icmp .gt 36, 3) := by decide +kernel
theorem dX8_makePlan_130 : decode cX8_makePlan 130 = .ok (.aload_n 0, 1) := by decide +kernel
theorem dX8_makePlan_131 : decode cX8_makePlan 131 = .ok (.iload_n 1, 1) := by decide +kernel
theorem dX8_makePlan_132 : decode cX8_makePlan 132 = .ok (.invokevirtual 92, 3) := by decide +kernel
theorem dX8_makePlan_135 : decode cX8_makePlan 135 = .ok (.ifCond .eq 15, 3) := by decide +kernel
theorem dX8_makePlan_138 : decode cX8_makePlan 138 = .ok (.aload_n 0, 1) := by decide +kernel
theorem dX8_makePlan_139 : decode cX8_makePlan 139 = .ok (.iload_n 1, 1) := by decide +kernel
theorem dX8_makePlan_140 : decode cX8_makePlan 140 = .ok (.invokevirtual 82, 3) := by decide +kernel
theorem dX8_makePlan_143 : decode cX8_makePlan 143 = .ok (.aload_n 0, 1) := by decide +kernel
theorem dX8_makePlan_144 : decode cX8_makePlan 144 = .ok (.getfield 85, 3) := by decide +kernel
theorem dX8_makePlan_147 : decode cX8_makePlan 147 = .ok (.if_icmp .lt 16, 3) := by decide +kernel
theorem dX8_makePlan_150 : decode cX8_makePlan 150 = .ok (.aload_n 0, 1) := by decide +kernel
theorem dX8_makePlan_151 : decode cX8_makePlan 151 = .ok (.getfield 26, 3) := by decide +kernel
theorem dX8_makePlan_154 : decode cX8_makePlan 154 = .ok (.iload_n 1, 1) := by decide +kernel
theorem dX8_makePlan_155 : decode cX8_makePlan 155 = .ok (.dup2, 1) := by decide +kernel
theorem dX8_makePlan_156 : decode cX8_makePlan 156 = .ok (.iaload, 1) := by decide +kernel
theorem dX8_makePlan_157 : decode cX8_makePlan 157 = .ok (.iconst 1, 1) := by decide +kernel
theorem dX8_makePlan_158 : decode cX8_makePlan 158 = .ok (.iadd, 1) := by decide +kernel
theorem dX8_makePlan_159 : decode cX8_makePlan 159 = .ok (.iastore, 1) := by decide +kernel
theorem dX8_makePlan_160 : decode cX8_makePlan 160 = .ok (.goto (-41), 3) := by decide +kernel
theorem dX8_makePlan_163 : decode cX8_makePlan 163 = .ok (.aload_n 0, 1) := by decide +kernel
theorem dX8_makePlan_164 : decode cX8_makePlan 164 = .ok (.getfield 26, 3) := by decide +kernel
theorem dX8_makePlan_167 : decode cX8_makePlan 167 = .ok (.iload_n 1, 1) := by decide +kernel
theorem dX8_makePlan_168 : decode cX8_makePlan 168 = .ok (.iaload, 1) := by decide +kernel
theorem dX8_makePlan_169 : decode cX8_makePlan 169 = .ok (.bipush 18, 2) := by decide +kernel
theorem dX8_makePlan_171 : decode cX8_makePlan 171 = .ok (.if_icmp .gt 16, 3) := by decide +kernel
theorem dX8_makePlan_174 : decode cX8_makePlan 174 = .ok (.iinc 1 1, 3) := by decide +kernel
theorem dX8_makePlan_177 : decode cX8_makePlan 177 = .ok (.aload_n 0, 1) := by decide +kernel
theorem dX8_makePlan_178 : decode cX8_makePlan 178 = .ok (.getfield 26, 3) := by decide +kernel
theorem dX8_makePlan_181 : decode cX8_makePlan 181 = .ok (.iload_n 1, 1) := by decide +kernel
theorem dX8_makePlan_182 : decode cX8_makePlan 182 = .ok (.iconst 0, 1) := by decide +kernel
theorem dX8_makePlan_183 : decode cX8_makePlan 183 = .ok (.iastore, 1) := by decide +kernel
theorem dX8_makePlan_184 : decode cX8_makePlan 184 = .ok (.goto (-105), 3) := by decide +kernel
theorem dX8_makePlan_187 : decode cX8_makePlan 187 = .ok (.iinc 1 (-1), 3) := by decide +kernel
theorem dX8_makePlan_190 : decode cX8_makePlan 190 = .ok (.aload_n 0, 1) := by decide +kernel
theorem dX8_makePlan_191 : decode cX8_makePlan 191 = .ok (.getfield 26, 3) := by decide +kernel
theorem dX8_makePlan_194 : decode cX8_makePlan 194 = .ok (.iload_n 1, 1) := by decide +kernel
theorem dX8_makePlan_195 : decode cX8_makePlan 195 = .ok (.ifCond .ge 7, 3) := by decide +kernel
theorem dX8_makePlan_198 : decode cX8_makePlan 198 = .ok (.iconst 0, 1) := by decide +kernel
theorem dX8_makePlan_199 : decode cX8_makePlan 199 = .ok (.goto 4, 3) := by decide +kernel
theorem dX8_makePlan_202 : decode cX8_makePlan 202 = .ok (.iload_n 1, 1) := by decide +kernel
theorem dX8_makePlan_203 : decode cX8_makePlan 203 = .ok (.dup2, 1) := by decide +kernel
theorem dX8_makePlan_204 : decode cX8_makePlan 204 = .ok (.iaload, 1) := by decide +kernel
theorem dX8_makePlan_205 : decode cX8_makePlan 205 = .ok (.iconst 1, 1) := by decide +kernel
theorem dX8_makePlan_206 : decode cX8_makePlan 206 = .ok (.iadd, 1) := by decide +kernel
theorem dX8_makePlan_207 : decode cX8_makePlan 207 = .ok (.iastore, 1) := by decide +kernel
theorem dX8_makePlan_208 : decode cX8_makePlan 208 = .ok (.goto (-129), 3) := by decide +kernel
theorem dX8_makePlan_211 : decode cX8_makePlan 211 = .ok (.return_, 1) := by decide +kernel
set_option maxRecDepth 20000 in
theorem ggX8_plan_X8_isCase : GoodIn wsX8_plan wsX8_isCase := goodIn_r _ [9, 1, 10, 11, 8, 12, 58, 59, 60, 61, 62, 63, 64, 65, 66, 67, 68] (by decide +kernel) (by decide +kernel)
set_option maxRecDepth 20000 in
theorem gX8_plan_X8_isCase : GoodIn wsX8_plan (wsV RX8 50 RX8 yX8_isCase wsX8_isCase) := goodIn_app (goodIn_of _ (by decide +kernel)) ggX8_plan_X8_isCase
set_option maxRecDepth 20000 in
theorem ggX8_plan_X8_at : GoodIn wsX8_plan wsX8_at := goodIn_r _ [15] (by decide +kernel) (by decide +kernel)
set_option maxRecDepth 20000 in
theorem gX8_plan_X8_at : GoodIn wsX8_plan (va_wsS RX8 46 yX8_at wsX8_at) := goodIn_app (goodIn_of _ (by decide +kernel)) ggX8_plan_X8_at
set_option maxRecDepth 20000 in
theorem ggX8_plan_X8_makePlan : GoodIn wsX8_plan wsX8_makePlan := goodIn_r _ [19, 2, 1, 3, 20, 21, 22, 13, 14, 8, 15, 23, 24, 25, 26, 4, 27, 28, 29, 30, 31, 32, 33, 34, 35, 36, 37, 38, 39, 10, 11, 12, 40, 41, 42, 43, 44, 45, 46, 47, 48, 49, 50, 51, 52, 53, 54, 55, 56, 57, 58, 59, 60, 61, 62, 63, 64, 65, 66, 67, 68] (by decide +kernel) (by decide +kernel)
set_option maxRecDepth 20000 in
theorem gX8_plan_X8_makePlan : GoodIn wsX8_plan (wsV RX8 95 RX8 yX8_makePlan wsX8_makePlan) := goodIn_app (goodIn_of _ (by decide +kernel)) ggX8_plan_X8_makePlan
theorem dX8_plan_0 : decode cX8_plan 0 = .ok (.aload_n 0, 1) := by decide +kernel
theorem dX8_plan_1 : decode cX8_plan 1 = .ok (.iload_n 1, 1) := by decide +kernel
theorem dX8_plan_2 : decode cX8_plan 2 = .ok (.invokevirtual 50, 3) := by decide +kernel
theorem dX8_plan_5 : decode cX8_plan 5 = .ok (.ifCond .ne 5, 3) := by decide +kernel
theorem dX8_plan_8 : decode cX8_plan 8 = .ok (.iconst (-1), 1) := by decide +kernel
theorem dX8_plan_9 : decode cX8_plan 9 = .ok (.ireturn, 1) := by decide +kernel
theorem dX8_plan_10 : decode cX8_plan 10 = .ok (.aload_n 0, 1) := by decide +kernel
theorem dX8_plan_11 : decode cX8_plan 11 = .ok (.getfield 7, 3) := by decide +kernel
theorem dX8_plan_14 : decode cX8_plan 14 = .ok (.iload_n 1, 1) := by decide +kernel
theorem dX8_plan_15 : decode cX8_plan 15 = .ok (.iconst 2, 1) := by decide +kernel
theorem dX8_plan_16 : decode cX8_plan 16 = .ok (.invokestatic 46, 3) := by decide +kernel
theorem dX8_plan_19 : decode cX8_plan 19 = .ok (.iaload, 1) := by decide +kernel
theorem dX8_plan_20 : decode cX8_plan 20 = .ok (.ifCond .eq 6, 3) := by decide +kernel
theorem dX8_plan_23 : decode cX8_plan 23 = .ok (.bipush (-4), 2) := by decide +kernel
theorem dX8_plan_25 : decode cX8_plan 25 = .ok (.ireturn, 1) := by decide +kernel
theorem dX8_plan_26 : decode cX8_plan 26 = .ok (.aload_n 0, 1) := by decide +kernel
theorem dX8_plan_27 : decode cX8_plan 27 = .ok (.invokevirtual 95, 3) := by decide +kernel
theorem dX8_plan_30 : decode cX8_plan 30 = .ok (.iconst 0, 1) := by decide +kernel
theorem dX8_plan_31 : decode cX8_plan 31 = .ok (.istore_n 2, 1) := by decide +kernel
theorem dX8_plan_32 : decode cX8_plan 32 = .ok (.iload_n 2, 1) := by decide +kernel
theorem dX8_plan_33 : decode cX8_plan 33 = .ok (.aload_n 0, 1) := by decide +kernel
theorem dX8_plan_34 : decode cX8_plan 34 = .ok (.getfield 79, 3) := by decide +kernel
theorem dX8_plan_37 : decode cX8_plan 37 = .ok (.if_icmp .ge 37, 3) := by decide +kernel
theorem dX8_plan_40 : decode cX8_plan 40 = .ok (.aload_n 0, 1) := by decide +kernel
theorem dX8_plan_41 : decode cX8_plan 41 = .ok (.getfield 23, 3) := by decide +kernel
theorem dX8_plan_44 : decode cX8_plan 44 = .ok (.iload_n 2, 1) := by decide +kernel
theorem dX8_plan_45 : decode cX8_plan 45 = .ok (.iaload, 1) := by decide +kernel
theorem dX8_plan_46 : decode cX8_plan 46 = .ok (.iload_n 1, 1) := by decide +kernel
theorem dX8_plan_47 : decode cX8_plan 47 = .ok (.if_icmp .ne 21, 3) := by decide +kernel
theorem dX8_plan_50 : decode cX8_plan 50 = .ok (.aload_n 0, 1) := by decide +kernel
theorem dX8_plan_51 : decode cX8_plan 51 = .ok (.getfield 29, 3) := by decide +kernel
theorem dX8_plan_54 : decode cX8_plan 54 = .ok (.iload_n 2, 1) := by decide +kernel
theorem dX8_plan_55 : decode cX8_plan 55 = .ok (.iaload, 1) := by decide +kernel
theorem dX8_plan_56 : decode cX8_plan 56 = .ok (.bipush 18, 2) := by decide +kernel
theorem dX8_plan_58 : decode cX8_plan 58 = .ok (.if_icmp .eq 10, 3) := by decide +kernel
theorem dX8_plan_61 : decode cX8_plan 61 = .ok (.aload_n 0, 1) := by decide +kernel
theorem dX8_plan_62 : decode cX8_plan 62 = .ok (.getfield 29, 3) := by decide +kernel
theorem dX8_plan_65 : decode cX8_plan 65 = .ok (.iload_n 2, 1) := by decide +kernel
theorem dX8_plan_66 : decode cX8_plan 66 = .ok (.iaload, 1) := by decide +kernel
theorem dX8_plan_67 : decode cX8_plan 67 = .ok (.ireturn, 1) := by decide +kernel
theorem dX8_plan_68 : decode cX8_plan 68 = .ok (.iinc 2 1, 3) := by decide +kernel
theorem dX8_plan_71 : decode cX8_plan 71 = .ok (.goto (-39), 3) := by decide +kernel
theorem dX8_plan_74 : decode cX8_plan 74 = .ok (.bipush (-5), 2) := by decide +kernel
theorem dX8_plan_76 : decode cX8_plan 76 = .ok (.ireturn, 1) := by decide +kernel
set_option maxRecDepth 20000 in
theorem ggX8_waits_X8_makePlan : GoodIn wsX8_waits wsX8_makePlan := goodIn_r _ [6, 7, 8, 9, 10, 1, 11, 12, 13, 5, 14, 15, 16, 17, 18, 19, 20, 21, 22, 23, 24, 25, 26, 27, 28, 29, 30, 31, 32, 33, 34, 35, 36, 37, 38, 39, 40, 41, 42, 43, 44, 45, 46, 47, 48, 49, 50, 51, 52, 53, 54, 55, 56, 57, 58, 59, 60, 61, 62, 63, 64] (by decide +kernel) (by decide +kernel)
set_option maxRecDepth 20000 in
theorem gX8_waits_X8_makePlan : GoodIn wsX8_waits (wsV RX8 95 RX8 yX8_makePlan wsX8_makePlan) := goodIn_app (goodIn_of _ (by decide +kernel)) ggX8_waits_X8_makePlan
theorem dX8_waits_0 : decode cX8_waits 0 = .ok (.aload_n 0, 1) := by decide +kernel
theorem dX8_waits_1 : decode cX8_waits 1 = .ok (.invokevirtual 95, 3) := by decide +kernel
theorem dX8_waits_4 : decode cX8_waits 4 = .ok (.aload_n 0, 1) := by decide +kernel
theorem dX8_waits_5 : decode cX8_waits 5 = .ok (.getfield 85, 3) := by decide +kernel
theorem dX8_waits_8 : decode cX8_waits 8 = .ok (.ireturn, 1) := by decide +kernel
theorem dX8_termAt_0 : decode cX8_termAt 0 = .ok (.sipush 158, 3) := by decide +kernel
theorem dX8_termAt_3 : decode cX8_termAt 3 = .ok (.bipush 25, 2) := by decide +kernel
theorem dX8_termAt_5 : decode cX8_termAt 5 = .ok (.iload_n 0, 1) := by decide +kernel
theorem dX8_termAt_6 : decode cX8_termAt 6 = .ok (.imul, 1) := by decide +kernel
theorem dX8_termAt_7 : decode cX8_termAt 7 = .ok (.iadd, 1) := by decide +kernel
theorem dX8_termAt_8 : decode cX8_termAt 8 = .ok (.iconst 5, 1) := by decide +kernel
theorem dX8_termAt_9 : decode cX8_termAt 9 = .ok (.iload_n 1, 1) := by decide +kernel
theorem dX8_termAt_10 : decode cX8_termAt 10 = .ok (.imul, 1) := by decide +kernel
theorem dX8_termAt_11 : decode cX8_termAt 11 = .ok (.iadd, 1) := by decide +kernel
theorem dX8_termAt_12 : decode cX8_termAt 12 = .ok (.ireturn, 1) := by decide +kernel
set_option maxRecDepth 20000 in
theorem ggX8_isTerm_X8_isCase : GoodIn wsX8_isTerm wsX8_isCase := goodIn_r _ [6, 1, 7, 8, 5, 9, 13, 14, 15, 16, 17, 18, 19, 20, 21, 22, 23] (by decide +kernel) (by decide +kernel)
set_option maxRecDepth 20000 in
theorem gX8_isTerm_X8_isCase : GoodIn wsX8_isTerm (wsV RX8 50 RX8 yX8_isCase wsX8_isCase) := goodIn_app (goodIn_of _ (by decide +kernel)) ggX8_isTerm_X8_isCase
set_option maxRecDepth 20000 in
theorem ggX8_isTerm_X8_at : GoodIn wsX8_isTerm wsX8_at := goodIn_r _ [12] (by decide +kernel) (by decide +kernel)
set_option maxRecDepth 20000 in
theorem gX8_isTerm_X8_at : GoodIn wsX8_isTerm (va_wsS RX8 46 yX8_at wsX8_at) := goodIn_app (goodIn_of _ (by decide +kernel)) ggX8_isTerm_X8_at
set_option maxRecDepth 20000 in
theorem ggX8_isTerm_X8_in : GoodIn wsX8_isTerm wsX8_in := goodIn_r _ [9] (by decide +kernel) (by decide +kernel)
set_option maxRecDepth 20000 in
theorem gX8_isTerm_X8_in : GoodIn wsX8_isTerm (va_wsS RX8 35 yX8_in wsX8_in) := goodIn_app (goodIn_of _ (by decide +kernel)) ggX8_isTerm_X8_in
theorem dX8_isTerm_0 : decode cX8_isTerm 0 = .ok (.aload_n 0, 1) := by decide +kernel
theorem dX8_isTerm_1 : decode cX8_isTerm 1 = .ok (.iload_n 1, 1) := by decide +kernel
theorem dX8_isTerm_2 : decode cX8_isTerm 2 = .ok (.invokevirtual 50, 3) := by decide +kernel
theorem dX8_isTerm_5 : decode cX8_isTerm 5 = .ok (.ifCond .eq 28, 3) := by decide +kernel
theorem dX8_isTerm_8 : decode cX8_isTerm 8 = .ok (.iload_n 2, 1) := by decide +kernel
theorem dX8_isTerm_9 : decode cX8_isTerm 9 = .ok (.iconst 0, 1) := by decide +kernel
theorem dX8_isTerm_10 : decode cX8_isTerm 10 = .ok (.aload_n 0, 1) := by decide +kernel
theorem dX8_isTerm_11 : decode cX8_isTerm 11 = .ok (.getfield 7, 3) := by decide +kernel
theorem dX8_isTerm_14 : decode cX8_isTerm 14 = .ok (.iload_n 1, 1) := by decide +kernel
theorem dX8_isTerm_15 : decode cX8_isTerm 15 = .ok (.bipush 6, 2) := by decide +kernel
theorem dX8_isTerm_17 : decode cX8_isTerm 17 = .ok (.invokestatic 46, 3) := by decide +kernel
theorem dX8_isTerm_20 : decode cX8_isTerm 20 = .ok (.iaload, 1) := by decide +kernel
theorem dX8_isTerm_21 : decode cX8_isTerm 21 = .ok (.iconst 1, 1) := by decide +kernel
theorem dX8_isTerm_22 : decode cX8_isTerm 22 = .ok (.isub, 1) := by decide +kernel
theorem dX8_isTerm_23 : decode cX8_isTerm 23 = .ok (.invokestatic 35, 3) := by decide +kernel
theorem dX8_isTerm_26 : decode cX8_isTerm 26 = .ok (.ifCond .eq 7, 3) := by decide +kernel
theorem dX8_isTerm_29 : decode cX8_isTerm 29 = .ok (.iconst 1, 1) := by decide +kernel
theorem dX8_isTerm_30 : decode cX8_isTerm 30 = .ok (.goto 4, 3) := by decide +kernel
theorem dX8_isTerm_33 : decode cX8_isTerm 33 = .ok (.iconst 0, 1) := by decide +kernel
theorem dX8_isTerm_34 : decode cX8_isTerm 34 = .ok (.ireturn, 1) := by decide +kernel
set_option maxRecDepth 20000 in
theorem ggX8_term_X8_isCase : GoodIn wsX8_term wsX8_isCase := goodIn_r _ [6, 1, 7, 8, 5, 9, 19, 20, 21, 22, 23, 24, 25, 26, 27, 28, 29] (by decide +kernel) (by decide +kernel)
set_option maxRecDepth 20000 in
theorem gX8_term_X8_isCase : GoodIn wsX8_term (wsV RX8 50 RX8 yX8_isCase wsX8_isCase) := goodIn_app (goodIn_of _ (by decide +kernel)) ggX8_term_X8_isCase
set_option maxRecDepth 20000 in
theorem ggX8_term_X8_isSide : GoodIn wsX8_term wsX8_isSide := goodIn_r _ [12, 7, 8, 5, 9] (by decide +kernel) (by decide +kernel)
set_option maxRecDepth 20000 in
theorem gX8_term_X8_isSide : GoodIn wsX8_term (va_wsS RX8 60 yX8_isSide wsX8_isSide) := goodIn_app (goodIn_of _ (by decide +kernel)) ggX8_term_X8_isSide
set_option maxRecDepth 20000 in
theorem ggX8_term_X8_in : GoodIn wsX8_term wsX8_in := goodIn_r _ [9] (by decide +kernel) (by decide +kernel)
set_option maxRecDepth 20000 in
theorem gX8_term_X8_in : GoodIn wsX8_term (va_wsS RX8 35 yX8_in wsX8_in) := goodIn_app (goodIn_of _ (by decide +kernel)) ggX8_term_X8_in
set_option maxRecDepth 20000 in
theorem ggX8_term_X8_at : GoodIn wsX8_term wsX8_at := goodIn_r _ [15] (by decide +kernel) (by decide +kernel)
set_option maxRecDepth 20000 in
theorem gX8_term_X8_at : GoodIn wsX8_term (va_wsS RX8 46 yX8_at wsX8_at) := goodIn_app (goodIn_of _ (by decide +kernel)) ggX8_term_X8_at
set_option maxRecDepth 20000 in
theorem ggX8_term_X8_termAt : GoodIn wsX8_term wsX8_termAt := goodIn_r _ [18] (by decide +kernel) (by decide +kernel)
set_option maxRecDepth 20000 in
theorem gX8_term_X8_termAt : GoodIn wsX8_term (va_wsS RX8 98 yX8_termAt wsX8_termAt) := goodIn_app (goodIn_of _ (by decide +kernel)) ggX8_term_X8_termAt
theorem dX8_term_0 : decode cX8_term 0 = .ok (.aload_n 0, 1) := by decide +kernel
theorem dX8_term_1 : decode cX8_term 1 = .ok (.iload_n 1, 1) := by decide +kernel
theorem dX8_term_2 : decode cX8_term 2 = .ok (.invokevirtual 50, 3) := by decide +kernel
theorem dX8_term_5 : decode cX8_term 5 = .ok (.ifCond .eq 43, 3) := by decide +kernel
theorem dX8_term_8 : decode cX8_term 8 = .ok (.iload_n 2, 1) := by decide +kernel
theorem dX8_term_9 : decode cX8_term 9 = .ok (.invokestatic 60, 3) := by decide +kernel
theorem dX8_term_12 : decode cX8_term 12 = .ok (.ifCond .eq 36, 3) := by decide +kernel
theorem dX8_term_15 : decode cX8_term 15 = .ok (.iload 4, 2) := by decide +kernel
theorem dX8_term_17 : decode cX8_term 17 = .ok (.iconst 0, 1) := by decide +kernel
theorem dX8_term_18 : decode cX8_term 18 = .ok (.iconst 5, 1) := by decide +kernel
theorem dX8_term_19 : decode cX8_term 19 = .ok (.invokestatic 35, 3) := by decide +kernel
theorem dX8_term_22 : decode cX8_term 22 = .ok (.ifCond .eq 26, 3) := by decide +kernel
theorem dX8_term_25 : decode cX8_term 25 = .ok (.iload 5, 2) := by decide +kernel
theorem dX8_term_27 : decode cX8_term 27 = .ok (.iconst 0, 1) := by decide +kernel
theorem dX8_term_28 : decode cX8_term 28 = .ok (.bipush 23, 2) := by decide +kernel
theorem dX8_term_30 : decode cX8_term 30 = .ok (.invokestatic 35, 3) := by decide +kernel
theorem dX8_term_33 : decode cX8_term 33 = .ok (.ifCond .eq 15, 3) := by decide +kernel
theorem dX8_term_36 : decode cX8_term 36 = .ok (.iload 6, 2) := by decide +kernel
theorem dX8_term_38 : decode cX8_term 38 = .ok (.iload 5, 2) := by decide +kernel
theorem dX8_term_40 : decode cX8_term 40 = .ok (.bipush 23, 2) := by decide +kernel
theorem dX8_term_42 : decode cX8_term 42 = .ok (.invokestatic 35, 3) := by decide +kernel
theorem dX8_term_45 : decode cX8_term 45 = .ok (.ifCond .ne 5, 3) := by decide +kernel
theorem dX8_term_48 : decode cX8_term 48 = .ok (.iconst (-1), 1) := by decide +kernel
theorem dX8_term_49 : decode cX8_term 49 = .ok (.ireturn, 1) := by decide +kernel
theorem dX8_term_50 : decode cX8_term 50 = .ok (.aload_n 0, 1) := by decide +kernel
theorem dX8_term_51 : decode cX8_term 51 = .ok (.getfield 7, 3) := by decide +kernel
theorem dX8_term_54 : decode cX8_term 54 = .ok (.iload_n 1, 1) := by decide +kernel
theorem dX8_term_55 : decode cX8_term 55 = .ok (.iconst 2, 1) := by decide +kernel
theorem dX8_term_56 : decode cX8_term 56 = .ok (.invokestatic 46, 3) := by decide +kernel
theorem dX8_term_59 : decode cX8_term 59 = .ok (.iaload, 1) := by decide +kernel
theorem dX8_term_60 : decode cX8_term 60 = .ok (.iconst 1, 1) := by decide +kernel
theorem dX8_term_61 : decode cX8_term 61 = .ok (.if_icmp .eq 6, 3) := by decide +kernel
theorem dX8_term_64 : decode cX8_term 64 = .ok (.bipush (-4), 2) := by decide +kernel
theorem dX8_term_66 : decode cX8_term 66 = .ok (.ireturn, 1) := by decide +kernel
theorem dX8_term_67 : decode cX8_term 67 = .ok (.aload_n 0, 1) := by decide +kernel
theorem dX8_term_68 : decode cX8_term 68 = .ok (.getfield 7, 3) := by decide +kernel
theorem dX8_term_71 : decode cX8_term 71 = .ok (.iload_n 1, 1) := by decide +kernel
theorem dX8_term_72 : decode cX8_term 72 = .ok (.bipush 6, 2) := by decide +kernel
theorem dX8_term_74 : decode cX8_term 74 = .ok (.invokestatic 46, 3) := by decide +kernel
theorem dX8_term_77 : decode cX8_term 77 = .ok (.iaload, 1) := by decide +kernel
theorem dX8_term_78 : decode cX8_term 78 = .ok (.iconst 5, 1) := by decide +kernel
theorem dX8_term_79 : decode cX8_term 79 = .ok (.if_icmp .ne 6, 3) := by decide +kernel
theorem dX8_term_82 : decode cX8_term 82 = .ok (.bipush (-2), 2) := by decide +kernel
theorem dX8_term_84 : decode cX8_term 84 = .ok (.ireturn, 1) := by decide +kernel
theorem dX8_term_85 : decode cX8_term 85 = .ok (.iload_n 1, 1) := by decide +kernel
theorem dX8_term_86 : decode cX8_term 86 = .ok (.aload_n 0, 1) := by decide +kernel
theorem dX8_term_87 : decode cX8_term 87 = .ok (.getfield 7, 3) := by decide +kernel
theorem dX8_term_90 : decode cX8_term 90 = .ok (.iload_n 1, 1) := by decide +kernel
theorem dX8_term_91 : decode cX8_term 91 = .ok (.bipush 6, 2) := by decide +kernel
theorem dX8_term_93 : decode cX8_term 93 = .ok (.invokestatic 46, 3) := by decide +kernel
theorem dX8_term_96 : decode cX8_term 96 = .ok (.iaload, 1) := by decide +kernel
theorem dX8_term_97 : decode cX8_term 97 = .ok (.invokestatic 98, 3) := by decide +kernel
theorem dX8_term_100 : decode cX8_term 100 = .ok (.istore 7, 2) := by decide +kernel
theorem dX8_term_102 : decode cX8_term 102 = .ok (.aload_n 0, 1) := by decide +kernel
theorem dX8_term_103 : decode cX8_term 103 = .ok (.getfield 7, 3) := by decide +kernel
theorem dX8_term_106 : decode cX8_term 106 = .ok (.iload 7, 2) := by decide +kernel
theorem dX8_term_108 : decode cX8_term 108 = .ok (.iload_n 2, 1) := by decide +kernel
theorem dX8_term_109 : decode cX8_term 109 = .ok (.iastore, 1) := by decide +kernel
theorem dX8_term_110 : decode cX8_term 110 = .ok (.aload_n 0, 1) := by decide +kernel
theorem dX8_term_111 : decode cX8_term 111 = .ok (.getfield 7, 3) := by decide +kernel
theorem dX8_term_114 : decode cX8_term 114 = .ok (.iload 7, 2) := by decide +kernel
theorem dX8_term_116 : decode cX8_term 116 = .ok (.iconst 1, 1) := by decide +kernel
theorem dX8_term_117 : decode cX8_term 117 = .ok (.iadd, 1) := by decide +kernel
theorem dX8_term_118 : decode cX8_term 118 = .ok (.iload_n 3, 1) := by decide +kernel
theorem dX8_term_119 : decode cX8_term 119 = .ok (.ifCond .eq 7, 3) := by decide +kernel
theorem dX8_term_122 : decode cX8_term 122 = .ok (.iconst 1, 1) := by decide +kernel
theorem dX8_term_123 : decode cX8_term 123 = .ok (.goto 4, 3) := by decide +kernel
theorem dX8_term_126 : decode cX8_term 126 = .ok (.iconst 0, 1) := by decide +kernel
theorem dX8_term_127 : decode cX8_term 127 = .ok (.iastore, 1) := by decide +kernel
theorem dX8_term_128 : decode cX8_term 128 = .ok (.aload_n 0, 1) := by decide +kernel
theorem dX8_term_129 : decode cX8_term 129 = .ok (.getfield 7, 3) := by decide +kernel
theorem dX8_term_132 : decode cX8_term 132 = .ok (.iload 7, 2) := by decide +kernel
theorem dX8_term_134 : decode cX8_term 134 = .ok (.iconst 2, 1) := by decide +kernel
theorem dX8_term_135 : decode cX8_term 135 = .ok (.iadd, 1) := by decide +kernel
theorem dX8_term_136 : decode cX8_term 136 = .ok (.iload 4, 2) := by decide +kernel
theorem dX8_term_138 : decode cX8_term 138 = .ok (.iastore, 1) := by decide +kernel
theorem dX8_term_139 : decode cX8_term 139 = .ok (.aload_n 0, 1) := by decide +kernel
theorem dX8_term_140 : decode cX8_term 140 = .ok (.getfield 7, 3) := by decide +kernel
theorem dX8_term_143 : decode cX8_term 143 = .ok (.iload 7, 2) := by decide +kernel
theorem dX8_term_145 : decode cX8_term 145 = .ok (.iconst 3, 1) := by decide +kernel
theorem dX8_term_146 : decode cX8_term 146 = .ok (.iadd, 1) := by decide +kernel
theorem dX8_term_147 : decode cX8_term 147 = .ok (.iload 5, 2) := by decide +kernel
theorem dX8_term_149 : decode cX8_term 149 = .ok (.iastore, 1) := by decide +kernel
theorem dX8_term_150 : decode cX8_term 150 = .ok (.aload_n 0, 1) := by decide +kernel
theorem dX8_term_151 : decode cX8_term 151 = .ok (.getfield 7, 3) := by decide +kernel
theorem dX8_term_154 : decode cX8_term 154 = .ok (.iload 7, 2) := by decide +kernel
theorem dX8_term_156 : decode cX8_term 156 = .ok (.iconst 4, 1) := by decide +kernel
theorem dX8_term_157 : decode cX8_term 157 = .ok (.iadd, 1) := by decide +kernel
theorem dX8_term_158 : decode cX8_term 158 = .ok (.iload 6, 2) := by decide +kernel
theorem dX8_term_160 : decode cX8_term 160 = .ok (.iastore, 1) := by decide +kernel
theorem dX8_term_161 : decode cX8_term 161 = .ok (.aload_n 0, 1) := by decide +kernel
theorem dX8_term_162 : decode cX8_term 162 = .ok (.getfield 7, 3) := by decide +kernel
theorem dX8_term_165 : decode cX8_term 165 = .ok (.iload_n 1, 1) := by decide +kernel
theorem dX8_term_166 : decode cX8_term 166 = .ok (.bipush 6, 2) := by decide +kernel
theorem dX8_term_168 : decode cX8_term 168 = .ok (.invokestatic 46, 3) := by decide +kernel
theorem dX8_term_171 : decode cX8_term 171 = .ok (.dup2, 1) := by decide +kernel
theorem dX8_term_172 : decode cX8_term 172 = .ok (.iaload, 1) := by decide +kernel
theorem dX8_term_173 : decode cX8_term 173 = .ok (.iconst 1, 1) := by decide +kernel
theorem dX8_term_174 : decode cX8_term 174 = .ok (.iadd, 1) := by decide +kernel
theorem dX8_term_175 : decode cX8_term 175 = .ok (.iastore, 1) := by decide +kernel
theorem dX8_term_176 : decode cX8_term 176 = .ok (.aload_n 0, 1) := by decide +kernel
theorem dX8_term_177 : decode cX8_term 177 = .ok (.getfield 7, 3) := by decide +kernel
theorem dX8_term_180 : decode cX8_term 180 = .ok (.iload_n 1, 1) := by decide +kernel
theorem dX8_term_181 : decode cX8_term 181 = .ok (.bipush 6, 2) := by decide +kernel
theorem dX8_term_183 : decode cX8_term 183 = .ok (.invokestatic 46, 3) := by decide +kernel
theorem dX8_term_186 : decode cX8_term 186 = .ok (.iaload, 1) := by decide +kernel
theorem dX8_term_187 : decode cX8_term 187 = .ok (.iconst 1, 1) := by decide +kernel
theorem dX8_term_188 : decode cX8_term 188 = .ok (.isub, 1) := by decide +kernel
theorem dX8_term_189 : decode cX8_term 189 = .ok (.ireturn, 1) := by decide +kernel
set_option maxRecDepth 20000 in
theorem ggX8_strike_X8_isCase : GoodIn wsX8_strike wsX8_isCase := goodIn_r _ [6, 1, 7, 8, 5, 9, 13, 14, 15, 16, 17, 18, 19, 20, 21, 22, 23] (by decide +kernel) (by decide +kernel)
set_option maxRecDepth 20000 in
theorem gX8_strike_X8_isCase : GoodIn wsX8_strike (wsV RX8 50 RX8 yX8_isCase wsX8_isCase) := goodIn_app (goodIn_of _ (by decide +kernel)) ggX8_strike_X8_isCase
set_option maxRecDepth 20000 in
theorem ggX8_strike_X8_at : GoodIn wsX8_strike wsX8_at := goodIn_r _ [12] (by decide +kernel) (by decide +kernel)
set_option maxRecDepth 20000 in
theorem gX8_strike_X8_at : GoodIn wsX8_strike (va_wsS RX8 46 yX8_at wsX8_at) := goodIn_app (goodIn_of _ (by decide +kernel)) ggX8_strike_X8_at
theorem dX8_strike_0 : decode cX8_strike 0 = .ok (.aload_n 0, 1) := by decide +kernel
theorem dX8_strike_1 : decode cX8_strike 1 = .ok (.iload_n 1, 1) := by decide +kernel
theorem dX8_strike_2 : decode cX8_strike 2 = .ok (.invokevirtual 50, 3) := by decide +kernel
theorem dX8_strike_5 : decode cX8_strike 5 = .ok (.ifCond .ne 5, 3) := by decide +kernel
theorem dX8_strike_8 : decode cX8_strike 8 = .ok (.iconst (-1), 1) := by decide +kernel
theorem dX8_strike_9 : decode cX8_strike 9 = .ok (.ireturn, 1) := by decide +kernel
theorem dX8_strike_10 : decode cX8_strike 10 = .ok (.aload_n 0, 1) := by decide +kernel
theorem dX8_strike_11 : decode cX8_strike 11 = .ok (.getfield 7, 3) := by decide +kernel
theorem dX8_strike_14 : decode cX8_strike 14 = .ok (.iload_n 1, 1) := by decide +kernel
theorem dX8_strike_15 : decode cX8_strike 15 = .ok (.bipush 6, 2) := by decide +kernel
theorem dX8_strike_17 : decode cX8_strike 17 = .ok (.invokestatic 46, 3) := by decide +kernel
theorem dX8_strike_20 : decode cX8_strike 20 = .ok (.iaload, 1) := by decide +kernel
theorem dX8_strike_21 : decode cX8_strike 21 = .ok (.ifCond .ne 6, 3) := by decide +kernel
theorem dX8_strike_24 : decode cX8_strike 24 = .ok (.bipush (-5), 2) := by decide +kernel
theorem dX8_strike_26 : decode cX8_strike 26 = .ok (.ireturn, 1) := by decide +kernel
theorem dX8_strike_27 : decode cX8_strike 27 = .ok (.aload_n 0, 1) := by decide +kernel
theorem dX8_strike_28 : decode cX8_strike 28 = .ok (.getfield 7, 3) := by decide +kernel
theorem dX8_strike_31 : decode cX8_strike 31 = .ok (.iload_n 1, 1) := by decide +kernel
theorem dX8_strike_32 : decode cX8_strike 32 = .ok (.bipush 6, 2) := by decide +kernel
theorem dX8_strike_34 : decode cX8_strike 34 = .ok (.invokestatic 46, 3) := by decide +kernel
theorem dX8_strike_37 : decode cX8_strike 37 = .ok (.dup2, 1) := by decide +kernel
theorem dX8_strike_38 : decode cX8_strike 38 = .ok (.iaload, 1) := by decide +kernel
theorem dX8_strike_39 : decode cX8_strike 39 = .ok (.iconst 1, 1) := by decide +kernel
theorem dX8_strike_40 : decode cX8_strike 40 = .ok (.isub, 1) := by decide +kernel
theorem dX8_strike_41 : decode cX8_strike 41 = .ok (.iastore, 1) := by decide +kernel
theorem dX8_strike_42 : decode cX8_strike 42 = .ok (.aload_n 0, 1) := by decide +kernel
theorem dX8_strike_43 : decode cX8_strike 43 = .ok (.getfield 7, 3) := by decide +kernel
theorem dX8_strike_46 : decode cX8_strike 46 = .ok (.iload_n 1, 1) := by decide +kernel
theorem dX8_strike_47 : decode cX8_strike 47 = .ok (.bipush 6, 2) := by decide +kernel
theorem dX8_strike_49 : decode cX8_strike 49 = .ok (.invokestatic 46, 3) := by decide +kernel
theorem dX8_strike_52 : decode cX8_strike 52 = .ok (.iaload, 1) := by decide +kernel
theorem dX8_strike_53 : decode cX8_strike 53 = .ok (.ireturn, 1) := by decide +kernel
set_option maxRecDepth 20000 in
theorem ggX8_termOf_X8_isTerm : GoodIn wsX8_termOf wsX8_isTerm := goodIn_r _ [6, 1, 7, 8, 9, 5, 10, 11, 12, 13, 14, 15, 16, 20, 21, 22, 23, 24, 25, 26, 27, 28, 29, 30] (by decide +kernel) (by decide +kernel)
set_option maxRecDepth 20000 in
theorem gX8_termOf_X8_isTerm : GoodIn wsX8_termOf (wsV RX8 101 RX8 yX8_isTerm wsX8_isTerm) := goodIn_app (goodIn_of _ (by decide +kernel)) ggX8_termOf_X8_isTerm
set_option maxRecDepth 20000 in
theorem ggX8_termOf_X8_in : GoodIn wsX8_termOf wsX8_in := goodIn_r _ [13] (by decide +kernel) (by decide +kernel)
set_option maxRecDepth 20000 in
theorem gX8_termOf_X8_in : GoodIn wsX8_termOf (va_wsS RX8 35 yX8_in wsX8_in) := goodIn_app (goodIn_of _ (by decide +kernel)) ggX8_termOf_X8_in
set_option maxRecDepth 20000 in
theorem ggX8_termOf_X8_termAt : GoodIn wsX8_termOf wsX8_termAt := goodIn_r _ [19] (by decide +kernel) (by decide +kernel)
set_option maxRecDepth 20000 in
theorem gX8_termOf_X8_termAt : GoodIn wsX8_termOf (va_wsS RX8 98 yX8_termAt wsX8_termAt) := goodIn_app (goodIn_of _ (by decide +kernel)) ggX8_termOf_X8_termAt
theorem dX8_termOf_0 : decode cX8_termOf 0 = .ok (.aload_n 0, 1) := by decide +kernel
theorem dX8_termOf_1 : decode cX8_termOf 1 = .ok (.iload_n 1, 1) := by decide +kernel
theorem dX8_termOf_2 : decode cX8_termOf 2 = .ok (.iload_n 2, 1) := by decide +kernel
theorem dX8_termOf_3 : decode cX8_termOf 3 = .ok (.invokevirtual 101, 3) := by decide +kernel
theorem dX8_termOf_6 : decode cX8_termOf 6 = .ok (.ifCond .eq 27, 3) := by decide +kernel
theorem dX8_termOf_9 : decode cX8_termOf 9 = .ok (.iload_n 3, 1) := by decide +kernel
theorem dX8_termOf_10 : decode cX8_termOf 10 = .ok (.iconst 0, 1) := by decide +kernel
theorem dX8_termOf_11 : decode cX8_termOf 11 = .ok (.iconst 4, 1) := by decide +kernel
theorem dX8_termOf_12 : decode cX8_termOf 12 = .ok (.invokestatic 35, 3) := by decide +kernel
theorem dX8_termOf_15 : decode cX8_termOf 15 = .ok (.ifCond .eq 18, 3) := by decide +kernel
theorem dX8_termOf_18 : decode cX8_termOf 18 = .ok (.aload_n 0, 1) := by decide +kernel
theorem dX8_termOf_19 : decode cX8_termOf 19 = .ok (.getfield 7, 3) := by decide +kernel
theorem dX8_termOf_22 : decode cX8_termOf 22 = .ok (.iload_n 1, 1) := by decide +kernel
theorem dX8_termOf_23 : decode cX8_termOf 23 = .ok (.iload_n 2, 1) := by decide +kernel
theorem dX8_termOf_24 : decode cX8_termOf 24 = .ok (.invokestatic 98, 3) := by decide +kernel
theorem dX8_termOf_27 : decode cX8_termOf 27 = .ok (.iload_n 3, 1) := by decide +kernel
theorem dX8_termOf_28 : decode cX8_termOf 28 = .ok (.iadd, 1) := by decide +kernel
theorem dX8_termOf_29 : decode cX8_termOf 29 = .ok (.iaload, 1) := by decide +kernel
theorem dX8_termOf_30 : decode cX8_termOf 30 = .ok (.goto 4, 3) := by decide +kernel
theorem dX8_termOf_33 : decode cX8_termOf 33 = .ok (.iconst (-1), 1) := by decide +kernel
theorem dX8_termOf_34 : decode cX8_termOf 34 = .ok (.ireturn, 1) := by decide +kernel
set_option maxRecDepth 20000 in
theorem ggX8_isOwn_X8_termAt : GoodIn wsX8_isOwn wsX8_termAt := goodIn_r _ [5] (by decide +kernel) (by decide +kernel)
set_option maxRecDepth 20000 in
theorem gX8_isOwn_X8_termAt : GoodIn wsX8_isOwn (va_wsS RX8 98 yX8_termAt wsX8_termAt) := goodIn_app (goodIn_of _ (by decide +kernel)) ggX8_isOwn_X8_termAt
theorem dX8_isOwn_0 : decode cX8_isOwn 0 = .ok (.aload_n 0, 1) := by decide +kernel
theorem dX8_isOwn_1 : decode cX8_isOwn 1 = .ok (.getfield 7, 3) := by decide +kernel
