theorem dX8_otherOf_0 : decode cX8_otherOf 0 = .ok (.iload_n 0, 1) := by decide +kernel
theorem dX8_otherOf_1 : decode cX8_otherOf 1 = .ok (.iconst 3, 1) := by decide +kernel
theorem dX8_otherOf_2 : decode cX8_otherOf 2 = .ok (.if_icmp .ge 9, 3) := by decide +kernel
theorem dX8_otherOf_11 : decode cX8_otherOf 11 = .ok (.iload_n 0, 1) := by decide +kernel
theorem dX8_otherOf_12 : decode cX8_otherOf 12 = .ok (.iconst 5, 1) := by decide +kernel
theorem dX8_otherOf_13 : decode cX8_otherOf 13 = .ok (.if_icmp .ge 9, 3) := by decide +kernel
theorem dX8_otherOf_22 : decode cX8_otherOf 22 = .ok (.iconst 3, 1) := by decide +kernel
theorem dX8_otherOf_23 : decode cX8_otherOf 23 = .ok (.ireturn, 1) := by decide +kernel
theorem dX8_otherOf_16 : decode cX8_otherOf 16 = .ok (.iload_n 0, 1) := by decide +kernel
theorem dX8_otherOf_17 : decode cX8_otherOf 17 = .ok (.iconst 1, 1) := by decide +kernel
theorem dX8_otherOf_18 : decode cX8_otherOf 18 = .ok (.isub, 1) := by decide +kernel
theorem dX8_otherOf_19 : decode cX8_otherOf 19 = .ok (.goto 4, 3) := by decide +kernel
theorem dX8_otherOf_5 : decode cX8_otherOf 5 = .ok (.iload_n 0, 1) := by decide +kernel
theorem dX8_otherOf_6 : decode cX8_otherOf 6 = .ok (.iconst 1, 1) := by decide +kernel
theorem dX8_otherOf_7 : decode cX8_otherOf 7 = .ok (.iadd, 1) := by decide +kernel
theorem dX8_otherOf_8 : decode cX8_otherOf 8 = .ok (.goto 15, 3) := by decide +kernel
theorem dX8_isPair_0 : decode cX8_isPair 0 = .ok (.iload_n 1, 1) := by decide +kernel
theorem dX8_isPair_1 : decode cX8_isPair 1 = .ok (.iconst 0, 1) := by decide +kernel
theorem dX8_isPair_2 : decode cX8_isPair 2 = .ok (.iconst 5, 1) := by decide +kernel
set_option maxRecDepth 20000 in
theorem ggX8_isPair_X8_in : GoodIn wsX8_isPair wsX8_in := goodIn_r _ [4] (by decide +kernel) (by decide +kernel)
set_option maxRecDepth 20000 in
theorem gX8_isPair_X8_in : GoodIn wsX8_isPair (va_wsS RX8 35 yX8_in wsX8_in) := goodIn_app (goodIn_of _ (by decide +kernel)) ggX8_isPair_X8_in
theorem dX8_isPair_3 : decode cX8_isPair 3 = .ok (.invokestatic 35, 3) := by decide +kernel
theorem dX8_isPair_6 : decode cX8_isPair 6 = .ok (.ifCond .eq 18, 3) := by decide +kernel
theorem dX8_isPair_9 : decode cX8_isPair 9 = .ok (.aload_n 0, 1) := by decide +kernel
theorem dX8_isPair_10 : decode cX8_isPair 10 = .ok (.iload_n 1, 1) := by decide +kernel
set_option maxRecDepth 20000 in
theorem ggX8_isPair_X8_otherOf : GoodIn wsX8_isPair wsX8_otherOf := goodIn_r _ [7] (by decide +kernel) (by decide +kernel)
set_option maxRecDepth 20000 in
theorem gX8_isPair_X8_otherOf : GoodIn wsX8_isPair (va_wsS RX8 63 yX8_otherOf wsX8_otherOf) := goodIn_app (goodIn_of _ (by decide +kernel)) ggX8_isPair_X8_otherOf
theorem dX8_isPair_11 : decode cX8_isPair 11 = .ok (.invokestatic 63, 3) := by decide +kernel
set_option maxRecDepth 20000 in
theorem ggX8_isPair_X8_isMediator : GoodIn wsX8_isPair wsX8_isMediator := goodIn_r _ [11, 12, 1, 2, 3, 4, 13, 14, 15, 16, 17, 18, 19, 20, 21, 22, 23] (by decide +kernel) (by decide +kernel)
set_option maxRecDepth 20000 in
theorem gX8_isPair_X8_isMediator : GoodIn wsX8_isPair (wsV RX8 39 RX8 yX8_isMediator wsX8_isMediator) := goodIn_app (goodIn_of _ (by decide +kernel)) ggX8_isPair_X8_isMediator
theorem dX8_isPair_14 : decode cX8_isPair 14 = .ok (.invokevirtual 39, 3) := by decide +kernel
theorem dX8_isPair_17 : decode cX8_isPair 17 = .ok (.ifCond .eq 7, 3) := by decide +kernel
theorem dX8_isPair_24 : decode cX8_isPair 24 = .ok (.iconst 0, 1) := by decide +kernel
theorem dX8_isPair_25 : decode cX8_isPair 25 = .ok (.ireturn, 1) := by decide +kernel
theorem dX8_maySit_0 : decode cX8_maySit 0 = .ok (.aload_n 0, 1) := by decide +kernel
theorem dX8_maySit_1 : decode cX8_maySit 1 = .ok (.iload_n 1, 1) := by decide +kernel
set_option maxRecDepth 20000 in
theorem ggX8_maySit_X8_isPair : GoodIn wsX8_maySit wsX8_isPair := goodIn_r _ [5, 6, 7, 4, 8, 9, 10, 11, 12, 13, 14, 15, 16, 35, 36, 37, 38, 39, 40, 41, 42, 43, 44, 45] (by decide +kernel) (by decide +kernel)
set_option maxRecDepth 20000 in
theorem gX8_maySit_X8_isPair : GoodIn wsX8_maySit (wsV RX8 73 RX8 yX8_isPair wsX8_isPair) := goodIn_app (goodIn_of _ (by decide +kernel)) ggX8_maySit_X8_isPair
theorem dX8_maySit_2 : decode cX8_maySit 2 = .ok (.invokevirtual 73, 3) := by decide +kernel
theorem dX8_maySit_5 : decode cX8_maySit 5 = .ok (.ifCond .eq 11, 3) := by decide +kernel
theorem dX8_maySit_16 : decode cX8_maySit 16 = .ok (.iconst (-1), 1) := by decide +kernel
theorem dX8_maySit_17 : decode cX8_maySit 17 = .ok (.ireturn, 1) := by decide +kernel
theorem dX8_casesThat_0 : decode cX8_casesThat 0 = .ok (.iconst 0, 1) := by decide +kernel
theorem dX8_casesThat_1 : decode cX8_casesThat 1 = .ok (.istore_n 2, 1) := by decide +kernel
theorem dX8_casesThat_2 : decode cX8_casesThat 2 = .ok (.iconst 0, 1) := by decide +kernel
theorem dX8_casesThat_3 : decode cX8_casesThat 3 = .ok (.istore_n 3, 1) := by decide +kernel
theorem dX8_casesThat_4 : decode cX8_casesThat 4 = .ok (.iload_n 3, 1) := by decide +kernel
theorem dX8_casesThat_5 : decode cX8_casesThat 5 = .ok (.aload_n 0, 1) := by decide +kernel
theorem dX8_casesThat_6 : decode cX8_casesThat 6 = .ok (.getfield 7, 3) := by decide +kernel
theorem dX8_casesThat_9 : decode cX8_casesThat 9 = .ok (.iconst 2, 1) := by decide +kernel
theorem dX8_casesThat_10 : decode cX8_casesThat 10 = .ok (.iaload, 1) := by decide +kernel
theorem dX8_casesThat_11 : decode cX8_casesThat 11 = .ok (.if_icmp .ge 31, 3) := by decide +kernel
theorem dX8_casesThat_42 : decode cX8_casesThat 42 = .ok (.iload_n 2, 1) := by decide +kernel
theorem dX8_casesThat_43 : decode cX8_casesThat 43 = .ok (.ireturn, 1) := by decide +kernel
theorem dX8_termsThat_0 : decode cX8_termsThat 0 = .ok (.iconst 0, 1) := by decide +kernel
theorem dX8_termsThat_1 : decode cX8_termsThat 1 = .ok (.istore_n 2, 1) := by decide +kernel
theorem dX8_termsThat_2 : decode cX8_termsThat 2 = .ok (.iconst 0, 1) := by decide +kernel
theorem dX8_termsThat_3 : decode cX8_termsThat 3 = .ok (.istore_n 3, 1) := by decide +kernel
theorem dX8_termsThat_4 : decode cX8_termsThat 4 = .ok (.iload_n 3, 1) := by decide +kernel
theorem dX8_termsThat_5 : decode cX8_termsThat 5 = .ok (.aload_n 0, 1) := by decide +kernel
theorem dX8_termsThat_6 : decode cX8_termsThat 6 = .ok (.getfield 7, 3) := by decide +kernel
theorem dX8_termsThat_9 : decode cX8_termsThat 9 = .ok (.iconst 2, 1) := by decide +kernel
theorem dX8_termsThat_10 : decode cX8_termsThat 10 = .ok (.iaload, 1) := by decide +kernel
theorem dX8_termsThat_11 : decode cX8_termsThat 11 = .ok (.if_icmp .ge 57, 3) := by decide +kernel
theorem dX8_termsThat_68 : decode cX8_termsThat 68 = .ok (.iload_n 2, 1) := by decide +kernel
theorem dX8_termsThat_69 : decode cX8_termsThat 69 = .ok (.ireturn, 1) := by decide +kernel
theorem dX8_findHeads_0 : decode cX8_findHeads 0 = .ok (.iconst 0, 1) := by decide +kernel
theorem dX8_findHeads_1 : decode cX8_findHeads 1 = .ok (.istore_n 1, 1) := by decide +kernel
theorem dX8_findHeads_2 : decode cX8_findHeads 2 = .ok (.iload_n 1, 1) := by decide +kernel
theorem dX8_findHeads_3 : decode cX8_findHeads 3 = .ok (.aload_n 0, 1) := by decide +kernel
theorem dX8_findHeads_4 : decode cX8_findHeads 4 = .ok (.getfield 7, 3) := by decide +kernel
theorem dX8_findHeads_7 : decode cX8_findHeads 7 = .ok (.iconst 2, 1) := by decide +kernel
theorem dX8_findHeads_8 : decode cX8_findHeads 8 = .ok (.iaload, 1) := by decide +kernel
theorem dX8_findHeads_9 : decode cX8_findHeads 9 = .ok (.if_icmp .ge 16, 3) := by decide +kernel
theorem dX8_findHeads_25 : decode cX8_findHeads 25 = .ok (.iconst 1, 1) := by decide +kernel
theorem dX8_findHeads_26 : decode cX8_findHeads 26 = .ok (.istore_n 1, 1) := by decide +kernel
theorem dX8_findHeads_27 : decode cX8_findHeads 27 = .ok (.iload_n 1, 1) := by decide +kernel
theorem dX8_findHeads_28 : decode cX8_findHeads 28 = .ok (.ifCond .eq 124, 3) := by decide +kernel
theorem dX8_findHeads_31 : decode cX8_findHeads 31 = .ok (.iconst 0, 1) := by decide +kernel
theorem dX8_findHeads_32 : decode cX8_findHeads 32 = .ok (.istore_n 1, 1) := by decide +kernel
theorem dX8_findHeads_33 : decode cX8_findHeads 33 = .ok (.iconst 0, 1) := by decide +kernel
theorem dX8_findHeads_34 : decode cX8_findHeads 34 = .ok (.istore_n 2, 1) := by decide +kernel
theorem dX8_findHeads_35 : decode cX8_findHeads 35 = .ok (.iload_n 2, 1) := by decide +kernel
theorem dX8_findHeads_36 : decode cX8_findHeads 36 = .ok (.aload_n 0, 1) := by decide +kernel
theorem dX8_findHeads_37 : decode cX8_findHeads 37 = .ok (.getfield 7, 3) := by decide +kernel
theorem dX8_findHeads_40 : decode cX8_findHeads 40 = .ok (.iconst 3, 1) := by decide +kernel
theorem dX8_findHeads_41 : decode cX8_findHeads 41 = .ok (.iaload, 1) := by decide +kernel
theorem dX8_findHeads_42 : decode cX8_findHeads 42 = .ok (.if_icmp .ge 107, 3) := by decide +kernel
theorem dX8_findHeads_149 : decode cX8_findHeads 149 = .ok (.goto (-122), 3) := by decide +kernel
theorem dX8_findHeads_152 : decode cX8_findHeads 152 = .ok (.return_, 1) := by decide +kernel
theorem dX8_quarrels_0 : decode cX8_quarrels 0 = .ok (.aload_n 0, 1) := by decide +kernel
set_option maxRecDepth 20000 in
theorem ggX8_quarrels_X8_findHeads : GoodIn wsX8_quarrels wsX8_findHeads := goodIn_r _ [7, 1, 2, 8, 9, 10, 11, 12, 13, 14, 15, 16, 17, 18] (by decide +kernel) (by decide +kernel)
set_option maxRecDepth 20000 in
theorem gX8_quarrels_X8_findHeads : GoodIn wsX8_quarrels (wsV RX8 53 RX8 yX8_findHeads wsX8_findHeads) := goodIn_app (goodIn_of _ (by decide +kernel)) ggX8_quarrels_X8_findHeads
theorem dX8_quarrels_1 : decode cX8_quarrels 1 = .ok (.invokevirtual 53, 3) := by decide +kernel
theorem dX8_quarrels_4 : decode cX8_quarrels 4 = .ok (.iconst 0, 1) := by decide +kernel
theorem dX8_quarrels_5 : decode cX8_quarrels 5 = .ok (.istore_n 1, 1) := by decide +kernel
theorem dX8_quarrels_6 : decode cX8_quarrels 6 = .ok (.iconst 0, 1) := by decide +kernel
theorem dX8_quarrels_7 : decode cX8_quarrels 7 = .ok (.istore_n 2, 1) := by decide +kernel
theorem dX8_quarrels_8 : decode cX8_quarrels 8 = .ok (.iload_n 2, 1) := by decide +kernel
theorem dX8_quarrels_9 : decode cX8_quarrels 9 = .ok (.aload_n 0, 1) := by decide +kernel
theorem dX8_quarrels_10 : decode cX8_quarrels 10 = .ok (.getfield 7, 3) := by decide +kernel
theorem dX8_quarrels_13 : decode cX8_quarrels 13 = .ok (.iconst 2, 1) := by decide +kernel
theorem dX8_quarrels_14 : decode cX8_quarrels 14 = .ok (.iaload, 1) := by decide +kernel
theorem dX8_quarrels_15 : decode cX8_quarrels 15 = .ok (.if_icmp .ge 27, 3) := by decide +kernel
theorem dX8_quarrels_42 : decode cX8_quarrels 42 = .ok (.iload_n 1, 1) := by decide +kernel
theorem dX8_quarrels_43 : decode cX8_quarrels 43 = .ok (.ireturn, 1) := by decide +kernel
theorem dX8_many_0 : decode cX8_many 0 = .ok (.iload_n 1, 1) := by decide +kernel
theorem dX8_many_1 : decode cX8_many 1 = .ok (.tableswitch 128 0 10 #[59, 66, 73, 80, 86, 92, 99, 104, 110, 116, 122], 59) := by decide +kernel
theorem dX8_many_129 : decode cX8_many 129 = .ok (.iconst (-1), 1) := by decide +kernel
theorem dX8_many_130 : decode cX8_many 130 = .ok (.ireturn, 1) := by decide +kernel
theorem dX8_many_60 : decode cX8_many 60 = .ok (.aload_n 0, 1) := by decide +kernel
theorem dX8_many_61 : decode cX8_many 61 = .ok (.getfield 7, 3) := by decide +kernel
theorem dX8_many_64 : decode cX8_many 64 = .ok (.iconst 0, 1) := by decide +kernel
theorem dX8_many_65 : decode cX8_many 65 = .ok (.iaload, 1) := by decide +kernel
theorem dX8_many_66 : decode cX8_many 66 = .ok (.ireturn, 1) := by decide +kernel
theorem dX8_many_67 : decode cX8_many 67 = .ok (.aload_n 0, 1) := by decide +kernel
theorem dX8_many_68 : decode cX8_many 68 = .ok (.getfield 7, 3) := by decide +kernel
theorem dX8_many_71 : decode cX8_many 71 = .ok (.iconst 1, 1) := by decide +kernel
theorem dX8_many_72 : decode cX8_many 72 = .ok (.iaload, 1) := by decide +kernel
theorem dX8_many_73 : decode cX8_many 73 = .ok (.ireturn, 1) := by decide +kernel
theorem dX8_many_74 : decode cX8_many 74 = .ok (.aload_n 0, 1) := by decide +kernel
theorem dX8_many_75 : decode cX8_many 75 = .ok (.getfield 7, 3) := by decide +kernel
theorem dX8_many_78 : decode cX8_many 78 = .ok (.iconst 2, 1) := by decide +kernel
theorem dX8_many_79 : decode cX8_many 79 = .ok (.iaload, 1) := by decide +kernel
theorem dX8_many_80 : decode cX8_many 80 = .ok (.ireturn, 1) := by decide +kernel
theorem dX8_many_81 : decode cX8_many 81 = .ok (.aload_n 0, 1) := by decide +kernel
theorem dX8_many_82 : decode cX8_many 82 = .ok (.iconst 0, 1) := by decide +kernel
set_option maxRecDepth 20000 in
theorem ggX8_many_X8_casesThat : GoodIn wsX8_many wsX8_casesThat := goodIn_r _ [6, 1, 7, 8, 5, 9, 30, 31, 32, 33, 34, 35, 36, 37, 38, 39, 40] (by decide +kernel) (by decide +kernel)
set_option maxRecDepth 20000 in
theorem gX8_many_X8_casesThat : GoodIn wsX8_many (wsV RX8 124 RX8 yX8_casesThat wsX8_casesThat) := goodIn_app (goodIn_of _ (by decide +kernel)) ggX8_many_X8_casesThat
theorem dX8_many_83 : decode cX8_many 83 = .ok (.invokevirtual 124, 3) := by decide +kernel
theorem dX8_many_86 : decode cX8_many 86 = .ok (.ireturn, 1) := by decide +kernel
theorem dX8_many_87 : decode cX8_many 87 = .ok (.aload_n 0, 1) := by decide +kernel
theorem dX8_many_88 : decode cX8_many 88 = .ok (.iconst 1, 1) := by decide +kernel
theorem dX8_many_89 : decode cX8_many 89 = .ok (.invokevirtual 124, 3) := by decide +kernel
theorem dX8_many_92 : decode cX8_many 92 = .ok (.ireturn, 1) := by decide +kernel
theorem dX8_many_93 : decode cX8_many 93 = .ok (.aload_n 0, 1) := by decide +kernel
theorem dX8_many_94 : decode cX8_many 94 = .ok (.getfield 7, 3) := by decide +kernel
theorem dX8_many_97 : decode cX8_many 97 = .ok (.iconst 3, 1) := by decide +kernel
theorem dX8_many_98 : decode cX8_many 98 = .ok (.iaload, 1) := by decide +kernel
theorem dX8_many_99 : decode cX8_many 99 = .ok (.ireturn, 1) := by decide +kernel
theorem dX8_many_100 : decode cX8_many 100 = .ok (.aload_n 0, 1) := by decide +kernel
set_option maxRecDepth 20000 in
theorem ggX8_many_X8_quarrels : GoodIn wsX8_many wsX8_quarrels := goodIn_r _ [13, 1, 14, 15, 16, 17, 5, 18, 30, 31, 32, 33, 34, 35, 36, 37, 38, 39, 40] (by decide +kernel) (by decide +kernel)
set_option maxRecDepth 20000 in
theorem gX8_many_X8_quarrels : GoodIn wsX8_many (wsV RX8 127 RX8 yX8_quarrels wsX8_quarrels) := goodIn_app (goodIn_of _ (by decide +kernel)) ggX8_many_X8_quarrels
theorem dX8_many_101 : decode cX8_many 101 = .ok (.invokevirtual 127, 3) := by decide +kernel
theorem dX8_many_104 : decode cX8_many 104 = .ok (.ireturn, 1) := by decide +kernel
theorem dX8_many_105 : decode cX8_many 105 = .ok (.aload_n 0, 1) := by decide +kernel
theorem dX8_many_106 : decode cX8_many 106 = .ok (.iconst (-1), 1) := by decide +kernel
set_option maxRecDepth 20000 in
theorem ggX8_many_X8_termsThat : GoodIn wsX8_many wsX8_termsThat := goodIn_r _ [22, 1, 7, 8, 5, 9, 23, 24, 25, 26, 27, 28, 29, 30, 31, 32, 33, 34, 35, 36, 37, 38, 39, 40] (by decide +kernel) (by decide +kernel)
set_option maxRecDepth 20000 in
theorem gX8_many_X8_termsThat : GoodIn wsX8_many (wsV RX8 131 RX8 yX8_termsThat wsX8_termsThat) := goodIn_app (goodIn_of _ (by decide +kernel)) ggX8_many_X8_termsThat
theorem dX8_many_107 : decode cX8_many 107 = .ok (.invokevirtual 131, 3) := by decide +kernel
theorem dX8_many_110 : decode cX8_many 110 = .ok (.ireturn, 1) := by decide +kernel
theorem dX8_many_111 : decode cX8_many 111 = .ok (.aload_n 0, 1) := by decide +kernel
theorem dX8_many_112 : decode cX8_many 112 = .ok (.iconst 1, 1) := by decide +kernel
theorem dX8_many_113 : decode cX8_many 113 = .ok (.invokevirtual 131, 3) := by decide +kernel
theorem dX8_many_116 : decode cX8_many 116 = .ok (.ireturn, 1) := by decide +kernel
theorem dX8_many_117 : decode cX8_many 117 = .ok (.aload_n 0, 1) := by decide +kernel
theorem dX8_many_118 : decode cX8_many 118 = .ok (.iconst 0, 1) := by decide +kernel
theorem dX8_many_119 : decode cX8_many 119 = .ok (.invokevirtual 131, 3) := by decide +kernel
theorem dX8_many_122 : decode cX8_many 122 = .ok (.ireturn, 1) := by decide +kernel
theorem dX8_many_123 : decode cX8_many 123 = .ok (.aload_n 0, 1) := by decide +kernel
theorem dX8_many_124 : decode cX8_many 124 = .ok (.iconst 2, 1) := by decide +kernel
theorem dX8_many_125 : decode cX8_many 125 = .ok (.invokevirtual 131, 3) := by decide +kernel
theorem dX8_many_128 : decode cX8_many 128 = .ok (.ireturn, 1) := by decide +kernel
theorem dX8_rooms_0 : decode cX8_rooms 0 = .ok (.iload_n 1, 1) := by decide +kernel
theorem dX8_rooms_1 : decode cX8_rooms 1 = .ok (.iconst 1, 1) := by decide +kernel
theorem dX8_rooms_2 : decode cX8_rooms 2 = .ok (.iconst 2, 1) := by decide +kernel
set_option maxRecDepth 20000 in
theorem ggX8_rooms_X8_in : GoodIn wsX8_rooms wsX8_in := goodIn_r _ [5] (by decide +kernel) (by decide +kernel)
set_option maxRecDepth 20000 in
theorem gX8_rooms_X8_in : GoodIn wsX8_rooms (va_wsS RX8 35 yX8_in wsX8_in) := goodIn_app (goodIn_of _ (by decide +kernel)) ggX8_rooms_X8_in
theorem dX8_rooms_3 : decode cX8_rooms 3 = .ok (.invokestatic 35, 3) := by decide +kernel
theorem dX8_rooms_6 : decode cX8_rooms 6 = .ok (.ifCond .ne 5, 3) := by decide +kernel
theorem dX8_rooms_11 : decode cX8_rooms 11 = .ok (.aload_n 0, 1) := by decide +kernel
theorem dX8_rooms_12 : decode cX8_rooms 12 = .ok (.getfield 16, 3) := by decide +kernel
theorem dX8_rooms_15 : decode cX8_rooms 15 = .ok (.istore_n 2, 1) := by decide +kernel
theorem dX8_rooms_16 : decode cX8_rooms 16 = .ok (.aload_n 0, 1) := by decide +kernel
theorem dX8_rooms_17 : decode cX8_rooms 17 = .ok (.iload_n 1, 1) := by decide +kernel
theorem dX8_rooms_18 : decode cX8_rooms 18 = .ok (.putfield 16, 3) := by decide +kernel
theorem dX8_rooms_21 : decode cX8_rooms 21 = .ok (.iload_n 2, 1) := by decide +kernel
theorem dX8_rooms_22 : decode cX8_rooms 22 = .ok (.ireturn, 1) := by decide +kernel
theorem dX8_rooms_9 : decode cX8_rooms 9 = .ok (.iconst (-1), 1) := by decide +kernel
theorem dX8_rooms_10 : decode cX8_rooms 10 = .ok (.ireturn, 1) := by decide +kernel
theorem dX8_back_0 : decode cX8_back 0 = .ok (.aload_n 0, 1) := by decide +kernel
theorem dX8_back_1 : decode cX8_back 1 = .ok (.getfield 134, 3) := by decide +kernel
theorem dX8_back_4 : decode cX8_back 4 = .ok (.ifCond .ne 6, 3) := by decide +kernel
theorem dX8_back_7 : decode cX8_back 7 = .ok (.bipush (-5), 2) := by decide +kernel
theorem dX8_back_9 : decode cX8_back 9 = .ok (.ireturn, 1) := by decide +kernel
theorem dX8_party_0 : decode cX8_party 0 = .ok (.iload_n 1, 1) := by decide +kernel
theorem dX8_party_1 : decode cX8_party 1 = .ok (.iconst 0, 1) := by decide +kernel
theorem dX8_party_2 : decode cX8_party 2 = .ok (.bipush 9, 2) := by decide +kernel
set_option maxRecDepth 20000 in
theorem ggX8_party_X8_in : GoodIn wsX8_party wsX8_in := goodIn_r _ [5] (by decide +kernel) (by decide +kernel)
set_option maxRecDepth 20000 in
theorem gX8_party_X8_in : GoodIn wsX8_party (va_wsS RX8 35 yX8_in wsX8_in) := goodIn_app (goodIn_of _ (by decide +kernel)) ggX8_party_X8_in
theorem dX8_party_4 : decode cX8_party 4 = .ok (.invokestatic 35, 3) := by decide +kernel
theorem dX8_party_7 : decode cX8_party 7 = .ok (.ifCond .eq 12, 3) := by decide +kernel
theorem dX8_party_10 : decode cX8_party 10 = .ok (.iload_n 2, 1) := by decide +kernel
theorem dX8_party_11 : decode cX8_party 11 = .ok (.iconst 0, 1) := by decide +kernel
theorem dX8_party_12 : decode cX8_party 12 = .ok (.iconst 2, 1) := by decide +kernel
theorem dX8_party_13 : decode cX8_party 13 = .ok (.invokestatic 35, 3) := by decide +kernel
theorem dX8_party_16 : decode cX8_party 16 = .ok (.ifCond .ne 5, 3) := by decide +kernel
theorem dX8_party_21 : decode cX8_party 21 = .ok (.aload_n 0, 1) := by decide +kernel
theorem dX8_party_22 : decode cX8_party 22 = .ok (.getfield 7, 3) := by decide +kernel
theorem dX8_party_25 : decode cX8_party 25 = .ok (.iconst 0, 1) := by decide +kernel
theorem dX8_party_26 : decode cX8_party 26 = .ok (.iaload, 1) := by decide +kernel
theorem dX8_party_27 : decode cX8_party 27 = .ok (.bipush 8, 2) := by decide +kernel
theorem dX8_party_29 : decode cX8_party 29 = .ok (.if_icmp .ne 6, 3) := by decide +kernel
theorem dX8_party_35 : decode cX8_party 35 = .ok (.aload_n 0, 1) := by decide +kernel
theorem dX8_party_36 : decode cX8_party 36 = .ok (.getfield 7, 3) := by decide +kernel
theorem dX8_party_39 : decode cX8_party 39 = .ok (.iconst 0, 1) := by decide +kernel
theorem dX8_party_40 : decode cX8_party 40 = .ok (.iaload, 1) := by decide +kernel
theorem dX8_party_41 : decode cX8_party 41 = .ok (.istore_n 3, 1) := by decide +kernel
theorem dX8_party_42 : decode cX8_party 42 = .ok (.aload_n 0, 1) := by decide +kernel
theorem dX8_party_43 : decode cX8_party 43 = .ok (.getfield 7, 3) := by decide +kernel
theorem dX8_party_46 : decode cX8_party 46 = .ok (.iconst 4, 1) := by decide +kernel
theorem dX8_party_47 : decode cX8_party 47 = .ok (.iconst 2, 1) := by decide +kernel
theorem dX8_party_48 : decode cX8_party 48 = .ok (.iload_n 3, 1) := by decide +kernel
theorem dX8_party_49 : decode cX8_party 49 = .ok (.imul, 1) := by decide +kernel
theorem dX8_party_50 : decode cX8_party 50 = .ok (.iadd, 1) := by decide +kernel
theorem dX8_party_51 : decode cX8_party 51 = .ok (.iload_n 1, 1) := by decide +kernel
theorem dX8_party_52 : decode cX8_party 52 = .ok (.iastore, 1) := by decide +kernel
theorem dX8_party_53 : decode cX8_party 53 = .ok (.aload_n 0, 1) := by decide +kernel
theorem dX8_party_54 : decode cX8_party 54 = .ok (.getfield 7, 3) := by decide +kernel
theorem dX8_party_57 : decode cX8_party 57 = .ok (.iconst 4, 1) := by decide +kernel
theorem dX8_party_58 : decode cX8_party 58 = .ok (.iconst 2, 1) := by decide +kernel
theorem dX8_party_59 : decode cX8_party 59 = .ok (.iload_n 3, 1) := by decide +kernel
theorem dX8_party_60 : decode cX8_party 60 = .ok (.imul, 1) := by decide +kernel
theorem dX8_party_61 : decode cX8_party 61 = .ok (.iadd, 1) := by decide +kernel
theorem dX8_party_62 : decode cX8_party 62 = .ok (.iconst 1, 1) := by decide +kernel
theorem dX8_party_63 : decode cX8_party 63 = .ok (.iadd, 1) := by decide +kernel
theorem dX8_party_64 : decode cX8_party 64 = .ok (.iload_n 2, 1) := by decide +kernel
theorem dX8_party_65 : decode cX8_party 65 = .ok (.iastore, 1) := by decide +kernel
theorem dX8_party_66 : decode cX8_party 66 = .ok (.iconst 0, 1) := by decide +kernel
theorem dX8_party_67 : decode cX8_party 67 = .ok (.istore 4, 2) := by decide +kernel
theorem dX8_party_69 : decode cX8_party 69 = .ok (.iload 4, 2) := by decide +kernel
theorem dX8_party_71 : decode cX8_party 71 = .ok (.iconst 4, 1) := by decide +kernel
theorem dX8_party_72 : decode cX8_party 72 = .ok (.if_icmp .ge 35, 3) := by decide +kernel
theorem dX8_party_75 : decode cX8_party 75 = .ok (.aload_n 0, 1) := by decide +kernel
theorem dX8_party_76 : decode cX8_party 76 = .ok (.getfield 7, 3) := by decide +kernel
theorem dX8_party_79 : decode cX8_party 79 = .ok (.bipush 28, 2) := by decide +kernel
theorem dX8_party_81 : decode cX8_party 81 = .ok (.iload 4, 2) := by decide +kernel
theorem dX8_party_83 : decode cX8_party 83 = .ok (.iadd, 1) := by decide +kernel
theorem dX8_party_84 : decode cX8_party 84 = .ok (.aload_n 0, 1) := by decide +kernel
theorem dX8_party_85 : decode cX8_party 85 = .ok (.getfield 7, 3) := by decide +kernel
theorem dX8_party_88 : decode cX8_party 88 = .ok (.bipush 28, 2) := by decide +kernel
theorem dX8_party_90 : decode cX8_party 90 = .ok (.iload 4, 2) := by decide +kernel
theorem dX8_party_92 : decode cX8_party 92 = .ok (.iadd, 1) := by decide +kernel
theorem dX8_party_93 : decode cX8_party 93 = .ok (.iaload, 1) := by decide +kernel
theorem dX8_party_94 : decode cX8_party 94 = .ok (.iconst 1, 1) := by decide +kernel
theorem dX8_party_95 : decode cX8_party 95 = .ok (.iload_n 3, 1) := by decide +kernel
theorem dX8_party_96 : decode cX8_party 96 = .ok (.ishl, 1) := by decide +kernel
theorem dX8_party_97 : decode cX8_party 97 = .ok (.iconst (-1), 1) := by decide +kernel
theorem dX8_party_98 : decode cX8_party 98 = .ok (.ixor, 1) := by decide +kernel
theorem dX8_party_99 : decode cX8_party 99 = .ok (.iand, 1) := by decide +kernel
theorem dX8_party_100 : decode cX8_party 100 = .ok (.iastore, 1) := by decide +kernel
theorem dX8_party_101 : decode cX8_party 101 = .ok (.iinc 4 1, 3) := by decide +kernel
theorem dX8_party_104 : decode cX8_party 104 = .ok (.goto (-35), 3) := by decide +kernel
theorem dX8_party_107 : decode cX8_party 107 = .ok (.aload_n 0, 1) := by decide +kernel
theorem dX8_party_108 : decode cX8_party 108 = .ok (.getfield 7, 3) := by decide +kernel
theorem dX8_party_111 : decode cX8_party 111 = .ok (.iconst 0, 1) := by decide +kernel
theorem dX8_party_112 : decode cX8_party 112 = .ok (.dup2, 1) := by decide +kernel
theorem dX8_party_113 : decode cX8_party 113 = .ok (.iaload, 1) := by decide +kernel
theorem dX8_party_114 : decode cX8_party 114 = .ok (.iconst 1, 1) := by decide +kernel
theorem dX8_party_115 : decode cX8_party 115 = .ok (.iadd, 1) := by decide +kernel
theorem dX8_party_116 : decode cX8_party 116 = .ok (.iastore, 1) := by decide +kernel
theorem dX8_party_117 : decode cX8_party 117 = .ok (.iload_n 3, 1) := by decide +kernel
theorem dX8_party_118 : decode cX8_party 118 = .ok (.ireturn, 1) := by decide +kernel
theorem dX8_party_19 : decode cX8_party 19 = .ok (.iconst (-1), 1) := by decide +kernel
theorem dX8_party_20 : decode cX8_party 20 = .ok (.ireturn, 1) := by decide +kernel
theorem dX8_mediator_0 : decode cX8_mediator 0 = .ok (.iload_n 1, 1) := by decide +kernel
theorem dX8_mediator_1 : decode cX8_mediator 1 = .ok (.iconst 0, 1) := by decide +kernel
theorem dX8_mediator_2 : decode cX8_mediator 2 = .ok (.bipush 9, 2) := by decide +kernel
set_option maxRecDepth 20000 in
theorem ggX8_mediator_X8_in : GoodIn wsX8_mediator wsX8_in := goodIn_r _ [5] (by decide +kernel) (by decide +kernel)
set_option maxRecDepth 20000 in
theorem gX8_mediator_X8_in : GoodIn wsX8_mediator (va_wsS RX8 35 yX8_in wsX8_in) := goodIn_app (goodIn_of _ (by decide +kernel)) ggX8_mediator_X8_in
theorem dX8_mediator_4 : decode cX8_mediator 4 = .ok (.invokestatic 35, 3) := by decide +kernel
theorem dX8_mediator_7 : decode cX8_mediator 7 = .ok (.ifCond .eq 13, 3) := by decide +kernel
theorem dX8_mediator_10 : decode cX8_mediator 10 = .ok (.iload_n 2, 1) := by decide +kernel
theorem dX8_mediator_11 : decode cX8_mediator 11 = .ok (.iconst 1, 1) := by decide +kernel
theorem dX8_mediator_12 : decode cX8_mediator 12 = .ok (.bipush 7, 2) := by decide +kernel
theorem dX8_mediator_14 : decode cX8_mediator 14 = .ok (.invokestatic 35, 3) := by decide +kernel
theorem dX8_mediator_17 : decode cX8_mediator 17 = .ok (.ifCond .ne 5, 3) := by decide +kernel
theorem dX8_mediator_22 : decode cX8_mediator 22 = .ok (.aload_n 0, 1) := by decide +kernel
theorem dX8_mediator_23 : decode cX8_mediator 23 = .ok (.getfield 7, 3) := by decide +kernel
theorem dX8_mediator_26 : decode cX8_mediator 26 = .ok (.iconst 1, 1) := by decide +kernel
theorem dX8_mediator_27 : decode cX8_mediator 27 = .ok (.iaload, 1) := by decide +kernel
theorem dX8_mediator_28 : decode cX8_mediator 28 = .ok (.iconst 4, 1) := by decide +kernel
theorem dX8_mediator_29 : decode cX8_mediator 29 = .ok (.if_icmp .ne 6, 3) := by decide +kernel
theorem dX8_mediator_35 : decode cX8_mediator 35 = .ok (.aload_n 0, 1) := by decide +kernel
theorem dX8_mediator_36 : decode cX8_mediator 36 = .ok (.getfield 7, 3) := by decide +kernel
theorem dX8_mediator_39 : decode cX8_mediator 39 = .ok (.iconst 1, 1) := by decide +kernel
theorem dX8_mediator_40 : decode cX8_mediator 40 = .ok (.iaload, 1) := by decide +kernel
theorem dX8_mediator_41 : decode cX8_mediator 41 = .ok (.istore_n 3, 1) := by decide +kernel
theorem dX8_mediator_42 : decode cX8_mediator 42 = .ok (.aload_n 0, 1) := by decide +kernel
theorem dX8_mediator_43 : decode cX8_mediator 43 = .ok (.getfield 7, 3) := by decide +kernel
theorem dX8_mediator_46 : decode cX8_mediator 46 = .ok (.bipush 20, 2) := by decide +kernel
theorem dX8_mediator_48 : decode cX8_mediator 48 = .ok (.iconst 2, 1) := by decide +kernel
theorem dX8_mediator_49 : decode cX8_mediator 49 = .ok (.iload_n 3, 1) := by decide +kernel
theorem dX8_mediator_50 : decode cX8_mediator 50 = .ok (.imul, 1) := by decide +kernel
theorem dX8_mediator_51 : decode cX8_mediator 51 = .ok (.iadd, 1) := by decide +kernel
theorem dX8_mediator_52 : decode cX8_mediator 52 = .ok (.iload_n 1, 1) := by decide +kernel
theorem dX8_mediator_53 : decode cX8_mediator 53 = .ok (.iastore, 1) := by decide +kernel
theorem dX8_mediator_54 : decode cX8_mediator 54 = .ok (.aload_n 0, 1) := by decide +kernel
theorem dX8_mediator_55 : decode cX8_mediator 55 = .ok (.getfield 7, 3) := by decide +kernel
theorem dX8_mediator_58 : decode cX8_mediator 58 = .ok (.bipush 20, 2) := by decide +kernel
theorem dX8_mediator_60 : decode cX8_mediator 60 = .ok (.iconst 2, 1) := by decide +kernel
theorem dX8_mediator_61 : decode cX8_mediator 61 = .ok (.iload_n 3, 1) := by decide +kernel
theorem dX8_mediator_62 : decode cX8_mediator 62 = .ok (.imul, 1) := by decide +kernel
theorem dX8_mediator_63 : decode cX8_mediator 63 = .ok (.iadd, 1) := by decide +kernel
theorem dX8_mediator_64 : decode cX8_mediator 64 = .ok (.iconst 1, 1) := by decide +kernel
theorem dX8_mediator_65 : decode cX8_mediator 65 = .ok (.iadd, 1) := by decide +kernel
theorem dX8_mediator_66 : decode cX8_mediator 66 = .ok (.iload_n 2, 1) := by decide +kernel
theorem dX8_mediator_67 : decode cX8_mediator 67 = .ok (.iastore, 1) := by decide +kernel
theorem dX8_mediator_68 : decode cX8_mediator 68 = .ok (.aload_n 0, 1) := by decide +kernel
theorem dX8_mediator_69 : decode cX8_mediator 69 = .ok (.getfield 7, 3) := by decide +kernel
theorem dX8_mediator_72 : decode cX8_mediator 72 = .ok (.bipush 28, 2) := by decide +kernel
theorem dX8_mediator_74 : decode cX8_mediator 74 = .ok (.iload_n 3, 1) := by decide +kernel
theorem dX8_mediator_75 : decode cX8_mediator 75 = .ok (.iadd, 1) := by decide +kernel
theorem dX8_mediator_76 : decode cX8_mediator 76 = .ok (.iconst 0, 1) := by decide +kernel
theorem dX8_mediator_77 : decode cX8_mediator 77 = .ok (.iastore, 1) := by decide +kernel
theorem dX8_mediator_78 : decode cX8_mediator 78 = .ok (.aload_n 0, 1) := by decide +kernel
theorem dX8_mediator_79 : decode cX8_mediator 79 = .ok (.getfield 7, 3) := by decide +kernel
theorem dX8_mediator_82 : decode cX8_mediator 82 = .ok (.iconst 1, 1) := by decide +kernel
theorem dX8_mediator_83 : decode cX8_mediator 83 = .ok (.dup2, 1) := by decide +kernel
theorem dX8_mediator_84 : decode cX8_mediator 84 = .ok (.iaload, 1) := by decide +kernel
theorem dX8_mediator_85 : decode cX8_mediator 85 = .ok (.iconst 1, 1) := by decide +kernel
theorem dX8_mediator_86 : decode cX8_mediator 86 = .ok (.iadd, 1) := by decide +kernel
theorem dX8_mediator_87 : decode cX8_mediator 87 = .ok (.iastore, 1) := by decide +kernel
theorem dX8_mediator_88 : decode cX8_mediator 88 = .ok (.iload_n 3, 1) := by decide +kernel
theorem dX8_mediator_89 : decode cX8_mediator 89 = .ok (.ireturn, 1) := by decide +kernel
theorem dX8_mediator_20 : decode cX8_mediator 20 = .ok (.iconst (-1), 1) := by decide +kernel
theorem dX8_mediator_21 : decode cX8_mediator 21 = .ok (.ireturn, 1) := by decide +kernel
set_option maxHeartbeats 4000000 in
set_option maxRecDepth 100000 in
theorem c_X8_otherOf (l : Launch) (x0 : Int32) : Met l yX8_otherOf wsX8_otherOf ({ frames := 0, cells := 0, slots := 0, locals := 0 }) (va_Pc [.int x0] (fun _ => True)) (va_Qi (fun (r : Int32) (_ : Unit) => True) (fun _ _ => True) (fun _ => False)) 0 0 (fun _ => False) := by
  refine Met.ofW (cc := cX8_otherOf) (maxL := 1) (ret := (some .int)) (by decide) rfl ?_
  intro p e s m args below meth c s₁ B hml hv
  obtain ⟨rfl, -⟩ := hv
  have hx := B.exec
  have hb := B.bytes
  have hr := B.returns
  have hts := atoms_spec (ws := wsX8_otherOf) B.pre
  have hown : s.vm.findClass RX8 = some m.cls := findClass_of_methodNamed B.named
  have hlocks := B.notSynchronized
  have hl := lv_entry ([.int x0]) (n := 1) (Nat.le_of_ble_eq_true rfl)
  rw [lg_entry_eq]
  generalize (lg_sl ([.int x0]) ++ List.replicate (1 - (lg_sl ([.int x0])).length) Slot.unset).toArray = ls at hl ⊢
  have hl : lv_has ls 1 [(0, .int x0)] := hl
  have hS : va_S (fun _ => False) s.heap s.heap [] := va_S.rf
  refine lv_iload_n hx hb dX8_otherOf_0 rfl (lv_at hl 0 rfl) ?_
  refine lv_iconst (v := 3) hx hb dX8_otherOf_1 (by decide) ?_
  refine lv_icmp_ge (tgt := 11) hx hb dX8_otherOf_2 (by decide) (fun c_1 => ?_) (fun c_1 => ?_)
  · refine lv_iload_n hx hb dX8_otherOf_11 rfl (lv_at hl 0 rfl) ?_
    refine lv_iconst (v := 5) hx hb dX8_otherOf_12 (by decide) ?_
    refine lv_icmp_ge (tgt := 22) hx hb dX8_otherOf_13 (by decide) (fun c_2 => ?_) (fun c_2 => ?_)
    · refine lv_iconst (v := 3) hx hb dX8_otherOf_22 (by decide) ?_
      exact W.iret (v := 3) hx hb hr (fun t ht hW => ⟨⟨3, (), rfl, trivial, trivial⟩, hS.F ht⟩) hS.2.2 dX8_otherOf_23
    · refine lv_iload_n hx hb dX8_otherOf_16 rfl (lv_at hl 0 rfl) ?_
      refine lv_iconst (v := 1) hx hb dX8_otherOf_17 (by decide) ?_
      refine lv_isub hx hb dX8_otherOf_18 ?_
      refine lv_topi (fun x_3 ex_3 => ?_)
      refine lv_goto (tgt := 23) hx hb dX8_otherOf_19 (by decide) ?_
      exact W.iret (v := x_3) hx hb hr (fun t ht hW => ⟨⟨x_3, (), rfl, trivial, trivial⟩, hS.F ht⟩) hS.2.2 dX8_otherOf_23
  · refine lv_iload_n hx hb dX8_otherOf_5 rfl (lv_at hl 0 rfl) ?_
    refine lv_iconst (v := 1) hx hb dX8_otherOf_6 (by decide) ?_
    refine lv_iadd hx hb dX8_otherOf_7 ?_
    refine lv_topi (fun x_2 ex_2 => ?_)
    refine lv_goto (tgt := 23) hx hb dX8_otherOf_8 (by decide) ?_
    exact W.iret (v := x_2) hx hb hr (fun t ht hW => ⟨⟨x_2, (), rfl, trivial, trivial⟩, hS.F ht⟩) hS.2.2 dX8_otherOf_23

set_option maxHeartbeats 4000000 in
set_option maxRecDepth 100000 in
theorem c0_X8_isPair (l : Launch) (dC : Nat → ClassId) (dI : Nat → Nat → Nat) (cy : Nat → ClassId) (sz : Nat) (g0 g1 g2 g3 g4 g5 g6 g7 : Nat) (x : Int32) : Met l yX8_isPair wsX8_isPair ({ frames := 2, cells := 0, slots := 0, locals := 128 }) (va_Pc [.ref g0, .int x] (ex_Pre dC dI cy sz [(g0, .inr (8, [.ref g1, .ref g2, .int 0, .int 1, .ref g3, .int 0, .ref g4, .ref g5, .ref g6, .int 0, .ref g7])), (g1, .inl (cy 0, 596, .inl (fun _ => 0)))])) (va_Qi (fun (r : Int32) (u : Unit) => r = 0) (fun u t => ex_Pst dC dI (va_A [(g0, .inr (8, [.ref g1, .ref g2, .int 0, .int 1, .ref g3, .int 0, .ref g4, .ref g5, .ref g6, .int 0, .ref g7])), (g1, .inl (cy 0, 596, .inl (fun _ => 0)))] sz) ([]) t) (va_A [(g0, .inr (8, [.ref g1, .ref g2, .int 0, .int 1, .ref g3, .int 0, .ref g4, .ref g5, .ref g6, .int 0, .ref g7])), (g1, .inl (cy 0, 596, .inl (fun _ => 0)))] sz)) 0 0 (va_A [(g0, .inr (8, [.ref g1, .ref g2, .int 0, .int 1, .ref g3, .int 0, .ref g4, .ref g5, .ref g6, .int 0, .ref g7])), (g1, .inl (cy 0, 596, .inl (fun _ => 0)))] sz) := by
  refine Met.ofW (cc := cX8_isPair) (maxL := 2) (ret := (some .boolean)) (by decide) rfl ?_
  intro p e s m args below meth c s₁ B hml hv
  obtain ⟨rfl, hsz, hE, hP, hK, hD0⟩ := hv
  have hx := B.exec
  have hb := B.bytes
  have hr := B.returns
  have hts := atoms_spec (ws := wsX8_isPair) B.pre
  have hown : s.vm.findClass RX8 = some m.cls := findClass_of_methodNamed B.named
  have hlocks := B.notSynchronized
  subst hsz
  have hD := hD0.self (sz := s.heap.size)
  generalize hAe : va_A [(g0, .inr (8, [.ref g1, .ref g2, .int 0, .int 1, .ref g3, .int 0, .ref g4, .ref g5, .ref g6, .int 0, .ref g7])), (g1, .inl (cy 0, 596, .inl (fun _ => 0)))] s.heap.size = A at hD ⊢
  have hA : ∀ q : Nat, s.heap.size ≤ q → A q := fun q h => by rw [← hAe]; exact Or.inr h
  have hS : va_S A s.heap s.heap [] := va_S.rf
  have hP : va_P (dC, dI) vwCl [(g0, .inr (8, [.ref g1, .ref g2, .int 0, .int 1, .ref g3, .int 0, .ref g4, .ref g5, .ref g6, .int 0, .ref g7])), (g1, .inl (cy 0, 596, .inl (fun _ => 0)))] s.heap := hP
  have hl := lv_entry ([.ref g0, .int x]) (n := 2) (Nat.le_of_ble_eq_true rfl)
  rw [lg_entry_eq]
  generalize (lg_sl ([.ref g0, .int x]) ++ List.replicate (2 - (lg_sl ([.ref g0, .int x])).length) Slot.unset).toArray = ls at hl ⊢
  have hl : lv_has ls 2 [(0, .ref g0), (1, .int x)] := hl
  refine lv_iload_n hx hb dX8_isPair_0 rfl (lv_at hl 1 rfl) ?_
  refine lv_iconst (v := 0) hx hb dX8_isPair_1 (by decide) ?_
  refine lv_iconst (v := 5) hx hb dX8_isPair_2 (by decide) ?_
  refine yc_p hP hS (va_runS (As := [.int x, .int 0, .int 5]) (rest := []) ⟨hx, hb, hml, hown, hts⟩ (c_X8_in l x 0 5) (cwS 3 hts gX8_isPair_X8_in rfl rfl rfl (by decide +kernel) ⟨Nat.le_of_ble_eq_true rfl, Nat.le_of_ble_eq_true rfl⟩) ex_preP rfl rfl hl.1 rfl (lv_room (Nat.le_of_ble_eq_true rfl)) dX8_isPair_3 ⟨Nat.le_of_ble_eq_true rfl, Nat.le_of_ble_eq_true rfl⟩) (fun r_1 H locs hw_1 hP hS => ?_)
  rcases wi_ca hw_1 with ⟨rfl, hc⟩ | ⟨rfl, hc⟩
  · refine lv_if_eq (tgt := 24) hx hb dX8_isPair_6 (by decide) (fun c9 => absurd c9 (by decide)) (fun _ => ?_)
    refine lv_aload_n hx hb dX8_isPair_9 rfl (lv_at hl 0 rfl) ?_
    refine lv_iload_n hx hb dX8_isPair_10 rfl (lv_at hl 1 rfl) ?_
    refine yc_p hP hS (va_runS (As := [.int x]) (rest := [.ref g0]) ⟨hx, hb, hml, hown, hts⟩ (c_X8_otherOf l x) (cwS 1 hts gX8_isPair_X8_otherOf rfl rfl rfl (by decide +kernel) ⟨Nat.le_of_ble_eq_true rfl, Nat.le_of_ble_eq_true rfl⟩) ex_preP rfl rfl hl.1 rfl (lv_room (Nat.le_of_ble_eq_true rfl)) dX8_isPair_11 ⟨Nat.le_of_ble_eq_true rfl, Nat.le_of_ble_eq_true rfl⟩) (fun r_2 H locs hw_2 hP hS => ?_)
    refine yc_i (wc := [(g0, .inr (8, [.ref g1, .ref g2, .int 0, .int 1, .ref g3, .int 0, .ref g4, .ref g5, .ref g6, .int 0, .ref g7])), (g1, .inl (cy 0, 596, .inl (fun _ => 0)))]) (wr := []) (w1 := fun _ => []) hP hD hS hA [0, 1] [] rfl rfl (by decide) (by decide) (va_runV (As := [.int r_2]) (rest := []) ⟨hx, hb, hml, hown, hts⟩ (c0_X8_isMediator l dC dI cy _ g0 g1 g2 g3 g4 g5 g6 g7 r_2) (cwV 1 hts gX8_isPair_X8_isMediator rfl rfl rfl (by decide +kernel) ⟨Nat.le_of_ble_eq_true rfl, Nat.le_of_ble_eq_true rfl⟩) (ex_preV hE hK hP hD [0, 1] (by decide) rfl (ci := 8) (q0 := 0) rfl rfl) rfl rfl hl.1 rfl (lv_room (Nat.le_of_ble_eq_true rfl)) dX8_isPair_14 ⟨Nat.le_of_ble_eq_true rfl, Nat.le_of_ble_eq_true rfl⟩) (fun r_3 u_3 H locs hw_3 hP hD hS => ?_)
    have hP : va_P (dC, dI) vwCl [] H := hP
    have hD : va_D A [] := hD
    subst hw_3
    refine lv_if_eq (tgt := 24) hx hb dX8_isPair_17 (by decide) (fun _ => ?_) (fun c9 => absurd c9 (by decide))
    refine lv_iconst (v := 0) hx hb dX8_isPair_24 (by decide) ?_
    have hP9 := hP.sub (ws' := []) [] rfl
    have hD9 := hD.sub (ws' := []) [] (by decide) rfl
    exact W.zret (ty := .boolean) (v := 0) hx hb hr rfl (fun t ht hW => ⟨⟨0, (), rfl, rfl, by rw [ht]; exact hP9, hD9⟩, hS.F ht⟩) hS.2.2 dX8_isPair_25
  · refine lv_if_eq (tgt := 24) hx hb dX8_isPair_6 (by decide) (fun _ => ?_) (fun c9 => absurd c9 (by decide))
    refine lv_iconst (v := 0) hx hb dX8_isPair_24 (by decide) ?_
    have hP9 := hP.sub (ws' := []) [] rfl
    have hD9 := hD.sub (ws' := []) [] (by decide) rfl
    exact W.zret (ty := .boolean) (v := 0) hx hb hr rfl (fun t ht hW => ⟨⟨0, (), rfl, rfl, by rw [ht]; exact hP9, hD9⟩, hS.F ht⟩) hS.2.2 dX8_isPair_25

set_option maxHeartbeats 4000000 in
set_option maxRecDepth 100000 in
theorem c0_X8_maySit (l : Launch) (dC : Nat → ClassId) (dI : Nat → Nat → Nat) (cy : Nat → ClassId) (sz : Nat) (g0 g1 g2 g3 g4 g5 g6 g7 : Nat) (x y : Int32) : Met l yX8_maySit wsX8_maySit ({ frames := 3, cells := 0, slots := 0, locals := 192 }) (va_Pc [.ref g0, .int x, .int y] (ex_Pre dC dI cy sz [(g0, .inr (8, [.ref g1, .ref g2, .int 0, .int 1, .ref g3, .int 0, .ref g4, .ref g5, .ref g6, .int 0, .ref g7])), (g1, .inl (cy 0, 596, .inl (fun _ => 0)))])) (va_Qi (fun (r : Int32) (u : Unit) => r = -1) (fun u t => ex_Pst dC dI (va_A [(g0, .inr (8, [.ref g1, .ref g2, .int 0, .int 1, .ref g3, .int 0, .ref g4, .ref g5, .ref g6, .int 0, .ref g7])), (g1, .inl (cy 0, 596, .inl (fun _ => 0)))] sz) ([]) t) (va_A [(g0, .inr (8, [.ref g1, .ref g2, .int 0, .int 1, .ref g3, .int 0, .ref g4, .ref g5, .ref g6, .int 0, .ref g7])), (g1, .inl (cy 0, 596, .inl (fun _ => 0)))] sz)) 0 0 (va_A [(g0, .inr (8, [.ref g1, .ref g2, .int 0, .int 1, .ref g3, .int 0, .ref g4, .ref g5, .ref g6, .int 0, .ref g7])), (g1, .inl (cy 0, 596, .inl (fun _ => 0)))] sz) := by
  refine Met.ofW (cc := cX8_maySit) (maxL := 3) (ret := (some .int)) (by decide) rfl ?_
  intro p e s m args below meth c s₁ B hml hv
  obtain ⟨rfl, hsz, hE, hP, hK, hD0⟩ := hv
  have hx := B.exec
  have hb := B.bytes
  have hr := B.returns
  have hts := atoms_spec (ws := wsX8_maySit) B.pre
  have hown : s.vm.findClass RX8 = some m.cls := findClass_of_methodNamed B.named
  have hlocks := B.notSynchronized
  subst hsz
  have hD := hD0.self (sz := s.heap.size)
  generalize hAe : va_A [(g0, .inr (8, [.ref g1, .ref g2, .int 0, .int 1, .ref g3, .int 0, .ref g4, .ref g5, .ref g6, .int 0, .ref g7])), (g1, .inl (cy 0, 596, .inl (fun _ => 0)))] s.heap.size = A at hD ⊢
  have hA : ∀ q : Nat, s.heap.size ≤ q → A q := fun q h => by rw [← hAe]; exact Or.inr h
  have hS : va_S A s.heap s.heap [] := va_S.rf
  have hP : va_P (dC, dI) vwCl [(g0, .inr (8, [.ref g1, .ref g2, .int 0, .int 1, .ref g3, .int 0, .ref g4, .ref g5, .ref g6, .int 0, .ref g7])), (g1, .inl (cy 0, 596, .inl (fun _ => 0)))] s.heap := hP
  have hl := lv_entry ([.ref g0, .int x, .int y]) (n := 3) (Nat.le_of_ble_eq_true rfl)
  rw [lg_entry_eq]
  generalize (lg_sl ([.ref g0, .int x, .int y]) ++ List.replicate (3 - (lg_sl ([.ref g0, .int x, .int y])).length) Slot.unset).toArray = ls at hl ⊢
  have hl : lv_has ls 3 [(0, .ref g0), (1, .int x), (2, .int y)] := hl
  refine lv_aload_n hx hb dX8_maySit_0 rfl (lv_at hl 0 rfl) ?_
  refine lv_iload_n hx hb dX8_maySit_1 rfl (lv_at hl 1 rfl) ?_
  refine yc_i (wc := [(g0, .inr (8, [.ref g1, .ref g2, .int 0, .int 1, .ref g3, .int 0, .ref g4, .ref g5, .ref g6, .int 0, .ref g7])), (g1, .inl (cy 0, 596, .inl (fun _ => 0)))]) (wr := []) (w1 := fun _ => []) hP hD hS hA [0, 1] [] rfl rfl (by decide) (by decide) (va_runV (As := [.int x]) (rest := []) ⟨hx, hb, hml, hown, hts⟩ (c0_X8_isPair l dC dI cy _ g0 g1 g2 g3 g4 g5 g6 g7 x) (cwV 1 hts gX8_maySit_X8_isPair rfl rfl rfl (by decide +kernel) ⟨Nat.le_of_ble_eq_true rfl, Nat.le_of_ble_eq_true rfl⟩) (ex_preV hE hK hP hD [0, 1] (by decide) rfl (ci := 8) (q0 := 0) rfl rfl) rfl rfl hl.1 rfl (lv_room (Nat.le_of_ble_eq_true rfl)) dX8_maySit_2 ⟨Nat.le_of_ble_eq_true rfl, Nat.le_of_ble_eq_true rfl⟩) (fun r_1 u_1 H locs hw_1 hP hD hS => ?_)
  have hP : va_P (dC, dI) vwCl [] H := hP
  have hD : va_D A [] := hD
  subst hw_1
  refine lv_if_eq (tgt := 16) hx hb dX8_maySit_5 (by decide) (fun _ => ?_) (fun c9 => absurd c9 (by decide))
  refine lv_iconst (v := (-1)) hx hb dX8_maySit_16 (by decide) ?_
  have hP9 := hP.sub (ws' := []) [] rfl
  have hD9 := hD.sub (ws' := []) [] (by decide) rfl
  exact W.iret (v := (-1)) hx hb hr (fun t ht hW => ⟨⟨(-1), (), rfl, rfl, by rw [ht]; exact hP9, hD9⟩, hS.F ht⟩) hS.2.2 dX8_maySit_17

set_option maxHeartbeats 4000000 in
set_option maxRecDepth 100000 in
theorem c0_X8_casesThat (l : Launch) (dC : Nat → ClassId) (dI : Nat → Nat → Nat) (cy : Nat → ClassId) (sz : Nat) (g0 g1 g2 g3 g4 g5 g6 g7 : Nat) (x0 : Int32) : Met l yX8_casesThat wsX8_casesThat ({ frames := 2, cells := 0, slots := 0, locals := 128 }) (va_Pc [.ref g0, .int x0] (ex_Pre dC dI cy sz [(g0, .inr (8, [.ref g1, .ref g2, .int 0, .int 1, .ref g3, .int 0, .ref g4, .ref g5, .ref g6, .int 0, .ref g7])), (g1, .inl (cy 0, 596, .inl (fun _ => 0)))])) (va_Qi (fun (r : Int32) (u : Unit) => r = 0) (fun u t => ex_Pst dC dI (va_A [(g0, .inr (8, [.ref g1, .ref g2, .int 0, .int 1, .ref g3, .int 0, .ref g4, .ref g5, .ref g6, .int 0, .ref g7])), (g1, .inl (cy 0, 596, .inl (fun _ => 0)))] sz) ([]) t) (va_A [(g0, .inr (8, [.ref g1, .ref g2, .int 0, .int 1, .ref g3, .int 0, .ref g4, .ref g5, .ref g6, .int 0, .ref g7])), (g1, .inl (cy 0, 596, .inl (fun _ => 0)))] sz)) 0 0 (va_A [(g0, .inr (8, [.ref g1, .ref g2, .int 0, .int 1, .ref g3, .int 0, .ref g4, .ref g5, .ref g6, .int 0, .ref g7])), (g1, .inl (cy 0, 596, .inl (fun _ => 0)))] sz) := by
  refine Met.ofW (cc := cX8_casesThat) (maxL := 4) (ret := (some .int)) (by decide) rfl ?_
  intro p e s m args below meth c s₁ B hml hv
  obtain ⟨rfl, hsz, hE, hP, hK, hD0⟩ := hv
  have hx := B.exec
  have hb := B.bytes
  have hr := B.returns
  have hts := atoms_spec (ws := wsX8_casesThat) B.pre
  have hown : s.vm.findClass RX8 = some m.cls := findClass_of_methodNamed B.named
  have hlocks := B.notSynchronized
  subst hsz
  have hD := hD0.self (sz := s.heap.size)
  generalize hAe : va_A [(g0, .inr (8, [.ref g1, .ref g2, .int 0, .int 1, .ref g3, .int 0, .ref g4, .ref g5, .ref g6, .int 0, .ref g7])), (g1, .inl (cy 0, 596, .inl (fun _ => 0)))] s.heap.size = A at hD ⊢
  have hA : ∀ q : Nat, s.heap.size ≤ q → A q := fun q h => by rw [← hAe]; exact Or.inr h
  have hS : va_S A s.heap s.heap [] := va_S.rf
  have hP : va_P (dC, dI) vwCl [(g0, .inr (8, [.ref g1, .ref g2, .int 0, .int 1, .ref g3, .int 0, .ref g4, .ref g5, .ref g6, .int 0, .ref g7])), (g1, .inl (cy 0, 596, .inl (fun _ => 0)))] s.heap := hP
  have hl := lv_entry ([.ref g0, .int x0]) (n := 4) (Nat.le_of_ble_eq_true rfl)
  rw [lg_entry_eq]
  generalize (lg_sl ([.ref g0, .int x0]) ++ List.replicate (4 - (lg_sl ([.ref g0, .int x0])).length) Slot.unset).toArray = ls at hl ⊢
  have hl : lv_has ls 4 [(0, .ref g0), (1, .int x0)] := hl
  refine lv_iconst (v := 0) hx hb dX8_casesThat_0 (by decide) ?_
  refine lv_istore_n (lv' := [(2, .int 0), (0, .ref g0), (1, .int x0)]) hx hb dX8_casesThat_1 rfl hl (by decide) rfl (fun ls hl => ?_)
  refine lv_iconst (v := 0) hx hb dX8_casesThat_2 (by decide) ?_
  refine lv_istore_n (lv' := [(3, .int 0), (2, .int 0), (0, .ref g0), (1, .int x0)]) hx hb dX8_casesThat_3 rfl hl (by decide) rfl (fun ls hl => ?_)
  refine lv_iload_n hx hb dX8_casesThat_4 rfl (lv_at hl 0 rfl) ?_
  refine lv_aload_n hx hb dX8_casesThat_5 rfl (lv_at hl 2 rfl) ?_
  refine va_get (D := (dC, dI)) (ci := 8) (v := .ref g1) (C := RX8) (T := TX8) (N := 11) hx hb hts (by decide +kernel) hown hK hP 0 rfl rfl 0 (by decide) (hts (.fieldLink RX8 7 "QuietStairsModel" "s" "[I") (by decide +kernel)) (fun _ h9 => h9) rfl dX8_casesThat_6 ?_
  refine lv_iconst (v := 2) hx hb dX8_casesThat_9 (by decide) ?_
  refine va_iald hx hb hK hP 1 0 rfl rfl (by unfold vp_in; decide) dX8_casesThat_10 ?_
  refine lv_topi (fun x_1 ex_1 => ?_)
  obtain rfl : x_1 = 0 := ex_1.trans (rfl)
  refine lv_icmp_ge (tgt := 42) hx hb dX8_casesThat_11 (by decide) (fun _ => ?_) (fun c9 => absurd c9 (by decide))
  refine lv_iload_n hx hb dX8_casesThat_42 rfl (lv_at hl 1 rfl) ?_
  have hP9 := hP.sub (ws' := []) [] rfl
  have hD9 := hD.sub (ws' := []) [] (by decide) rfl
  exact W.iret (v := 0) hx hb hr (fun t ht hW => ⟨⟨0, (), rfl, rfl, by rw [ht]; exact hP9, hD9⟩, hS.F ht⟩) hS.2.2 dX8_casesThat_43

set_option maxHeartbeats 4000000 in
set_option maxRecDepth 100000 in
theorem c0_X8_termsThat (l : Launch) (dC : Nat → ClassId) (dI : Nat → Nat → Nat) (cy : Nat → ClassId) (sz : Nat) (g0 g1 g2 g3 g4 g5 g6 g7 : Nat) (x0 : Int32) : Met l yX8_termsThat wsX8_termsThat ({ frames := 2, cells := 0, slots := 0, locals := 128 }) (va_Pc [.ref g0, .int x0] (ex_Pre dC dI cy sz [(g0, .inr (8, [.ref g1, .ref g2, .int 0, .int 1, .ref g3, .int 0, .ref g4, .ref g5, .ref g6, .int 0, .ref g7])), (g1, .inl (cy 0, 596, .inl (fun _ => 0)))])) (va_Qi (fun (r : Int32) (u : Unit) => r = 0) (fun u t => ex_Pst dC dI (va_A [(g0, .inr (8, [.ref g1, .ref g2, .int 0, .int 1, .ref g3, .int 0, .ref g4, .ref g5, .ref g6, .int 0, .ref g7])), (g1, .inl (cy 0, 596, .inl (fun _ => 0)))] sz) ([]) t) (va_A [(g0, .inr (8, [.ref g1, .ref g2, .int 0, .int 1, .ref g3, .int 0, .ref g4, .ref g5, .ref g6, .int 0, .ref g7])), (g1, .inl (cy 0, 596, .inl (fun _ => 0)))] sz)) 0 0 (va_A [(g0, .inr (8, [.ref g1, .ref g2, .int 0, .int 1, .ref g3, .int 0, .ref g4, .ref g5, .ref g6, .int 0, .ref g7])), (g1, .inl (cy 0, 596, .inl (fun _ => 0)))] sz) := by
  refine Met.ofW (cc := cX8_termsThat) (maxL := 5) (ret := (some .int)) (by decide) rfl ?_
  intro p e s m args below meth c s₁ B hml hv
  obtain ⟨rfl, hsz, hE, hP, hK, hD0⟩ := hv
  have hx := B.exec
  have hb := B.bytes
  have hr := B.returns
  have hts := atoms_spec (ws := wsX8_termsThat) B.pre
  have hown : s.vm.findClass RX8 = some m.cls := findClass_of_methodNamed B.named
  have hlocks := B.notSynchronized
  subst hsz
  have hD := hD0.self (sz := s.heap.size)
  generalize hAe : va_A [(g0, .inr (8, [.ref g1, .ref g2, .int 0, .int 1, .ref g3, .int 0, .ref g4, .ref g5, .ref g6, .int 0, .ref g7])), (g1, .inl (cy 0, 596, .inl (fun _ => 0)))] s.heap.size = A at hD ⊢
  have hA : ∀ q : Nat, s.heap.size ≤ q → A q := fun q h => by rw [← hAe]; exact Or.inr h
  have hS : va_S A s.heap s.heap [] := va_S.rf
  have hP : va_P (dC, dI) vwCl [(g0, .inr (8, [.ref g1, .ref g2, .int 0, .int 1, .ref g3, .int 0, .ref g4, .ref g5, .ref g6, .int 0, .ref g7])), (g1, .inl (cy 0, 596, .inl (fun _ => 0)))] s.heap := hP
  have hl := lv_entry ([.ref g0, .int x0]) (n := 5) (Nat.le_of_ble_eq_true rfl)
  rw [lg_entry_eq]
  generalize (lg_sl ([.ref g0, .int x0]) ++ List.replicate (5 - (lg_sl ([.ref g0, .int x0])).length) Slot.unset).toArray = ls at hl ⊢
  have hl : lv_has ls 5 [(0, .ref g0), (1, .int x0)] := hl
  refine lv_iconst (v := 0) hx hb dX8_termsThat_0 (by decide) ?_
  refine lv_istore_n (lv' := [(2, .int 0), (0, .ref g0), (1, .int x0)]) hx hb dX8_termsThat_1 rfl hl (by decide) rfl (fun ls hl => ?_)
  refine lv_iconst (v := 0) hx hb dX8_termsThat_2 (by decide) ?_
  refine lv_istore_n (lv' := [(3, .int 0), (2, .int 0), (0, .ref g0), (1, .int x0)]) hx hb dX8_termsThat_3 rfl hl (by decide) rfl (fun ls hl => ?_)
  refine lv_iload_n hx hb dX8_termsThat_4 rfl (lv_at hl 0 rfl) ?_
  refine lv_aload_n hx hb dX8_termsThat_5 rfl (lv_at hl 2 rfl) ?_
  refine va_get (D := (dC, dI)) (ci := 8) (v := .ref g1) (C := RX8) (T := TX8) (N := 11) hx hb hts (by decide +kernel) hown hK hP 0 rfl rfl 0 (by decide) (hts (.fieldLink RX8 7 "QuietStairsModel" "s" "[I") (by decide +kernel)) (fun _ h9 => h9) rfl dX8_termsThat_6 ?_
  refine lv_iconst (v := 2) hx hb dX8_termsThat_9 (by decide) ?_
  refine va_iald hx hb hK hP 1 0 rfl rfl (by unfold vp_in; decide) dX8_termsThat_10 ?_
  refine lv_topi (fun x_1 ex_1 => ?_)
  obtain rfl : x_1 = 0 := ex_1.trans (rfl)
  refine lv_icmp_ge (tgt := 68) hx hb dX8_termsThat_11 (by decide) (fun _ => ?_) (fun c9 => absurd c9 (by decide))
  refine lv_iload_n hx hb dX8_termsThat_68 rfl (lv_at hl 1 rfl) ?_
  have hP9 := hP.sub (ws' := []) [] rfl
  have hD9 := hD.sub (ws' := []) [] (by decide) rfl
  exact W.iret (v := 0) hx hb hr (fun t ht hW => ⟨⟨0, (), rfl, rfl, by rw [ht]; exact hP9, hD9⟩, hS.F ht⟩) hS.2.2 dX8_termsThat_69

set_option maxHeartbeats 4000000 in
set_option maxRecDepth 100000 in
theorem c0_X8_findHeads (l : Launch) (dC : Nat → ClassId) (dI : Nat → Nat → Nat) (cy : Nat → ClassId) (sz : Nat) (g0 g1 g2 g3 g4 g5 g6 g7 : Nat) : Met l yX8_findHeads wsX8_findHeads ({ frames := 1, cells := 0, slots := 0, locals := 64 }) (va_Pc [.ref g0] (ex_Pre dC dI cy sz [(g0, .inr (8, [.ref g1, .ref g2, .int 0, .int 1, .ref g3, .int 0, .ref g4, .ref g5, .ref g6, .int 0, .ref g7])), (g1, .inl (cy 0, 596, .inl (fun _ => 0)))])) (va_Qv (fun (u : Unit) => True) (fun u t => ex_Pst dC dI (va_A [(g0, .inr (8, [.ref g1, .ref g2, .int 0, .int 1, .ref g3, .int 0, .ref g4, .ref g5, .ref g6, .int 0, .ref g7])), (g1, .inl (cy 0, 596, .inl (fun _ => 0)))] sz) ([(g0, .inr (8, [.ref g1, .ref g2, .int 0, .int 1, .ref g3, .int 0, .ref g4, .ref g5, .ref g6, .int 0, .ref g7])), (g1, .inl (cy 0, 596, .inl (fun _ => 0)))]) t) (va_A [(g0, .inr (8, [.ref g1, .ref g2, .int 0, .int 1, .ref g3, .int 0, .ref g4, .ref g5, .ref g6, .int 0, .ref g7])), (g1, .inl (cy 0, 596, .inl (fun _ => 0)))] sz)) 0 0 (va_A [(g0, .inr (8, [.ref g1, .ref g2, .int 0, .int 1, .ref g3, .int 0, .ref g4, .ref g5, .ref g6, .int 0, .ref g7])), (g1, .inl (cy 0, 596, .inl (fun _ => 0)))] sz) := by
  refine Met.ofW (cc := cX8_findHeads) (maxL := 6) (ret := none) (by decide) rfl ?_
  intro p e s m args below meth c s₁ B hml hv
  obtain ⟨rfl, hsz, hE, hP, hK, hD0⟩ := hv
  have hx := B.exec
  have hb := B.bytes
  have hr := B.returns
  have hts := atoms_spec (ws := wsX8_findHeads) B.pre
  have hown : s.vm.findClass RX8 = some m.cls := findClass_of_methodNamed B.named
  have hlocks := B.notSynchronized
  subst hsz
  have hD := hD0.self (sz := s.heap.size)
  generalize hAe : va_A [(g0, .inr (8, [.ref g1, .ref g2, .int 0, .int 1, .ref g3, .int 0, .ref g4, .ref g5, .ref g6, .int 0, .ref g7])), (g1, .inl (cy 0, 596, .inl (fun _ => 0)))] s.heap.size = A at hD ⊢
  have hA : ∀ q : Nat, s.heap.size ≤ q → A q := fun q h => by rw [← hAe]; exact Or.inr h
  have hS : va_S A s.heap s.heap [] := va_S.rf
  have hP : va_P (dC, dI) vwCl [(g0, .inr (8, [.ref g1, .ref g2, .int 0, .int 1, .ref g3, .int 0, .ref g4, .ref g5, .ref g6, .int 0, .ref g7])), (g1, .inl (cy 0, 596, .inl (fun _ => 0)))] s.heap := hP
  have hl := lv_entry ([.ref g0]) (n := 6) (Nat.le_of_ble_eq_true rfl)
  rw [lg_entry_eq]
  generalize (lg_sl ([.ref g0]) ++ List.replicate (6 - (lg_sl ([.ref g0])).length) Slot.unset).toArray = ls at hl ⊢
  have hl : lv_has ls 6 [(0, .ref g0)] := hl
  refine lv_iconst (v := 0) hx hb dX8_findHeads_0 (by decide) ?_
  refine lv_istore_n (lv' := [(1, .int 0), (0, .ref g0)]) hx hb dX8_findHeads_1 rfl hl (by decide) rfl (fun ls hl => ?_)
  refine lv_iload_n hx hb dX8_findHeads_2 rfl (lv_at hl 0 rfl) ?_
  refine lv_aload_n hx hb dX8_findHeads_3 rfl (lv_at hl 1 rfl) ?_
  refine va_get (D := (dC, dI)) (ci := 8) (v := .ref g1) (C := RX8) (T := TX8) (N := 11) hx hb hts (by decide +kernel) hown hK hP 0 rfl rfl 0 (by decide) (hts (.fieldLink RX8 7 "QuietStairsModel" "s" "[I") (by decide +kernel)) (fun _ h9 => h9) rfl dX8_findHeads_4 ?_
  refine lv_iconst (v := 2) hx hb dX8_findHeads_7 (by decide) ?_
  refine va_iald hx hb hK hP 1 0 rfl rfl (by unfold vp_in; decide) dX8_findHeads_8 ?_
  refine lv_topi (fun x_1 ex_1 => ?_)
  obtain rfl : x_1 = 0 := ex_1.trans (rfl)
  refine lv_icmp_ge (tgt := 25) hx hb dX8_findHeads_9 (by decide) (fun _ => ?_) (fun c9 => absurd c9 (by decide))
  refine lv_iconst (v := 1) hx hb dX8_findHeads_25 (by decide) ?_
  refine lv_istore_n (lv' := [(1, .int 1), (0, .ref g0)]) hx hb dX8_findHeads_26 rfl hl (by decide) rfl (fun ls hl => ?_)
  refine lv_iload_n hx hb dX8_findHeads_27 rfl (lv_at hl 0 rfl) ?_
  refine lv_if_eq (tgt := 152) hx hb dX8_findHeads_28 (by decide) (fun c9 => absurd c9 (by decide)) (fun _ => ?_)
  refine lv_iconst (v := 0) hx hb dX8_findHeads_31 (by decide) ?_
  refine lv_istore_n (lv' := [(1, .int 0), (0, .ref g0)]) hx hb dX8_findHeads_32 rfl hl (by decide) rfl (fun ls hl => ?_)
  refine lv_iconst (v := 0) hx hb dX8_findHeads_33 (by decide) ?_
  refine lv_istore_n (lv' := [(2, .int 0), (1, .int 0), (0, .ref g0)]) hx hb dX8_findHeads_34 rfl hl (by decide) rfl (fun ls hl => ?_)
  refine lv_iload_n hx hb dX8_findHeads_35 rfl (lv_at hl 0 rfl) ?_
  refine lv_aload_n hx hb dX8_findHeads_36 rfl (lv_at hl 2 rfl) ?_
  refine va_get (D := (dC, dI)) (ci := 8) (v := .ref g1) (C := RX8) (T := TX8) (N := 11) hx hb hts (by decide +kernel) hown hK hP 0 rfl rfl 0 (by decide) (hts (.fieldLink RX8 7 "QuietStairsModel" "s" "[I") (by decide +kernel)) (fun _ h9 => h9) rfl dX8_findHeads_37 ?_
  refine lv_iconst (v := 3) hx hb dX8_findHeads_40 (by decide) ?_
  refine va_iald hx hb hK hP 1 0 rfl rfl (by unfold vp_in; decide) dX8_findHeads_41 ?_
  refine lv_topi (fun x_2 ex_2 => ?_)
  obtain rfl : x_2 = 0 := ex_2.trans (rfl)
  refine lv_icmp_ge (tgt := 149) hx hb dX8_findHeads_42 (by decide) (fun _ => ?_) (fun c9 => absurd c9 (by decide))
  refine lv_goto (tgt := 27) hx hb dX8_findHeads_149 (by decide) ?_
  refine lv_iload_n hx hb dX8_findHeads_27 rfl (lv_at hl 1 rfl) ?_
  refine lv_if_eq (tgt := 152) hx hb dX8_findHeads_28 (by decide) (fun _ => ?_) (fun c9 => absurd c9 (by decide))
  have hP9 := hP.sub (ws' := [(g0, .inr (8, [.ref g1, .ref g2, .int 0, .int 1, .ref g3, .int 0, .ref g4, .ref g5, .ref g6, .int 0, .ref g7])), (g1, .inl (cy 0, 596, .inl (fun _ => 0)))]) [0, 1] rfl
  have hD9 := hD.sub (ws' := [(g0, .inr (8, [.ref g1, .ref g2, .int 0, .int 1, .ref g3, .int 0, .ref g4, .ref g5, .ref g6, .int 0, .ref g7])), (g1, .inl (cy 0, 596, .inl (fun _ => 0)))]) [0, 1] (by decide) rfl
  exact W.vret hx hb hr (fun t ht hW => ⟨⟨(), rfl, trivial, by rw [ht]; exact hP9, hD9⟩, hS.F ht⟩) hS.2.2 dX8_findHeads_152

set_option maxHeartbeats 4000000 in
set_option maxRecDepth 100000 in
theorem c0_X8_quarrels (l : Launch) (dC : Nat → ClassId) (dI : Nat → Nat → Nat) (cy : Nat → ClassId) (sz : Nat) (g0 g1 g2 g3 g4 g5 g6 g7 : Nat) : Met l yX8_quarrels wsX8_quarrels ({ frames := 2, cells := 0, slots := 0, locals := 128 }) (va_Pc [.ref g0] (ex_Pre dC dI cy sz [(g0, .inr (8, [.ref g1, .ref g2, .int 0, .int 1, .ref g3, .int 0, .ref g4, .ref g5, .ref g6, .int 0, .ref g7])), (g1, .inl (cy 0, 596, .inl (fun _ => 0)))])) (va_Qi (fun (r : Int32) (u : Unit) => r = 0) (fun u t => ex_Pst dC dI (va_A [(g0, .inr (8, [.ref g1, .ref g2, .int 0, .int 1, .ref g3, .int 0, .ref g4, .ref g5, .ref g6, .int 0, .ref g7])), (g1, .inl (cy 0, 596, .inl (fun _ => 0)))] sz) ([]) t) (va_A [(g0, .inr (8, [.ref g1, .ref g2, .int 0, .int 1, .ref g3, .int 0, .ref g4, .ref g5, .ref g6, .int 0, .ref g7])), (g1, .inl (cy 0, 596, .inl (fun _ => 0)))] sz)) 0 0 (va_A [(g0, .inr (8, [.ref g1, .ref g2, .int 0, .int 1, .ref g3, .int 0, .ref g4, .ref g5, .ref g6, .int 0, .ref g7])), (g1, .inl (cy 0, 596, .inl (fun _ => 0)))] sz) := by
  refine Met.ofW (cc := cX8_quarrels) (maxL := 3) (ret := (some .int)) (by decide) rfl ?_
  intro p e s m args below meth c s₁ B hml hv
  obtain ⟨rfl, hsz, hE, hP, hK, hD0⟩ := hv
  have hx := B.exec
  have hb := B.bytes
  have hr := B.returns
  have hts := atoms_spec (ws := wsX8_quarrels) B.pre
  have hown : s.vm.findClass RX8 = some m.cls := findClass_of_methodNamed B.named
  have hlocks := B.notSynchronized
  subst hsz
  have hD := hD0.self (sz := s.heap.size)
  generalize hAe : va_A [(g0, .inr (8, [.ref g1, .ref g2, .int 0, .int 1, .ref g3, .int 0, .ref g4, .ref g5, .ref g6, .int 0, .ref g7])), (g1, .inl (cy 0, 596, .inl (fun _ => 0)))] s.heap.size = A at hD ⊢
  have hA : ∀ q : Nat, s.heap.size ≤ q → A q := fun q h => by rw [← hAe]; exact Or.inr h
  have hS : va_S A s.heap s.heap [] := va_S.rf
  have hP : va_P (dC, dI) vwCl [(g0, .inr (8, [.ref g1, .ref g2, .int 0, .int 1, .ref g3, .int 0, .ref g4, .ref g5, .ref g6, .int 0, .ref g7])), (g1, .inl (cy 0, 596, .inl (fun _ => 0)))] s.heap := hP
  have hl := lv_entry ([.ref g0]) (n := 3) (Nat.le_of_ble_eq_true rfl)
  rw [lg_entry_eq]
  generalize (lg_sl ([.ref g0]) ++ List.replicate (3 - (lg_sl ([.ref g0])).length) Slot.unset).toArray = ls at hl ⊢
  have hl : lv_has ls 3 [(0, .ref g0)] := hl
  refine lv_aload_n hx hb dX8_quarrels_0 rfl (lv_at hl 0 rfl) ?_
  refine yc_v (wc := [(g0, .inr (8, [.ref g1, .ref g2, .int 0, .int 1, .ref g3, .int 0, .ref g4, .ref g5, .ref g6, .int 0, .ref g7])), (g1, .inl (cy 0, 596, .inl (fun _ => 0)))]) (wr := []) (w1 := fun _ => [(g0, .inr (8, [.ref g1, .ref g2, .int 0, .int 1, .ref g3, .int 0, .ref g4, .ref g5, .ref g6, .int 0, .ref g7])), (g1, .inl (cy 0, 596, .inl (fun _ => 0)))]) hP hD hS hA [0, 1] [] rfl rfl (by decide) (by decide) (va_runV (As := []) (rest := []) ⟨hx, hb, hml, hown, hts⟩ (c0_X8_findHeads l dC dI cy _ g0 g1 g2 g3 g4 g5 g6 g7) (cwV 0 hts gX8_quarrels_X8_findHeads rfl rfl rfl (by decide +kernel) ⟨Nat.le_of_ble_eq_true rfl, Nat.le_of_ble_eq_true rfl⟩) (ex_preV hE hK hP hD [0, 1] (by decide) rfl (ci := 8) (q0 := 0) rfl rfl) rfl rfl hl.1 rfl (lv_room (Nat.le_of_ble_eq_true rfl)) dX8_quarrels_1 ⟨Nat.le_of_ble_eq_true rfl, Nat.le_of_ble_eq_true rfl⟩) (fun u_1 H locs hw_1 hP hD hS => ?_)
  have hP : va_P (dC, dI) vwCl [(g0, .inr (8, [.ref g1, .ref g2, .int 0, .int 1, .ref g3, .int 0, .ref g4, .ref g5, .ref g6, .int 0, .ref g7])), (g1, .inl (cy 0, 596, .inl (fun _ => 0)))] H := hP
  have hD : va_D A [(g0, .inr (8, [.ref g1, .ref g2, .int 0, .int 1, .ref g3, .int 0, .ref g4, .ref g5, .ref g6, .int 0, .ref g7])), (g1, .inl (cy 0, 596, .inl (fun _ => 0)))] := hD
  refine lv_iconst (v := 0) hx hb dX8_quarrels_4 (by decide) ?_
  refine lv_istore_n (lv' := [(1, .int 0), (0, .ref g0)]) hx hb dX8_quarrels_5 rfl hl (by decide) rfl (fun ls hl => ?_)
  refine lv_iconst (v := 0) hx hb dX8_quarrels_6 (by decide) ?_
  refine lv_istore_n (lv' := [(2, .int 0), (1, .int 0), (0, .ref g0)]) hx hb dX8_quarrels_7 rfl hl (by decide) rfl (fun ls hl => ?_)
  refine lv_iload_n hx hb dX8_quarrels_8 rfl (lv_at hl 0 rfl) ?_
  refine lv_aload_n hx hb dX8_quarrels_9 rfl (lv_at hl 2 rfl) ?_
  refine va_get (D := (dC, dI)) (ci := 8) (v := .ref g1) (C := RX8) (T := TX8) (N := 11) hx hb hts (by decide +kernel) hown hK hP 0 rfl rfl 0 (by decide) (hts (.fieldLink RX8 7 "QuietStairsModel" "s" "[I") (by decide +kernel)) (fun _ h9 => h9) rfl dX8_quarrels_10 ?_
  refine lv_iconst (v := 2) hx hb dX8_quarrels_13 (by decide) ?_
  refine va_iald hx hb hK hP 1 0 rfl rfl (by unfold vp_in; decide) dX8_quarrels_14 ?_
  refine lv_topi (fun x_2 ex_2 => ?_)
  obtain rfl : x_2 = 0 := ex_2.trans (rfl)
  refine lv_icmp_ge (tgt := 42) hx hb dX8_quarrels_15 (by decide) (fun _ => ?_) (fun c9 => absurd c9 (by decide))
  refine lv_iload_n hx hb dX8_quarrels_42 rfl (lv_at hl 1 rfl) ?_
  have hP9 := hP.sub (ws' := []) [] rfl
  have hD9 := hD.sub (ws' := []) [] (by decide) rfl
  exact W.iret (v := 0) hx hb hr (fun t ht hW => ⟨⟨0, (), rfl, rfl, by rw [ht]; exact hP9, hD9⟩, hS.F ht⟩) hS.2.2 dX8_quarrels_43

set_option maxHeartbeats 4000000 in
set_option maxRecDepth 100000 in
theorem c0_X8_many (l : Launch) (dC : Nat → ClassId) (dI : Nat → Nat → Nat) (cy : Nat → ClassId) (sz : Nat) (g0 g1 g2 g3 g4 g5 g6 g7 : Nat) (x : Int32) : Met l yX8_many wsX8_many ({ frames := 3, cells := 0, slots := 0, locals := 192 }) (va_Pc [.ref g0, .int x] (ex_Pre dC dI cy sz [(g0, .inr (8, [.ref g1, .ref g2, .int 0, .int 1, .ref g3, .int 0, .ref g4, .ref g5, .ref g6, .int 0, .ref g7])), (g1, .inl (cy 0, 596, .inl (fun _ => 0)))])) (va_Qi (fun (r : Int32) (u : Unit) => r = if 0 ≤ x ∧ x ≤ 10 then 0 else -1) (fun u t => ex_Pst dC dI (va_A [(g0, .inr (8, [.ref g1, .ref g2, .int 0, .int 1, .ref g3, .int 0, .ref g4, .ref g5, .ref g6, .int 0, .ref g7])), (g1, .inl (cy 0, 596, .inl (fun _ => 0)))] sz) ([]) t) (va_A [(g0, .inr (8, [.ref g1, .ref g2, .int 0, .int 1, .ref g3, .int 0, .ref g4, .ref g5, .ref g6, .int 0, .ref g7])), (g1, .inl (cy 0, 596, .inl (fun _ => 0)))] sz)) 0 0 (va_A [(g0, .inr (8, [.ref g1, .ref g2, .int 0, .int 1, .ref g3, .int 0, .ref g4, .ref g5, .ref g6, .int 0, .ref g7])), (g1, .inl (cy 0, 596, .inl (fun _ => 0)))] sz) := by
  refine Met.ofW (cc := cX8_many) (maxL := 2) (ret := (some .int)) (by decide) rfl ?_
  intro p e s m args below meth c s₁ B hml hv
  obtain ⟨rfl, hsz, hE, hP, hK, hD0⟩ := hv
  have hx := B.exec
  have hb := B.bytes
  have hr := B.returns
  have hts := atoms_spec (ws := wsX8_many) B.pre
  have hown : s.vm.findClass RX8 = some m.cls := findClass_of_methodNamed B.named
  have hlocks := B.notSynchronized
  subst hsz
  have hD := hD0.self (sz := s.heap.size)
  generalize hAe : va_A [(g0, .inr (8, [.ref g1, .ref g2, .int 0, .int 1, .ref g3, .int 0, .ref g4, .ref g5, .ref g6, .int 0, .ref g7])), (g1, .inl (cy 0, 596, .inl (fun _ => 0)))] s.heap.size = A at hD ⊢
  have hA : ∀ q : Nat, s.heap.size ≤ q → A q := fun q h => by rw [← hAe]; exact Or.inr h
  have hS : va_S A s.heap s.heap [] := va_S.rf
  have hP : va_P (dC, dI) vwCl [(g0, .inr (8, [.ref g1, .ref g2, .int 0, .int 1, .ref g3, .int 0, .ref g4, .ref g5, .ref g6, .int 0, .ref g7])), (g1, .inl (cy 0, 596, .inl (fun _ => 0)))] s.heap := hP
  have hl := lv_entry ([.ref g0, .int x]) (n := 2) (Nat.le_of_ble_eq_true rfl)
  rw [lg_entry_eq]
  generalize (lg_sl ([.ref g0, .int x]) ++ List.replicate (2 - (lg_sl ([.ref g0, .int x])).length) Slot.unset).toArray = ls at hl ⊢
  have hl : lv_has ls 2 [(0, .ref g0), (1, .int x)] := hl
  refine lv_iload_n hx hb dX8_many_0 rfl (lv_at hl 1 rfl) ?_
  rcases sw_11 x with hsw | rfl | rfl | rfl | rfl | rfl | rfl | rfl | rfl | rfl | rfl | rfl
  · refine lv_tableOut (tgt := 129) hx hb dX8_many_1 hsw (by decide) ?_
    refine lv_iconst (v := (-1)) hx hb dX8_many_129 (by decide) ?_
    have hP9 := hP.sub (ws' := []) [] rfl
    have hD9 := hD.sub (ws' := []) [] (by decide) rfl
    exact W.iret (v := (-1)) hx hb hr (fun t ht hW => ⟨⟨(-1), (), rfl, by rw [if_neg (wi_out (by decide) (by decide) hsw)], by rw [ht]; exact hP9, hD9⟩, hS.F ht⟩) hS.2.2 dX8_many_130
  · refine lv_tableIn (off := 59) (tgt := 60) hx hb dX8_many_1 (by decide) (by decide) (by decide) (by decide) ?_
    refine lv_aload_n hx hb dX8_many_60 rfl (lv_at hl 0 rfl) ?_
    refine va_get (D := (dC, dI)) (ci := 8) (v := .ref g1) (C := RX8) (T := TX8) (N := 11) hx hb hts (by decide +kernel) hown hK hP 0 rfl rfl 0 (by decide) (hts (.fieldLink RX8 7 "QuietStairsModel" "s" "[I") (by decide +kernel)) (fun _ h9 => h9) rfl dX8_many_61 ?_
    refine lv_iconst (v := 0) hx hb dX8_many_64 (by decide) ?_
    refine va_iald hx hb hK hP 1 0 rfl rfl (by unfold vp_in; decide) dX8_many_65 ?_
    refine lv_topi (fun x_1 ex_1 => ?_)
    obtain rfl : x_1 = 0 := ex_1.trans (rfl)
    have hP9 := hP.sub (ws' := []) [] rfl
    have hD9 := hD.sub (ws' := []) [] (by decide) rfl
    exact W.iret (v := 0) hx hb hr (fun t ht hW => ⟨⟨0, (), rfl, by decide, by rw [ht]; exact hP9, hD9⟩, hS.F ht⟩) hS.2.2 dX8_many_66
  · refine lv_tableIn (off := 66) (tgt := 67) hx hb dX8_many_1 (by decide) (by decide) (by decide) (by decide) ?_
    refine lv_aload_n hx hb dX8_many_67 rfl (lv_at hl 0 rfl) ?_
    refine va_get (D := (dC, dI)) (ci := 8) (v := .ref g1) (C := RX8) (T := TX8) (N := 11) hx hb hts (by decide +kernel) hown hK hP 0 rfl rfl 0 (by decide) (hts (.fieldLink RX8 7 "QuietStairsModel" "s" "[I") (by decide +kernel)) (fun _ h9 => h9) rfl dX8_many_68 ?_
    refine lv_iconst (v := 1) hx hb dX8_many_71 (by decide) ?_
    refine va_iald hx hb hK hP 1 0 rfl rfl (by unfold vp_in; decide) dX8_many_72 ?_
    refine lv_topi (fun x_1 ex_1 => ?_)
    obtain rfl : x_1 = 0 := ex_1.trans (rfl)
    have hP9 := hP.sub (ws' := []) [] rfl
    have hD9 := hD.sub (ws' := []) [] (by decide) rfl
    exact W.iret (v := 0) hx hb hr (fun t ht hW => ⟨⟨0, (), rfl, by decide, by rw [ht]; exact hP9, hD9⟩, hS.F ht⟩) hS.2.2 dX8_many_73
  · refine lv_tableIn (off := 73) (tgt := 74) hx hb dX8_many_1 (by decide) (by decide) (by decide) (by decide) ?_
    refine lv_aload_n hx hb dX8_many_74 rfl (lv_at hl 0 rfl) ?_
    refine va_get (D := (dC, dI)) (ci := 8) (v := .ref g1) (C := RX8) (T := TX8) (N := 11) hx hb hts (by decide +kernel) hown hK hP 0 rfl rfl 0 (by decide) (hts (.fieldLink RX8 7 "QuietStairsModel" "s" "[I") (by decide +kernel)) (fun _ h9 => h9) rfl dX8_many_75 ?_
    refine lv_iconst (v := 2) hx hb dX8_many_78 (by decide) ?_
    refine va_iald hx hb hK hP 1 0 rfl rfl (by unfold vp_in; decide) dX8_many_79 ?_
    refine lv_topi (fun x_1 ex_1 => ?_)
    obtain rfl : x_1 = 0 := ex_1.trans (rfl)
    have hP9 := hP.sub (ws' := []) [] rfl
    have hD9 := hD.sub (ws' := []) [] (by decide) rfl
    exact W.iret (v := 0) hx hb hr (fun t ht hW => ⟨⟨0, (), rfl, by decide, by rw [ht]; exact hP9, hD9⟩, hS.F ht⟩) hS.2.2 dX8_many_80
  · refine lv_tableIn (off := 80) (tgt := 81) hx hb dX8_many_1 (by decide) (by decide) (by decide) (by decide) ?_
    refine lv_aload_n hx hb dX8_many_81 rfl (lv_at hl 0 rfl) ?_
    refine lv_iconst (v := 0) hx hb dX8_many_82 (by decide) ?_
    refine yc_i (wc := [(g0, .inr (8, [.ref g1, .ref g2, .int 0, .int 1, .ref g3, .int 0, .ref g4, .ref g5, .ref g6, .int 0, .ref g7])), (g1, .inl (cy 0, 596, .inl (fun _ => 0)))]) (wr := []) (w1 := fun _ => []) hP hD hS hA [0, 1] [] rfl rfl (by decide) (by decide) (va_runV (As := [.int 0]) (rest := []) ⟨hx, hb, hml, hown, hts⟩ (c0_X8_casesThat l dC dI cy _ g0 g1 g2 g3 g4 g5 g6 g7 0) (cwV 1 hts gX8_many_X8_casesThat rfl rfl rfl (by decide +kernel) ⟨Nat.le_of_ble_eq_true rfl, Nat.le_of_ble_eq_true rfl⟩) (ex_preV hE hK hP hD [0, 1] (by decide) rfl (ci := 8) (q0 := 0) rfl rfl) rfl rfl hl.1 rfl (lv_room (Nat.le_of_ble_eq_true rfl)) dX8_many_83 ⟨Nat.le_of_ble_eq_true rfl, Nat.le_of_ble_eq_true rfl⟩) (fun r_1 u_1 H locs hw_1 hP hD hS => ?_)
    have hP : va_P (dC, dI) vwCl [] H := hP
    have hD : va_D A [] := hD
    subst hw_1
    have hP9 := hP.sub (ws' := []) [] rfl
    have hD9 := hD.sub (ws' := []) [] (by decide) rfl
    exact W.iret (v := 0) hx hb hr (fun t ht hW => ⟨⟨0, (), rfl, by decide, by rw [ht]; exact hP9, hD9⟩, hS.F ht⟩) hS.2.2 dX8_many_86
  · refine lv_tableIn (off := 86) (tgt := 87) hx hb dX8_many_1 (by decide) (by decide) (by decide) (by decide) ?_
    refine lv_aload_n hx hb dX8_many_87 rfl (lv_at hl 0 rfl) ?_
    refine lv_iconst (v := 1) hx hb dX8_many_88 (by decide) ?_
    refine yc_i (wc := [(g0, .inr (8, [.ref g1, .ref g2, .int 0, .int 1, .ref g3, .int 0, .ref g4, .ref g5, .ref g6, .int 0, .ref g7])), (g1, .inl (cy 0, 596, .inl (fun _ => 0)))]) (wr := []) (w1 := fun _ => []) hP hD hS hA [0, 1] [] rfl rfl (by decide) (by decide) (va_runV (As := [.int 1]) (rest := []) ⟨hx, hb, hml, hown, hts⟩ (c0_X8_casesThat l dC dI cy _ g0 g1 g2 g3 g4 g5 g6 g7 1) (cwV 1 hts gX8_many_X8_casesThat rfl rfl rfl (by decide +kernel) ⟨Nat.le_of_ble_eq_true rfl, Nat.le_of_ble_eq_true rfl⟩) (ex_preV hE hK hP hD [0, 1] (by decide) rfl (ci := 8) (q0 := 0) rfl rfl) rfl rfl hl.1 rfl (lv_room (Nat.le_of_ble_eq_true rfl)) dX8_many_89 ⟨Nat.le_of_ble_eq_true rfl, Nat.le_of_ble_eq_true rfl⟩) (fun r_1 u_1 H locs hw_1 hP hD hS => ?_)
    have hP : va_P (dC, dI) vwCl [] H := hP
    have hD : va_D A [] := hD
    subst hw_1
    have hP9 := hP.sub (ws' := []) [] rfl
    have hD9 := hD.sub (ws' := []) [] (by decide) rfl
    exact W.iret (v := 0) hx hb hr (fun t ht hW => ⟨⟨0, (), rfl, by decide, by rw [ht]; exact hP9, hD9⟩, hS.F ht⟩) hS.2.2 dX8_many_92
  · refine lv_tableIn (off := 92) (tgt := 93) hx hb dX8_many_1 (by decide) (by decide) (by decide) (by decide) ?_
    refine lv_aload_n hx hb dX8_many_93 rfl (lv_at hl 0 rfl) ?_
    refine va_get (D := (dC, dI)) (ci := 8) (v := .ref g1) (C := RX8) (T := TX8) (N := 11) hx hb hts (by decide +kernel) hown hK hP 0 rfl rfl 0 (by decide) (hts (.fieldLink RX8 7 "QuietStairsModel" "s" "[I") (by decide +kernel)) (fun _ h9 => h9) rfl dX8_many_94 ?_
    refine lv_iconst (v := 3) hx hb dX8_many_97 (by decide) ?_
    refine va_iald hx hb hK hP 1 0 rfl rfl (by unfold vp_in; decide) dX8_many_98 ?_
    refine lv_topi (fun x_1 ex_1 => ?_)
    obtain rfl : x_1 = 0 := ex_1.trans (rfl)
    have hP9 := hP.sub (ws' := []) [] rfl
    have hD9 := hD.sub (ws' := []) [] (by decide) rfl
    exact W.iret (v := 0) hx hb hr (fun t ht hW => ⟨⟨0, (), rfl, by decide, by rw [ht]; exact hP9, hD9⟩, hS.F ht⟩) hS.2.2 dX8_many_99
  · refine lv_tableIn (off := 99) (tgt := 100) hx hb dX8_many_1 (by decide) (by decide) (by decide) (by decide) ?_
    refine lv_aload_n hx hb dX8_many_100 rfl (lv_at hl 0 rfl) ?_
    refine yc_i (wc := [(g0, .inr (8, [.ref g1, .ref g2, .int 0, .int 1, .ref g3, .int 0, .ref g4, .ref g5, .ref g6, .int 0, .ref g7])), (g1, .inl (cy 0, 596, .inl (fun _ => 0)))]) (wr := []) (w1 := fun _ => []) hP hD hS hA [0, 1] [] rfl rfl (by decide) (by decide) (va_runV (As := []) (rest := []) ⟨hx, hb, hml, hown, hts⟩ (c0_X8_quarrels l dC dI cy _ g0 g1 g2 g3 g4 g5 g6 g7) (cwV 0 hts gX8_many_X8_quarrels rfl rfl rfl (by decide +kernel) ⟨Nat.le_of_ble_eq_true rfl, Nat.le_of_ble_eq_true rfl⟩) (ex_preV hE hK hP hD [0, 1] (by decide) rfl (ci := 8) (q0 := 0) rfl rfl) rfl rfl hl.1 rfl (lv_room (Nat.le_of_ble_eq_true rfl)) dX8_many_101 ⟨Nat.le_of_ble_eq_true rfl, Nat.le_of_ble_eq_true rfl⟩) (fun r_1 u_1 H locs hw_1 hP hD hS => ?_)
    have hP : va_P (dC, dI) vwCl [] H := hP
    have hD : va_D A [] := hD
    subst hw_1
    have hP9 := hP.sub (ws' := []) [] rfl
    have hD9 := hD.sub (ws' := []) [] (by decide) rfl
    exact W.iret (v := 0) hx hb hr (fun t ht hW => ⟨⟨0, (), rfl, by decide, by rw [ht]; exact hP9, hD9⟩, hS.F ht⟩) hS.2.2 dX8_many_104
  · refine lv_tableIn (off := 104) (tgt := 105) hx hb dX8_many_1 (by decide) (by decide) (by decide) (by decide) ?_
    refine lv_aload_n hx hb dX8_many_105 rfl (lv_at hl 0 rfl) ?_
    refine lv_iconst (v := (-1)) hx hb dX8_many_106 (by decide) ?_
    refine yc_i (wc := [(g0, .inr (8, [.ref g1, .ref g2, .int 0, .int 1, .ref g3, .int 0, .ref g4, .ref g5, .ref g6, .int 0, .ref g7])), (g1, .inl (cy 0, 596, .inl (fun _ => 0)))]) (wr := []) (w1 := fun _ => []) hP hD hS hA [0, 1] [] rfl rfl (by decide) (by decide) (va_runV (As := [.int (-1)]) (rest := []) ⟨hx, hb, hml, hown, hts⟩ (c0_X8_termsThat l dC dI cy _ g0 g1 g2 g3 g4 g5 g6 g7 (-1)) (cwV 1 hts gX8_many_X8_termsThat rfl rfl rfl (by decide +kernel) ⟨Nat.le_of_ble_eq_true rfl, Nat.le_of_ble_eq_true rfl⟩) (ex_preV hE hK hP hD [0, 1] (by decide) rfl (ci := 8) (q0 := 0) rfl rfl) rfl rfl hl.1 rfl (lv_room (Nat.le_of_ble_eq_true rfl)) dX8_many_107 ⟨Nat.le_of_ble_eq_true rfl, Nat.le_of_ble_eq_true rfl⟩) (fun r_1 u_1 H locs hw_1 hP hD hS => ?_)
    have hP : va_P (dC, dI) vwCl [] H := hP
    have hD : va_D A [] := hD
    subst hw_1
    have hP9 := hP.sub (ws' := []) [] rfl
    have hD9 := hD.sub (ws' := []) [] (by decide) rfl
    exact W.iret (v := 0) hx hb hr (fun t ht hW => ⟨⟨0, (), rfl, by decide, by rw [ht]; exact hP9, hD9⟩, hS.F ht⟩) hS.2.2 dX8_many_110
  · refine lv_tableIn (off := 110) (tgt := 111) hx hb dX8_many_1 (by decide) (by decide) (by decide) (by decide) ?_
    refine lv_aload_n hx hb dX8_many_111 rfl (lv_at hl 0 rfl) ?_
    refine lv_iconst (v := 1) hx hb dX8_many_112 (by decide) ?_
    refine yc_i (wc := [(g0, .inr (8, [.ref g1, .ref g2, .int 0, .int 1, .ref g3, .int 0, .ref g4, .ref g5, .ref g6, .int 0, .ref g7])), (g1, .inl (cy 0, 596, .inl (fun _ => 0)))]) (wr := []) (w1 := fun _ => []) hP hD hS hA [0, 1] [] rfl rfl (by decide) (by decide) (va_runV (As := [.int 1]) (rest := []) ⟨hx, hb, hml, hown, hts⟩ (c0_X8_termsThat l dC dI cy _ g0 g1 g2 g3 g4 g5 g6 g7 1) (cwV 1 hts gX8_many_X8_termsThat rfl rfl rfl (by decide +kernel) ⟨Nat.le_of_ble_eq_true rfl, Nat.le_of_ble_eq_true rfl⟩) (ex_preV hE hK hP hD [0, 1] (by decide) rfl (ci := 8) (q0 := 0) rfl rfl) rfl rfl hl.1 rfl (lv_room (Nat.le_of_ble_eq_true rfl)) dX8_many_113 ⟨Nat.le_of_ble_eq_true rfl, Nat.le_of_ble_eq_true rfl⟩) (fun r_1 u_1 H locs hw_1 hP hD hS => ?_)
    have hP : va_P (dC, dI) vwCl [] H := hP
    have hD : va_D A [] := hD
    subst hw_1
    have hP9 := hP.sub (ws' := []) [] rfl
    have hD9 := hD.sub (ws' := []) [] (by decide) rfl
    exact W.iret (v := 0) hx hb hr (fun t ht hW => ⟨⟨0, (), rfl, by decide, by rw [ht]; exact hP9, hD9⟩, hS.F ht⟩) hS.2.2 dX8_many_116
  · refine lv_tableIn (off := 116) (tgt := 117) hx hb dX8_many_1 (by decide) (by decide) (by decide) (by decide) ?_
    refine lv_aload_n hx hb dX8_many_117 rfl (lv_at hl 0 rfl) ?_
    refine lv_iconst (v := 0) hx hb dX8_many_118 (by decide) ?_
    refine yc_i (wc := [(g0, .inr (8, [.ref g1, .ref g2, .int 0, .int 1, .ref g3, .int 0, .ref g4, .ref g5, .ref g6, .int 0, .ref g7])), (g1, .inl (cy 0, 596, .inl (fun _ => 0)))]) (wr := []) (w1 := fun _ => []) hP hD hS hA [0, 1] [] rfl rfl (by decide) (by decide) (va_runV (As := [.int 0]) (rest := []) ⟨hx, hb, hml, hown, hts⟩ (c0_X8_termsThat l dC dI cy _ g0 g1 g2 g3 g4 g5 g6 g7 0) (cwV 1 hts gX8_many_X8_termsThat rfl rfl rfl (by decide +kernel) ⟨Nat.le_of_ble_eq_true rfl, Nat.le_of_ble_eq_true rfl⟩) (ex_preV hE hK hP hD [0, 1] (by decide) rfl (ci := 8) (q0 := 0) rfl rfl) rfl rfl hl.1 rfl (lv_room (Nat.le_of_ble_eq_true rfl)) dX8_many_119 ⟨Nat.le_of_ble_eq_true rfl, Nat.le_of_ble_eq_true rfl⟩) (fun r_1 u_1 H locs hw_1 hP hD hS => ?_)
    have hP : va_P (dC, dI) vwCl [] H := hP
    have hD : va_D A [] := hD
    subst hw_1
    have hP9 := hP.sub (ws' := []) [] rfl
    have hD9 := hD.sub (ws' := []) [] (by decide) rfl
    exact W.iret (v := 0) hx hb hr (fun t ht hW => ⟨⟨0, (), rfl, by decide, by rw [ht]; exact hP9, hD9⟩, hS.F ht⟩) hS.2.2 dX8_many_122
  · refine lv_tableIn (off := 122) (tgt := 123) hx hb dX8_many_1 (by decide) (by decide) (by decide) (by decide) ?_
    refine lv_aload_n hx hb dX8_many_123 rfl (lv_at hl 0 rfl) ?_
    refine lv_iconst (v := 2) hx hb dX8_many_124 (by decide) ?_
    refine yc_i (wc := [(g0, .inr (8, [.ref g1, .ref g2, .int 0, .int 1, .ref g3, .int 0, .ref g4, .ref g5, .ref g6, .int 0, .ref g7])), (g1, .inl (cy 0, 596, .inl (fun _ => 0)))]) (wr := []) (w1 := fun _ => []) hP hD hS hA [0, 1] [] rfl rfl (by decide) (by decide) (va_runV (As := [.int 2]) (rest := []) ⟨hx, hb, hml, hown, hts⟩ (c0_X8_termsThat l dC dI cy _ g0 g1 g2 g3 g4 g5 g6 g7 2) (cwV 1 hts gX8_many_X8_termsThat rfl rfl rfl (by decide +kernel) ⟨Nat.le_of_ble_eq_true rfl, Nat.le_of_ble_eq_true rfl⟩) (ex_preV hE hK hP hD [0, 1] (by decide) rfl (ci := 8) (q0 := 0) rfl rfl) rfl rfl hl.1 rfl (lv_room (Nat.le_of_ble_eq_true rfl)) dX8_many_125 ⟨Nat.le_of_ble_eq_true rfl, Nat.le_of_ble_eq_true rfl⟩) (fun r_1 u_1 H locs hw_1 hP hD hS => ?_)
    have hP : va_P (dC, dI) vwCl [] H := hP
    have hD : va_D A [] := hD
    subst hw_1
    have hP9 := hP.sub (ws' := []) [] rfl
    have hD9 := hD.sub (ws' := []) [] (by decide) rfl
    exact W.iret (v := 0) hx hb hr (fun t ht hW => ⟨⟨0, (), rfl, by decide, by rw [ht]; exact hP9, hD9⟩, hS.F ht⟩) hS.2.2 dX8_many_128

set_option maxHeartbeats 4000000 in
set_option maxRecDepth 100000 in
theorem c0_X8_rooms (l : Launch) (dC : Nat → ClassId) (dI : Nat → Nat → Nat) (cy : Nat → ClassId) (sz : Nat) (g0 g1 g2 g3 g4 g5 g6 g7 : Nat) (x : Int32) : Met l yX8_rooms wsX8_rooms ({ frames := 1, cells := 0, slots := 0, locals := 64 }) (va_Pc [.ref g0, .int x] (ex_Pre dC dI cy sz [(g0, .inr (8, [.ref g1, .ref g2, .int 0, .int 1, .ref g3, .int 0, .ref g4, .ref g5, .ref g6, .int 0, .ref g7]))])) (va_Qi (fun (r : Int32) (u : Unit) => r = if 1 ≤ x ∧ x ≤ 2 then 1 else -1) (fun u t => ex_Pst dC dI (va_A [(g0, .inr (8, [.ref g1, .ref g2, .int 0, .int 1, .ref g3, .int 0, .ref g4, .ref g5, .ref g6, .int 0, .ref g7]))] sz) ([]) t) (va_A [(g0, .inr (8, [.ref g1, .ref g2, .int 0, .int 1, .ref g3, .int 0, .ref g4, .ref g5, .ref g6, .int 0, .ref g7]))] sz)) 0 0 (va_A [(g0, .inr (8, [.ref g1, .ref g2, .int 0, .int 1, .ref g3, .int 0, .ref g4, .ref g5, .ref g6, .int 0, .ref g7]))] sz) := by
  refine Met.ofW (cc := cX8_rooms) (maxL := 3) (ret := (some .int)) (by decide) rfl ?_
  intro p e s m args below meth c s₁ B hml hv
  obtain ⟨rfl, hsz, hE, hP, hK, hD0⟩ := hv
  have hx := B.exec
  have hb := B.bytes
  have hr := B.returns
  have hts := atoms_spec (ws := wsX8_rooms) B.pre
  have hown : s.vm.findClass RX8 = some m.cls := findClass_of_methodNamed B.named
  have hlocks := B.notSynchronized
  subst hsz
  have hD := hD0.self (sz := s.heap.size)
  generalize hAe : va_A [(g0, .inr (8, [.ref g1, .ref g2, .int 0, .int 1, .ref g3, .int 0, .ref g4, .ref g5, .ref g6, .int 0, .ref g7]))] s.heap.size = A at hD ⊢
  have hA : ∀ q : Nat, s.heap.size ≤ q → A q := fun q h => by rw [← hAe]; exact Or.inr h
  have hS : va_S A s.heap s.heap [] := va_S.rf
  have hP : va_P (dC, dI) vwCl [(g0, .inr (8, [.ref g1, .ref g2, .int 0, .int 1, .ref g3, .int 0, .ref g4, .ref g5, .ref g6, .int 0, .ref g7]))] s.heap := hP
  have hl := lv_entry ([.ref g0, .int x]) (n := 3) (Nat.le_of_ble_eq_true rfl)
  rw [lg_entry_eq]
  generalize (lg_sl ([.ref g0, .int x]) ++ List.replicate (3 - (lg_sl ([.ref g0, .int x])).length) Slot.unset).toArray = ls at hl ⊢
  have hl : lv_has ls 3 [(0, .ref g0), (1, .int x)] := hl
  refine lv_iload_n hx hb dX8_rooms_0 rfl (lv_at hl 1 rfl) ?_
  refine lv_iconst (v := 1) hx hb dX8_rooms_1 (by decide) ?_
  refine lv_iconst (v := 2) hx hb dX8_rooms_2 (by decide) ?_
  refine yc_p hP hS (va_runS (As := [.int x, .int 1, .int 2]) (rest := []) ⟨hx, hb, hml, hown, hts⟩ (c_X8_in l x 1 2) (cwS 3 hts gX8_rooms_X8_in rfl rfl rfl (by decide +kernel) ⟨Nat.le_of_ble_eq_true rfl, Nat.le_of_ble_eq_true rfl⟩) ex_preP rfl rfl hl.1 rfl (lv_room (Nat.le_of_ble_eq_true rfl)) dX8_rooms_3 ⟨Nat.le_of_ble_eq_true rfl, Nat.le_of_ble_eq_true rfl⟩) (fun r_1 H locs hw_1 hP hS => ?_)
  rcases wi_ca hw_1 with ⟨rfl, hc⟩ | ⟨rfl, hc⟩
  · refine lv_if_ne (tgt := 11) hx hb dX8_rooms_6 (by decide) (fun _ => ?_) (fun c9 => absurd c9 (by decide))
    refine lv_aload_n hx hb dX8_rooms_11 rfl (lv_at hl 0 rfl) ?_
    refine va_get (D := (dC, dI)) (ci := 8) (v := .int 1) (C := RX8) (T := TX8) (N := 11) hx hb hts (by decide +kernel) hown hK hP 0 rfl rfl 3 (by decide) (hts (.fieldLink RX8 16 "QuietStairsModel" "rooms" "I") (by decide +kernel)) (fun _ h9 => h9) rfl dX8_rooms_12 ?_
    refine lv_istore_n (lv' := [(2, .int 1), (0, .ref g0), (1, .int x)]) hx hb dX8_rooms_15 rfl hl (by decide) rfl (fun ls hl => ?_)
    refine lv_aload_n hx hb dX8_rooms_16 rfl (lv_at hl 1 rfl) ?_
    refine lv_iload_n hx hb dX8_rooms_17 rfl (lv_at hl 2 rfl) ?_
    refine va_put (D := (dC, dI)) (ci := 8) (v := .int x) (ty := .int) (C := RX8) (T := TX8) (N := 11) hx hb hts (by decide +kernel) tyX8 tyX8_ok nmX8 hown hK hP hD hS 0 rfl rfl 3 (by decide) (hts (.fieldLink RX8 16 "QuietStairsModel" "rooms" "I") (by decide +kernel)) (fun _ h9 => h9) rfl (by decide +kernel) rfl rfl (Nat.le_of_ble_eq_true rfl) dX8_rooms_18 (fun H locs hP hD hS => ?_)
    have hP : va_P (dC, dI) vwCl [(g0, .inr (8, [.ref g1, .ref g2, .int 0, .int x, .ref g3, .int 0, .ref g4, .ref g5, .ref g6, .int 0, .ref g7]))] H := hP
    have hD : va_D A [(g0, .inr (8, [.ref g1, .ref g2, .int 0, .int x, .ref g3, .int 0, .ref g4, .ref g5, .ref g6, .int 0, .ref g7]))] := hD
    refine lv_iload_n hx hb dX8_rooms_21 rfl (lv_at hl 0 rfl) ?_
    have hP9 := hP.sub (ws' := []) [] rfl
    have hD9 := hD.sub (ws' := []) [] (by decide) rfl
    exact W.iret (v := 1) hx hb hr (fun t ht hW => ⟨⟨1, (), rfl, by rw [if_pos hc], by rw [ht]; exact hP9, hD9⟩, hS.F ht⟩) hS.2.2 dX8_rooms_22
  · refine lv_if_ne (tgt := 11) hx hb dX8_rooms_6 (by decide) (fun c9 => absurd c9 (by decide)) (fun _ => ?_)
    refine lv_iconst (v := (-1)) hx hb dX8_rooms_9 (by decide) ?_
    have hP9 := hP.sub (ws' := []) [] rfl
    have hD9 := hD.sub (ws' := []) [] (by decide) rfl
    exact W.iret (v := (-1)) hx hb hr (fun t ht hW => ⟨⟨(-1), (), rfl, by rw [if_neg hc], by rw [ht]; exact hP9, hD9⟩, hS.F ht⟩) hS.2.2 dX8_rooms_10

set_option maxHeartbeats 4000000 in
set_option maxRecDepth 100000 in
theorem c0_X8_back (l : Launch) (dC : Nat → ClassId) (dI : Nat → Nat → Nat) (cy : Nat → ClassId) (sz : Nat) (g0 g1 g2 g3 g4 g5 g6 g7 : Nat) : Met l yX8_back wsX8_back ({ frames := 1, cells := 0, slots := 0, locals := 64 }) (va_Pc [.ref g0] (ex_Pre dC dI cy sz [(g0, .inr (8, [.ref g1, .ref g2, .int 0, .int 1, .ref g3, .int 0, .ref g4, .ref g5, .ref g6, .int 0, .ref g7]))])) (va_Qi (fun (r : Int32) (u : Unit) => r = -5) (fun u t => ex_Pst dC dI (va_A [(g0, .inr (8, [.ref g1, .ref g2, .int 0, .int 1, .ref g3, .int 0, .ref g4, .ref g5, .ref g6, .int 0, .ref g7]))] sz) ([]) t) (va_A [(g0, .inr (8, [.ref g1, .ref g2, .int 0, .int 1, .ref g3, .int 0, .ref g4, .ref g5, .ref g6, .int 0, .ref g7]))] sz)) 0 0 (va_A [(g0, .inr (8, [.ref g1, .ref g2, .int 0, .int 1, .ref g3, .int 0, .ref g4, .ref g5, .ref g6, .int 0, .ref g7]))] sz) := by
  refine Met.ofW (cc := cX8_back) (maxL := 2) (ret := (some .int)) (by decide) rfl ?_
  intro p e s m args below meth c s₁ B hml hv
  obtain ⟨rfl, hsz, hE, hP, hK, hD0⟩ := hv
  have hx := B.exec
  have hb := B.bytes
  have hr := B.returns
  have hts := atoms_spec (ws := wsX8_back) B.pre
  have hown : s.vm.findClass RX8 = some m.cls := findClass_of_methodNamed B.named
  have hlocks := B.notSynchronized
  subst hsz
  have hD := hD0.self (sz := s.heap.size)
  generalize hAe : va_A [(g0, .inr (8, [.ref g1, .ref g2, .int 0, .int 1, .ref g3, .int 0, .ref g4, .ref g5, .ref g6, .int 0, .ref g7]))] s.heap.size = A at hD ⊢
  have hA : ∀ q : Nat, s.heap.size ≤ q → A q := fun q h => by rw [← hAe]; exact Or.inr h
  have hS : va_S A s.heap s.heap [] := va_S.rf
  have hP : va_P (dC, dI) vwCl [(g0, .inr (8, [.ref g1, .ref g2, .int 0, .int 1, .ref g3, .int 0, .ref g4, .ref g5, .ref g6, .int 0, .ref g7]))] s.heap := hP
  have hl := lv_entry ([.ref g0]) (n := 2) (Nat.le_of_ble_eq_true rfl)
  rw [lg_entry_eq]
  generalize (lg_sl ([.ref g0]) ++ List.replicate (2 - (lg_sl ([.ref g0])).length) Slot.unset).toArray = ls at hl ⊢
  have hl : lv_has ls 2 [(0, .ref g0)] := hl
  refine lv_aload_n hx hb dX8_back_0 rfl (lv_at hl 0 rfl) ?_
  refine va_get (D := (dC, dI)) (ci := 8) (v := .int 0) (C := RX8) (T := TX8) (N := 11) hx hb hts (by decide +kernel) hown hK hP 0 rfl rfl 2 (by decide) (hts (.fieldLink RX8 134 "QuietStairsModel" "isKept" "Z") (by decide +kernel)) (fun _ h9 => h9) rfl dX8_back_1 ?_
  refine lv_if_ne (tgt := 10) hx hb dX8_back_4 (by decide) (fun c9 => absurd c9 (by decide)) (fun _ => ?_)
  refine lv_bipush (v := (-5)) hx hb dX8_back_7 (by decide) ?_
  have hP9 := hP.sub (ws' := []) [] rfl
  have hD9 := hD.sub (ws' := []) [] (by decide) rfl
  exact W.iret (v := (-5)) hx hb hr (fun t ht hW => ⟨⟨(-5), (), rfl, rfl, by rw [ht]; exact hP9, hD9⟩, hS.F ht⟩) hS.2.2 dX8_back_9

set_option maxHeartbeats 4000000 in
set_option maxRecDepth 100000 in
theorem c0_X8_party (l : Launch) (dC : Nat → ClassId) (dI : Nat → Nat → Nat) (cy : Nat → ClassId) (sz : Nat) (g0 g1 g2 g3 g4 g5 g6 g7 : Nat) (x y : Int32) : Met l yX8_party wsX8_party ({ frames := 1, cells := 0, slots := 0, locals := 64 }) (va_Pc [.ref g0, .int x, .int y] (ex_Pre dC dI cy sz [(g0, .inr (8, [.ref g1, .ref g2, .int 0, .int 1, .ref g3, .int 0, .ref g4, .ref g5, .ref g6, .int 0, .ref g7])), (g1, .inl (cy 0, 596, .inl (fun _ => 0)))])) (va_Qi (fun (r : Int32) (u : Unit) => r = if (0 ≤ x ∧ x ≤ 9) ∧ (0 ≤ y ∧ y ≤ 2) then 0 else -1) (fun u t => ex_Pst dC dI (va_A [(g0, .inr (8, [.ref g1, .ref g2, .int 0, .int 1, .ref g3, .int 0, .ref g4, .ref g5, .ref g6, .int 0, .ref g7])), (g1, .inl (cy 0, 596, .inl (fun _ => 0)))] sz) ([]) t) (va_A [(g0, .inr (8, [.ref g1, .ref g2, .int 0, .int 1, .ref g3, .int 0, .ref g4, .ref g5, .ref g6, .int 0, .ref g7])), (g1, .inl (cy 0, 596, .inl (fun _ => 0)))] sz)) 0 0 (va_A [(g0, .inr (8, [.ref g1, .ref g2, .int 0, .int 1, .ref g3, .int 0, .ref g4, .ref g5, .ref g6, .int 0, .ref g7])), (g1, .inl (cy 0, 596, .inl (fun _ => 0)))] sz) := by
  refine Met.ofW (cc := cX8_party) (maxL := 5) (ret := (some .int)) (by decide) rfl ?_
  intro p e s m args below meth c s₁ B hml hv
  obtain ⟨rfl, hsz, hE, hP, hK, hD0⟩ := hv
  have hx := B.exec
  have hb := B.bytes
  have hr := B.returns
  have hts := atoms_spec (ws := wsX8_party) B.pre
  have hown : s.vm.findClass RX8 = some m.cls := findClass_of_methodNamed B.named
  have hlocks := B.notSynchronized
  subst hsz
  have hD := hD0.self (sz := s.heap.size)
  generalize hAe : va_A [(g0, .inr (8, [.ref g1, .ref g2, .int 0, .int 1, .ref g3, .int 0, .ref g4, .ref g5, .ref g6, .int 0, .ref g7])), (g1, .inl (cy 0, 596, .inl (fun _ => 0)))] s.heap.size = A at hD ⊢
  have hA : ∀ q : Nat, s.heap.size ≤ q → A q := fun q h => by rw [← hAe]; exact Or.inr h
  have hS : va_S A s.heap s.heap [] := va_S.rf
  have hP : va_P (dC, dI) vwCl [(g0, .inr (8, [.ref g1, .ref g2, .int 0, .int 1, .ref g3, .int 0, .ref g4, .ref g5, .ref g6, .int 0, .ref g7])), (g1, .inl (cy 0, 596, .inl (fun _ => 0)))] s.heap := hP
  have hl := lv_entry ([.ref g0, .int x, .int y]) (n := 5) (Nat.le_of_ble_eq_true rfl)
  rw [lg_entry_eq]
  generalize (lg_sl ([.ref g0, .int x, .int y]) ++ List.replicate (5 - (lg_sl ([.ref g0, .int x, .int y])).length) Slot.unset).toArray = ls at hl ⊢
  have hl : lv_has ls 5 [(0, .ref g0), (1, .int x), (2, .int y)] := hl
  refine lv_iload_n hx hb dX8_party_0 rfl (lv_at hl 1 rfl) ?_
  refine lv_iconst (v := 0) hx hb dX8_party_1 (by decide) ?_
  refine lv_bipush (v := 9) hx hb dX8_party_2 (by decide) ?_
  refine yc_p hP hS (va_runS (As := [.int x, .int 0, .int 9]) (rest := []) ⟨hx, hb, hml, hown, hts⟩ (c_X8_in l x 0 9) (cwS 3 hts gX8_party_X8_in rfl rfl rfl (by decide +kernel) ⟨Nat.le_of_ble_eq_true rfl, Nat.le_of_ble_eq_true rfl⟩) ex_preP rfl rfl hl.1 rfl (lv_room (Nat.le_of_ble_eq_true rfl)) dX8_party_4 ⟨Nat.le_of_ble_eq_true rfl, Nat.le_of_ble_eq_true rfl⟩) (fun r_1 H locs hw_1 hP hS => ?_)
  rcases wi_ca hw_1 with ⟨rfl, hc⟩ | ⟨rfl, hc⟩
  · refine lv_if_eq (tgt := 19) hx hb dX8_party_7 (by decide) (fun c9 => absurd c9 (by decide)) (fun _ => ?_)
    refine lv_iload_n hx hb dX8_party_10 rfl (lv_at hl 2 rfl) ?_
    refine lv_iconst (v := 0) hx hb dX8_party_11 (by decide) ?_
    refine lv_iconst (v := 2) hx hb dX8_party_12 (by decide) ?_
    refine yc_p hP hS (va_runS (As := [.int y, .int 0, .int 2]) (rest := []) ⟨hx, hb, hml, hown, hts⟩ (c_X8_in l y 0 2) (cwS 3 hts gX8_party_X8_in rfl rfl rfl (by decide +kernel) ⟨Nat.le_of_ble_eq_true rfl, Nat.le_of_ble_eq_true rfl⟩) ex_preP rfl rfl hl.1 rfl (lv_room (Nat.le_of_ble_eq_true rfl)) dX8_party_13 ⟨Nat.le_of_ble_eq_true rfl, Nat.le_of_ble_eq_true rfl⟩) (fun r_2 H locs hw_2 hP hS => ?_)
    rcases wi_ca hw_2 with ⟨rfl, hc2⟩ | ⟨rfl, hc2⟩
    · refine lv_if_ne (tgt := 21) hx hb dX8_party_16 (by decide) (fun _ => ?_) (fun c9 => absurd c9 (by decide))
      refine lv_aload_n hx hb dX8_party_21 rfl (lv_at hl 0 rfl) ?_
      refine va_get (D := (dC, dI)) (ci := 8) (v := .ref g1) (C := RX8) (T := TX8) (N := 11) hx hb hts (by decide +kernel) hown hK hP 0 rfl rfl 0 (by decide) (hts (.fieldLink RX8 7 "QuietStairsModel" "s" "[I") (by decide +kernel)) (fun _ h9 => h9) rfl dX8_party_22 ?_
      refine lv_iconst (v := 0) hx hb dX8_party_25 (by decide) ?_
      refine va_iald hx hb hK hP 1 0 rfl rfl (by unfold vp_in; decide) dX8_party_26 ?_
      refine lv_topi (fun x_3 ex_3 => ?_)
      obtain rfl : x_3 = 0 := ex_3.trans (rfl)
      refine lv_bipush (v := 8) hx hb dX8_party_27 (by decide) ?_
      refine lv_icmp_ne (tgt := 35) hx hb dX8_party_29 (by decide) (fun _ => ?_) (fun c9 => absurd c9 (by decide))
      refine lv_aload_n hx hb dX8_party_35 rfl (lv_at hl 0 rfl) ?_
      refine va_get (D := (dC, dI)) (ci := 8) (v := .ref g1) (C := RX8) (T := TX8) (N := 11) hx hb hts (by decide +kernel) hown hK hP 0 rfl rfl 0 (by decide) (hts (.fieldLink RX8 7 "QuietStairsModel" "s" "[I") (by decide +kernel)) (fun _ h9 => h9) rfl dX8_party_36 ?_
      refine lv_iconst (v := 0) hx hb dX8_party_39 (by decide) ?_
      refine va_iald hx hb hK hP 1 0 rfl rfl (by unfold vp_in; decide) dX8_party_40 ?_
      refine lv_topi (fun x_4 ex_4 => ?_)
      obtain rfl : x_4 = 0 := ex_4.trans (rfl)
      refine lv_istore_n (lv' := [(3, .int 0), (0, .ref g0), (1, .int x), (2, .int y)]) hx hb dX8_party_41 rfl hl (by decide) rfl (fun ls hl => ?_)
      refine lv_aload_n hx hb dX8_party_42 rfl (lv_at hl 1 rfl) ?_
      refine va_get (D := (dC, dI)) (ci := 8) (v := .ref g1) (C := RX8) (T := TX8) (N := 11) hx hb hts (by decide +kernel) hown hK hP 0 rfl rfl 0 (by decide) (hts (.fieldLink RX8 7 "QuietStairsModel" "s" "[I") (by decide +kernel)) (fun _ h9 => h9) rfl dX8_party_43 ?_
      refine lv_iconst (v := 4) hx hb dX8_party_46 (by decide) ?_
      refine lv_iconst (v := 2) hx hb dX8_party_47 (by decide) ?_
      refine lv_iload_n hx hb dX8_party_48 rfl (lv_at hl 0 rfl) ?_
      refine lv_imul hx hb dX8_party_49 ?_
      refine lv_topi (fun x_5 ex_5 => ?_)
      obtain rfl : x_5 = 0 := ex_5.trans (by decide)
      refine lv_iadd hx hb dX8_party_50 ?_
      refine lv_topi (fun x_6 ex_6 => ?_)
      obtain rfl : x_6 = 4 := ex_6.trans (by decide)
      refine lv_iload_n hx hb dX8_party_51 rfl (lv_at hl 2 rfl) ?_
      refine va_iast hx hb hK hP hD hS 1 0 rfl rfl (by unfold vp_in; decide) dX8_party_52 (fun H locs hP hD hS => ?_)
      have hP : va_P (dC, dI) vwCl [(g0, .inr (8, [.ref g1, .ref g2, .int 0, .int 1, .ref g3, .int 0, .ref g4, .ref g5, .ref g6, .int 0, .ref g7])), (g1, .inl (cy 0, 596, .inl (upd (fun _ => 0) (4 : Int32).toNatClampNeg x)))] H := hP
      have hD : va_D A [(g0, .inr (8, [.ref g1, .ref g2, .int 0, .int 1, .ref g3, .int 0, .ref g4, .ref g5, .ref g6, .int 0, .ref g7])), (g1, .inl (cy 0, 596, .inl (upd (fun _ => 0) (4 : Int32).toNatClampNeg x)))] := hD
      refine lv_aload_n hx hb dX8_party_53 rfl (lv_at hl 1 rfl) ?_
      refine va_get (D := (dC, dI)) (ci := 8) (v := .ref g1) (C := RX8) (T := TX8) (N := 11) hx hb hts (by decide +kernel) hown hK hP 0 rfl rfl 0 (by decide) (hts (.fieldLink RX8 7 "QuietStairsModel" "s" "[I") (by decide +kernel)) (fun _ h9 => h9) rfl dX8_party_54 ?_
      refine lv_iconst (v := 4) hx hb dX8_party_57 (by decide) ?_
      refine lv_iconst (v := 2) hx hb dX8_party_58 (by decide) ?_
      refine lv_iload_n hx hb dX8_party_59 rfl (lv_at hl 0 rfl) ?_
      refine lv_imul hx hb dX8_party_60 ?_
      refine lv_topi (fun x_7 ex_7 => ?_)
      obtain rfl : x_7 = 0 := ex_7.trans (by decide)
      refine lv_iadd hx hb dX8_party_61 ?_
      refine lv_topi (fun x_8 ex_8 => ?_)
      obtain rfl : x_8 = 4 := ex_8.trans (by decide)
      refine lv_iconst (v := 1) hx hb dX8_party_62 (by decide) ?_
      refine lv_iadd hx hb dX8_party_63 ?_
      refine lv_topi (fun x_9 ex_9 => ?_)
      obtain rfl : x_9 = 5 := ex_9.trans (by decide)
      refine lv_iload_n hx hb dX8_party_64 rfl (lv_at hl 3 rfl) ?_
      refine va_iast hx hb hK hP hD hS 1 0 rfl rfl (by unfold vp_in; decide) dX8_party_65 (fun H locs hP hD hS => ?_)
      have hP : va_P (dC, dI) vwCl [(g0, .inr (8, [.ref g1, .ref g2, .int 0, .int 1, .ref g3, .int 0, .ref g4, .ref g5, .ref g6, .int 0, .ref g7])), (g1, .inl (cy 0, 596, .inl (upd (upd (fun _ => 0) (4 : Int32).toNatClampNeg x) (5 : Int32).toNatClampNeg y)))] H := hP
      have hD : va_D A [(g0, .inr (8, [.ref g1, .ref g2, .int 0, .int 1, .ref g3, .int 0, .ref g4, .ref g5, .ref g6, .int 0, .ref g7])), (g1, .inl (cy 0, 596, .inl (upd (upd (fun _ => 0) (4 : Int32).toNatClampNeg x) (5 : Int32).toNatClampNeg y)))] := hD
      refine lv_iconst (v := 0) hx hb dX8_party_66 (by decide) ?_
      refine lv_istore (lv' := [(4, .int 0), (3, .int 0), (0, .ref g0), (1, .int x), (2, .int y)]) hx hb dX8_party_67 hl (by decide) rfl (fun ls hl => ?_)
      refine lv_iload hx hb dX8_party_69 (lv_at hl 0 rfl) ?_
      refine lv_iconst (v := 4) hx hb dX8_party_71 (by decide) ?_
      refine lv_icmp_ge (tgt := 107) hx hb dX8_party_72 (by decide) (fun c9 => absurd c9 (by decide)) (fun _ => ?_)
      refine lv_aload_n hx hb dX8_party_75 rfl (lv_at hl 2 rfl) ?_
      refine va_get (D := (dC, dI)) (ci := 8) (v := .ref g1) (C := RX8) (T := TX8) (N := 11) hx hb hts (by decide +kernel) hown hK hP 0 rfl rfl 0 (by decide) (hts (.fieldLink RX8 7 "QuietStairsModel" "s" "[I") (by decide +kernel)) (fun _ h9 => h9) rfl dX8_party_76 ?_
      refine lv_bipush (v := 28) hx hb dX8_party_79 (by decide) ?_
      refine lv_iload hx hb dX8_party_81 (lv_at hl 0 rfl) ?_
      refine lv_iadd hx hb dX8_party_83 ?_
      refine lv_topi (fun x_10 ex_10 => ?_)
      obtain rfl : x_10 = 28 := ex_10.trans (by decide)
      refine lv_aload_n hx hb dX8_party_84 rfl (lv_at hl 2 rfl) ?_
      refine va_get (D := (dC, dI)) (ci := 8) (v := .ref g1) (C := RX8) (T := TX8) (N := 11) hx hb hts (by decide +kernel) hown hK hP 0 rfl rfl 0 (by decide) (hts (.fieldLink RX8 7 "QuietStairsModel" "s" "[I") (by decide +kernel)) (fun _ h9 => h9) rfl dX8_party_85 ?_
      refine lv_bipush (v := 28) hx hb dX8_party_88 (by decide) ?_
      refine lv_iload hx hb dX8_party_90 (lv_at hl 0 rfl) ?_
      refine lv_iadd hx hb dX8_party_92 ?_
      refine lv_topi (fun x_11 ex_11 => ?_)
      obtain rfl : x_11 = 28 := ex_11.trans (by decide)
      refine va_iald hx hb hK hP 1 0 rfl rfl (by unfold vp_in; decide) dX8_party_93 ?_
      refine lv_topi (fun x_12 ex_12 => ?_)
      obtain rfl : x_12 = 0 := ex_12.trans (rfl)
      refine lv_iconst (v := 1) hx hb dX8_party_94 (by decide) ?_
      refine lv_iload_n hx hb dX8_party_95 rfl (lv_at hl 1 rfl) ?_
      refine lv_ishl hx hb dX8_party_96 ?_
      refine lv_topi (fun x_13 ex_13 => ?_)
      obtain rfl : x_13 = 1 := ex_13.trans (by decide)
      refine lv_iconst (v := (-1)) hx hb dX8_party_97 (by decide) ?_
      refine lv_ixor hx hb dX8_party_98 ?_
      refine lv_topi (fun x_14 ex_14 => ?_)
      obtain rfl : x_14 = (-2) := ex_14.trans (by decide)
      refine lv_iand hx hb dX8_party_99 ?_
      refine lv_topi (fun x_15 ex_15 => ?_)
      obtain rfl : x_15 = 0 := ex_15.trans (by decide)
      refine va_iast hx hb hK hP hD hS 1 0 rfl rfl (by unfold vp_in; decide) dX8_party_100 (fun H locs hP hD hS => ?_)
      have hP : va_P (dC, dI) vwCl [(g0, .inr (8, [.ref g1, .ref g2, .int 0, .int 1, .ref g3, .int 0, .ref g4, .ref g5, .ref g6, .int 0, .ref g7])), (g1, .inl (cy 0, 596, .inl (upd (upd (upd (fun _ => 0) (4 : Int32).toNatClampNeg x) (5 : Int32).toNatClampNeg y) (28 : Int32).toNatClampNeg 0)))] H := hP
      have hD : va_D A [(g0, .inr (8, [.ref g1, .ref g2, .int 0, .int 1, .ref g3, .int 0, .ref g4, .ref g5, .ref g6, .int 0, .ref g7])), (g1, .inl (cy 0, 596, .inl (upd (upd (upd (fun _ => 0) (4 : Int32).toNatClampNeg x) (5 : Int32).toNatClampNeg y) (28 : Int32).toNatClampNeg 0)))] := hD
      refine lv_iinc (v := 1) (lv' := [(4, .int 1), (3, .int 0), (0, .ref g0), (1, .int x), (2, .int y)]) hx hb dX8_party_101 hl (k := 0) rfl (by decide) (by decide) rfl (fun ls hl => ?_)
      refine lv_goto (tgt := 69) hx hb dX8_party_104 (by decide) ?_
      refine lv_iload hx hb dX8_party_69 (lv_at hl 0 rfl) ?_
      refine lv_iconst (v := 4) hx hb dX8_party_71 (by decide) ?_
      refine lv_icmp_ge (tgt := 107) hx hb dX8_party_72 (by decide) (fun c9 => absurd c9 (by decide)) (fun _ => ?_)
      refine lv_aload_n hx hb dX8_party_75 rfl (lv_at hl 2 rfl) ?_
      refine va_get (D := (dC, dI)) (ci := 8) (v := .ref g1) (C := RX8) (T := TX8) (N := 11) hx hb hts (by decide +kernel) hown hK hP 0 rfl rfl 0 (by decide) (hts (.fieldLink RX8 7 "QuietStairsModel" "s" "[I") (by decide +kernel)) (fun _ h9 => h9) rfl dX8_party_76 ?_
      refine lv_bipush (v := 28) hx hb dX8_party_79 (by decide) ?_
      refine lv_iload hx hb dX8_party_81 (lv_at hl 0 rfl) ?_
      refine lv_iadd hx hb dX8_party_83 ?_
      refine lv_topi (fun x_16 ex_16 => ?_)
      obtain rfl : x_16 = 29 := ex_16.trans (by decide)
      refine lv_aload_n hx hb dX8_party_84 rfl (lv_at hl 2 rfl) ?_
      refine va_get (D := (dC, dI)) (ci := 8) (v := .ref g1) (C := RX8) (T := TX8) (N := 11) hx hb hts (by decide +kernel) hown hK hP 0 rfl rfl 0 (by decide) (hts (.fieldLink RX8 7 "QuietStairsModel" "s" "[I") (by decide +kernel)) (fun _ h9 => h9) rfl dX8_party_85 ?_
      refine lv_bipush (v := 28) hx hb dX8_party_88 (by decide) ?_
      refine lv_iload hx hb dX8_party_90 (lv_at hl 0 rfl) ?_
      refine lv_iadd hx hb dX8_party_92 ?_
      refine lv_topi (fun x_17 ex_17 => ?_)
      obtain rfl : x_17 = 29 := ex_17.trans (by decide)
      refine va_iald hx hb hK hP 1 0 rfl rfl (by unfold vp_in; decide) dX8_party_93 ?_
      refine lv_topi (fun x_18 ex_18 => ?_)
      obtain rfl : x_18 = 0 := ex_18.trans (rfl)
      refine lv_iconst (v := 1) hx hb dX8_party_94 (by decide) ?_
      refine lv_iload_n hx hb dX8_party_95 rfl (lv_at hl 1 rfl) ?_
      refine lv_ishl hx hb dX8_party_96 ?_
      refine lv_topi (fun x_19 ex_19 => ?_)
      obtain rfl : x_19 = 1 := ex_19.trans (by decide)
      refine lv_iconst (v := (-1)) hx hb dX8_party_97 (by decide) ?_
      refine lv_ixor hx hb dX8_party_98 ?_
      refine lv_topi (fun x_20 ex_20 => ?_)
      obtain rfl : x_20 = (-2) := ex_20.trans (by decide)
      refine lv_iand hx hb dX8_party_99 ?_
      refine lv_topi (fun x_21 ex_21 => ?_)
      obtain rfl : x_21 = 0 := ex_21.trans (by decide)
      refine va_iast hx hb hK hP hD hS 1 0 rfl rfl (by unfold vp_in; decide) dX8_party_100 (fun H locs hP hD hS => ?_)
      have hP : va_P (dC, dI) vwCl [(g0, .inr (8, [.ref g1, .ref g2, .int 0, .int 1, .ref g3, .int 0, .ref g4, .ref g5, .ref g6, .int 0, .ref g7])), (g1, .inl (cy 0, 596, .inl (upd (upd (upd (upd (fun _ => 0) (4 : Int32).toNatClampNeg x) (5 : Int32).toNatClampNeg y) (28 : Int32).toNatClampNeg 0) (29 : Int32).toNatClampNeg 0)))] H := hP
      have hD : va_D A [(g0, .inr (8, [.ref g1, .ref g2, .int 0, .int 1, .ref g3, .int 0, .ref g4, .ref g5, .ref g6, .int 0, .ref g7])), (g1, .inl (cy 0, 596, .inl (upd (upd (upd (upd (fun _ => 0) (4 : Int32).toNatClampNeg x) (5 : Int32).toNatClampNeg y) (28 : Int32).toNatClampNeg 0) (29 : Int32).toNatClampNeg 0)))] := hD
      refine lv_iinc (v := 2) (lv' := [(4, .int 2), (3, .int 0), (0, .ref g0), (1, .int x), (2, .int y)]) hx hb dX8_party_101 hl (k := 0) rfl (by decide) (by decide) rfl (fun ls hl => ?_)
      refine lv_goto (tgt := 69) hx hb dX8_party_104 (by decide) ?_
      refine lv_iload hx hb dX8_party_69 (lv_at hl 0 rfl) ?_
      refine lv_iconst (v := 4) hx hb dX8_party_71 (by decide) ?_
      refine lv_icmp_ge (tgt := 107) hx hb dX8_party_72 (by decide) (fun c9 => absurd c9 (by decide)) (fun _ => ?_)
      refine lv_aload_n hx hb dX8_party_75 rfl (lv_at hl 2 rfl) ?_
      refine va_get (D := (dC, dI)) (ci := 8) (v := .ref g1) (C := RX8) (T := TX8) (N := 11) hx hb hts (by decide +kernel) hown hK hP 0 rfl rfl 0 (by decide) (hts (.fieldLink RX8 7 "QuietStairsModel" "s" "[I") (by decide +kernel)) (fun _ h9 => h9) rfl dX8_party_76 ?_
      refine lv_bipush (v := 28) hx hb dX8_party_79 (by decide) ?_
      refine lv_iload hx hb dX8_party_81 (lv_at hl 0 rfl) ?_
      refine lv_iadd hx hb dX8_party_83 ?_
      refine lv_topi (fun x_22 ex_22 => ?_)
      obtain rfl : x_22 = 30 := ex_22.trans (by decide)
      refine lv_aload_n hx hb dX8_party_84 rfl (lv_at hl 2 rfl) ?_
      refine va_get (D := (dC, dI)) (ci := 8) (v := .ref g1) (C := RX8) (T := TX8) (N := 11) hx hb hts (by decide +kernel) hown hK hP 0 rfl rfl 0 (by decide) (hts (.fieldLink RX8 7 "QuietStairsModel" "s" "[I") (by decide +kernel)) (fun _ h9 => h9) rfl dX8_party_85 ?_
      refine lv_bipush (v := 28) hx hb dX8_party_88 (by decide) ?_
      refine lv_iload hx hb dX8_party_90 (lv_at hl 0 rfl) ?_
      refine lv_iadd hx hb dX8_party_92 ?_
      refine lv_topi (fun x_23 ex_23 => ?_)
      obtain rfl : x_23 = 30 := ex_23.trans (by decide)
      refine va_iald hx hb hK hP 1 0 rfl rfl (by unfold vp_in; decide) dX8_party_93 ?_
      refine lv_topi (fun x_24 ex_24 => ?_)
      obtain rfl : x_24 = 0 := ex_24.trans (rfl)
      refine lv_iconst (v := 1) hx hb dX8_party_94 (by decide) ?_
      refine lv_iload_n hx hb dX8_party_95 rfl (lv_at hl 1 rfl) ?_
      refine lv_ishl hx hb dX8_party_96 ?_
      refine lv_topi (fun x_25 ex_25 => ?_)
      obtain rfl : x_25 = 1 := ex_25.trans (by decide)
      refine lv_iconst (v := (-1)) hx hb dX8_party_97 (by decide) ?_
      refine lv_ixor hx hb dX8_party_98 ?_
      refine lv_topi (fun x_26 ex_26 => ?_)
      obtain rfl : x_26 = (-2) := ex_26.trans (by decide)
      refine lv_iand hx hb dX8_party_99 ?_
      refine lv_topi (fun x_27 ex_27 => ?_)
      obtain rfl : x_27 = 0 := ex_27.trans (by decide)
      refine va_iast hx hb hK hP hD hS 1 0 rfl rfl (by unfold vp_in; decide) dX8_party_100 (fun H locs hP hD hS => ?_)
      have hP : va_P (dC, dI) vwCl [(g0, .inr (8, [.ref g1, .ref g2, .int 0, .int 1, .ref g3, .int 0, .ref g4, .ref g5, .ref g6, .int 0, .ref g7])), (g1, .inl (cy 0, 596, .inl (upd (upd (upd (upd (upd (fun _ => 0) (4 : Int32).toNatClampNeg x) (5 : Int32).toNatClampNeg y) (28 : Int32).toNatClampNeg 0) (29 : Int32).toNatClampNeg 0) (30 : Int32).toNatClampNeg 0)))] H := hP
      have hD : va_D A [(g0, .inr (8, [.ref g1, .ref g2, .int 0, .int 1, .ref g3, .int 0, .ref g4, .ref g5, .ref g6, .int 0, .ref g7])), (g1, .inl (cy 0, 596, .inl (upd (upd (upd (upd (upd (fun _ => 0) (4 : Int32).toNatClampNeg x) (5 : Int32).toNatClampNeg y) (28 : Int32).toNatClampNeg 0) (29 : Int32).toNatClampNeg 0) (30 : Int32).toNatClampNeg 0)))] := hD
      refine lv_iinc (v := 3) (lv' := [(4, .int 3), (3, .int 0), (0, .ref g0), (1, .int x), (2, .int y)]) hx hb dX8_party_101 hl (k := 0) rfl (by decide) (by decide) rfl (fun ls hl => ?_)
      refine lv_goto (tgt := 69) hx hb dX8_party_104 (by decide) ?_
      refine lv_iload hx hb dX8_party_69 (lv_at hl 0 rfl) ?_
      refine lv_iconst (v := 4) hx hb dX8_party_71 (by decide) ?_
      refine lv_icmp_ge (tgt := 107) hx hb dX8_party_72 (by decide) (fun c9 => absurd c9 (by decide)) (fun _ => ?_)
      refine lv_aload_n hx hb dX8_party_75 rfl (lv_at hl 2 rfl) ?_
      refine va_get (D := (dC, dI)) (ci := 8) (v := .ref g1) (C := RX8) (T := TX8) (N := 11) hx hb hts (by decide +kernel) hown hK hP 0 rfl rfl 0 (by decide) (hts (.fieldLink RX8 7 "QuietStairsModel" "s" "[I") (by decide +kernel)) (fun _ h9 => h9) rfl dX8_party_76 ?_
      refine lv_bipush (v := 28) hx hb dX8_party_79 (by decide) ?_
      refine lv_iload hx hb dX8_party_81 (lv_at hl 0 rfl) ?_
      refine lv_iadd hx hb dX8_party_83 ?_
      refine lv_topi (fun x_28 ex_28 => ?_)
      obtain rfl : x_28 = 31 := ex_28.trans (by decide)
      refine lv_aload_n hx hb dX8_party_84 rfl (lv_at hl 2 rfl) ?_
      refine va_get (D := (dC, dI)) (ci := 8) (v := .ref g1) (C := RX8) (T := TX8) (N := 11) hx hb hts (by decide +kernel) hown hK hP 0 rfl rfl 0 (by decide) (hts (.fieldLink RX8 7 "QuietStairsModel" "s" "[I") (by decide +kernel)) (fun _ h9 => h9) rfl dX8_party_85 ?_
      refine lv_bipush (v := 28) hx hb dX8_party_88 (by decide) ?_
      refine lv_iload hx hb dX8_party_90 (lv_at hl 0 rfl) ?_
      refine lv_iadd hx hb dX8_party_92 ?_
      refine lv_topi (fun x_29 ex_29 => ?_)
      obtain rfl : x_29 = 31 := ex_29.trans (by decide)
      refine va_iald hx hb hK hP 1 0 rfl rfl (by unfold vp_in; decide) dX8_party_93 ?_
      refine lv_topi (fun x_30 ex_30 => ?_)
      obtain rfl : x_30 = 0 := ex_30.trans (rfl)
      refine lv_iconst (v := 1) hx hb dX8_party_94 (by decide) ?_
      refine lv_iload_n hx hb dX8_party_95 rfl (lv_at hl 1 rfl) ?_
      refine lv_ishl hx hb dX8_party_96 ?_
      refine lv_topi (fun x_31 ex_31 => ?_)
      obtain rfl : x_31 = 1 := ex_31.trans (by decide)
      refine lv_iconst (v := (-1)) hx hb dX8_party_97 (by decide) ?_
      refine lv_ixor hx hb dX8_party_98 ?_
      refine lv_topi (fun x_32 ex_32 => ?_)
      obtain rfl : x_32 = (-2) := ex_32.trans (by decide)
      refine lv_iand hx hb dX8_party_99 ?_
      refine lv_topi (fun x_33 ex_33 => ?_)
      obtain rfl : x_33 = 0 := ex_33.trans (by decide)
      refine va_iast hx hb hK hP hD hS 1 0 rfl rfl (by unfold vp_in; decide) dX8_party_100 (fun H locs hP hD hS => ?_)
      have hP : va_P (dC, dI) vwCl [(g0, .inr (8, [.ref g1, .ref g2, .int 0, .int 1, .ref g3, .int 0, .ref g4, .ref g5, .ref g6, .int 0, .ref g7])), (g1, .inl (cy 0, 596, .inl (upd (upd (upd (upd (upd (upd (fun _ => 0) (4 : Int32).toNatClampNeg x) (5 : Int32).toNatClampNeg y) (28 : Int32).toNatClampNeg 0) (29 : Int32).toNatClampNeg 0) (30 : Int32).toNatClampNeg 0) (31 : Int32).toNatClampNeg 0)))] H := hP
      have hD : va_D A [(g0, .inr (8, [.ref g1, .ref g2, .int 0, .int 1, .ref g3, .int 0, .ref g4, .ref g5, .ref g6, .int 0, .ref g7])), (g1, .inl (cy 0, 596, .inl (upd (upd (upd (upd (upd (upd (fun _ => 0) (4 : Int32).toNatClampNeg x) (5 : Int32).toNatClampNeg y) (28 : Int32).toNatClampNeg 0) (29 : Int32).toNatClampNeg 0) (30 : Int32).toNatClampNeg 0) (31 : Int32).toNatClampNeg 0)))] := hD
      refine lv_iinc (v := 4) (lv' := [(4, .int 4), (3, .int 0), (0, .ref g0), (1, .int x), (2, .int y)]) hx hb dX8_party_101 hl (k := 0) rfl (by decide) (by decide) rfl (fun ls hl => ?_)
      refine lv_goto (tgt := 69) hx hb dX8_party_104 (by decide) ?_
      refine lv_iload hx hb dX8_party_69 (lv_at hl 0 rfl) ?_
      refine lv_iconst (v := 4) hx hb dX8_party_71 (by decide) ?_
      refine lv_icmp_ge (tgt := 107) hx hb dX8_party_72 (by decide) (fun _ => ?_) (fun c9 => absurd c9 (by decide))
      refine lv_aload_n hx hb dX8_party_107 rfl (lv_at hl 2 rfl) ?_
      refine va_get (D := (dC, dI)) (ci := 8) (v := .ref g1) (C := RX8) (T := TX8) (N := 11) hx hb hts (by decide +kernel) hown hK hP 0 rfl rfl 0 (by decide) (hts (.fieldLink RX8 7 "QuietStairsModel" "s" "[I") (by decide +kernel)) (fun _ h9 => h9) rfl dX8_party_108 ?_
      refine lv_iconst (v := 0) hx hb dX8_party_111 (by decide) ?_
      refine lv_dup2_11 hx hb dX8_party_112 rfl rfl ?_
      refine va_iald hx hb hK hP 1 0 rfl rfl (by unfold vp_in; decide) dX8_party_113 ?_
      refine lv_topi (fun x_34 ex_34 => ?_)
      obtain rfl : x_34 = 0 := ex_34.trans (rfl)
      refine lv_iconst (v := 1) hx hb dX8_party_114 (by decide) ?_
      refine lv_iadd hx hb dX8_party_115 ?_
      refine lv_topi (fun x_35 ex_35 => ?_)
      obtain rfl : x_35 = 1 := ex_35.trans (by decide)
      refine va_iast hx hb hK hP hD hS 1 0 rfl rfl (by unfold vp_in; decide) dX8_party_116 (fun H locs hP hD hS => ?_)
      have hP : va_P (dC, dI) vwCl [(g0, .inr (8, [.ref g1, .ref g2, .int 0, .int 1, .ref g3, .int 0, .ref g4, .ref g5, .ref g6, .int 0, .ref g7])), (g1, .inl (cy 0, 596, .inl (upd (upd (upd (upd (upd (upd (upd (fun _ => 0) (4 : Int32).toNatClampNeg x) (5 : Int32).toNatClampNeg y) (28 : Int32).toNatClampNeg 0) (29 : Int32).toNatClampNeg 0) (30 : Int32).toNatClampNeg 0) (31 : Int32).toNatClampNeg 0) (0 : Int32).toNatClampNeg 1)))] H := hP
      have hD : va_D A [(g0, .inr (8, [.ref g1, .ref g2, .int 0, .int 1, .ref g3, .int 0, .ref g4, .ref g5, .ref g6, .int 0, .ref g7])), (g1, .inl (cy 0, 596, .inl (upd (upd (upd (upd (upd (upd (upd (fun _ => 0) (4 : Int32).toNatClampNeg x) (5 : Int32).toNatClampNeg y) (28 : Int32).toNatClampNeg 0) (29 : Int32).toNatClampNeg 0) (30 : Int32).toNatClampNeg 0) (31 : Int32).toNatClampNeg 0) (0 : Int32).toNatClampNeg 1)))] := hD
      refine lv_iload_n hx hb dX8_party_117 rfl (lv_at hl 1 rfl) ?_
      have hP9 := hP.sub (ws' := []) [] rfl
      have hD9 := hD.sub (ws' := []) [] (by decide) rfl
      exact W.iret (v := 0) hx hb hr (fun t ht hW => ⟨⟨0, (), rfl, by rw [if_pos ⟨hc, hc2⟩], by rw [ht]; exact hP9, hD9⟩, hS.F ht⟩) hS.2.2 dX8_party_118
    · refine lv_if_ne (tgt := 21) hx hb dX8_party_16 (by decide) (fun c9 => absurd c9 (by decide)) (fun _ => ?_)
      refine lv_iconst (v := (-1)) hx hb dX8_party_19 (by decide) ?_
      have hP9 := hP.sub (ws' := []) [] rfl
      have hD9 := hD.sub (ws' := []) [] (by decide) rfl
      exact W.iret (v := (-1)) hx hb hr (fun t ht hW => ⟨⟨(-1), (), rfl, by rw [if_neg (fun q => hc2 q.2)], by rw [ht]; exact hP9, hD9⟩, hS.F ht⟩) hS.2.2 dX8_party_20
  · refine lv_if_eq (tgt := 19) hx hb dX8_party_7 (by decide) (fun _ => ?_) (fun c9 => absurd c9 (by decide))
    refine lv_iconst (v := (-1)) hx hb dX8_party_19 (by decide) ?_
    have hP9 := hP.sub (ws' := []) [] rfl
    have hD9 := hD.sub (ws' := []) [] (by decide) rfl
    exact W.iret (v := (-1)) hx hb hr (fun t ht hW => ⟨⟨(-1), (), rfl, by rw [if_neg (fun q => hc q.1)], by rw [ht]; exact hP9, hD9⟩, hS.F ht⟩) hS.2.2 dX8_party_20

set_option maxHeartbeats 4000000 in
set_option maxRecDepth 100000 in
theorem c0_X8_mediator (l : Launch) (dC : Nat → ClassId) (dI : Nat → Nat → Nat) (cy : Nat → ClassId) (sz : Nat) (g0 g1 g2 g3 g4 g5 g6 g7 : Nat) (x y : Int32) : Met l yX8_mediator wsX8_mediator ({ frames := 1, cells := 0, slots := 0, locals := 64 }) (va_Pc [.ref g0, .int x, .int y] (ex_Pre dC dI cy sz [(g0, .inr (8, [.ref g1, .ref g2, .int 0, .int 1, .ref g3, .int 0, .ref g4, .ref g5, .ref g6, .int 0, .ref g7])), (g1, .inl (cy 0, 596, .inl (fun _ => 0)))])) (va_Qi (fun (r : Int32) (u : Unit) => r = if (0 ≤ x ∧ x ≤ 9) ∧ (1 ≤ y ∧ y ≤ 7) then 0 else -1) (fun u t => ex_Pst dC dI (va_A [(g0, .inr (8, [.ref g1, .ref g2, .int 0, .int 1, .ref g3, .int 0, .ref g4, .ref g5, .ref g6, .int 0, .ref g7])), (g1, .inl (cy 0, 596, .inl (fun _ => 0)))] sz) ([]) t) (va_A [(g0, .inr (8, [.ref g1, .ref g2, .int 0, .int 1, .ref g3, .int 0, .ref g4, .ref g5, .ref g6, .int 0, .ref g7])), (g1, .inl (cy 0, 596, .inl (fun _ => 0)))] sz)) 0 0 (va_A [(g0, .inr (8, [.ref g1, .ref g2, .int 0, .int 1, .ref g3, .int 0, .ref g4, .ref g5, .ref g6, .int 0, .ref g7])), (g1, .inl (cy 0, 596, .inl (fun _ => 0)))] sz) := by
  refine Met.ofW (cc := cX8_mediator) (maxL := 4) (ret := (some .int)) (by decide) rfl ?_
  intro p e s m args below meth c s₁ B hml hv
  obtain ⟨rfl, hsz, hE, hP, hK, hD0⟩ := hv
  have hx := B.exec
  have hb := B.bytes
  have hr := B.returns
  have hts := atoms_spec (ws := wsX8_mediator) B.pre
  have hown : s.vm.findClass RX8 = some m.cls := findClass_of_methodNamed B.named
  have hlocks := B.notSynchronized
  subst hsz
  have hD := hD0.self (sz := s.heap.size)
  generalize hAe : va_A [(g0, .inr (8, [.ref g1, .ref g2, .int 0, .int 1, .ref g3, .int 0, .ref g4, .ref g5, .ref g6, .int 0, .ref g7])), (g1, .inl (cy 0, 596, .inl (fun _ => 0)))] s.heap.size = A at hD ⊢
  have hA : ∀ q : Nat, s.heap.size ≤ q → A q := fun q h => by rw [← hAe]; exact Or.inr h
  have hS : va_S A s.heap s.heap [] := va_S.rf
  have hP : va_P (dC, dI) vwCl [(g0, .inr (8, [.ref g1, .ref g2, .int 0, .int 1, .ref g3, .int 0, .ref g4, .ref g5, .ref g6, .int 0, .ref g7])), (g1, .inl (cy 0, 596, .inl (fun _ => 0)))] s.heap := hP
  have hl := lv_entry ([.ref g0, .int x, .int y]) (n := 4) (Nat.le_of_ble_eq_true rfl)
  rw [lg_entry_eq]
  generalize (lg_sl ([.ref g0, .int x, .int y]) ++ List.replicate (4 - (lg_sl ([.ref g0, .int x, .int y])).length) Slot.unset).toArray = ls at hl ⊢
  have hl : lv_has ls 4 [(0, .ref g0), (1, .int x), (2, .int y)] := hl
  refine lv_iload_n hx hb dX8_mediator_0 rfl (lv_at hl 1 rfl) ?_
  refine lv_iconst (v := 0) hx hb dX8_mediator_1 (by decide) ?_
  refine lv_bipush (v := 9) hx hb dX8_mediator_2 (by decide) ?_
  refine yc_p hP hS (va_runS (As := [.int x, .int 0, .int 9]) (rest := []) ⟨hx, hb, hml, hown, hts⟩ (c_X8_in l x 0 9) (cwS 3 hts gX8_mediator_X8_in rfl rfl rfl (by decide +kernel) ⟨Nat.le_of_ble_eq_true rfl, Nat.le_of_ble_eq_true rfl⟩) ex_preP rfl rfl hl.1 rfl (lv_room (Nat.le_of_ble_eq_true rfl)) dX8_mediator_4 ⟨Nat.le_of_ble_eq_true rfl, Nat.le_of_ble_eq_true rfl⟩) (fun r_1 H locs hw_1 hP hS => ?_)
  rcases wi_ca hw_1 with ⟨rfl, hc⟩ | ⟨rfl, hc⟩
  · refine lv_if_eq (tgt := 20) hx hb dX8_mediator_7 (by decide) (fun c9 => absurd c9 (by decide)) (fun _ => ?_)
    refine lv_iload_n hx hb dX8_mediator_10 rfl (lv_at hl 2 rfl) ?_
    refine lv_iconst (v := 1) hx hb dX8_mediator_11 (by decide) ?_
    refine lv_bipush (v := 7) hx hb dX8_mediator_12 (by decide) ?_
    refine yc_p hP hS (va_runS (As := [.int y, .int 1, .int 7]) (rest := []) ⟨hx, hb, hml, hown, hts⟩ (c_X8_in l y 1 7) (cwS 3 hts gX8_mediator_X8_in rfl rfl rfl (by decide +kernel) ⟨Nat.le_of_ble_eq_true rfl, Nat.le_of_ble_eq_true rfl⟩) ex_preP rfl rfl hl.1 rfl (lv_room (Nat.le_of_ble_eq_true rfl)) dX8_mediator_14 ⟨Nat.le_of_ble_eq_true rfl, Nat.le_of_ble_eq_true rfl⟩) (fun r_2 H locs hw_2 hP hS => ?_)
    rcases wi_ca hw_2 with ⟨rfl, hc2⟩ | ⟨rfl, hc2⟩
    · refine lv_if_ne (tgt := 22) hx hb dX8_mediator_17 (by decide) (fun _ => ?_) (fun c9 => absurd c9 (by decide))
      refine lv_aload_n hx hb dX8_mediator_22 rfl (lv_at hl 0 rfl) ?_
      refine va_get (D := (dC, dI)) (ci := 8) (v := .ref g1) (C := RX8) (T := TX8) (N := 11) hx hb hts (by decide +kernel) hown hK hP 0 rfl rfl 0 (by decide) (hts (.fieldLink RX8 7 "QuietStairsModel" "s" "[I") (by decide +kernel)) (fun _ h9 => h9) rfl dX8_mediator_23 ?_
      refine lv_iconst (v := 1) hx hb dX8_mediator_26 (by decide) ?_
      refine va_iald hx hb hK hP 1 0 rfl rfl (by unfold vp_in; decide) dX8_mediator_27 ?_
      refine lv_topi (fun x_3 ex_3 => ?_)
      obtain rfl : x_3 = 0 := ex_3.trans (rfl)
      refine lv_iconst (v := 4) hx hb dX8_mediator_28 (by decide) ?_
      refine lv_icmp_ne (tgt := 35) hx hb dX8_mediator_29 (by decide) (fun _ => ?_) (fun c9 => absurd c9 (by decide))
      refine lv_aload_n hx hb dX8_mediator_35 rfl (lv_at hl 0 rfl) ?_
      refine va_get (D := (dC, dI)) (ci := 8) (v := .ref g1) (C := RX8) (T := TX8) (N := 11) hx hb hts (by decide +kernel) hown hK hP 0 rfl rfl 0 (by decide) (hts (.fieldLink RX8 7 "QuietStairsModel" "s" "[I") (by decide +kernel)) (fun _ h9 => h9) rfl dX8_mediator_36 ?_
      refine lv_iconst (v := 1) hx hb dX8_mediator_39 (by decide) ?_
      refine va_iald hx hb hK hP 1 0 rfl rfl (by unfold vp_in; decide) dX8_mediator_40 ?_
      refine lv_topi (fun x_4 ex_4 => ?_)
      obtain rfl : x_4 = 0 := ex_4.trans (rfl)
      refine lv_istore_n (lv' := [(3, .int 0), (0, .ref g0), (1, .int x), (2, .int y)]) hx hb dX8_mediator_41 rfl hl (by decide) rfl (fun ls hl => ?_)
      refine lv_aload_n hx hb dX8_mediator_42 rfl (lv_at hl 1 rfl) ?_
      refine va_get (D := (dC, dI)) (ci := 8) (v := .ref g1) (C := RX8) (T := TX8) (N := 11) hx hb hts (by decide +kernel) hown hK hP 0 rfl rfl 0 (by decide) (hts (.fieldLink RX8 7 "QuietStairsModel" "s" "[I") (by decide +kernel)) (fun _ h9 => h9) rfl dX8_mediator_43 ?_
      refine lv_bipush (v := 20) hx hb dX8_mediator_46 (by decide) ?_
      refine lv_iconst (v := 2) hx hb dX8_mediator_48 (by decide) ?_
      refine lv_iload_n hx hb dX8_mediator_49 rfl (lv_at hl 0 rfl) ?_
      refine lv_imul hx hb dX8_mediator_50 ?_
      refine lv_topi (fun x_5 ex_5 => ?_)
      obtain rfl : x_5 = 0 := ex_5.trans (by decide)
      refine lv_iadd hx hb dX8_mediator_51 ?_
      refine lv_topi (fun x_6 ex_6 => ?_)
      obtain rfl : x_6 = 20 := ex_6.trans (by decide)
      refine lv_iload_n hx hb dX8_mediator_52 rfl (lv_at hl 2 rfl) ?_
      refine va_iast hx hb hK hP hD hS 1 0 rfl rfl (by unfold vp_in; decide) dX8_mediator_53 (fun H locs hP hD hS => ?_)
      have hP : va_P (dC, dI) vwCl [(g0, .inr (8, [.ref g1, .ref g2, .int 0, .int 1, .ref g3, .int 0, .ref g4, .ref g5, .ref g6, .int 0, .ref g7])), (g1, .inl (cy 0, 596, .inl (upd (fun _ => 0) (20 : Int32).toNatClampNeg x)))] H := hP
      have hD : va_D A [(g0, .inr (8, [.ref g1, .ref g2, .int 0, .int 1, .ref g3, .int 0, .ref g4, .ref g5, .ref g6, .int 0, .ref g7])), (g1, .inl (cy 0, 596, .inl (upd (fun _ => 0) (20 : Int32).toNatClampNeg x)))] := hD
      refine lv_aload_n hx hb dX8_mediator_54 rfl (lv_at hl 1 rfl) ?_
      refine va_get (D := (dC, dI)) (ci := 8) (v := .ref g1) (C := RX8) (T := TX8) (N := 11) hx hb hts (by decide +kernel) hown hK hP 0 rfl rfl 0 (by decide) (hts (.fieldLink RX8 7 "QuietStairsModel" "s" "[I") (by decide +kernel)) (fun _ h9 => h9) rfl dX8_mediator_55 ?_
      refine lv_bipush (v := 20) hx hb dX8_mediator_58 (by decide) ?_
      refine lv_iconst (v := 2) hx hb dX8_mediator_60 (by decide) ?_
      refine lv_iload_n hx hb dX8_mediator_61 rfl (lv_at hl 0 rfl) ?_
      refine lv_imul hx hb dX8_mediator_62 ?_
      refine lv_topi (fun x_7 ex_7 => ?_)
      obtain rfl : x_7 = 0 := ex_7.trans (by decide)
      refine lv_iadd hx hb dX8_mediator_63 ?_
      refine lv_topi (fun x_8 ex_8 => ?_)
      obtain rfl : x_8 = 20 := ex_8.trans (by decide)
      refine lv_iconst (v := 1) hx hb dX8_mediator_64 (by decide) ?_
      refine lv_iadd hx hb dX8_mediator_65 ?_
      refine lv_topi (fun x_9 ex_9 => ?_)
      obtain rfl : x_9 = 21 := ex_9.trans (by decide)
      refine lv_iload_n hx hb dX8_mediator_66 rfl (lv_at hl 3 rfl) ?_
      refine va_iast hx hb hK hP hD hS 1 0 rfl rfl (by unfold vp_in; decide) dX8_mediator_67 (fun H locs hP hD hS => ?_)
      have hP : va_P (dC, dI) vwCl [(g0, .inr (8, [.ref g1, .ref g2, .int 0, .int 1, .ref g3, .int 0, .ref g4, .ref g5, .ref g6, .int 0, .ref g7])), (g1, .inl (cy 0, 596, .inl (upd (upd (fun _ => 0) (20 : Int32).toNatClampNeg x) (21 : Int32).toNatClampNeg y)))] H := hP
      have hD : va_D A [(g0, .inr (8, [.ref g1, .ref g2, .int 0, .int 1, .ref g3, .int 0, .ref g4, .ref g5, .ref g6, .int 0, .ref g7])), (g1, .inl (cy 0, 596, .inl (upd (upd (fun _ => 0) (20 : Int32).toNatClampNeg x) (21 : Int32).toNatClampNeg y)))] := hD
      refine lv_aload_n hx hb dX8_mediator_68 rfl (lv_at hl 1 rfl) ?_
      refine va_get (D := (dC, dI)) (ci := 8) (v := .ref g1) (C := RX8) (T := TX8) (N := 11) hx hb hts (by decide +kernel) hown hK hP 0 rfl rfl 0 (by decide) (hts (.fieldLink RX8 7 "QuietStairsModel" "s" "[I") (by decide +kernel)) (fun _ h9 => h9) rfl dX8_mediator_69 ?_
      refine lv_bipush (v := 28) hx hb dX8_mediator_72 (by decide) ?_
      refine lv_iload_n hx hb dX8_mediator_74 rfl (lv_at hl 0 rfl) ?_
      refine lv_iadd hx hb dX8_mediator_75 ?_
      refine lv_topi (fun x_10 ex_10 => ?_)
      obtain rfl : x_10 = 28 := ex_10.trans (by decide)
      refine lv_iconst (v := 0) hx hb dX8_mediator_76 (by decide) ?_
      refine va_iast hx hb hK hP hD hS 1 0 rfl rfl (by unfold vp_in; decide) dX8_mediator_77 (fun H locs hP hD hS => ?_)
      have hP : va_P (dC, dI) vwCl [(g0, .inr (8, [.ref g1, .ref g2, .int 0, .int 1, .ref g3, .int 0, .ref g4, .ref g5, .ref g6, .int 0, .ref g7])), (g1, .inl (cy 0, 596, .inl (upd (upd (upd (fun _ => 0) (20 : Int32).toNatClampNeg x) (21 : Int32).toNatClampNeg y) (28 : Int32).toNatClampNeg 0)))] H := hP
      have hD : va_D A [(g0, .inr (8, [.ref g1, .ref g2, .int 0, .int 1, .ref g3, .int 0, .ref g4, .ref g5, .ref g6, .int 0, .ref g7])), (g1, .inl (cy 0, 596, .inl (upd (upd (upd (fun _ => 0) (20 : Int32).toNatClampNeg x) (21 : Int32).toNatClampNeg y) (28 : Int32).toNatClampNeg 0)))] := hD
      refine lv_aload_n hx hb dX8_mediator_78 rfl (lv_at hl 1 rfl) ?_
      refine va_get (D := (dC, dI)) (ci := 8) (v := .ref g1) (C := RX8) (T := TX8) (N := 11) hx hb hts (by decide +kernel) hown hK hP 0 rfl rfl 0 (by decide) (hts (.fieldLink RX8 7 "QuietStairsModel" "s" "[I") (by decide +kernel)) (fun _ h9 => h9) rfl dX8_mediator_79 ?_
      refine lv_iconst (v := 1) hx hb dX8_mediator_82 (by decide) ?_
      refine lv_dup2_11 hx hb dX8_mediator_83 rfl rfl ?_
      refine va_iald hx hb hK hP 1 0 rfl rfl (by unfold vp_in; decide) dX8_mediator_84 ?_
      refine lv_topi (fun x_11 ex_11 => ?_)
      obtain rfl : x_11 = 0 := ex_11.trans (rfl)
      refine lv_iconst (v := 1) hx hb dX8_mediator_85 (by decide) ?_
      refine lv_iadd hx hb dX8_mediator_86 ?_
      refine lv_topi (fun x_12 ex_12 => ?_)
      obtain rfl : x_12 = 1 := ex_12.trans (by decide)
      refine va_iast hx hb hK hP hD hS 1 0 rfl rfl (by unfold vp_in; decide) dX8_mediator_87 (fun H locs hP hD hS => ?_)
      have hP : va_P (dC, dI) vwCl [(g0, .inr (8, [.ref g1, .ref g2, .int 0, .int 1, .ref g3, .int 0, .ref g4, .ref g5, .ref g6, .int 0, .ref g7])), (g1, .inl (cy 0, 596, .inl (upd (upd (upd (upd (fun _ => 0) (20 : Int32).toNatClampNeg x) (21 : Int32).toNatClampNeg y) (28 : Int32).toNatClampNeg 0) (1 : Int32).toNatClampNeg 1)))] H := hP
      have hD : va_D A [(g0, .inr (8, [.ref g1, .ref g2, .int 0, .int 1, .ref g3, .int 0, .ref g4, .ref g5, .ref g6, .int 0, .ref g7])), (g1, .inl (cy 0, 596, .inl (upd (upd (upd (upd (fun _ => 0) (20 : Int32).toNatClampNeg x) (21 : Int32).toNatClampNeg y) (28 : Int32).toNatClampNeg 0) (1 : Int32).toNatClampNeg 1)))] := hD
      refine lv_iload_n hx hb dX8_mediator_88 rfl (lv_at hl 0 rfl) ?_
      have hP9 := hP.sub (ws' := []) [] rfl
      have hD9 := hD.sub (ws' := []) [] (by decide) rfl
      exact W.iret (v := 0) hx hb hr (fun t ht hW => ⟨⟨0, (), rfl, by rw [if_pos ⟨hc, hc2⟩], by rw [ht]; exact hP9, hD9⟩, hS.F ht⟩) hS.2.2 dX8_mediator_89
    · refine lv_if_ne (tgt := 22) hx hb dX8_mediator_17 (by decide) (fun c9 => absurd c9 (by decide)) (fun _ => ?_)
      refine lv_iconst (v := (-1)) hx hb dX8_mediator_20 (by decide) ?_
      have hP9 := hP.sub (ws' := []) [] rfl
      have hD9 := hD.sub (ws' := []) [] (by decide) rfl
      exact W.iret (v := (-1)) hx hb hr (fun t ht hW => ⟨⟨(-1), (), rfl, by rw [if_neg (fun q => hc2 q.2)], by rw [ht]; exact hP9, hD9⟩, hS.F ht⟩) hS.2.2 dX8_mediator_21
  · refine lv_if_eq (tgt := 20) hx hb dX8_mediator_7 (by decide) (fun _ => ?_) (fun c9 => absurd c9 (by decide))
    refine lv_iconst (v := (-1)) hx hb dX8_mediator_20 (by decide) ?_
    have hP9 := hP.sub (ws' := []) [] rfl
    have hD9 := hD.sub (ws' := []) [] (by decide) rfl
    exact W.iret (v := (-1)) hx hb hr (fun t ht hW => ⟨⟨(-1), (), rfl, by rw [if_neg (fun q => hc q.1)], by rw [ht]; exact hP9, hD9⟩, hS.F ht⟩) hS.2.2 dX8_mediator_21
