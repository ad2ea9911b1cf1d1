theorem dX7_of_86 : decode cX7_of 86 = .ok (.ireturn, 1) := by decide +kernel
theorem dX7_of_87 : decode cX7_of 87 = .ok (.aload_n 3, 1) := by decide +kernel
theorem dX7_of_88 : decode cX7_of 88 = .ok (.getfield 99, 3) := by decide +kernel
theorem dX7_of_91 : decode cX7_of 91 = .ok (.iconst 1, 1) := by decide +kernel
theorem dX7_of_92 : decode cX7_of 92 = .ok (.if_icmp .ne 10, 3) := by decide +kernel
theorem dX7_of_95 : decode cX7_of 95 = .ok (.aload_n 3, 1) := by decide +kernel
theorem dX7_of_96 : decode cX7_of 96 = .ok (.getfield 114, 3) := by decide +kernel
theorem dX7_of_99 : decode cX7_of 99 = .ok (.goto 5, 3) := by decide +kernel
theorem dX7_of_102 : decode cX7_of 102 = .ok (.bipush (-5), 2) := by decide +kernel
theorem dX7_of_104 : decode cX7_of 104 = .ok (.ireturn, 1) := by decide +kernel
theorem dX7_of_105 : decode cX7_of 105 = .ok (.aload_n 3, 1) := by decide +kernel
theorem dX7_of_106 : decode cX7_of 106 = .ok (.getfield 117, 3) := by decide +kernel
theorem dX7_of_109 : decode cX7_of 109 = .ok (.ireturn, 1) := by decide +kernel
theorem dX7_of_110 : decode cX7_of 110 = .ok (.aload_n 0, 1) := by decide +kernel
theorem dX7_of_111 : decode cX7_of 111 = .ok (.getfield 12, 3) := by decide +kernel
theorem dX7_of_114 : decode cX7_of 114 = .ok (.iload_n 1, 1) := by decide +kernel
theorem dX7_of_115 : decode cX7_of 115 = .ok (.invokevirtual 120, 3) := by decide +kernel
theorem dX7_of_118 : decode cX7_of 118 = .ok (.ireturn, 1) := by decide +kernel
theorem dX7_of_119 : decode cX7_of 119 = .ok (.aload_n 0, 1) := by decide +kernel
theorem dX7_of_120 : decode cX7_of 120 = .ok (.getfield 12, 3) := by decide +kernel
theorem dX7_of_123 : decode cX7_of 123 = .ok (.iload_n 1, 1) := by decide +kernel
theorem dX7_of_124 : decode cX7_of 124 = .ok (.invokevirtual 124, 3) := by decide +kernel
theorem dX7_of_127 : decode cX7_of 127 = .ok (.invokestatic 127, 3) := by decide +kernel
theorem dX7_of_130 : decode cX7_of 130 = .ok (.ireturn, 1) := by decide +kernel
theorem dX7_of_131 : decode cX7_of 131 = .ok (.aload_n 3, 1) := by decide +kernel
theorem dX7_of_132 : decode cX7_of 132 = .ok (.getfield 102, 3) := by decide +kernel
theorem dX7_of_135 : decode cX7_of 135 = .ok (.ireturn, 1) := by decide +kernel
theorem dX7_of_136 : decode cX7_of 136 = .ok (.iconst (-1), 1) := by decide +kernel
theorem dX7_of_137 : decode cX7_of 137 = .ok (.ireturn, 1) := by decide +kernel
set_option maxRecDepth 20000 in
theorem ggX7_offer_X7_isCase : GoodIn wsX7_offer wsX7_isCase := goodIn_r _ [10, 1, 11, 12, 13, 9, 14, 28, 29, 30, 31, 32, 33, 34, 35, 36, 37, 38, 39] (by decide +kernel) (by decide +kernel)
set_option maxRecDepth 20000 in
theorem gX7_offer_X7_isCase : GoodIn wsX7_offer (wsV RX7 96 RX7 yX7_isCase wsX7_isCase) := goodIn_app (goodIn_of _ (by decide +kernel)) ggX7_offer_X7_isCase
set_option maxRecDepth 20000 in
theorem ggX7_offer_X7_isSide : GoodIn wsX7_offer wsX7_isSide := goodIn_r _ [17, 12, 13, 9, 14] (by decide +kernel) (by decide +kernel)
set_option maxRecDepth 20000 in
theorem gX7_offer_X7_isSide : GoodIn wsX7_offer (va_wsS RX7 132 yX7_isSide wsX7_isSide) := goodIn_app (goodIn_of _ (by decide +kernel)) ggX7_offer_X7_isSide
set_option maxRecDepth 20000 in
theorem ggX7_offer_X7_isWithin : GoodIn wsX7_offer wsX7_isWithin := goodIn_r _ [14] (by decide +kernel) (by decide +kernel)
set_option maxRecDepth 20000 in
theorem gX7_offer_X7_isWithin : GoodIn wsX7_offer (va_wsS RX7 37 yX7_isWithin wsX7_isWithin) := goodIn_app (goodIn_of _ (by decide +kernel)) ggX7_offer_X7_isWithin
set_option maxRecDepth 20000 in
theorem ggX7_offer_X0_endRound : GoodIn wsX7_offer wsX0_endRound := goodIn_r _ [22, 23, 24, 25, 26, 27, 40, 41, 42, 43, 44, 45, 46, 47, 48, 49, 50] (by decide +kernel) (by decide +kernel)
set_option maxRecDepth 20000 in
theorem gX7_offer_X0_endRound : GoodIn wsX7_offer (wsV RX7 138 RX0 yX0_endRound wsX0_endRound) := goodIn_app (goodIn_of _ (by decide +kernel)) ggX7_offer_X0_endRound
theorem dX7_offer_0 : decode cX7_offer 0 = .ok (.aload_n 0, 1) := by decide +kernel
theorem dX7_offer_1 : decode cX7_offer 1 = .ok (.iload_n 1, 1) := by decide +kernel
theorem dX7_offer_2 : decode cX7_offer 2 = .ok (.invokevirtual 96, 3) := by decide +kernel
theorem dX7_offer_5 : decode cX7_offer 5 = .ok (.ifCond .eq 20, 3) := by decide +kernel
theorem dX7_offer_8 : decode cX7_offer 8 = .ok (.iload_n 2, 1) := by decide +kernel
theorem dX7_offer_9 : decode cX7_offer 9 = .ok (.invokestatic 132, 3) := by decide +kernel
theorem dX7_offer_12 : decode cX7_offer 12 = .ok (.ifCond .eq 13, 3) := by decide +kernel
theorem dX7_offer_15 : decode cX7_offer 15 = .ok (.iload_n 3, 1) := by decide +kernel
theorem dX7_offer_16 : decode cX7_offer 16 = .ok (.iconst 0, 1) := by decide +kernel
theorem dX7_offer_17 : decode cX7_offer 17 = .ok (.bipush 100, 2) := by decide +kernel
theorem dX7_offer_19 : decode cX7_offer 19 = .ok (.invokestatic 37, 3) := by decide +kernel
theorem dX7_offer_22 : decode cX7_offer 22 = .ok (.ifCond .ne 5, 3) := by decide +kernel
theorem dX7_offer_25 : decode cX7_offer 25 = .ok (.iconst (-1), 1) := by decide +kernel
theorem dX7_offer_26 : decode cX7_offer 26 = .ok (.ireturn, 1) := by decide +kernel
theorem dX7_offer_27 : decode cX7_offer 27 = .ok (.aload_n 0, 1) := by decide +kernel
theorem dX7_offer_28 : decode cX7_offer 28 = .ok (.getfield 12, 3) := by decide +kernel
theorem dX7_offer_31 : decode cX7_offer 31 = .ok (.getfield 86, 3) := by decide +kernel
theorem dX7_offer_34 : decode cX7_offer 34 = .ok (.iload_n 1, 1) := by decide +kernel
theorem dX7_offer_35 : decode cX7_offer 35 = .ok (.aaload, 1) := by decide +kernel
theorem dX7_offer_36 : decode cX7_offer 36 = .ok (.astore 4, 2) := by decide +kernel
theorem dX7_offer_38 : decode cX7_offer 38 = .ok (.aload 4, 2) := by decide +kernel
theorem dX7_offer_40 : decode cX7_offer 40 = .ok (.getfield 99, 3) := by decide +kernel
theorem dX7_offer_43 : decode cX7_offer 43 = .ok (.ifCond .eq 6, 3) := by decide +kernel
theorem dX7_offer_46 : decode cX7_offer 46 = .ok (.bipush (-4), 2) := by decide +kernel
theorem dX7_offer_48 : decode cX7_offer 48 = .ok (.ireturn, 1) := by decide +kernel
theorem dX7_offer_49 : decode cX7_offer 49 = .ok (.aload 4, 2) := by decide +kernel
theorem dX7_offer_51 : decode cX7_offer 51 = .ok (.getfield 135, 3) := by decide +kernel
theorem dX7_offer_54 : decode cX7_offer 54 = .ok (.iload_n 2, 1) := by decide +kernel
theorem dX7_offer_55 : decode cX7_offer 55 = .ok (.iaload, 1) := by decide +kernel
theorem dX7_offer_56 : decode cX7_offer 56 = .ok (.iconst (-1), 1) := by decide +kernel
theorem dX7_offer_57 : decode cX7_offer 57 = .ok (.if_icmp .eq 6, 3) := by decide +kernel
theorem dX7_offer_60 : decode cX7_offer 60 = .ok (.bipush (-3), 2) := by decide +kernel
theorem dX7_offer_62 : decode cX7_offer 62 = .ok (.ireturn, 1) := by decide +kernel
theorem dX7_offer_63 : decode cX7_offer 63 = .ok (.aload 4, 2) := by decide +kernel
theorem dX7_offer_65 : decode cX7_offer 65 = .ok (.getfield 117, 3) := by decide +kernel
theorem dX7_offer_68 : decode cX7_offer 68 = .ok (.iconst 5, 1) := by decide +kernel
theorem dX7_offer_69 : decode cX7_offer 69 = .ok (.if_icmp .lt 6, 3) := by decide +kernel
theorem dX7_offer_72 : decode cX7_offer 72 = .ok (.bipush (-2), 2) := by decide +kernel
theorem dX7_offer_74 : decode cX7_offer 74 = .ok (.ireturn, 1) := by decide +kernel
theorem dX7_offer_75 : decode cX7_offer 75 = .ok (.aload 4, 2) := by decide +kernel
theorem dX7_offer_77 : decode cX7_offer 77 = .ok (.getfield 135, 3) := by decide +kernel
theorem dX7_offer_80 : decode cX7_offer 80 = .ok (.iload_n 2, 1) := by decide +kernel
theorem dX7_offer_81 : decode cX7_offer 81 = .ok (.iload_n 3, 1) := by decide +kernel
theorem dX7_offer_82 : decode cX7_offer 82 = .ok (.iastore, 1) := by decide +kernel
theorem dX7_offer_83 : decode cX7_offer 83 = .ok (.aload 4, 2) := by decide +kernel
theorem dX7_offer_85 : decode cX7_offer 85 = .ok (.getfield 135, 3) := by decide +kernel
theorem dX7_offer_88 : decode cX7_offer 88 = .ok (.iconst 1, 1) := by decide +kernel
theorem dX7_offer_89 : decode cX7_offer 89 = .ok (.iload_n 2, 1) := by decide +kernel
theorem dX7_offer_90 : decode cX7_offer 90 = .ok (.isub, 1) := by decide +kernel
theorem dX7_offer_91 : decode cX7_offer 91 = .ok (.iaload, 1) := by decide +kernel
theorem dX7_offer_92 : decode cX7_offer 92 = .ok (.iconst (-1), 1) := by decide +kernel
theorem dX7_offer_93 : decode cX7_offer 93 = .ok (.if_icmp .ne 5, 3) := by decide +kernel
theorem dX7_offer_96 : decode cX7_offer 96 = .ok (.iconst 0, 1) := by decide +kernel
theorem dX7_offer_97 : decode cX7_offer 97 = .ok (.ireturn, 1) := by decide +kernel
theorem dX7_offer_98 : decode cX7_offer 98 = .ok (.aload 4, 2) := by decide +kernel
theorem dX7_offer_100 : decode cX7_offer 100 = .ok (.invokevirtual 138, 3) := by decide +kernel
theorem dX7_offer_103 : decode cX7_offer 103 = .ok (.ifCond .eq 7, 3) := by decide +kernel
theorem dX7_offer_106 : decode cX7_offer 106 = .ok (.iconst 1, 1) := by decide +kernel
theorem dX7_offer_107 : decode cX7_offer 107 = .ok (.goto 4, 3) := by decide +kernel
theorem dX7_offer_110 : decode cX7_offer 110 = .ok (.iconst 2, 1) := by decide +kernel
theorem dX7_offer_111 : decode cX7_offer 111 = .ok (.ireturn, 1) := by decide +kernel
set_option maxRecDepth 20000 in
theorem ggX7_put_X7_isCase : GoodIn wsX7_put wsX7_isCase := goodIn_r _ [8, 1, 9, 10, 11, 7, 12, 16, 17, 18, 19, 20, 21, 22, 23, 24, 25, 26, 27] (by decide +kernel) (by decide +kernel)
set_option maxRecDepth 20000 in
theorem gX7_put_X7_isCase : GoodIn wsX7_put (wsV RX7 96 RX7 yX7_isCase wsX7_isCase) := goodIn_app (goodIn_of _ (by decide +kernel)) ggX7_put_X7_isCase
set_option maxRecDepth 20000 in
theorem ggX7_put_X7_isSide : GoodIn wsX7_put wsX7_isSide := goodIn_r _ [15, 10, 11, 7, 12] (by decide +kernel) (by decide +kernel)
set_option maxRecDepth 20000 in
theorem gX7_put_X7_isSide : GoodIn wsX7_put (va_wsS RX7 132 yX7_isSide wsX7_isSide) := goodIn_app (goodIn_of _ (by decide +kernel)) ggX7_put_X7_isSide
theorem dX7_put_0 : decode cX7_put 0 = .ok (.aload_n 0, 1) := by decide +kernel
theorem dX7_put_1 : decode cX7_put 1 = .ok (.iload_n 1, 1) := by decide +kernel
theorem dX7_put_2 : decode cX7_put 2 = .ok (.invokevirtual 96, 3) := by decide +kernel
theorem dX7_put_5 : decode cX7_put 5 = .ok (.ifCond .eq 10, 3) := by decide +kernel
theorem dX7_put_8 : decode cX7_put 8 = .ok (.iload_n 2, 1) := by decide +kernel
theorem dX7_put_9 : decode cX7_put 9 = .ok (.invokestatic 132, 3) := by decide +kernel
theorem dX7_put_12 : decode cX7_put 12 = .ok (.ifCond .ne 5, 3) := by decide +kernel
theorem dX7_put_15 : decode cX7_put 15 = .ok (.iconst (-1), 1) := by decide +kernel
theorem dX7_put_16 : decode cX7_put 16 = .ok (.ireturn, 1) := by decide +kernel
theorem dX7_put_17 : decode cX7_put 17 = .ok (.aload_n 0, 1) := by decide +kernel
theorem dX7_put_18 : decode cX7_put 18 = .ok (.getfield 12, 3) := by decide +kernel
theorem dX7_put_21 : decode cX7_put 21 = .ok (.getfield 86, 3) := by decide +kernel
theorem dX7_put_24 : decode cX7_put 24 = .ok (.iload_n 1, 1) := by decide +kernel
theorem dX7_put_25 : decode cX7_put 25 = .ok (.aaload, 1) := by decide +kernel
theorem dX7_put_26 : decode cX7_put 26 = .ok (.getfield 135, 3) := by decide +kernel
theorem dX7_put_29 : decode cX7_put 29 = .ok (.iload_n 2, 1) := by decide +kernel
theorem dX7_put_30 : decode cX7_put 30 = .ok (.iaload, 1) := by decide +kernel
theorem dX7_put_31 : decode cX7_put 31 = .ok (.iconst (-1), 1) := by decide +kernel
theorem dX7_put_32 : decode cX7_put 32 = .ok (.if_icmp .ne 7, 3) := by decide +kernel
theorem dX7_put_35 : decode cX7_put 35 = .ok (.iconst 0, 1) := by decide +kernel
theorem dX7_put_36 : decode cX7_put 36 = .ok (.goto 4, 3) := by decide +kernel
theorem dX7_put_39 : decode cX7_put 39 = .ok (.iconst 1, 1) := by decide +kernel
theorem dX7_put_40 : decode cX7_put 40 = .ok (.ireturn, 1) := by decide +kernel
set_option maxRecDepth 20000 in
theorem ggX7_learns_X7_isCase : GoodIn wsX7_learns wsX7_isCase := goodIn_r _ [8, 1, 9, 10, 11, 7, 12, 40, 41, 42, 43, 44, 45, 46, 47, 48, 49, 50, 51] (by decide +kernel) (by decide +kernel)
set_option maxRecDepth 20000 in
theorem gX7_learns_X7_isCase : GoodIn wsX7_learns (wsV RX7 96 RX7 yX7_isCase wsX7_isCase) := goodIn_app (goodIn_of _ (by decide +kernel)) ggX7_learns_X7_isCase
set_option maxRecDepth 20000 in
theorem ggX7_learns_X7_isSide : GoodIn wsX7_learns wsX7_isSide := goodIn_r _ [15, 10, 11, 7, 12] (by decide +kernel) (by decide +kernel)
set_option maxRecDepth 20000 in
theorem gX7_learns_X7_isSide : GoodIn wsX7_learns (va_wsS RX7 132 yX7_isSide wsX7_isSide) := goodIn_app (goodIn_of _ (by decide +kernel)) ggX7_learns_X7_isSide
set_option maxRecDepth 20000 in
theorem ggX7_learns_X7_isWithin : GoodIn wsX7_learns wsX7_isWithin := goodIn_r _ [12] (by decide +kernel) (by decide +kernel)
set_option maxRecDepth 20000 in
theorem gX7_learns_X7_isWithin : GoodIn wsX7_learns (va_wsS RX7 37 yX7_isWithin wsX7_isWithin) := goodIn_app (goodIn_of _ (by decide +kernel)) ggX7_learns_X7_isWithin
set_option maxRecDepth 20000 in
theorem ggX7_learns_X0_greatestOfOther : GoodIn wsX7_learns wsX0_greatestOfOther := goodIn_r _ [20, 21, 22, 23, 24, 25, 26, 27, 28, 29, 19, 30, 31, 32, 52, 53, 54, 55, 56, 57, 58, 59, 60, 61, 62] (by decide +kernel) (by decide +kernel)
set_option maxRecDepth 20000 in
theorem gX7_learns_X0_greatestOfOther : GoodIn wsX7_learns (wsV RX7 142 RX0 yX0_greatestOfOther wsX0_greatestOfOther) := goodIn_app (goodIn_of _ (by decide +kernel)) ggX7_learns_X0_greatestOfOther
set_option maxRecDepth 20000 in
theorem ggX7_learns_X0_leastOfOther : GoodIn wsX7_learns wsX0_leastOfOther := goodIn_r _ [36, 21, 22, 37, 38, 25, 39, 27, 28, 29, 19, 30, 31, 32, 52, 53, 54, 55, 56, 57, 58, 59, 60, 61, 62] (by decide +kernel) (by decide +kernel)
set_option maxRecDepth 20000 in
theorem gX7_learns_X0_leastOfOther : GoodIn wsX7_learns (wsV RX7 146 RX0 yX0_leastOfOther wsX0_leastOfOther) := goodIn_app (goodIn_of _ (by decide +kernel)) ggX7_learns_X0_leastOfOther
theorem dX7_learns_0 : decode cX7_learns 0 = .ok (.aload_n 0, 1) := by decide +kernel
theorem dX7_learns_1 : decode cX7_learns 1 = .ok (.iload_n 1, 1) := by decide +kernel
theorem dX7_learns_2 : decode cX7_learns 2 = .ok (.invokevirtual 96, 3) := by decide +kernel
theorem dX7_learns_5 : decode cX7_learns 5 = .ok (.ifCond .eq 10, 3) := by decide +kernel
theorem dX7_learns_8 : decode cX7_learns 8 = .ok (.iload_n 2, 1) := by decide +kernel
theorem dX7_learns_9 : decode cX7_learns 9 = .ok (.invokestatic 132, 3) := by decide +kernel
theorem dX7_learns_12 : decode cX7_learns 12 = .ok (.ifCond .ne 5, 3) := by decide +kernel
theorem dX7_learns_15 : decode cX7_learns 15 = .ok (.iconst (-1), 1) := by decide +kernel
theorem dX7_learns_16 : decode cX7_learns 16 = .ok (.ireturn, 1) := by decide +kernel
theorem dX7_learns_17 : decode cX7_learns 17 = .ok (.aload_n 0, 1) := by decide +kernel
theorem dX7_learns_18 : decode cX7_learns 18 = .ok (.getfield 12, 3) := by decide +kernel
theorem dX7_learns_21 : decode cX7_learns 21 = .ok (.getfield 86, 3) := by decide +kernel
theorem dX7_learns_24 : decode cX7_learns 24 = .ok (.iload_n 1, 1) := by decide +kernel
theorem dX7_learns_25 : decode cX7_learns 25 = .ok (.aaload, 1) := by decide +kernel
theorem dX7_learns_26 : decode cX7_learns 26 = .ok (.astore 5, 2) := by decide +kernel
theorem dX7_learns_28 : decode cX7_learns 28 = .ok (.iload_n 3, 1) := by decide +kernel
theorem dX7_learns_29 : decode cX7_learns 29 = .ok (.iconst 0, 1) := by decide +kernel
theorem dX7_learns_30 : decode cX7_learns 30 = .ok (.aload 5, 2) := by decide +kernel
theorem dX7_learns_32 : decode cX7_learns 32 = .ok (.getfield 117, 3) := by decide +kernel
theorem dX7_learns_35 : decode cX7_learns 35 = .ok (.iconst 1, 1) := by decide +kernel
theorem dX7_learns_36 : decode cX7_learns 36 = .ok (.isub, 1) := by decide +kernel
theorem dX7_learns_37 : decode cX7_learns 37 = .ok (.invokestatic 37, 3) := by decide +kernel
theorem dX7_learns_40 : decode cX7_learns 40 = .ok (.ifCond .ne 6, 3) := by decide +kernel
theorem dX7_learns_43 : decode cX7_learns 43 = .ok (.bipush (-5), 2) := by decide +kernel
theorem dX7_learns_45 : decode cX7_learns 45 = .ok (.ireturn, 1) := by decide +kernel
theorem dX7_learns_46 : decode cX7_learns 46 = .ok (.iload 4, 2) := by decide +kernel
theorem dX7_learns_48 : decode cX7_learns 48 = .ok (.ifCond .eq 13, 3) := by decide +kernel
theorem dX7_learns_51 : decode cX7_learns 51 = .ok (.aload 5, 2) := by decide +kernel
theorem dX7_learns_53 : decode cX7_learns 53 = .ok (.iload_n 2, 1) := by decide +kernel
theorem dX7_learns_54 : decode cX7_learns 54 = .ok (.iload_n 3, 1) := by decide +kernel
theorem dX7_learns_55 : decode cX7_learns 55 = .ok (.invokevirtual 142, 3) := by decide +kernel
theorem dX7_learns_58 : decode cX7_learns 58 = .ok (.goto 10, 3) := by decide +kernel
theorem dX7_learns_61 : decode cX7_learns 61 = .ok (.aload 5, 2) := by decide +kernel
theorem dX7_learns_63 : decode cX7_learns 63 = .ok (.iload_n 2, 1) := by decide +kernel
theorem dX7_learns_64 : decode cX7_learns 64 = .ok (.iload_n 3, 1) := by decide +kernel
theorem dX7_learns_65 : decode cX7_learns 65 = .ok (.invokevirtual 146, 3) := by decide +kernel
theorem dX7_learns_68 : decode cX7_learns 68 = .ok (.ireturn, 1) := by decide +kernel
set_option maxRecDepth 20000 in
theorem ggX7_maySit_X7_isWithin : GoodIn wsX7_maySit wsX7_isWithin := goodIn_r _ [6] (by decide +kernel) (by decide +kernel)
set_option maxRecDepth 20000 in
theorem gX7_maySit_X7_isWithin : GoodIn wsX7_maySit (va_wsS RX7 37 yX7_isWithin wsX7_isWithin) := goodIn_app (goodIn_of _ (by decide +kernel)) ggX7_maySit_X7_isWithin
set_option maxRecDepth 20000 in
theorem ggX7_maySit_X1_hasPair : GoodIn wsX7_maySit wsX1_hasPair := goodIn_r _ [11, 12, 41, 42, 43, 44, 45, 46, 47] (by decide +kernel) (by decide +kernel)
set_option maxRecDepth 20000 in
theorem gX7_maySit_X1_hasPair : GoodIn wsX7_maySit (wsV RX7 149 RX1 yX1_hasPair wsX1_hasPair) := goodIn_app (goodIn_of _ (by decide +kernel)) ggX7_maySit_X1_hasPair
set_option maxRecDepth 20000 in
theorem ggX7_maySit_X7_isCase : GoodIn wsX7_maySit wsX7_isCase := goodIn_r _ [16, 1, 17, 3, 4, 5, 6, 36, 37, 38, 39, 40, 41, 42, 43, 44, 45, 46, 47] (by decide +kernel) (by decide +kernel)
set_option maxRecDepth 20000 in
theorem gX7_maySit_X7_isCase : GoodIn wsX7_maySit (wsV RX7 96 RX7 yX7_isCase wsX7_isCase) := goodIn_app (goodIn_of _ (by decide +kernel)) ggX7_maySit_X7_isCase
set_option maxRecDepth 20000 in
theorem ggX7_maySit_X1_pairFits : GoodIn wsX7_maySit wsX1_pairFits := goodIn_r _ [21, 22, 23, 24, 25, 26, 27, 5, 28, 29, 30, 31, 10, 32, 33, 34, 35, 41, 42, 43, 44, 45, 46, 47, 48, 49, 50, 51, 52, 53, 54, 55, 56, 57, 58, 59, 60, 61, 62, 63] (by decide +kernel) (by decide +kernel)
set_option maxRecDepth 20000 in
theorem gX7_maySit_X1_pairFits : GoodIn wsX7_maySit (wsV RX7 152 RX1 yX1_pairFits wsX1_pairFits) := goodIn_app (goodIn_of _ (by decide +kernel)) ggX7_maySit_X1_pairFits
theorem dX7_maySit_0 : decode cX7_maySit 0 = .ok (.iload_n 1, 1) := by decide +kernel
theorem dX7_maySit_1 : decode cX7_maySit 1 = .ok (.iconst 0, 1) := by decide +kernel
theorem dX7_maySit_2 : decode cX7_maySit 2 = .ok (.iconst 5, 1) := by decide +kernel
theorem dX7_maySit_3 : decode cX7_maySit 3 = .ok (.invokestatic 37, 3) := by decide +kernel
theorem dX7_maySit_6 : decode cX7_maySit 6 = .ok (.ifCond .eq 22, 3) := by decide +kernel
theorem dX7_maySit_9 : decode cX7_maySit 9 = .ok (.aload_n 0, 1) := by decide +kernel
theorem dX7_maySit_10 : decode cX7_maySit 10 = .ok (.getfield 12, 3) := by decide +kernel
theorem dX7_maySit_13 : decode cX7_maySit 13 = .ok (.iload_n 1, 1) := by decide +kernel
theorem dX7_maySit_14 : decode cX7_maySit 14 = .ok (.invokevirtual 149, 3) := by decide +kernel
theorem dX7_maySit_17 : decode cX7_maySit 17 = .ok (.ifCond .eq 11, 3) := by decide +kernel
theorem dX7_maySit_20 : decode cX7_maySit 20 = .ok (.aload_n 0, 1) := by decide +kernel
theorem dX7_maySit_21 : decode cX7_maySit 21 = .ok (.iload_n 2, 1) := by decide +kernel
theorem dX7_maySit_22 : decode cX7_maySit 22 = .ok (.invokevirtual 96, 3) := by decide +kernel
theorem dX7_maySit_25 : decode cX7_maySit 25 = .ok (.ifCond .ne 5, 3) := by decide +kernel
theorem dX7_maySit_28 : decode cX7_maySit 28 = .ok (.iconst (-1), 1) := by decide +kernel
theorem dX7_maySit_29 : decode cX7_maySit 29 = .ok (.ireturn, 1) := by decide +kernel
theorem dX7_maySit_30 : decode cX7_maySit 30 = .ok (.aload_n 0, 1) := by decide +kernel
theorem dX7_maySit_31 : decode cX7_maySit 31 = .ok (.getfield 12, 3) := by decide +kernel
theorem dX7_maySit_34 : decode cX7_maySit 34 = .ok (.iload_n 1, 1) := by decide +kernel
theorem dX7_maySit_35 : decode cX7_maySit 35 = .ok (.aload_n 0, 1) := by decide +kernel
theorem dX7_maySit_36 : decode cX7_maySit 36 = .ok (.getfield 12, 3) := by decide +kernel
theorem dX7_maySit_39 : decode cX7_maySit 39 = .ok (.getfield 86, 3) := by decide +kernel
theorem dX7_maySit_42 : decode cX7_maySit 42 = .ok (.iload_n 2, 1) := by decide +kernel
theorem dX7_maySit_43 : decode cX7_maySit 43 = .ok (.aaload, 1) := by decide +kernel
theorem dX7_maySit_44 : decode cX7_maySit 44 = .ok (.invokevirtual 152, 3) := by decide +kernel
theorem dX7_maySit_47 : decode cX7_maySit 47 = .ok (.ifCond .eq 7, 3) := by decide +kernel
theorem dX7_maySit_50 : decode cX7_maySit 50 = .ok (.iconst 1, 1) := by decide +kernel
theorem dX7_maySit_51 : decode cX7_maySit 51 = .ok (.goto 4, 3) := by decide +kernel
theorem dX7_maySit_54 : decode cX7_maySit 54 = .ok (.iconst 0, 1) := by decide +kernel
theorem dX7_maySit_55 : decode cX7_maySit 55 = .ok (.ireturn, 1) := by decide +kernel
set_option maxRecDepth 20000 in
theorem ggX7_rooms_X7_isWithin : GoodIn wsX7_rooms wsX7_isWithin := goodIn_r _ [5] (by decide +kernel) (by decide +kernel)
set_option maxRecDepth 20000 in
theorem gX7_rooms_X7_isWithin : GoodIn wsX7_rooms (va_wsS RX7 37 yX7_isWithin wsX7_isWithin) := goodIn_app (goodIn_of _ (by decide +kernel)) ggX7_rooms_X7_isWithin
theorem dX7_rooms_0 : decode cX7_rooms 0 = .ok (.iload_n 1, 1) := by decide +kernel
theorem dX7_rooms_1 : decode cX7_rooms 1 = .ok (.iconst 1, 1) := by decide +kernel
theorem dX7_rooms_2 : decode cX7_rooms 2 = .ok (.iconst 2, 1) := by decide +kernel
theorem dX7_rooms_3 : decode cX7_rooms 3 = .ok (.invokestatic 37, 3) := by decide +kernel
theorem dX7_rooms_6 : decode cX7_rooms 6 = .ok (.ifCond .ne 5, 3) := by decide +kernel
theorem dX7_rooms_9 : decode cX7_rooms 9 = .ok (.iconst (-1), 1) := by decide +kernel
theorem dX7_rooms_10 : decode cX7_rooms 10 = .ok (.ireturn, 1) := by decide +kernel
theorem dX7_rooms_11 : decode cX7_rooms 11 = .ok (.aload_n 0, 1) := by decide +kernel
theorem dX7_rooms_12 : decode cX7_rooms 12 = .ok (.getfield 33, 3) := by decide +kernel
theorem dX7_rooms_15 : decode cX7_rooms 15 = .ok (.istore_n 2, 1) := by decide +kernel
theorem dX7_rooms_16 : decode cX7_rooms 16 = .ok (.aload_n 0, 1) := by decide +kernel
theorem dX7_rooms_17 : decode cX7_rooms 17 = .ok (.iload_n 1, 1) := by decide +kernel
theorem dX7_rooms_18 : decode cX7_rooms 18 = .ok (.putfield 33, 3) := by decide +kernel
theorem dX7_rooms_21 : decode cX7_rooms 21 = .ok (.iload_n 2, 1) := by decide +kernel
theorem dX7_rooms_22 : decode cX7_rooms 22 = .ok (.ireturn, 1) := by decide +kernel
set_option maxRecDepth 20000 in
theorem ggX7_plan_X7_isCase : GoodIn wsX7_plan wsX7_isCase := goodIn_r _ [10, 1, 11, 12, 13, 9, 14, 95, 96, 97, 98, 99, 100, 101, 102, 103, 104, 105, 106] (by decide +kernel) (by decide +kernel)
set_option maxRecDepth 20000 in
theorem gX7_plan_X7_isCase : GoodIn wsX7_plan (wsV RX7 96 RX7 yX7_isCase wsX7_isCase) := goodIn_app (goodIn_of _ (by decide +kernel)) ggX7_plan_X7_isCase
set_option maxRecDepth 20000 in
theorem ggX7_plan_X4_findPlan : GoodIn wsX7_plan wsX4_findPlan := goodIn_r _ [19, 20, 21, 22, 23, 24, 25, 26, 27, 28, 29, 30, 31, 32, 33, 18, 34, 35, 36, 37, 38, 39, 40, 41, 42, 43, 44, 45, 46, 47, 48, 49, 50, 51, 52, 53, 54, 55, 56, 57, 58, 59, 9, 60, 61, 62, 63, 64, 65, 66, 67, 68, 69, 70, 71, 72, 73, 74, 75, 76, 77, 78, 79, 80, 81, 82, 83, 84, 85, 86, 87, 88, 89, 90, 100, 101, 102, 103, 104, 105, 106, 118, 119, 120, 121, 122, 123, 124, 125, 126, 127, 128, 107, 108, 109, 110, 111, 112, 113, 114, 115, 116, 117, 129, 130, 131, 132, 133] (by decide +kernel) (by decide +kernel)
set_option maxRecDepth 20000 in
theorem gX7_plan_X4_findPlan : GoodIn wsX7_plan (wsV RX7 156 RX4 yX4_findPlan wsX4_findPlan) := goodIn_app (goodIn_of _ (by decide +kernel)) ggX7_plan_X4_findPlan
set_option maxRecDepth 20000 in
theorem ggX7_plan_X4_seatOf : GoodIn wsX7_plan wsX4_seatOf := goodIn_r _ [94, 27, 38, 78, 118, 119, 120, 121, 122, 123, 124, 125, 126, 127, 128] (by decide +kernel) (by decide +kernel)
set_option maxRecDepth 20000 in
theorem gX7_plan_X4_seatOf : GoodIn wsX7_plan (wsV RX7 160 RX4 yX4_seatOf wsX4_seatOf) := goodIn_app (goodIn_of _ (by decide +kernel)) ggX7_plan_X4_seatOf
theorem dX7_plan_0 : decode cX7_plan 0 = .ok (.aload_n 0, 1) := by decide +kernel
theorem dX7_plan_1 : decode cX7_plan 1 = .ok (.iload_n 1, 1) := by decide +kernel
theorem dX7_plan_2 : decode cX7_plan 2 = .ok (.invokevirtual 96, 3) := by decide +kernel
theorem dX7_plan_5 : decode cX7_plan 5 = .ok (.ifCond .ne 5, 3) := by decide +kernel
theorem dX7_plan_8 : decode cX7_plan 8 = .ok (.iconst (-1), 1) := by decide +kernel
theorem dX7_plan_9 : decode cX7_plan 9 = .ok (.ireturn, 1) := by decide +kernel
theorem dX7_plan_10 : decode cX7_plan 10 = .ok (.aload_n 0, 1) := by decide +kernel
theorem dX7_plan_11 : decode cX7_plan 11 = .ok (.getfield 12, 3) := by decide +kernel
theorem dX7_plan_14 : decode cX7_plan 14 = .ok (.getfield 86, 3) := by decide +kernel
theorem dX7_plan_17 : decode cX7_plan 17 = .ok (.iload_n 1, 1) := by decide +kernel
theorem dX7_plan_18 : decode cX7_plan 18 = .ok (.aaload, 1) := by decide +kernel
theorem dX7_plan_19 : decode cX7_plan 19 = .ok (.getfield 99, 3) := by decide +kernel
theorem dX7_plan_22 : decode cX7_plan 22 = .ok (.ifCond .eq 6, 3) := by decide +kernel
theorem dX7_plan_25 : decode cX7_plan 25 = .ok (.bipush (-4), 2) := by decide +kernel
theorem dX7_plan_27 : decode cX7_plan 27 = .ok (.ireturn, 1) := by decide +kernel
theorem dX7_plan_28 : decode cX7_plan 28 = .ok (.aload_n 0, 1) := by decide +kernel
theorem dX7_plan_29 : decode cX7_plan 29 = .ok (.getfield 19, 3) := by decide +kernel
theorem dX7_plan_32 : decode cX7_plan 32 = .ok (.aload_n 0, 1) := by decide +kernel
theorem dX7_plan_33 : decode cX7_plan 33 = .ok (.getfield 12, 3) := by decide +kernel
theorem dX7_plan_36 : decode cX7_plan 36 = .ok (.aload_n 0, 1) := by decide +kernel
theorem dX7_plan_37 : decode cX7_plan 37 = .ok (.getfield 33, 3) := by decide +kernel
theorem dX7_plan_40 : decode cX7_plan 40 = .ok (.invokevirtual 156, 3) := by decide +kernel
theorem dX7_plan_43 : decode cX7_plan 43 = .ok (.aload_n 0, 1) := by decide +kernel
theorem dX7_plan_44 : decode cX7_plan 44 = .ok (.getfield 19, 3) := by decide +kernel
theorem dX7_plan_47 : decode cX7_plan 47 = .ok (.iload_n 1, 1) := by decide +kernel
theorem dX7_plan_48 : decode cX7_plan 48 = .ok (.invokevirtual 160, 3) := by decide +kernel
theorem dX7_plan_51 : decode cX7_plan 51 = .ok (.ireturn, 1) := by decide +kernel
set_option maxRecDepth 20000 in
theorem ggX7_waits_X4_findPlan : GoodIn wsX7_waits wsX4_findPlan := goodIn_r _ [9, 10, 11, 12, 13, 14, 15, 16, 17, 18, 19, 20, 21, 22, 23, 8, 24, 25, 26, 27, 28, 29, 30, 31, 32, 33, 34, 35, 36, 37, 38, 39, 40, 41, 42, 43, 44, 45, 46, 47, 48, 49, 50, 51, 52, 53, 54, 55, 56, 57, 58, 59, 60, 61, 62, 63, 64, 65, 66, 67, 68, 69, 70, 71, 72, 73, 74, 75, 76, 77, 78, 79, 80, 81, 98, 99, 100, 101, 102, 103, 104, 87, 88, 89, 90, 91, 92, 93, 94, 95, 96, 97, 105, 106, 107, 108, 109, 110, 111, 112, 113, 114, 115, 116, 117, 118, 119, 120] (by decide +kernel) (by decide +kernel)
set_option maxRecDepth 20000 in
theorem gX7_waits_X4_findPlan : GoodIn wsX7_waits (wsV RX7 156 RX4 yX4_findPlan wsX4_findPlan) := goodIn_app (goodIn_of _ (by decide +kernel)) ggX7_waits_X4_findPlan
theorem dX7_waits_0 : decode cX7_waits 0 = .ok (.aload_n 0, 1) := by decide +kernel
theorem dX7_waits_1 : decode cX7_waits 1 = .ok (.getfield 19, 3) := by decide +kernel
theorem dX7_waits_4 : decode cX7_waits 4 = .ok (.aload_n 0, 1) := by decide +kernel
theorem dX7_waits_5 : decode cX7_waits 5 = .ok (.getfield 12, 3) := by decide +kernel
theorem dX7_waits_8 : decode cX7_waits 8 = .ok (.aload_n 0, 1) := by decide +kernel
theorem dX7_waits_9 : decode cX7_waits 9 = .ok (.getfield 33, 3) := by decide +kernel
theorem dX7_waits_12 : decode cX7_waits 12 = .ok (.invokevirtual 156, 3) := by decide +kernel
theorem dX7_waits_15 : decode cX7_waits 15 = .ok (.aload_n 0, 1) := by decide +kernel
theorem dX7_waits_16 : decode cX7_waits 16 = .ok (.getfield 19, 3) := by decide +kernel
theorem dX7_waits_19 : decode cX7_waits 19 = .ok (.getfield 163, 3) := by decide +kernel
theorem dX7_waits_22 : decode cX7_waits 22 = .ok (.ireturn, 1) := by decide +kernel
set_option maxRecDepth 20000 in
theorem ggX7_term_X7_isCase : GoodIn wsX7_term wsX7_isCase := goodIn_r _ [15, 1, 16, 17, 18, 14, 19, 26, 27, 28, 29, 30, 31, 32, 33, 34, 35, 36, 37] (by decide +kernel) (by decide +kernel)
set_option maxRecDepth 20000 in
theorem gX7_term_X7_isCase : GoodIn wsX7_term (wsV RX7 96 RX7 yX7_isCase wsX7_isCase) := goodIn_app (goodIn_of _ (by decide +kernel)) ggX7_term_X7_isCase
set_option maxRecDepth 20000 in
theorem ggX7_term_X7_isSide : GoodIn wsX7_term wsX7_isSide := goodIn_r _ [22, 17, 18, 14, 19] (by decide +kernel) (by decide +kernel)
set_option maxRecDepth 20000 in
theorem gX7_term_X7_isSide : GoodIn wsX7_term (va_wsS RX7 132 yX7_isSide wsX7_isSide) := goodIn_app (goodIn_of _ (by decide +kernel)) ggX7_term_X7_isSide
set_option maxRecDepth 20000 in
theorem ggX7_term_X7_isWithin : GoodIn wsX7_term wsX7_isWithin := goodIn_r _ [19] (by decide +kernel) (by decide +kernel)
set_option maxRecDepth 20000 in
theorem gX7_term_X7_isWithin : GoodIn wsX7_term (va_wsS RX7 37 yX7_isWithin wsX7_isWithin) := goodIn_app (goodIn_of _ (by decide +kernel)) ggX7_term_X7_isWithin
set_option maxRecDepth 20000 in
theorem ggX7_term_X7_isHour : GoodIn wsX7_term wsX7_isHour := goodIn_r _ [25, 17, 18, 14, 19] (by decide +kernel) (by decide +kernel)
set_option maxRecDepth 20000 in
theorem gX7_term_X7_isHour : GoodIn wsX7_term (va_wsS RX7 166 yX7_isHour wsX7_isHour) := goodIn_app (goodIn_of _ (by decide +kernel)) ggX7_term_X7_isHour
theorem dX7_term_0 : decode cX7_term 0 = .ok (.aload_n 0, 1) := by decide +kernel
theorem dX7_term_1 : decode cX7_term 1 = .ok (.iload_n 1, 1) := by decide +kernel
theorem dX7_term_2 : decode cX7_term 2 = .ok (.invokevirtual 96, 3) := by decide +kernel
theorem dX7_term_5 : decode cX7_term 5 = .ok (.ifCond .eq 43, 3) := by decide +kernel
theorem dX7_term_8 : decode cX7_term 8 = .ok (.iload_n 2, 1) := by decide +kernel
theorem dX7_term_9 : decode cX7_term 9 = .ok (.invokestatic 132, 3) := by decide +kernel
theorem dX7_term_12 : decode cX7_term 12 = .ok (.ifCond .eq 36, 3) := by decide +kernel
theorem dX7_term_15 : decode cX7_term 15 = .ok (.iload 4, 2) := by decide +kernel
theorem dX7_term_17 : decode cX7_term 17 = .ok (.iconst 0, 1) := by decide +kernel
theorem dX7_term_18 : decode cX7_term 18 = .ok (.iconst 5, 1) := by decide +kernel
theorem dX7_term_19 : decode cX7_term 19 = .ok (.invokestatic 37, 3) := by decide +kernel
theorem dX7_term_22 : decode cX7_term 22 = .ok (.ifCond .eq 26, 3) := by decide +kernel
theorem dX7_term_25 : decode cX7_term 25 = .ok (.iload 5, 2) := by decide +kernel
theorem dX7_term_27 : decode cX7_term 27 = .ok (.invokestatic 166, 3) := by decide +kernel
theorem dX7_term_30 : decode cX7_term 30 = .ok (.ifCond .eq 18, 3) := by decide +kernel
theorem dX7_term_33 : decode cX7_term 33 = .ok (.iload 6, 2) := by decide +kernel
theorem dX7_term_35 : decode cX7_term 35 = .ok (.invokestatic 166, 3) := by decide +kernel
theorem dX7_term_38 : decode cX7_term 38 = .ok (.ifCond .eq 10, 3) := by decide +kernel
theorem dX7_term_41 : decode cX7_term 41 = .ok (.iload 5, 2) := by decide +kernel
theorem dX7_term_43 : decode cX7_term 43 = .ok (.iload 6, 2) := by decide +kernel
theorem dX7_term_45 : decode cX7_term 45 = .ok (.if_icmp .le 5, 3) := by decide +kernel
theorem dX7_term_48 : decode cX7_term 48 = .ok (.iconst (-1), 1) := by decide +kernel
theorem dX7_term_49 : decode cX7_term 49 = .ok (.ireturn, 1) := by decide +kernel
theorem dX7_term_50 : decode cX7_term 50 = .ok (.aload_n 0, 1) := by decide +kernel
theorem dX7_term_51 : decode cX7_term 51 = .ok (.getfield 12, 3) := by decide +kernel
theorem dX7_term_54 : decode cX7_term 54 = .ok (.getfield 86, 3) := by decide +kernel
theorem dX7_term_57 : decode cX7_term 57 = .ok (.iload_n 1, 1) := by decide +kernel
theorem dX7_term_58 : decode cX7_term 58 = .ok (.aaload, 1) := by decide +kernel
theorem dX7_term_59 : decode cX7_term 59 = .ok (.astore 7, 2) := by decide +kernel
theorem dX7_term_61 : decode cX7_term 61 = .ok (.aload 7, 2) := by decide +kernel
theorem dX7_term_63 : decode cX7_term 63 = .ok (.getfield 99, 3) := by decide +kernel
theorem dX7_term_66 : decode cX7_term 66 = .ok (.iconst 1, 1) := by decide +kernel
theorem dX7_term_67 : decode cX7_term 67 = .ok (.if_icmp .eq 6, 3) := by decide +kernel
theorem dX7_term_70 : decode cX7_term 70 = .ok (.bipush (-4), 2) := by decide +kernel
theorem dX7_term_72 : decode cX7_term 72 = .ok (.ireturn, 1) := by decide +kernel
theorem dX7_term_73 : decode cX7_term 73 = .ok (.aload 7, 2) := by decide +kernel
theorem dX7_term_75 : decode cX7_term 75 = .ok (.getfield 169, 3) := by decide +kernel
theorem dX7_term_78 : decode cX7_term 78 = .ok (.iconst 5, 1) := by decide +kernel
theorem dX7_term_79 : decode cX7_term 79 = .ok (.if_icmp .lt 6, 3) := by decide +kernel
theorem dX7_term_82 : decode cX7_term 82 = .ok (.bipush (-2), 2) := by decide +kernel
theorem dX7_term_84 : decode cX7_term 84 = .ok (.ireturn, 1) := by decide +kernel
theorem dX7_term_85 : decode cX7_term 85 = .ok (.aload 7, 2) := by decide +kernel
theorem dX7_term_87 : decode cX7_term 87 = .ok (.getfield 172, 3) := by decide +kernel
theorem dX7_term_90 : decode cX7_term 90 = .ok (.aload 7, 2) := by decide +kernel
theorem dX7_term_92 : decode cX7_term 92 = .ok (.getfield 169, 3) := by decide +kernel
theorem dX7_term_95 : decode cX7_term 95 = .ok (.aaload, 1) := by decide +kernel
theorem dX7_term_96 : decode cX7_term 96 = .ok (.astore 8, 2) := by decide +kernel
theorem dX7_term_98 : decode cX7_term 98 = .ok (.aload 8, 2) := by decide +kernel
theorem dX7_term_100 : decode cX7_term 100 = .ok (.iload_n 2, 1) := by decide +kernel
theorem dX7_term_101 : decode cX7_term 101 = .ok (.putfield 176, 3) := by decide +kernel
theorem dX7_term_104 : decode cX7_term 104 = .ok (.aload 8, 2) := by decide +kernel
theorem dX7_term_106 : decode cX7_term 106 = .ok (.iload_n 3, 1) := by decide +kernel
theorem dX7_term_107 : decode cX7_term 107 = .ok (.putfield 181, 3) := by decide +kernel
theorem dX7_term_110 : decode cX7_term 110 = .ok (.aload 8, 2) := by decide +kernel
theorem dX7_term_112 : decode cX7_term 112 = .ok (.iload 4, 2) := by decide +kernel
theorem dX7_term_114 : decode cX7_term 114 = .ok (.putfield 185, 3) := by decide +kernel
theorem dX7_term_117 : decode cX7_term 117 = .ok (.aload 8, 2) := by decide +kernel
theorem dX7_term_119 : decode cX7_term 119 = .ok (.iload 5, 2) := by decide +kernel
theorem dX7_term_121 : decode cX7_term 121 = .ok (.putfield 188, 3) := by decide +kernel
theorem dX7_term_124 : decode cX7_term 124 = .ok (.aload 8, 2) := by decide +kernel
theorem dX7_term_126 : decode cX7_term 126 = .ok (.iload 6, 2) := by decide +kernel
theorem dX7_term_128 : decode cX7_term 128 = .ok (.putfield 191, 3) := by decide +kernel
theorem dX7_term_131 : decode cX7_term 131 = .ok (.aload 7, 2) := by decide +kernel
theorem dX7_term_133 : decode cX7_term 133 = .ok (.dup, 1) := by decide +kernel
theorem dX7_term_134 : decode cX7_term 134 = .ok (.getfield 169, 3) := by decide +kernel
theorem dX7_term_137 : decode cX7_term 137 = .ok (.dup_x1, 1) := by decide +kernel
theorem dX7_term_138 : decode cX7_term 138 = .ok (.iconst 1, 1) := by decide +kernel
theorem dX7_term_139 : decode cX7_term 139 = .ok (.iadd, 1) := by decide +kernel
theorem dX7_term_140 : decode cX7_term 140 = .ok (.putfield 169, 3) := by decide +kernel
theorem dX7_term_143 : decode cX7_term 143 = .ok (.ireturn, 1) := by decide +kernel
set_option maxRecDepth 20000 in
theorem ggX7_strike_X7_isCase : GoodIn wsX7_strike wsX7_isCase := goodIn_r _ [8, 1, 9, 10, 11, 7, 12, 13, 14, 15, 16, 17, 18, 19, 20, 21, 22, 23, 24] (by decide +kernel) (by decide +kernel)
set_option maxRecDepth 20000 in
theorem gX7_strike_X7_isCase : GoodIn wsX7_strike (wsV RX7 96 RX7 yX7_isCase wsX7_isCase) := goodIn_app (goodIn_of _ (by decide +kernel)) ggX7_strike_X7_isCase
theorem dX7_strike_0 : decode cX7_strike 0 = .ok (.aload_n 0, 1) := by decide +kernel
theorem dX7_strike_1 : decode cX7_strike 1 = .ok (.iload_n 1, 1) := by decide +kernel
theorem dX7_strike_2 : decode cX7_strike 2 = .ok (.invokevirtual 96, 3) := by decide +kernel
theorem dX7_strike_5 : decode cX7_strike 5 = .ok (.ifCond .ne 5, 3) := by decide +kernel
theorem dX7_strike_8 : decode cX7_strike 8 = .ok (.iconst (-1), 1) := by decide +kernel
theorem dX7_strike_9 : decode cX7_strike 9 = .ok (.ireturn, 1) := by decide +kernel
theorem dX7_strike_10 : decode cX7_strike 10 = .ok (.aload_n 0, 1) := by decide +kernel
theorem dX7_strike_11 : decode cX7_strike 11 = .ok (.getfield 12, 3) := by decide +kernel
theorem dX7_strike_14 : decode cX7_strike 14 = .ok (.getfield 86, 3) := by decide +kernel
theorem dX7_strike_17 : decode cX7_strike 17 = .ok (.iload_n 1, 1) := by decide +kernel
theorem dX7_strike_18 : decode cX7_strike 18 = .ok (.aaload, 1) := by decide +kernel
theorem dX7_strike_19 : decode cX7_strike 19 = .ok (.getfield 169, 3) := by decide +kernel
theorem dX7_strike_22 : decode cX7_strike 22 = .ok (.ifCond .ne 6, 3) := by decide +kernel
theorem dX7_strike_25 : decode cX7_strike 25 = .ok (.bipush (-5), 2) := by decide +kernel
theorem dX7_strike_27 : decode cX7_strike 27 = .ok (.ireturn, 1) := by decide +kernel
theorem dX7_strike_28 : decode cX7_strike 28 = .ok (.aload_n 0, 1) := by decide +kernel
theorem dX7_strike_29 : decode cX7_strike 29 = .ok (.getfield 12, 3) := by decide +kernel
theorem dX7_strike_32 : decode cX7_strike 32 = .ok (.getfield 86, 3) := by decide +kernel
theorem dX7_strike_35 : decode cX7_strike 35 = .ok (.iload_n 1, 1) := by decide +kernel
theorem dX7_strike_36 : decode cX7_strike 36 = .ok (.aaload, 1) := by decide +kernel
theorem dX7_strike_37 : decode cX7_strike 37 = .ok (.dup, 1) := by decide +kernel
theorem dX7_strike_38 : decode cX7_strike 38 = .ok (.getfield 169, 3) := by decide +kernel
theorem dX7_strike_41 : decode cX7_strike 41 = .ok (.iconst 1, 1) := by decide +kernel
theorem dX7_strike_42 : decode cX7_strike 42 = .ok (.isub, 1) := by decide +kernel
theorem dX7_strike_43 : decode cX7_strike 43 = .ok (.putfield 169, 3) := by decide +kernel
theorem dX7_strike_46 : decode cX7_strike 46 = .ok (.aload_n 0, 1) := by decide +kernel
theorem dX7_strike_47 : decode cX7_strike 47 = .ok (.getfield 12, 3) := by decide +kernel
theorem dX7_strike_50 : decode cX7_strike 50 = .ok (.getfield 86, 3) := by decide +kernel
theorem dX7_strike_53 : decode cX7_strike 53 = .ok (.iload_n 1, 1) := by decide +kernel
theorem dX7_strike_54 : decode cX7_strike 54 = .ok (.aaload, 1) := by decide +kernel
theorem dX7_strike_55 : decode cX7_strike 55 = .ok (.getfield 169, 3) := by decide +kernel
theorem dX7_strike_58 : decode cX7_strike 58 = .ok (.ireturn, 1) := by decide +kernel
set_option maxRecDepth 20000 in
theorem ggX7_termOf_X7_isTerm : GoodIn wsX7_termOf wsX7_isTerm := goodIn_r _ [13, 1, 2, 14, 15, 16, 17, 12, 18, 19, 20, 21, 22, 23, 24, 25, 26, 27, 28, 29, 30, 31, 32, 33, 34, 35, 36, 37, 38, 39, 40, 41, 42, 43, 44, 45] (by decide +kernel) (by decide +kernel)
set_option maxRecDepth 20000 in
theorem gX7_termOf_X7_isTerm : GoodIn wsX7_termOf (wsV RX7 194 RX7 yX7_isTerm wsX7_isTerm) := goodIn_app (goodIn_of _ (by decide +kernel)) ggX7_termOf_X7_isTerm
theorem dX7_termOf_0 : decode cX7_termOf 0 = .ok (.aload_n 0, 1) := by decide +kernel
theorem dX7_termOf_1 : decode cX7_termOf 1 = .ok (.iload_n 1, 1) := by decide +kernel
theorem dX7_termOf_2 : decode cX7_termOf 2 = .ok (.iload_n 2, 1) := by decide +kernel
theorem dX7_termOf_3 : decode cX7_termOf 3 = .ok (.invokevirtual 194, 3) := by decide +kernel
theorem dX7_termOf_6 : decode cX7_termOf 6 = .ok (.ifCond .ne 5, 3) := by decide +kernel
theorem dX7_termOf_9 : decode cX7_termOf 9 = .ok (.iconst (-1), 1) := by decide +kernel
theorem dX7_termOf_10 : decode cX7_termOf 10 = .ok (.ireturn, 1) := by decide +kernel
theorem dX7_termOf_11 : decode cX7_termOf 11 = .ok (.aload_n 0, 1) := by decide +kernel
theorem dX7_termOf_12 : decode cX7_termOf 12 = .ok (.getfield 12, 3) := by decide +kernel
theorem dX7_termOf_15 : decode cX7_termOf 15 = .ok (.getfield 86, 3) := by decide +kernel
theorem dX7_termOf_18 : decode cX7_termOf 18 = .ok (.iload_n 1, 1) := by decide +kernel
theorem dX7_termOf_19 : decode cX7_termOf 19 = .ok (.aaload, 1) := by decide +kernel
theorem dX7_termOf_20 : decode cX7_termOf 20 = .ok (.getfield 172, 3) := by decide +kernel
theorem dX7_termOf_23 : decode cX7_termOf 23 = .ok (.iload_n 2, 1) := by decide +kernel
theorem dX7_termOf_24 : decode cX7_termOf 24 = .ok (.aaload, 1) := by decide +kernel
theorem dX7_termOf_25 : decode cX7_termOf 25 = .ok (.astore 4, 2) := by decide +kernel
theorem dX7_termOf_27 : decode cX7_termOf 27 = .ok (.iload_n 3, 1) := by decide +kernel
theorem dX7_termOf_28 : decode cX7_termOf 28 = .ok (.tableswitch 74 0 4 #[36, 42, 56, 62, 68], 36) := by decide +kernel
theorem dX7_termOf_64 : decode cX7_termOf 64 = .ok (.aload 4, 2) := by decide +kernel
theorem dX7_termOf_66 : decode cX7_termOf 66 = .ok (.getfield 176, 3) := by decide +kernel
theorem dX7_termOf_69 : decode cX7_termOf 69 = .ok (.ireturn, 1) := by decide +kernel
theorem dX7_termOf_70 : decode cX7_termOf 70 = .ok (.aload 4, 2) := by decide +kernel
theorem dX7_termOf_72 : decode cX7_termOf 72 = .ok (.getfield 181, 3) := by decide +kernel
theorem dX7_termOf_75 : decode cX7_termOf 75 = .ok (.ifCond .eq 7, 3) := by decide +kernel
theorem dX7_termOf_78 : decode cX7_termOf 78 = .ok (.iconst 1, 1) := by decide +kernel
theorem dX7_termOf_79 : decode cX7_termOf 79 = .ok (.goto 4, 3) := by decide +kernel
theorem dX7_termOf_82 : decode cX7_termOf 82 = .ok (.iconst 0, 1) := by decide +kernel
theorem dX7_termOf_83 : decode cX7_termOf 83 = .ok (.ireturn, 1) := by decide +kernel
theorem dX7_termOf_84 : decode cX7_termOf 84 = .ok (.aload 4, 2) := by decide +kernel
theorem dX7_termOf_86 : decode cX7_termOf 86 = .ok (.getfield 185, 3) := by decide +kernel
theorem dX7_termOf_89 : decode cX7_termOf 89 = .ok (.ireturn, 1) := by decide +kernel
theorem dX7_termOf_90 : decode cX7_termOf 90 = .ok (.aload 4, 2) := by decide +kernel
theorem dX7_termOf_92 : decode cX7_termOf 92 = .ok (.getfield 188, 3) := by decide +kernel
theorem dX7_termOf_95 : decode cX7_termOf 95 = .ok (.ireturn, 1) := by decide +kernel
theorem dX7_termOf_96 : decode cX7_termOf 96 = .ok (.aload 4, 2) := by decide +kernel
theorem dX7_termOf_98 : decode cX7_termOf 98 = .ok (.getfield 191, 3) := by decide +kernel
theorem dX7_termOf_101 : decode cX7_termOf 101 = .ok (.ireturn, 1) := by decide +kernel
theorem dX7_termOf_102 : decode cX7_termOf 102 = .ok (.iconst (-1), 1) := by decide +kernel
theorem dX7_termOf_103 : decode cX7_termOf 103 = .ok (.ireturn, 1) := by decide +kernel
set_option maxRecDepth 20000 in
theorem ggX7_hour_X7_isTerm : GoodIn wsX7_hour wsX7_isTerm := goodIn_r _ [12, 1, 2, 7, 13, 14, 15, 11, 16, 17, 18, 19, 20, 65, 66, 67, 68, 69, 70, 71, 72, 73, 74, 75, 76, 77, 78, 79, 80, 81, 82, 83, 84, 85, 86, 87] (by decide +kernel) (by decide +kernel)
set_option maxRecDepth 20000 in
theorem gX7_hour_X7_isTerm : GoodIn wsX7_hour (wsV RX7 194 RX7 yX7_isTerm wsX7_isTerm) := goodIn_app (goodIn_of _ (by decide +kernel)) ggX7_hour_X7_isTerm
set_option maxRecDepth 20000 in
theorem ggX7_hour_X5_read : GoodIn wsX7_hour wsX5_read := goodIn_r _ [25, 26, 27, 28, 29, 30, 31, 32, 33, 24, 34, 35, 36, 37, 38, 39, 40, 41, 42, 93, 94, 95, 77, 78, 79, 80, 81, 82, 83, 84, 85, 86, 87, 88, 89, 90, 91, 92] (by decide +kernel) (by decide +kernel)
set_option maxRecDepth 20000 in
theorem gX7_hour_X5_read : GoodIn wsX7_hour (wsV RX7 197 RX5 yX5_read wsX5_read) := goodIn_app (goodIn_of _ (by decide +kernel)) ggX7_hour_X5_read
set_option maxRecDepth 20000 in
theorem ggX7_hour_X5_stands : GoodIn wsX7_hour wsX5_stands := goodIn_r _ [46, 26, 31, 47, 11, 48, 49, 50, 51, 52, 53, 54, 55, 93, 94, 95] (by decide +kernel) (by decide +kernel)
set_option maxRecDepth 20000 in
theorem gX7_hour_X5_stands : GoodIn wsX7_hour (wsV RX7 201 RX5 yX5_stands wsX5_stands) := goodIn_app (goodIn_of _ (by decide +kernel)) ggX7_hour_X5_stands
set_option maxRecDepth 20000 in
theorem ggX7_hour_X5_hourOf : GoodIn wsX7_hour wsX5_hourOf := goodIn_r _ [59, 26, 30, 60, 61, 62, 24, 63, 31, 47, 11, 48, 64, 44, 45, 46, 49, 50, 51, 52, 53, 54, 55, 93, 94, 95] (by decide +kernel) (by decide +kernel)
set_option maxRecDepth 20000 in
theorem gX7_hour_X5_hourOf : GoodIn wsX7_hour (wsV RX7 204 RX5 yX5_hourOf wsX5_hourOf) := goodIn_app (goodIn_of _ (by decide +kernel)) ggX7_hour_X5_hourOf
theorem dX7_hour_0 : decode cX7_hour 0 = .ok (.aload_n 0, 1) := by decide +kernel
theorem dX7_hour_1 : decode cX7_hour 1 = .ok (.iload_n 1, 1) := by decide +kernel
theorem dX7_hour_2 : decode cX7_hour 2 = .ok (.iload_n 2, 1) := by decide +kernel
theorem dX7_hour_3 : decode cX7_hour 3 = .ok (.invokevirtual 194, 3) := by decide +kernel
theorem dX7_hour_6 : decode cX7_hour 6 = .ok (.ifCond .ne 5, 3) := by decide +kernel
theorem dX7_hour_9 : decode cX7_hour 9 = .ok (.iconst (-1), 1) := by decide +kernel
theorem dX7_hour_10 : decode cX7_hour 10 = .ok (.ireturn, 1) := by decide +kernel
theorem dX7_hour_11 : decode cX7_hour 11 = .ok (.aload_n 0, 1) := by decide +kernel
theorem dX7_hour_12 : decode cX7_hour 12 = .ok (.getfield 12, 3) := by decide +kernel
theorem dX7_hour_15 : decode cX7_hour 15 = .ok (.getfield 86, 3) := by decide +kernel
theorem dX7_hour_18 : decode cX7_hour 18 = .ok (.iload_n 1, 1) := by decide +kernel
theorem dX7_hour_19 : decode cX7_hour 19 = .ok (.aaload, 1) := by decide +kernel
theorem dX7_hour_20 : decode cX7_hour 20 = .ok (.astore_n 3, 1) := by decide +kernel
theorem dX7_hour_21 : decode cX7_hour 21 = .ok (.aload_n 3, 1) := by decide +kernel
theorem dX7_hour_22 : decode cX7_hour 22 = .ok (.getfield 172, 3) := by decide +kernel
theorem dX7_hour_25 : decode cX7_hour 25 = .ok (.iload_n 2, 1) := by decide +kernel
theorem dX7_hour_26 : decode cX7_hour 26 = .ok (.aaload, 1) := by decide +kernel
theorem dX7_hour_27 : decode cX7_hour 27 = .ok (.getfield 181, 3) := by decide +kernel
theorem dX7_hour_30 : decode cX7_hour 30 = .ok (.ifCond .ne 6, 3) := by decide +kernel
theorem dX7_hour_33 : decode cX7_hour 33 = .ok (.bipush (-4), 2) := by decide +kernel
theorem dX7_hour_35 : decode cX7_hour 35 = .ok (.ireturn, 1) := by decide +kernel
theorem dX7_hour_36 : decode cX7_hour 36 = .ok (.aload_n 0, 1) := by decide +kernel
theorem dX7_hour_37 : decode cX7_hour 37 = .ok (.getfield 26, 3) := by decide +kernel
theorem dX7_hour_40 : decode cX7_hour 40 = .ok (.aload_n 3, 1) := by decide +kernel
theorem dX7_hour_41 : decode cX7_hour 41 = .ok (.aload_n 3, 1) := by decide +kernel
theorem dX7_hour_42 : decode cX7_hour 42 = .ok (.getfield 172, 3) := by decide +kernel
theorem dX7_hour_45 : decode cX7_hour 45 = .ok (.iload_n 2, 1) := by decide +kernel
theorem dX7_hour_46 : decode cX7_hour 46 = .ok (.aaload, 1) := by decide +kernel
theorem dX7_hour_47 : decode cX7_hour 47 = .ok (.getfield 176, 3) := by decide +kernel
theorem dX7_hour_50 : decode cX7_hour 50 = .ok (.aload_n 3, 1) := by decide +kernel
theorem dX7_hour_51 : decode cX7_hour 51 = .ok (.getfield 169, 3) := by decide +kernel
theorem dX7_hour_54 : decode cX7_hour 54 = .ok (.invokevirtual 197, 3) := by decide +kernel
theorem dX7_hour_57 : decode cX7_hour 57 = .ok (.aload_n 0, 1) := by decide +kernel
theorem dX7_hour_58 : decode cX7_hour 58 = .ok (.getfield 26, 3) := by decide +kernel
theorem dX7_hour_61 : decode cX7_hour 61 = .ok (.invokevirtual 201, 3) := by decide +kernel
theorem dX7_hour_64 : decode cX7_hour 64 = .ok (.ifCond .eq 14, 3) := by decide +kernel
theorem dX7_hour_67 : decode cX7_hour 67 = .ok (.aload_n 0, 1) := by decide +kernel
theorem dX7_hour_68 : decode cX7_hour 68 = .ok (.getfield 26, 3) := by decide +kernel
theorem dX7_hour_71 : decode cX7_hour 71 = .ok (.iload_n 2, 1) := by decide +kernel
theorem dX7_hour_72 : decode cX7_hour 72 = .ok (.invokevirtual 204, 3) := by decide +kernel
theorem dX7_hour_75 : decode cX7_hour 75 = .ok (.goto 5, 3) := by decide +kernel
theorem dX7_hour_78 : decode cX7_hour 78 = .ok (.bipush (-5), 2) := by decide +kernel
theorem dX7_hour_80 : decode cX7_hour 80 = .ok (.ireturn, 1) := by decide +kernel
set_option maxRecDepth 20000 in
theorem ggX7_canHold_X7_isCase : GoodIn wsX7_canHold wsX7_isCase := goodIn_r _ [9, 2, 10, 11, 12, 8, 13, 52, 53, 54, 55, 56, 57, 58, 59, 60, 61, 62, 63] (by decide +kernel) (by decide +kernel)
set_option maxRecDepth 20000 in
theorem gX7_canHold_X7_isCase : GoodIn wsX7_canHold (wsV RX7 96 RX7 yX7_isCase wsX7_isCase) := goodIn_app (goodIn_of _ (by decide +kernel)) ggX7_canHold_X7_isCase
set_option maxRecDepth 20000 in
theorem ggX7_canHold_X7_isSide : GoodIn wsX7_canHold wsX7_isSide := goodIn_r _ [16, 11, 12, 8, 13] (by decide +kernel) (by decide +kernel)
set_option maxRecDepth 20000 in
theorem gX7_canHold_X7_isSide : GoodIn wsX7_canHold (va_wsS RX7 132 yX7_isSide wsX7_isSide) := goodIn_app (goodIn_of _ (by decide +kernel)) ggX7_canHold_X7_isSide
set_option maxRecDepth 20000 in
theorem ggX7_canHold_X5_read : GoodIn wsX7_canHold wsX5_read := goodIn_r _ [21, 22, 23, 24, 25, 26, 27, 28, 29, 20, 30, 31, 32, 33, 34, 35, 36, 37, 38, 75, 76, 77, 64, 65, 66, 67, 68, 69, 70, 71, 72, 73, 74, 78, 79, 80, 81, 82] (by decide +kernel) (by decide +kernel)
set_option maxRecDepth 20000 in
theorem gX7_canHold_X5_read : GoodIn wsX7_canHold (wsV RX7 197 RX5 yX5_read wsX5_read) := goodIn_app (goodIn_of _ (by decide +kernel)) ggX7_canHold_X5_read
set_option maxRecDepth 20000 in
theorem ggX7_canHold_X5_stands : GoodIn wsX7_canHold wsX5_stands := goodIn_r _ [42, 22, 27, 43, 8, 44, 45, 46, 47, 48, 49, 50, 51, 75, 76, 77] (by decide +kernel) (by decide +kernel)
set_option maxRecDepth 20000 in
theorem gX7_canHold_X5_stands : GoodIn wsX7_canHold (wsV RX7 201 RX5 yX5_stands wsX5_stands) := goodIn_app (goodIn_of _ (by decide +kernel)) ggX7_canHold_X5_stands
theorem dX7_canHold_0 : decode cX7_canHold 0 = .ok (.aload_n 0, 1) := by decide +kernel
theorem dX7_canHold_1 : decode cX7_canHold 1 = .ok (.iload_n 1, 1) := by decide +kernel
theorem dX7_canHold_2 : decode cX7_canHold 2 = .ok (.invokevirtual 96, 3) := by decide +kernel
theorem dX7_canHold_5 : decode cX7_canHold 5 = .ok (.ifCond .eq 10, 3) := by decide +kernel
theorem dX7_canHold_8 : decode cX7_canHold 8 = .ok (.iload_n 2, 1) := by decide +kernel
theorem dX7_canHold_9 : decode cX7_canHold 9 = .ok (.invokestatic 132, 3) := by decide +kernel
theorem dX7_canHold_12 : decode cX7_canHold 12 = .ok (.ifCond .ne 5, 3) := by decide +kernel
theorem dX7_canHold_15 : decode cX7_canHold 15 = .ok (.iconst (-1), 1) := by decide +kernel
theorem dX7_canHold_16 : decode cX7_canHold 16 = .ok (.ireturn, 1) := by decide +kernel
theorem dX7_canHold_17 : decode cX7_canHold 17 = .ok (.aload_n 0, 1) := by decide +kernel
theorem dX7_canHold_18 : decode cX7_canHold 18 = .ok (.getfield 26, 3) := by decide +kernel
theorem dX7_canHold_21 : decode cX7_canHold 21 = .ok (.aload_n 0, 1) := by decide +kernel
theorem dX7_canHold_22 : decode cX7_canHold 22 = .ok (.getfield 12, 3) := by decide +kernel
theorem dX7_canHold_25 : decode cX7_canHold 25 = .ok (.getfield 86, 3) := by decide +kernel
theorem dX7_canHold_28 : decode cX7_canHold 28 = .ok (.iload_n 1, 1) := by decide +kernel
theorem dX7_canHold_29 : decode cX7_canHold 29 = .ok (.aaload, 1) := by decide +kernel
theorem dX7_canHold_30 : decode cX7_canHold 30 = .ok (.iload_n 2, 1) := by decide +kernel
theorem dX7_canHold_31 : decode cX7_canHold 31 = .ok (.aload_n 0, 1) := by decide +kernel
theorem dX7_canHold_32 : decode cX7_canHold 32 = .ok (.getfield 12, 3) := by decide +kernel
theorem dX7_canHold_35 : decode cX7_canHold 35 = .ok (.getfield 86, 3) := by decide +kernel
theorem dX7_canHold_38 : decode cX7_canHold 38 = .ok (.iload_n 1, 1) := by decide +kernel
theorem dX7_canHold_39 : decode cX7_canHold 39 = .ok (.aaload, 1) := by decide +kernel
theorem dX7_canHold_40 : decode cX7_canHold 40 = .ok (.getfield 169, 3) := by decide +kernel
theorem dX7_canHold_43 : decode cX7_canHold 43 = .ok (.invokevirtual 197, 3) := by decide +kernel
theorem dX7_canHold_46 : decode cX7_canHold 46 = .ok (.aload_n 0, 1) := by decide +kernel
theorem dX7_canHold_47 : decode cX7_canHold 47 = .ok (.getfield 26, 3) := by decide +kernel
theorem dX7_canHold_50 : decode cX7_canHold 50 = .ok (.invokevirtual 201, 3) := by decide +kernel
theorem dX7_canHold_53 : decode cX7_canHold 53 = .ok (.ifCond .eq 7, 3) := by decide +kernel
theorem dX7_canHold_56 : decode cX7_canHold 56 = .ok (.iconst 1, 1) := by decide +kernel
theorem dX7_canHold_57 : decode cX7_canHold 57 = .ok (.goto 4, 3) := by decide +kernel
theorem dX7_canHold_60 : decode cX7_canHold 60 = .ok (.iconst 0, 1) := by decide +kernel
theorem dX7_canHold_61 : decode cX7_canHold 61 = .ok (.ireturn, 1) := by decide +kernel
set_option maxRecDepth 20000 in
theorem ggX7_breaks_X7_isCase : GoodIn wsX7_breaks wsX7_isCase := goodIn_r _ [11, 1, 12, 13, 14, 10, 15, 54, 55, 56, 57, 58, 59, 60, 61, 62, 63, 64, 65] (by decide +kernel) (by decide +kernel)
set_option maxRecDepth 20000 in
theorem gX7_breaks_X7_isCase : GoodIn wsX7_breaks (wsV RX7 96 RX7 yX7_isCase wsX7_isCase) := goodIn_app (goodIn_of _ (by decide +kernel)) ggX7_breaks_X7_isCase
set_option maxRecDepth 20000 in
theorem ggX7_breaks_X7_isSide : GoodIn wsX7_breaks wsX7_isSide := goodIn_r _ [18, 13, 14, 10, 15] (by decide +kernel) (by decide +kernel)
set_option maxRecDepth 20000 in
theorem gX7_breaks_X7_isSide : GoodIn wsX7_breaks (va_wsS RX7 132 yX7_isSide wsX7_isSide) := goodIn_app (goodIn_of _ (by decide +kernel)) ggX7_breaks_X7_isSide
set_option maxRecDepth 20000 in
theorem ggX7_breaks_X5_read : GoodIn wsX7_breaks wsX5_read := goodIn_r _ [23, 24, 25, 26, 27, 28, 29, 30, 31, 22, 32, 33, 34, 35, 36, 37, 38, 39, 40, 82, 83, 84, 66, 67, 68, 69, 70, 71, 72, 73, 74, 75, 76, 77, 78, 79, 80, 81] (by decide +kernel) (by decide +kernel)
set_option maxRecDepth 20000 in
theorem gX7_breaks_X5_read : GoodIn wsX7_breaks (wsV RX7 197 RX5 yX5_read wsX5_read) := goodIn_app (goodIn_of _ (by decide +kernel)) ggX7_breaks_X5_read
set_option maxRecDepth 20000 in
theorem ggX7_breaks_X5_stands : GoodIn wsX7_breaks wsX5_stands := goodIn_r _ [44, 24, 29, 45, 10, 46, 47, 48, 49, 50, 51, 52, 53, 82, 83, 84] (by decide +kernel) (by decide +kernel)
set_option maxRecDepth 20000 in
theorem gX7_breaks_X5_stands : GoodIn wsX7_breaks (wsV RX7 201 RX5 yX5_stands wsX5_stands) := goodIn_app (goodIn_of _ (by decide +kernel)) ggX7_breaks_X5_stands
theorem dX7_breaks_0 : decode cX7_breaks 0 = .ok (.aload_n 0, 1) := by decide +kernel
theorem dX7_breaks_1 : decode cX7_breaks 1 = .ok (.iload_n 1, 1) := by decide +kernel
theorem dX7_breaks_2 : decode cX7_breaks 2 = .ok (.invokevirtual 96, 3) := by decide +kernel
theorem dX7_breaks_5 : decode cX7_breaks 5 = .ok (.ifCond .eq 10, 3) := by decide +kernel
theorem dX7_breaks_8 : decode cX7_breaks 8 = .ok (.iload_n 2, 1) := by decide +kernel
theorem dX7_breaks_9 : decode cX7_breaks 9 = .ok (.invokestatic 132, 3) := by decide +kernel
theorem dX7_breaks_12 : decode cX7_breaks 12 = .ok (.ifCond .ne 5, 3) := by decide +kernel
theorem dX7_breaks_15 : decode cX7_breaks 15 = .ok (.iconst (-1), 1) := by decide +kernel
theorem dX7_breaks_16 : decode cX7_breaks 16 = .ok (.ireturn, 1) := by decide +kernel
theorem dX7_breaks_17 : decode cX7_breaks 17 = .ok (.aload_n 0, 1) := by decide +kernel
theorem dX7_breaks_18 : decode cX7_breaks 18 = .ok (.getfield 12, 3) := by decide +kernel
theorem dX7_breaks_21 : decode cX7_breaks 21 = .ok (.getfield 86, 3) := by decide +kernel
theorem dX7_breaks_24 : decode cX7_breaks 24 = .ok (.iload_n 1, 1) := by decide +kernel
theorem dX7_breaks_25 : decode cX7_breaks 25 = .ok (.aaload, 1) := by decide +kernel
theorem dX7_breaks_26 : decode cX7_breaks 26 = .ok (.astore_n 3, 1) := by decide +kernel
theorem dX7_breaks_27 : decode cX7_breaks 27 = .ok (.iconst 0, 1) := by decide +kernel
theorem dX7_breaks_28 : decode cX7_breaks 28 = .ok (.istore 4, 2) := by decide +kernel
theorem dX7_breaks_30 : decode cX7_breaks 30 = .ok (.iload 4, 2) := by decide +kernel
theorem dX7_breaks_32 : decode cX7_breaks 32 = .ok (.aload_n 3, 1) := by decide +kernel
theorem dX7_breaks_33 : decode cX7_breaks 33 = .ok (.getfield 169, 3) := by decide +kernel
theorem dX7_breaks_36 : decode cX7_breaks 36 = .ok (.if_icmp .ge 49, 3) := by decide +kernel
theorem dX7_breaks_39 : decode cX7_breaks 39 = .ok (.aload_n 3, 1) := by decide +kernel
theorem dX7_breaks_40 : decode cX7_breaks 40 = .ok (.getfield 172, 3) := by decide +kernel
theorem dX7_breaks_43 : decode cX7_breaks 43 = .ok (.iload 4, 2) := by decide +kernel
theorem dX7_breaks_45 : decode cX7_breaks 45 = .ok (.aaload, 1) := by decide +kernel
theorem dX7_breaks_46 : decode cX7_breaks 46 = .ok (.getfield 176, 3) := by decide +kernel
theorem dX7_breaks_49 : decode cX7_breaks 49 = .ok (.iload_n 2, 1) := by decide +kernel
theorem dX7_breaks_50 : decode cX7_breaks 50 = .ok (.if_icmp .ne 29, 3) := by decide +kernel
theorem dX7_breaks_53 : decode cX7_breaks 53 = .ok (.aload_n 0, 1) := by decide +kernel
theorem dX7_breaks_54 : decode cX7_breaks 54 = .ok (.getfield 26, 3) := by decide +kernel
theorem dX7_breaks_57 : decode cX7_breaks 57 = .ok (.aload_n 3, 1) := by decide +kernel
theorem dX7_breaks_58 : decode cX7_breaks 58 = .ok (.iload_n 2, 1) := by decide +kernel
theorem dX7_breaks_59 : decode cX7_breaks 59 = .ok (.iload 4, 2) := by decide +kernel
theorem dX7_breaks_61 : decode cX7_breaks 61 = .ok (.iconst 1, 1) := by decide +kernel
theorem dX7_breaks_62 : decode cX7_breaks 62 = .ok (.iadd, 1) := by decide +kernel
theorem dX7_breaks_63 : decode cX7_breaks 63 = .ok (.invokevirtual 197, 3) := by decide +kernel
theorem dX7_breaks_66 : decode cX7_breaks 66 = .ok (.aload_n 0, 1) := by decide +kernel
theorem dX7_breaks_67 : decode cX7_breaks 67 = .ok (.getfield 26, 3) := by decide +kernel
theorem dX7_breaks_70 : decode cX7_breaks 70 = .ok (.invokevirtual 201, 3) := by decide +kernel
theorem dX7_breaks_73 : decode cX7_breaks 73 = .ok (.ifCond .ne 6, 3) := by decide +kernel
theorem dX7_breaks_76 : decode cX7_breaks 76 = .ok (.iload 4, 2) := by decide +kernel
theorem dX7_breaks_78 : decode cX7_breaks 78 = .ok (.ireturn, 1) := by decide +kernel
theorem dX7_breaks_79 : decode cX7_breaks 79 = .ok (.iinc 4 1, 3) := by decide +kernel
theorem dX7_breaks_82 : decode cX7_breaks 82 = .ok (.goto (-52), 3) := by decide +kernel
theorem dX7_breaks_85 : decode cX7_breaks 85 = .ok (.bipush (-5), 2) := by decide +kernel
theorem dX7_breaks_87 : decode cX7_breaks 87 = .ok (.ireturn, 1) := by decide +kernel
set_option maxRecDepth 20000 in
theorem ggX7_log_X7_isCase : GoodIn wsX7_log wsX7_isCase := goodIn_r _ [8, 1, 9, 10, 11, 7, 12, 19, 20, 21, 22, 23, 24, 25, 26, 27, 28, 29, 30] (by decide +kernel) (by decide +kernel)
set_option maxRecDepth 20000 in
theorem gX7_log_X7_isCase : GoodIn wsX7_log (wsV RX7 96 RX7 yX7_isCase wsX7_isCase) := goodIn_app (goodIn_of _ (by decide +kernel)) ggX7_log_X7_isCase
set_option maxRecDepth 20000 in
theorem ggX7_log_X7_isSide : GoodIn wsX7_log wsX7_isSide := goodIn_r _ [15, 10, 11, 7, 12] (by decide +kernel) (by decide +kernel)
set_option maxRecDepth 20000 in
theorem gX7_log_X7_isSide : GoodIn wsX7_log (va_wsS RX7 132 yX7_isSide wsX7_isSide) := goodIn_app (goodIn_of _ (by decide +kernel)) ggX7_log_X7_isSide
set_option maxRecDepth 20000 in
theorem ggX7_log_X7_isHour : GoodIn wsX7_log wsX7_isHour := goodIn_r _ [18, 10, 11, 7, 12] (by decide +kernel) (by decide +kernel)
set_option maxRecDepth 20000 in
theorem gX7_log_X7_isHour : GoodIn wsX7_log (va_wsS RX7 166 yX7_isHour wsX7_isHour) := goodIn_app (goodIn_of _ (by decide +kernel)) ggX7_log_X7_isHour
set_option maxRecDepth 20000 in
theorem ggX7_log_X7_isWithin : GoodIn wsX7_log wsX7_isWithin := goodIn_r _ [12] (by decide +kernel) (by decide +kernel)
set_option maxRecDepth 20000 in
theorem gX7_log_X7_isWithin : GoodIn wsX7_log (va_wsS RX7 37 yX7_isWithin wsX7_isWithin) := goodIn_app (goodIn_of _ (by decide +kernel)) ggX7_log_X7_isWithin
theorem dX7_log_0 : decode cX7_log 0 = .ok (.aload_n 0, 1) := by decide +kernel
theorem dX7_log_1 : decode cX7_log 1 = .ok (.iload_n 1, 1) := by decide +kernel
theorem dX7_log_2 : decode cX7_log 2 = .ok (.invokevirtual 96, 3) := by decide +kernel
theorem dX7_log_5 : decode cX7_log 5 = .ok (.ifCond .eq 28, 3) := by decide +kernel
theorem dX7_log_8 : decode cX7_log 8 = .ok (.iload_n 2, 1) := by decide +kernel
theorem dX7_log_9 : decode cX7_log 9 = .ok (.invokestatic 132, 3) := by decide +kernel
theorem dX7_log_12 : decode cX7_log 12 = .ok (.ifCond .eq 21, 3) := by decide +kernel
theorem dX7_log_15 : decode cX7_log 15 = .ok (.iload_n 3, 1) := by decide +kernel
theorem dX7_log_16 : decode cX7_log 16 = .ok (.invokestatic 166, 3) := by decide +kernel
theorem dX7_log_19 : decode cX7_log 19 = .ok (.ifCond .eq 14, 3) := by decide +kernel
theorem dX7_log_22 : decode cX7_log 22 = .ok (.iload 4, 2) := by decide +kernel
theorem dX7_log_24 : decode cX7_log 24 = .ok (.iconst 0, 1) := by decide +kernel
theorem dX7_log_25 : decode cX7_log 25 = .ok (.bipush 7, 2) := by decide +kernel
theorem dX7_log_27 : decode cX7_log 27 = .ok (.invokestatic 37, 3) := by decide +kernel
theorem dX7_log_30 : decode cX7_log 30 = .ok (.ifCond .ne 5, 3) := by decide +kernel
theorem dX7_log_33 : decode cX7_log 33 = .ok (.iconst (-1), 1) := by decide +kernel
theorem dX7_log_34 : decode cX7_log 34 = .ok (.ireturn, 1) := by decide +kernel
theorem dX7_log_35 : decode cX7_log 35 = .ok (.aload_n 0, 1) := by decide +kernel
theorem dX7_log_36 : decode cX7_log 36 = .ok (.getfield 12, 3) := by decide +kernel
theorem dX7_log_39 : decode cX7_log 39 = .ok (.getfield 86, 3) := by decide +kernel
theorem dX7_log_42 : decode cX7_log 42 = .ok (.iload_n 1, 1) := by decide +kernel
theorem dX7_log_43 : decode cX7_log 43 = .ok (.aaload, 1) := by decide +kernel
theorem dX7_log_44 : decode cX7_log 44 = .ok (.getfield 207, 3) := by decide +kernel
theorem dX7_log_47 : decode cX7_log 47 = .ok (.iload_n 2, 1) := by decide +kernel
theorem dX7_log_48 : decode cX7_log 48 = .ok (.aaload, 1) := by decide +kernel
theorem dX7_log_49 : decode cX7_log 49 = .ok (.astore 5, 2) := by decide +kernel
theorem dX7_log_51 : decode cX7_log 51 = .ok (.aload 5, 2) := by decide +kernel
theorem dX7_log_53 : decode cX7_log 53 = .ok (.iload_n 3, 1) := by decide +kernel
theorem dX7_log_54 : decode cX7_log 54 = .ok (.iaload, 1) := by decide +kernel
theorem dX7_log_55 : decode cX7_log 55 = .ok (.istore 6, 2) := by decide +kernel
theorem dX7_log_57 : decode cX7_log 57 = .ok (.aload 5, 2) := by decide +kernel
theorem dX7_log_59 : decode cX7_log 59 = .ok (.iload_n 3, 1) := by decide +kernel
theorem dX7_log_60 : decode cX7_log 60 = .ok (.iload 4, 2) := by decide +kernel
theorem dX7_log_62 : decode cX7_log 62 = .ok (.iastore, 1) := by decide +kernel
theorem dX7_log_63 : decode cX7_log 63 = .ok (.iload 6, 2) := by decide +kernel
theorem dX7_log_65 : decode cX7_log 65 = .ok (.ireturn, 1) := by decide +kernel
set_option maxRecDepth 20000 in
theorem ggX7_judged_X7_isTerm : GoodIn wsX7_judged wsX7_isTerm := goodIn_r _ [7, 1, 2, 8, 9, 10, 11, 6, 12, 13, 14, 15, 16, 29, 30, 31, 32, 33, 34, 35, 36, 37, 38, 39, 40, 41, 42, 43, 44, 45, 46, 47, 48, 49, 50, 51] (by decide +kernel) (by decide +kernel)
set_option maxRecDepth 20000 in
theorem gX7_judged_X7_isTerm : GoodIn wsX7_judged (wsV RX7 194 RX7 yX7_isTerm wsX7_isTerm) := goodIn_app (goodIn_of _ (by decide +kernel)) ggX7_judged_X7_isTerm
set_option maxRecDepth 20000 in
theorem ggX7_judged_X0_judge : GoodIn wsX7_judged wsX0_judge := goodIn_r _ [21, 22, 23, 24, 25, 26, 27, 28, 41, 42, 43, 44, 45, 46, 47, 48, 49, 50, 51, 52, 53, 54, 55, 56] (by decide +kernel) (by decide +kernel)
set_option maxRecDepth 20000 in
theorem gX7_judged_X0_judge : GoodIn wsX7_judged (wsV RX7 211 RX0 yX0_judge wsX0_judge) := goodIn_app (goodIn_of _ (by decide +kernel)) ggX7_judged_X0_judge
theorem dX7_judged_0 : decode cX7_judged 0 = .ok (.aload_n 0, 1) := by decide +kernel
theorem dX7_judged_1 : decode cX7_judged 1 = .ok (.iload_n 1, 1) := by decide +kernel
theorem dX7_judged_2 : decode cX7_judged 2 = .ok (.iload_n 2, 1) := by decide +kernel
theorem dX7_judged_3 : decode cX7_judged 3 = .ok (.invokevirtual 194, 3) := by decide +kernel
theorem dX7_judged_6 : decode cX7_judged 6 = .ok (.ifCond .ne 5, 3) := by decide +kernel
theorem dX7_judged_9 : decode cX7_judged 9 = .ok (.iconst (-1), 1) := by decide +kernel
theorem dX7_judged_10 : decode cX7_judged 10 = .ok (.ireturn, 1) := by decide +kernel
theorem dX7_judged_11 : decode cX7_judged 11 = .ok (.aload_n 0, 1) := by decide +kernel
theorem dX7_judged_12 : decode cX7_judged 12 = .ok (.getfield 12, 3) := by decide +kernel
theorem dX7_judged_15 : decode cX7_judged 15 = .ok (.getfield 86, 3) := by decide +kernel
theorem dX7_judged_18 : decode cX7_judged 18 = .ok (.iload_n 1, 1) := by decide +kernel
theorem dX7_judged_19 : decode cX7_judged 19 = .ok (.aaload, 1) := by decide +kernel
theorem dX7_judged_20 : decode cX7_judged 20 = .ok (.iload_n 2, 1) := by decide +kernel
theorem dX7_judged_21 : decode cX7_judged 21 = .ok (.invokevirtual 211, 3) := by decide +kernel
theorem dX7_judged_24 : decode cX7_judged 24 = .ok (.ireturn, 1) := by decide +kernel
set_option maxRecDepth 20000 in
theorem ggX7_many_X1_countState : GoodIn wsX7_many wsX1_countState := goodIn_r _ [10, 11, 12, 13, 56, 57, 58, 59, 60, 61, 62, 63, 64, 65, 66, 67, 68, 69, 70, 71, 72, 73] (by decide +kernel) (by decide +kernel)
set_option maxRecDepth 20000 in
theorem gX7_many_X1_countState : GoodIn wsX7_many (wsV RX7 214 RX1 yX1_countState wsX1_countState) := goodIn_app (goodIn_of _ (by decide +kernel)) ggX7_many_X1_countState
set_option maxRecDepth 20000 in
theorem ggX7_many_X1_countQuarrels : GoodIn wsX7_many wsX1_countQuarrels := goodIn_r _ [17, 11, 18, 19, 20, 9, 21, 22, 23, 24, 25, 12, 26, 27, 28, 29, 56, 57, 58, 59, 60, 61, 62, 63, 64, 65, 66, 67, 68, 69, 70, 71, 72, 73] (by decide +kernel) (by decide +kernel)
set_option maxRecDepth 20000 in
theorem gX7_many_X1_countQuarrels : GoodIn wsX7_many (wsV RX7 217 RX1 yX1_countQuarrels wsX1_countQuarrels) := goodIn_app (goodIn_of _ (by decide +kernel)) ggX7_many_X1_countQuarrels
set_option maxRecDepth 20000 in
theorem ggX7_many_X1_countTerms : GoodIn wsX7_many wsX1_countTerms := goodIn_r _ [33, 11, 12, 34, 56, 57, 58, 59, 60, 61, 62, 63, 64, 65, 66, 67, 68, 69, 70, 71, 72, 73] (by decide +kernel) (by decide +kernel)
set_option maxRecDepth 20000 in
theorem gX7_many_X1_countTerms : GoodIn wsX7_many (wsV RX7 221 RX1 yX1_countTerms wsX1_countTerms) := goodIn_app (goodIn_of _ (by decide +kernel)) ggX7_many_X1_countTerms
set_option maxRecDepth 20000 in
theorem ggX7_many_X1_countJudged : GoodIn wsX7_many wsX1_countJudged := goodIn_r _ [38, 11, 12, 34, 39, 40, 41, 42, 43, 44, 45, 46, 47, 48, 49, 50, 56, 57, 58, 59, 60, 61, 62, 63, 64, 65, 66, 67, 68, 69, 70, 71, 72, 73, 74, 75, 76, 77, 78] (by decide +kernel) (by decide +kernel)
set_option maxRecDepth 20000 in
theorem gX7_many_X1_countJudged : GoodIn wsX7_many (wsV RX7 224 RX1 yX1_countJudged wsX1_countJudged) := goodIn_app (goodIn_of _ (by decide +kernel)) ggX7_many_X1_countJudged
theorem dX7_many_0 : decode cX7_many 0 = .ok (.iload_n 1, 1) := by decide +kernel
theorem dX7_many_1 : decode cX7_many 1 = .ok (.tableswitch 152 0 10 #[59, 67, 75, 83, 92, 101, 109, 117, 125, 134, 143], 59) := by decide +kernel
theorem dX7_many_60 : decode cX7_many 60 = .ok (.aload_n 0, 1) := by decide +kernel
theorem dX7_many_61 : decode cX7_many 61 = .ok (.getfield 12, 3) := by decide +kernel
theorem dX7_many_64 : decode cX7_many 64 = .ok (.getfield 41, 3) := by decide +kernel
theorem dX7_many_67 : decode cX7_many 67 = .ok (.ireturn, 1) := by decide +kernel
theorem dX7_many_68 : decode cX7_many 68 = .ok (.aload_n 0, 1) := by decide +kernel
theorem dX7_many_69 : decode cX7_many 69 = .ok (.getfield 12, 3) := by decide +kernel
theorem dX7_many_72 : decode cX7_many 72 = .ok (.getfield 56, 3) := by decide +kernel
theorem dX7_many_75 : decode cX7_many 75 = .ok (.ireturn, 1) := by decide +kernel
theorem dX7_many_76 : decode cX7_many 76 = .ok (.aload_n 0, 1) := by decide +kernel
theorem dX7_many_77 : decode cX7_many 77 = .ok (.getfield 12, 3) := by decide +kernel
theorem dX7_many_80 : decode cX7_many 80 = .ok (.getfield 83, 3) := by decide +kernel
theorem dX7_many_83 : decode cX7_many 83 = .ok (.ireturn, 1) := by decide +kernel
theorem dX7_many_84 : decode cX7_many 84 = .ok (.aload_n 0, 1) := by decide +kernel
theorem dX7_many_85 : decode cX7_many 85 = .ok (.getfield 12, 3) := by decide +kernel
theorem dX7_many_88 : decode cX7_many 88 = .ok (.iconst 0, 1) := by decide +kernel
theorem dX7_many_89 : decode cX7_many 89 = .ok (.invokevirtual 214, 3) := by decide +kernel
theorem dX7_many_92 : decode cX7_many 92 = .ok (.ireturn, 1) := by decide +kernel
theorem dX7_many_93 : decode cX7_many 93 = .ok (.aload_n 0, 1) := by decide +kernel
theorem dX7_many_94 : decode cX7_many 94 = .ok (.getfield 12, 3) := by decide +kernel
theorem dX7_many_97 : decode cX7_many 97 = .ok (.iconst 1, 1) := by decide +kernel
theorem dX7_many_98 : decode cX7_many 98 = .ok (.invokevirtual 214, 3) := by decide +kernel
theorem dX7_many_101 : decode cX7_many 101 = .ok (.ireturn, 1) := by decide +kernel
theorem dX7_many_102 : decode cX7_many 102 = .ok (.aload_n 0, 1) := by decide +kernel
theorem dX7_many_103 : decode cX7_many 103 = .ok (.getfield 12, 3) := by decide +kernel
theorem dX7_many_106 : decode cX7_many 106 = .ok (.getfield 108, 3) := by decide +kernel
theorem dX7_many_109 : decode cX7_many 109 = .ok (.ireturn, 1) := by decide +kernel
theorem dX7_many_110 : decode cX7_many 110 = .ok (.aload_n 0, 1) := by decide +kernel
theorem dX7_many_111 : decode cX7_many 111 = .ok (.getfield 12, 3) := by decide +kernel
theorem dX7_many_114 : decode cX7_many 114 = .ok (.invokevirtual 217, 3) := by decide +kernel
theorem dX7_many_117 : decode cX7_many 117 = .ok (.ireturn, 1) := by decide +kernel
theorem dX7_many_118 : decode cX7_many 118 = .ok (.aload_n 0, 1) := by decide +kernel
theorem dX7_many_119 : decode cX7_many 119 = .ok (.getfield 12, 3) := by decide +kernel
theorem dX7_many_122 : decode cX7_many 122 = .ok (.invokevirtual 221, 3) := by decide +kernel
theorem dX7_many_125 : decode cX7_many 125 = .ok (.ireturn, 1) := by decide +kernel
theorem dX7_many_126 : decode cX7_many 126 = .ok (.aload_n 0, 1) := by decide +kernel
theorem dX7_many_127 : decode cX7_many 127 = .ok (.getfield 12, 3) := by decide +kernel
theorem dX7_many_130 : decode cX7_many 130 = .ok (.iconst 1, 1) := by decide +kernel
theorem dX7_many_131 : decode cX7_many 131 = .ok (.invokevirtual 224, 3) := by decide +kernel
theorem dX7_many_134 : decode cX7_many 134 = .ok (.ireturn, 1) := by decide +kernel
theorem dX7_many_135 : decode cX7_many 135 = .ok (.aload_n 0, 1) := by decide +kernel
theorem dX7_many_136 : decode cX7_many 136 = .ok (.getfield 12, 3) := by decide +kernel
theorem dX7_many_139 : decode cX7_many 139 = .ok (.iconst 0, 1) := by decide +kernel
theorem dX7_many_140 : decode cX7_many 140 = .ok (.invokevirtual 224, 3) := by decide +kernel
theorem dX7_many_143 : decode cX7_many 143 = .ok (.ireturn, 1) := by decide +kernel
theorem dX7_many_144 : decode cX7_many 144 = .ok (.aload_n 0, 1) := by decide +kernel
theorem dX7_many_145 : decode cX7_many 145 = .ok (.getfield 12, 3) := by decide +kernel
theorem dX7_many_148 : decode cX7_many 148 = .ok (.iconst 2, 1) := by decide +kernel
theorem dX7_many_149 : decode cX7_many 149 = .ok (.invokevirtual 224, 3) := by decide +kernel
theorem dX7_many_152 : decode cX7_many 152 = .ok (.ireturn, 1) := by decide +kernel
theorem dX7_many_153 : decode cX7_many 153 = .ok (.iconst (-1), 1) := by decide +kernel
theorem dX7_many_154 : decode cX7_many 154 = .ok (.ireturn, 1) := by decide +kernel
set_option maxRecDepth 20000 in
theorem ggX7_keep_X1_init : GoodIn wsX7_keep wsX1_init := goodIn_r _ [8, 9, 10, 11, 12, 13, 14, 15, 16, 17, 18, 19, 20, 21, 22, 23, 24, 25, 26, 27, 28, 29, 30, 31, 32, 33, 34, 35, 36, 37, 38, 39, 40, 41, 42, 43, 44, 45, 46, 96, 97, 98, 99, 100, 101, 102, 103, 104, 105, 106, 107, 108, 109, 110, 111, 112, 113, 114, 115, 116, 117, 118, 119, 120, 121, 122, 123] (by decide +kernel) (by decide +kernel)
set_option maxRecDepth 20000 in
theorem gX7_keep_X1_init : GoodIn wsX7_keep (wsX1_init) := ggX7_keep_X1_init
set_option maxRecDepth 20000 in
theorem ggX7_keep_X1_copyFrom : GoodIn wsX7_keep wsX1_copyFrom := goodIn_r _ [50, 51, 52, 53, 54, 13, 15, 17, 55, 56, 57, 19, 58, 59, 60, 61, 62, 63, 21, 64, 65, 66, 67, 68, 69, 70, 23, 71, 72, 73, 74, 75, 76, 77, 35, 36, 38, 78, 79, 80, 81, 39, 41, 82, 83, 84, 43, 85, 86, 87, 88, 89, 90, 96, 97, 98, 99, 100, 101, 102, 103, 104, 105, 106, 107, 108, 109, 110, 111, 112, 113, 114, 115, 116, 117, 118, 119, 120, 121, 122, 123] (by decide +kernel) (by decide +kernel)
set_option maxRecDepth 20000 in
theorem gX7_keep_X1_copyFrom : GoodIn wsX7_keep (wsV RX7 227 RX1 yX1_copyFrom wsX1_copyFrom) := goodIn_app (goodIn_of _ (by decide +kernel)) ggX7_keep_X1_copyFrom
theorem dX7_keep_0 : decode cX7_keep 0 = .ok (.aload_n 0, 1) := by decide +kernel
theorem dX7_keep_1 : decode cX7_keep 1 = .ok (.getfield 30, 3) := by decide +kernel
theorem dX7_keep_4 : decode cX7_keep 4 = .ok (.ifnonnull 14, 3) := by decide +kernel
theorem dX7_keep_7 : decode cX7_keep 7 = .ok (.aload_n 0, 1) := by decide +kernel
theorem dX7_keep_8 : decode cX7_keep 8 = .ok (.new 9, 3) := by decide +kernel
theorem dX7_keep_11 : decode cX7_keep 11 = .ok (.dup, 1) := by decide +kernel
theorem dX7_keep_12 : decode cX7_keep 12 = .ok (.invokespecial 11, 3) := by decide +kernel
theorem dX7_keep_15 : decode cX7_keep 15 = .ok (.putfield 30, 3) := by decide +kernel
theorem dX7_keep_18 : decode cX7_keep 18 = .ok (.aload_n 0, 1) := by decide +kernel
theorem dX7_keep_19 : decode cX7_keep 19 = .ok (.getfield 30, 3) := by decide +kernel
theorem dX7_keep_22 : decode cX7_keep 22 = .ok (.aload_n 0, 1) := by decide +kernel
theorem dX7_keep_23 : decode cX7_keep 23 = .ok (.getfield 12, 3) := by decide +kernel
theorem dX7_keep_26 : decode cX7_keep 26 = .ok (.invokevirtual 227, 3) := by decide +kernel
theorem dX7_keep_29 : decode cX7_keep 29 = .ok (.iconst 1, 1) := by decide +kernel
theorem dX7_keep_30 : decode cX7_keep 30 = .ok (.ireturn, 1) := by decide +kernel
set_option maxRecDepth 20000 in
theorem ggX7_back_X1_copyFrom : GoodIn wsX7_back wsX1_copyFrom := goodIn_r _ [7, 8, 9, 10, 11, 12, 13, 14, 15, 16, 17, 18, 19, 20, 21, 22, 23, 24, 25, 26, 27, 28, 29, 30, 31, 32, 33, 34, 35, 36, 37, 38, 39, 40, 41, 42, 43, 44, 45, 46, 47, 48, 49, 50, 51, 52, 53, 54, 55, 56, 57, 58, 59, 65, 66, 67, 68, 69, 70, 71, 72, 73, 74, 75, 76, 77, 78, 79, 80, 81, 82, 83, 84, 85, 86, 87, 88, 89, 90, 91, 92] (by decide +kernel) (by decide +kernel)
set_option maxRecDepth 20000 in
theorem gX7_back_X1_copyFrom : GoodIn wsX7_back (wsV RX7 227 RX1 yX1_copyFrom wsX1_copyFrom) := goodIn_app (goodIn_of _ (by decide +kernel)) ggX7_back_X1_copyFrom
theorem dX7_back_0 : decode cX7_back 0 = .ok (.aload_n 0, 1) := by decide +kernel
theorem dX7_back_1 : decode cX7_back 1 = .ok (.getfield 30, 3) := by decide +kernel
theorem dX7_back_4 : decode cX7_back 4 = .ok (.ifnonnull 6, 3) := by decide +kernel
theorem dX7_back_7 : decode cX7_back 7 = .ok (.bipush (-5), 2) := by decide +kernel
theorem dX7_back_9 : decode cX7_back 9 = .ok (.ireturn, 1) := by decide +kernel
theorem dX7_back_10 : decode cX7_back 10 = .ok (.aload_n 0, 1) := by decide +kernel
theorem dX7_back_11 : decode cX7_back 11 = .ok (.getfield 12, 3) := by decide +kernel
theorem dX7_back_14 : decode cX7_back 14 = .ok (.aload_n 0, 1) := by decide +kernel
theorem dX7_back_15 : decode cX7_back 15 = .ok (.getfield 30, 3) := by decide +kernel
theorem dX7_back_18 : decode cX7_back 18 = .ok (.invokevirtual 227, 3) := by decide +kernel
theorem dX7_back_21 : decode cX7_back 21 = .ok (.iconst 1, 1) := by decide +kernel
theorem dX7_back_22 : decode cX7_back 22 = .ok (.ireturn, 1) := by decide +kernel
set_option maxRecDepth 20000 in
theorem ggX7_isParty_X7_isWithin : GoodIn wsX7_isParty wsX7_isWithin := goodIn_r _ [6] (by decide +kernel) (by decide +kernel)
set_option maxRecDepth 20000 in
theorem gX7_isParty_X7_isWithin : GoodIn wsX7_isParty (va_wsS RX7 37 yX7_isWithin wsX7_isWithin) := goodIn_app (goodIn_of _ (by decide +kernel)) ggX7_isParty_X7_isWithin
theorem dX7_isParty_0 : decode cX7_isParty 0 = .ok (.iload_n 1, 1) := by decide +kernel
theorem dX7_isParty_1 : decode cX7_isParty 1 = .ok (.iconst 0, 1) := by decide +kernel
theorem dX7_isParty_2 : decode cX7_isParty 2 = .ok (.aload_n 0, 1) := by decide +kernel
theorem dX7_isParty_3 : decode cX7_isParty 3 = .ok (.getfield 12, 3) := by decide +kernel
theorem dX7_isParty_6 : decode cX7_isParty 6 = .ok (.getfield 41, 3) := by decide +kernel
theorem dX7_isParty_9 : decode cX7_isParty 9 = .ok (.iconst 1, 1) := by decide +kernel
theorem dX7_isParty_10 : decode cX7_isParty 10 = .ok (.isub, 1) := by decide +kernel
theorem dX7_isParty_11 : decode cX7_isParty 11 = .ok (.invokestatic 37, 3) := by decide +kernel
theorem dX7_isParty_14 : decode cX7_isParty 14 = .ok (.ireturn, 1) := by decide +kernel
set_option maxRecDepth 20000 in
theorem ggX7_isMediator_X7_isWithin : GoodIn wsX7_isMediator wsX7_isWithin := goodIn_r _ [6] (by decide +kernel) (by decide +kernel)
set_option maxRecDepth 20000 in
theorem gX7_isMediator_X7_isWithin : GoodIn wsX7_isMediator (va_wsS RX7 37 yX7_isWithin wsX7_isWithin) := goodIn_app (goodIn_of _ (by decide +kernel)) ggX7_isMediator_X7_isWithin
theorem dX7_isMediator_0 : decode cX7_isMediator 0 = .ok (.iload_n 1, 1) := by decide +kernel
theorem dX7_isMediator_1 : decode cX7_isMediator 1 = .ok (.iconst 0, 1) := by decide +kernel
theorem dX7_isMediator_2 : decode cX7_isMediator 2 = .ok (.aload_n 0, 1) := by decide +kernel
theorem dX7_isMediator_3 : decode cX7_isMediator 3 = .ok (.getfield 12, 3) := by decide +kernel
theorem dX7_isMediator_6 : decode cX7_isMediator 6 = .ok (.getfield 56, 3) := by decide +kernel
theorem dX7_isMediator_9 : decode cX7_isMediator 9 = .ok (.iconst 1, 1) := by decide +kernel
theorem dX7_isMediator_10 : decode cX7_isMediator 10 = .ok (.isub, 1) := by decide +kernel
theorem dX7_isMediator_11 : decode cX7_isMediator 11 = .ok (.invokestatic 37, 3) := by decide +kernel
theorem dX7_isMediator_14 : decode cX7_isMediator 14 = .ok (.ireturn, 1) := by decide +kernel
set_option maxRecDepth 20000 in
theorem ggX7_isCase_X7_isWithin : GoodIn wsX7_isCase wsX7_isWithin := goodIn_r _ [6] (by decide +kernel) (by decide +kernel)
set_option maxRecDepth 20000 in
theorem gX7_isCase_X7_isWithin : GoodIn wsX7_isCase (va_wsS RX7 37 yX7_isWithin wsX7_isWithin) := goodIn_app (goodIn_of _ (by decide +kernel)) ggX7_isCase_X7_isWithin
theorem dX7_isCase_0 : decode cX7_isCase 0 = .ok (.iload_n 1, 1) := by decide +kernel
theorem dX7_isCase_1 : decode cX7_isCase 1 = .ok (.iconst 0, 1) := by decide +kernel
theorem dX7_isCase_2 : decode cX7_isCase 2 = .ok (.aload_n 0, 1) := by decide +kernel
theorem dX7_isCase_3 : decode cX7_isCase 3 = .ok (.getfield 12, 3) := by decide +kernel
theorem dX7_isCase_6 : decode cX7_isCase 6 = .ok (.getfield 83, 3) := by decide +kernel
theorem dX7_isCase_9 : decode cX7_isCase 9 = .ok (.iconst 1, 1) := by decide +kernel
theorem dX7_isCase_10 : decode cX7_isCase 10 = .ok (.isub, 1) := by decide +kernel
theorem dX7_isCase_11 : decode cX7_isCase 11 = .ok (.invokestatic 37, 3) := by decide +kernel
theorem dX7_isCase_14 : decode cX7_isCase 14 = .ok (.ireturn, 1) := by decide +kernel
set_option maxRecDepth 20000 in
theorem ggX7_isTerm_X7_isCase : GoodIn wsX7_isTerm wsX7_isCase := goodIn_r _ [8, 1, 9, 10, 11, 7, 12, 13, 14, 15, 16, 17, 18, 19, 20, 21, 22, 23, 24] (by decide +kernel) (by decide +kernel)
set_option maxRecDepth 20000 in
theorem gX7_isTerm_X7_isCase : GoodIn wsX7_isTerm (wsV RX7 96 RX7 yX7_isCase wsX7_isCase) := goodIn_app (goodIn_of _ (by decide +kernel)) ggX7_isTerm_X7_isCase
set_option maxRecDepth 20000 in
theorem ggX7_isTerm_X7_isWithin : GoodIn wsX7_isTerm wsX7_isWithin := goodIn_r _ [12] (by decide +kernel) (by decide +kernel)
set_option maxRecDepth 20000 in
theorem gX7_isTerm_X7_isWithin : GoodIn wsX7_isTerm (va_wsS RX7 37 yX7_isWithin wsX7_isWithin) := goodIn_app (goodIn_of _ (by decide +kernel)) ggX7_isTerm_X7_isWithin
theorem dX7_isTerm_0 : decode cX7_isTerm 0 = .ok (.aload_n 0, 1) := by decide +kernel
theorem dX7_isTerm_1 : decode cX7_isTerm 1 = .ok (.iload_n 1, 1) := by decide +kernel
theorem dX7_isTerm_2 : decode cX7_isTerm 2 = .ok (.invokevirtual 96, 3) := by decide +kernel
theorem dX7_isTerm_5 : decode cX7_isTerm 5 = .ok (.ifCond .eq 29, 3) := by decide +kernel
theorem dX7_isTerm_8 : decode cX7_isTerm 8 = .ok (.iload_n 2, 1) := by decide +kernel
theorem dX7_isTerm_9 : decode cX7_isTerm 9 = .ok (.iconst 0, 1) := by decide +kernel
theorem dX7_isTerm_10 : decode cX7_isTerm 10 = .ok (.aload_n 0, 1) := by decide +kernel
theorem dX7_isTerm_11 : decode cX7_isTerm 11 = .ok (.getfield 12, 3) := by decide +kernel
theorem dX7_isTerm_14 : decode cX7_isTerm 14 = .ok (.getfield 86, 3) := by decide +kernel
theorem dX7_isTerm_17 : decode cX7_isTerm 17 = .ok (.iload_n 1, 1) := by decide +kernel
theorem dX7_isTerm_18 : decode cX7_isTerm 18 = .ok (.aaload, 1) := by decide +kernel
theorem dX7_isTerm_19 : decode cX7_isTerm 19 = .ok (.getfield 169, 3) := by decide +kernel
theorem dX7_isTerm_22 : decode cX7_isTerm 22 = .ok (.iconst 1, 1) := by decide +kernel
theorem dX7_isTerm_23 : decode cX7_isTerm 23 = .ok (.isub, 1) := by decide +kernel
theorem dX7_isTerm_24 : decode cX7_isTerm 24 = .ok (.invokestatic 37, 3) := by decide +kernel
theorem dX7_isTerm_27 : decode cX7_isTerm 27 = .ok (.ifCond .eq 7, 3) := by decide +kernel
theorem dX7_isTerm_30 : decode cX7_isTerm 30 = .ok (.iconst 1, 1) := by decide +kernel
theorem dX7_isTerm_31 : decode cX7_isTerm 31 = .ok (.goto 4, 3) := by decide +kernel
theorem dX7_isTerm_34 : decode cX7_isTerm 34 = .ok (.iconst 0, 1) := by decide +kernel
theorem dX7_isTerm_35 : decode cX7_isTerm 35 = .ok (.ireturn, 1) := by decide +kernel
set_option maxRecDepth 20000 in
theorem ggX7_isSide_X7_isWithin : GoodIn wsX7_isSide wsX7_isWithin := goodIn_r _ [4] (by decide +kernel) (by decide +kernel)
set_option maxRecDepth 20000 in
theorem gX7_isSide_X7_isWithin : GoodIn wsX7_isSide (va_wsS RX7 37 yX7_isWithin wsX7_isWithin) := goodIn_app (goodIn_of _ (by decide +kernel)) ggX7_isSide_X7_isWithin
theorem dX7_isSide_0 : decode cX7_isSide 0 = .ok (.iload_n 0, 1) := by decide +kernel
theorem dX7_isSide_1 : decode cX7_isSide 1 = .ok (.iconst 0, 1) := by decide +kernel
theorem dX7_isSide_2 : decode cX7_isSide 2 = .ok (.iconst 1, 1) := by decide +kernel
theorem dX7_isSide_3 : decode cX7_isSide 3 = .ok (.invokestatic 37, 3) := by decide +kernel
theorem dX7_isSide_6 : decode cX7_isSide 6 = .ok (.ireturn, 1) := by decide +kernel
set_option maxRecDepth 20000 in
theorem ggX7_isHour_X7_isWithin : GoodIn wsX7_isHour wsX7_isWithin := goodIn_r _ [4] (by decide +kernel) (by decide +kernel)
set_option maxRecDepth 20000 in
theorem gX7_isHour_X7_isWithin : GoodIn wsX7_isHour (va_wsS RX7 37 yX7_isWithin wsX7_isWithin) := goodIn_app (goodIn_of _ (by decide +kernel)) ggX7_isHour_X7_isWithin
theorem dX7_isHour_0 : decode cX7_isHour 0 = .ok (.iload_n 0, 1) := by decide +kernel
theorem dX7_isHour_1 : decode cX7_isHour 1 = .ok (.iconst 0, 1) := by decide +kernel
theorem dX7_isHour_2 : decode cX7_isHour 2 = .ok (.bipush 23, 2) := by decide +kernel
theorem dX7_isHour_4 : decode cX7_isHour 4 = .ok (.invokestatic 37, 3) := by decide +kernel
theorem dX7_isHour_7 : decode cX7_isHour 7 = .ok (.ireturn, 1) := by decide +kernel
theorem dX7_isWithin_0 : decode cX7_isWithin 0 = .ok (.iload_n 0, 1) := by decide +kernel
theorem dX7_isWithin_1 : decode cX7_isWithin 1 = .ok (.iload_n 1, 1) := by decide +kernel
theorem dX7_isWithin_2 : decode cX7_isWithin 2 = .ok (.if_icmp .lt 12, 3) := by decide +kernel
theorem dX7_isWithin_5 : decode cX7_isWithin 5 = .ok (.iload_n 0, 1) := by decide +kernel
theorem dX7_isWithin_6 : decode cX7_isWithin 6 = .ok (.iload_n 2, 1) := by decide +kernel
theorem dX7_isWithin_7 : decode cX7_isWithin 7 = .ok (.if_icmp .gt 7, 3) := by decide +kernel
theorem dX7_isWithin_10 : decode cX7_isWithin 10 = .ok (.iconst 1, 1) := by decide +kernel
theorem dX7_isWithin_11 : decode cX7_isWithin 11 = .ok (.goto 4, 3) := by decide +kernel
theorem dX7_isWithin_14 : decode cX7_isWithin 14 = .ok (.iconst 0, 1) := by decide +kernel
theorem dX7_isWithin_15 : decode cX7_isWithin 15 = .ok (.ireturn, 1) := by decide +kernel
theorem dX7_hasBit_0 : decode cX7_hasBit 0 = .ok (.iload_n 0, 1) := by decide +kernel
theorem dX7_hasBit_1 : decode cX7_hasBit 1 = .ok (.iload_n 1, 1) := by decide +kernel
theorem dX7_hasBit_2 : decode cX7_hasBit 2 = .ok (.ishr, 1) := by decide +kernel
theorem dX7_hasBit_3 : decode cX7_hasBit 3 = .ok (.iconst 1, 1) := by decide +kernel
theorem dX7_hasBit_4 : decode cX7_hasBit 4 = .ok (.iand, 1) := by decide +kernel
theorem dX7_hasBit_5 : decode cX7_hasBit 5 = .ok (.iconst 1, 1) := by decide +kernel
theorem dX7_hasBit_6 : decode cX7_hasBit 6 = .ok (.if_icmp .ne 7, 3) := by decide +kernel
theorem dX7_hasBit_9 : decode cX7_hasBit 9 = .ok (.iconst 1, 1) := by decide +kernel
theorem dX7_hasBit_10 : decode cX7_hasBit 10 = .ok (.goto 4, 3) := by decide +kernel
theorem dX7_hasBit_13 : decode cX7_hasBit 13 = .ok (.iconst 0, 1) := by decide +kernel
theorem dX7_hasBit_14 : decode cX7_hasBit 14 = .ok (.ireturn, 1) := by decide +kernel
theorem dX8_init_0 : decode cX8_init 0 = .ok (.aload_n 0, 1) := by decide +kernel
theorem dX8_init_1 : decode cX8_init 1 = .ok (.invokespecial 1, 3) := by decide +kernel
theorem dX8_init_4 : decode cX8_init 4 = .ok (.aload_n 0, 1) := by decide +kernel
theorem dX8_init_5 : decode cX8_init 5 = .ok (.sipush 596, 3) := by decide +kernel
theorem dX8_init_8 : decode cX8_init 8 = .ok (.newarray .int, 2) := by decide +kernel
theorem dX8_init_10 : decode cX8_init 10 = .ok (.putfield 7, 3) := by decide +kernel
theorem dX8_init_13 : decode cX8_init 13 = .ok (.aload_n 0, 1) := by decide +kernel
theorem dX8_init_14 : decode cX8_init 14 = .ok (.sipush 596, 3) := by decide +kernel
theorem dX8_init_17 : decode cX8_init 17 = .ok (.newarray .int, 2) := by decide +kernel
theorem dX8_init_19 : decode cX8_init 19 = .ok (.putfield 13, 3) := by decide +kernel
theorem dX8_init_22 : decode cX8_init 22 = .ok (.aload_n 0, 1) := by decide +kernel
theorem dX8_init_23 : decode cX8_init 23 = .ok (.iconst 1, 1) := by decide +kernel
theorem dX8_init_24 : decode cX8_init 24 = .ok (.putfield 16, 3) := by decide +kernel
theorem dX8_init_27 : decode cX8_init 27 = .ok (.aload_n 0, 1) := by decide +kernel
theorem dX8_init_28 : decode cX8_init 28 = .ok (.bipush 6, 2) := by decide +kernel
theorem dX8_init_30 : decode cX8_init 30 = .ok (.newarray .int, 2) := by decide +kernel
theorem dX8_init_32 : decode cX8_init 32 = .ok (.putfield 20, 3) := by decide +kernel
theorem dX8_init_35 : decode cX8_init 35 = .ok (.aload_n 0, 1) := by decide +kernel
theorem dX8_init_36 : decode cX8_init 36 = .ok (.iconst 4, 1) := by decide +kernel
theorem dX8_init_37 : decode cX8_init 37 = .ok (.newarray .int, 2) := by decide +kernel
theorem dX8_init_39 : decode cX8_init 39 = .ok (.putfield 23, 3) := by decide +kernel
theorem dX8_init_42 : decode cX8_init 42 = .ok (.aload_n 0, 1) := by decide +kernel
theorem dX8_init_43 : decode cX8_init 43 = .ok (.iconst 5, 1) := by decide +kernel
theorem dX8_init_44 : decode cX8_init 44 = .ok (.newarray .int, 2) := by decide +kernel
theorem dX8_init_46 : decode cX8_init 46 = .ok (.putfield 26, 3) := by decide +kernel
theorem dX8_init_49 : decode cX8_init 49 = .ok (.aload_n 0, 1) := by decide +kernel
theorem dX8_init_50 : decode cX8_init 50 = .ok (.iconst 4, 1) := by decide +kernel
theorem dX8_init_51 : decode cX8_init 51 = .ok (.newarray .int, 2) := by decide +kernel
theorem dX8_init_53 : decode cX8_init 53 = .ok (.putfield 29, 3) := by decide +kernel
theorem dX8_init_56 : decode cX8_init 56 = .ok (.aload_n 0, 1) := by decide +kernel
theorem dX8_init_57 : decode cX8_init 57 = .ok (.bipush 6, 2) := by decide +kernel
theorem dX8_init_59 : decode cX8_init 59 = .ok (.newarray .int, 2) := by decide +kernel
theorem dX8_init_61 : decode cX8_init 61 = .ok (.putfield 32, 3) := by decide +kernel
theorem dX8_init_64 : decode cX8_init 64 = .ok (.aload_n 0, 1) := by decide +kernel
theorem dX8_init_65 : decode cX8_init 65 = .ok (.getfield 7, 3) := by decide +kernel
theorem dX8_init_68 : decode cX8_init 68 = .ok (.iconst 0, 1) := by decide +kernel
theorem dX8_init_69 : decode cX8_init 69 = .ok (.iconst 0, 1) := by decide +kernel
theorem dX8_init_70 : decode cX8_init 70 = .ok (.iastore, 1) := by decide +kernel
theorem dX8_init_71 : decode cX8_init 71 = .ok (.return_, 1) := by decide +kernel
theorem dX8_in_0 : decode cX8_in 0 = .ok (.iload_n 0, 1) := by decide +kernel
theorem dX8_in_1 : decode cX8_in 1 = .ok (.iload_n 1, 1) := by decide +kernel
theorem dX8_in_2 : decode cX8_in 2 = .ok (.if_icmp .lt 12, 3) := by decide +kernel
theorem dX8_in_5 : decode cX8_in 5 = .ok (.iload_n 0, 1) := by decide +kernel
theorem dX8_in_6 : decode cX8_in 6 = .ok (.iload_n 2, 1) := by decide +kernel
theorem dX8_in_7 : decode cX8_in 7 = .ok (.if_icmp .gt 7, 3) := by decide +kernel
theorem dX8_in_10 : decode cX8_in 10 = .ok (.iconst 1, 1) := by decide +kernel
theorem dX8_in_11 : decode cX8_in 11 = .ok (.goto 4, 3) := by decide +kernel
theorem dX8_in_14 : decode cX8_in 14 = .ok (.iconst 0, 1) := by decide +kernel
theorem dX8_in_15 : decode cX8_in 15 = .ok (.ireturn, 1) := by decide +kernel
set_option maxRecDepth 20000 in
theorem ggX8_isParty_X8_in : GoodIn wsX8_isParty wsX8_in := goodIn_r _ [5] (by decide +kernel) (by decide +kernel)
set_option maxRecDepth 20000 in
theorem gX8_isParty_X8_in : GoodIn wsX8_isParty (va_wsS RX8 35 yX8_in wsX8_in) := goodIn_app (goodIn_of _ (by decide +kernel)) ggX8_isParty_X8_in
theorem dX8_isParty_0 : decode cX8_isParty 0 = .ok (.iload_n 1, 1) := by decide +kernel
theorem dX8_isParty_1 : decode cX8_isParty 1 = .ok (.iconst 0, 1) := by decide +kernel
theorem dX8_isParty_2 : decode cX8_isParty 2 = .ok (.aload_n 0, 1) := by decide +kernel
theorem dX8_isParty_3 : decode cX8_isParty 3 = .ok (.getfield 7, 3) := by decide +kernel
theorem dX8_isParty_6 : decode cX8_isParty 6 = .ok (.iconst 0, 1) := by decide +kernel
theorem dX8_isParty_7 : decode cX8_isParty 7 = .ok (.iaload, 1) := by decide +kernel
theorem dX8_isParty_8 : decode cX8_isParty 8 = .ok (.iconst 1, 1) := by decide +kernel
theorem dX8_isParty_9 : decode cX8_isParty 9 = .ok (.isub, 1) := by decide +kernel
theorem dX8_isParty_10 : decode cX8_isParty 10 = .ok (.invokestatic 35, 3) := by decide +kernel
theorem dX8_isParty_13 : decode cX8_isParty 13 = .ok (.ireturn, 1) := by decide +kernel
set_option maxRecDepth 20000 in
theorem ggX8_isMediator_X8_in : GoodIn wsX8_isMediator wsX8_in := goodIn_r _ [5] (by decide +kernel) (by decide +kernel)
