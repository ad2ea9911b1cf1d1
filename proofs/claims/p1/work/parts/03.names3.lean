set_option maxRecDepth 20000 in
theorem gX8_isMediator_X8_in : GoodIn wsX8_isMediator (va_wsS RX8 35 yX8_in wsX8_in) := goodIn_app (goodIn_of _ (by decide +kernel)) ggX8_isMediator_X8_in
theorem dX8_isMediator_0 : decode cX8_isMediator 0 = .ok (.iload_n 1, 1) := by decide +kernel
theorem dX8_isMediator_1 : decode cX8_isMediator 1 = .ok (.iconst 0, 1) := by decide +kernel
theorem dX8_isMediator_2 : decode cX8_isMediator 2 = .ok (.aload_n 0, 1) := by decide +kernel
theorem dX8_isMediator_3 : decode cX8_isMediator 3 = .ok (.getfield 7, 3) := by decide +kernel
theorem dX8_isMediator_6 : decode cX8_isMediator 6 = .ok (.iconst 1, 1) := by decide +kernel
theorem dX8_isMediator_7 : decode cX8_isMediator 7 = .ok (.iaload, 1) := by decide +kernel
theorem dX8_isMediator_8 : decode cX8_isMediator 8 = .ok (.iconst 1, 1) := by decide +kernel
theorem dX8_isMediator_9 : decode cX8_isMediator 9 = .ok (.isub, 1) := by decide +kernel
theorem dX8_isMediator_10 : decode cX8_isMediator 10 = .ok (.invokestatic 35, 3) := by decide +kernel
theorem dX8_isMediator_13 : decode cX8_isMediator 13 = .ok (.ireturn, 1) := by decide +kernel
set_option maxRecDepth 20000 in
theorem ggX8_isCase_X8_in : GoodIn wsX8_isCase wsX8_in := goodIn_r _ [5] (by decide +kernel) (by decide +kernel)
set_option maxRecDepth 20000 in
theorem gX8_isCase_X8_in : GoodIn wsX8_isCase (va_wsS RX8 35 yX8_in wsX8_in) := goodIn_app (goodIn_of _ (by decide +kernel)) ggX8_isCase_X8_in
theorem dX8_isCase_0 : decode cX8_isCase 0 = .ok (.iload_n 1, 1) := by decide +kernel
theorem dX8_isCase_1 : decode cX8_isCase 1 = .ok (.iconst 0, 1) := by decide +kernel
theorem dX8_isCase_2 : decode cX8_isCase 2 = .ok (.aload_n 0, 1) := by decide +kernel
theorem dX8_isCase_3 : decode cX8_isCase 3 = .ok (.getfield 7, 3) := by decide +kernel
theorem dX8_isCase_6 : decode cX8_isCase 6 = .ok (.iconst 2, 1) := by decide +kernel
theorem dX8_isCase_7 : decode cX8_isCase 7 = .ok (.iaload, 1) := by decide +kernel
theorem dX8_isCase_8 : decode cX8_isCase 8 = .ok (.iconst 1, 1) := by decide +kernel
theorem dX8_isCase_9 : decode cX8_isCase 9 = .ok (.isub, 1) := by decide +kernel
theorem dX8_isCase_10 : decode cX8_isCase 10 = .ok (.invokestatic 35, 3) := by decide +kernel
theorem dX8_isCase_13 : decode cX8_isCase 13 = .ok (.ireturn, 1) := by decide +kernel
set_option maxRecDepth 20000 in
theorem ggX8_isSide_X8_in : GoodIn wsX8_isSide wsX8_in := goodIn_r _ [4] (by decide +kernel) (by decide +kernel)
set_option maxRecDepth 20000 in
theorem gX8_isSide_X8_in : GoodIn wsX8_isSide (va_wsS RX8 35 yX8_in wsX8_in) := goodIn_app (goodIn_of _ (by decide +kernel)) ggX8_isSide_X8_in
theorem dX8_isSide_0 : decode cX8_isSide 0 = .ok (.iload_n 0, 1) := by decide +kernel
theorem dX8_isSide_1 : decode cX8_isSide 1 = .ok (.iconst 0, 1) := by decide +kernel
theorem dX8_isSide_2 : decode cX8_isSide 2 = .ok (.iconst 1, 1) := by decide +kernel
theorem dX8_isSide_3 : decode cX8_isSide 3 = .ok (.invokestatic 35, 3) := by decide +kernel
theorem dX8_isSide_6 : decode cX8_isSide 6 = .ok (.ireturn, 1) := by decide +kernel
theorem dX8_at_0 : decode cX8_at 0 = .ok (.bipush 32, 2) := by decide +kernel
theorem dX8_at_2 : decode cX8_at 2 = .ok (.bipush 7, 2) := by decide +kernel
theorem dX8_at_4 : decode cX8_at 4 = .ok (.iload_n 0, 1) := by decide +kernel
theorem dX8_at_5 : decode cX8_at 5 = .ok (.imul, 1) := by decide +kernel
theorem dX8_at_6 : decode cX8_at 6 = .ok (.iadd, 1) := by decide +kernel
theorem dX8_at_7 : decode cX8_at 7 = .ok (.iload_n 1, 1) := by decide +kernel
theorem dX8_at_8 : decode cX8_at 8 = .ok (.iadd, 1) := by decide +kernel
theorem dX8_at_9 : decode cX8_at 9 = .ok (.ireturn, 1) := by decide +kernel
set_option maxRecDepth 20000 in
theorem ggX8_party_X8_in : GoodIn wsX8_party wsX8_in := goodIn_r _ [5] (by decide +kernel) (by decide +kernel)
set_option maxRecDepth 20000 in
theorem gX8_party_X8_in : GoodIn wsX8_party (va_wsS RX8 35 yX8_in wsX8_in) := goodIn_app (goodIn_of _ (by decide +kernel)) ggX8_party_X8_in
theorem dX8_party_0 : decode cX8_party 0 = .ok (.iload_n 1, 1) := by decide +kernel
theorem dX8_party_1 : decode cX8_party 1 = .ok (.iconst 0, 1) := by decide +kernel
theorem dX8_party_2 : decode cX8_party 2 = .ok (.bipush 9, 2) := by decide +kernel
theorem dX8_party_4 : decode cX8_party 4 = .ok (.invokestatic 35, 3) := by decide +kernel
theorem dX8_party_7 : decode cX8_party 7 = .ok (.ifCond .eq 12, 3) := by decide +kernel
theorem dX8_party_10 : decode cX8_party 10 = .ok (.iload_n 2, 1) := by decide +kernel
theorem dX8_party_11 : decode cX8_party 11 = .ok (.iconst 0, 1) := by decide +kernel
theorem dX8_party_12 : decode cX8_party 12 = .ok (.iconst 2, 1) := by decide +kernel
theorem dX8_party_13 : decode cX8_party 13 = .ok (.invokestatic 35, 3) := by decide +kernel
theorem dX8_party_16 : decode cX8_party 16 = .ok (.ifCond .ne 5, 3) := by decide +kernel
theorem dX8_party_19 : decode cX8_party 19 = .ok (.iconst (-1), 1) := by decide +kernel
theorem dX8_party_20 : decode cX8_party 20 = .ok (.ireturn, 1) := by decide +kernel
theorem dX8_party_21 : decode cX8_party 21 = .ok (.aload_n 0, 1) := by decide +kernel
theorem dX8_party_22 : decode cX8_party 22 = .ok (.getfield 7, 3) := by decide +kernel
theorem dX8_party_25 : decode cX8_party 25 = .ok (.iconst 0, 1) := by decide +kernel
theorem dX8_party_26 : decode cX8_party 26 = .ok (.iaload, 1) := by decide +kernel
theorem dX8_party_27 : decode cX8_party 27 = .ok (.bipush 8, 2) := by decide +kernel
theorem dX8_party_29 : decode cX8_party 29 = .ok (.if_icmp .ne 6, 3) := by decide +kernel
theorem dX8_party_32 : decode cX8_party 32 = .ok (.bipush (-2), 2) := by decide +kernel
theorem dX8_party_34 : decode cX8_party 34 = .ok (.ireturn, 1) := by decide +kernel
theorem dX8_party_35 : decode cX8_party 35 = .ok (.aload_n 0, 1) := by decide +kernel
theorem dX8_party_36 : decode cX8_party 36 = .ok (.getfield 7, 3) := by decide +kernel
theorem dX8_party_39 : decode cX8_party 39 = .ok (.iconst 0, 1) := by decide +kernel
theorem dX8_party_40 : decode cX8_party 40 = .ok (.iaload, 1) := by decide +kernel
theorem dX8_party_41 : decode cX8_party 41 = .ok (.istore_n 3, 1) := by decide +kernel
theorem dX8_party_42 : decode cX8_party 42 = .ok (.aload_n 0, 1) := by decide +kernel
theorem dX8_party_43 : decode cX8_party 43 = .ok (.getfield 7, 3) := by decide +kernel
theorem dX8_party_46 : decode cX8_party 46 = .ok (.iconst 4, 1) := by decide +kernel
theorem dX8_party_47 : decode cX8_party 47 = .ok (.iconst 2, 1) := by decide +kernel
theorem dX8_party_48 : decode cX8_party 48 = .ok (.iload_n 3, 1) := by decide +kernel
theorem dX8_party_49 : decode cX8_party 49 = .ok (.imul, 1) := by decide +kernel
theorem dX8_party_50 : decode cX8_party 50 = .ok (.iadd, 1) := by decide +kernel
theorem dX8_party_51 : decode cX8_party 51 = .ok (.iload_n 1, 1) := by decide +kernel
theorem dX8_party_52 : decode cX8_party 52 = .ok (.iastore, 1) := by decide +kernel
theorem dX8_party_53 : decode cX8_party 53 = .ok (.aload_n 0, 1) := by decide +kernel
theorem dX8_party_54 : decode cX8_party 54 = .ok (.getfield 7, 3) := by decide +kernel
theorem dX8_party_57 : decode cX8_party 57 = .ok (.iconst 4, 1) := by decide +kernel
theorem dX8_party_58 : decode cX8_party 58 = .ok (.iconst 2, 1) := by decide +kernel
theorem dX8_party_59 : decode cX8_party 59 = .ok (.iload_n 3, 1) := by decide +kernel
theorem dX8_party_60 : decode cX8_party 60 = .ok (.imul, 1) := by decide +kernel
theorem dX8_party_61 : decode cX8_party 61 = .ok (.iadd, 1) := by decide +kernel
theorem dX8_party_62 : decode cX8_party 62 = .ok (.iconst 1, 1) := by decide +kernel
theorem dX8_party_63 : decode cX8_party 63 = .ok (.iadd, 1) := by decide +kernel
theorem dX8_party_64 : decode cX8_party 64 = .ok (.iload_n 2, 1) := by decide +kernel
theorem dX8_party_65 : decode cX8_party 65 = .ok (.iastore, 1) := by decide +kernel
theorem dX8_party_66 : decode cX8_party 66 = .ok (.iconst 0, 1) := by decide +kernel
theorem dX8_party_67 : decode cX8_party 67 = .ok (.istore 4, 2) := by decide +kernel
theorem dX8_party_69 : decode cX8_party 69 = .ok (.iload 4, 2) := by decide +kernel
theorem dX8_party_71 : decode cX8_party 71 = .ok (.iconst 4, 1) := by decide +kernel
theorem dX8_party_72 : decode cX8_party 72 = .ok (.if_icmp .ge 35, 3) := by decide +kernel
theorem dX8_party_75 : decode cX8_party 75 = .ok (.aload_n 0, 1) := by decide +kernel
theorem dX8_party_76 : decode cX8_party 76 = .ok (.getfield 7, 3) := by decide +kernel
theorem dX8_party_79 : decode cX8_party 79 = .ok (.bipush 28, 2) := by decide +kernel
theorem dX8_party_81 : decode cX8_party 81 = .ok (.iload 4, 2) := by decide +kernel
theorem dX8_party_83 : decode cX8_party 83 = .ok (.iadd, 1) := by decide +kernel
theorem dX8_party_84 : decode cX8_party 84 = .ok (.aload_n 0, 1) := by decide +kernel
theorem dX8_party_85 : decode cX8_party 85 = .ok (.getfield 7, 3) := by decide +kernel
theorem dX8_party_88 : decode cX8_party 88 = .ok (.bipush 28, 2) := by decide +kernel
theorem dX8_party_90 : decode cX8_party 90 = .ok (.iload 4, 2) := by decide +kernel
theorem dX8_party_92 : decode cX8_party 92 = .ok (.iadd, 1) := by decide +kernel
theorem dX8_party_93 : decode cX8_party 93 = .ok (.iaload, 1) := by decide +kernel
theorem dX8_party_94 : decode cX8_party 94 = .ok (.iconst 1, 1) := by decide +kernel
theorem dX8_party_95 : decode cX8_party 95 = .ok (.iload_n 3, 1) := by decide +kernel
theorem dX8_party_96 : decode cX8_party 96 = .ok (.ishl, 1) := by decide +kernel
theorem dX8_party_97 : decode cX8_party 97 = .ok (.iconst (-1), 1) := by decide +kernel
theorem dX8_party_98 : decode cX8_party 98 = .ok (.ixor, 1) := by decide +kernel
theorem dX8_party_99 : decode cX8_party 99 = .ok (.iand, 1) := by decide +kernel
theorem dX8_party_100 : decode cX8_party 100 = .ok (.iastore, 1) := by decide +kernel
theorem dX8_party_101 : decode cX8_party 101 = .ok (.iinc 4 1, 3) := by decide +kernel
theorem dX8_party_104 : decode cX8_party 104 = .ok (.goto (-35), 3) := by decide +kernel
theorem dX8_party_107 : decode cX8_party 107 = .ok (.aload_n 0, 1) := by decide +kernel
theorem dX8_party_108 : decode cX8_party 108 = .ok (.getfield 7, 3) := by decide +kernel
theorem dX8_party_111 : decode cX8_party 111 = .ok (.iconst 0, 1) := by decide +kernel
theorem dX8_party_112 : decode cX8_party 112 = .ok (.dup2, 1) := by decide +kernel
theorem dX8_party_113 : decode cX8_party 113 = .ok (.iaload, 1) := by decide +kernel
theorem dX8_party_114 : decode cX8_party 114 = .ok (.iconst 1, 1) := by decide +kernel
theorem dX8_party_115 : decode cX8_party 115 = .ok (.iadd, 1) := by decide +kernel
theorem dX8_party_116 : decode cX8_party 116 = .ok (.iastore, 1) := by decide +kernel
theorem dX8_party_117 : decode cX8_party 117 = .ok (.iload_n 3, 1) := by decide +kernel
theorem dX8_party_118 : decode cX8_party 118 = .ok (.ireturn, 1) := by decide +kernel
set_option maxRecDepth 20000 in
theorem ggX8_mediator_X8_in : GoodIn wsX8_mediator wsX8_in := goodIn_r _ [5] (by decide +kernel) (by decide +kernel)
set_option maxRecDepth 20000 in
theorem gX8_mediator_X8_in : GoodIn wsX8_mediator (va_wsS RX8 35 yX8_in wsX8_in) := goodIn_app (goodIn_of _ (by decide +kernel)) ggX8_mediator_X8_in
theorem dX8_mediator_0 : decode cX8_mediator 0 = .ok (.iload_n 1, 1) := by decide +kernel
theorem dX8_mediator_1 : decode cX8_mediator 1 = .ok (.iconst 0, 1) := by decide +kernel
theorem dX8_mediator_2 : decode cX8_mediator 2 = .ok (.bipush 9, 2) := by decide +kernel
theorem dX8_mediator_4 : decode cX8_mediator 4 = .ok (.invokestatic 35, 3) := by decide +kernel
theorem dX8_mediator_7 : decode cX8_mediator 7 = .ok (.ifCond .eq 13, 3) := by decide +kernel
theorem dX8_mediator_10 : decode cX8_mediator 10 = .ok (.iload_n 2, 1) := by decide +kernel
theorem dX8_mediator_11 : decode cX8_mediator 11 = .ok (.iconst 1, 1) := by decide +kernel
theorem dX8_mediator_12 : decode cX8_mediator 12 = .ok (.bipush 7, 2) := by decide +kernel
theorem dX8_mediator_14 : decode cX8_mediator 14 = .ok (.invokestatic 35, 3) := by decide +kernel
theorem dX8_mediator_17 : decode cX8_mediator 17 = .ok (.ifCond .ne 5, 3) := by decide +kernel
theorem dX8_mediator_20 : decode cX8_mediator 20 = .ok (.iconst (-1), 1) := by decide +kernel
theorem dX8_mediator_21 : decode cX8_mediator 21 = .ok (.ireturn, 1) := by decide +kernel
theorem dX8_mediator_22 : decode cX8_mediator 22 = .ok (.aload_n 0, 1) := by decide +kernel
theorem dX8_mediator_23 : decode cX8_mediator 23 = .ok (.getfield 7, 3) := by decide +kernel
theorem dX8_mediator_26 : decode cX8_mediator 26 = .ok (.iconst 1, 1) := by decide +kernel
theorem dX8_mediator_27 : decode cX8_mediator 27 = .ok (.iaload, 1) := by decide +kernel
theorem dX8_mediator_28 : decode cX8_mediator 28 = .ok (.iconst 4, 1) := by decide +kernel
theorem dX8_mediator_29 : decode cX8_mediator 29 = .ok (.if_icmp .ne 6, 3) := by decide +kernel
theorem dX8_mediator_32 : decode cX8_mediator 32 = .ok (.bipush (-2), 2) := by decide +kernel
theorem dX8_mediator_34 : decode cX8_mediator 34 = .ok (.ireturn, 1) := by decide +kernel
theorem dX8_mediator_35 : decode cX8_mediator 35 = .ok (.aload_n 0, 1) := by decide +kernel
theorem dX8_mediator_36 : decode cX8_mediator 36 = .ok (.getfield 7, 3) := by decide +kernel
theorem dX8_mediator_39 : decode cX8_mediator 39 = .ok (.iconst 1, 1) := by decide +kernel
theorem dX8_mediator_40 : decode cX8_mediator 40 = .ok (.iaload, 1) := by decide +kernel
theorem dX8_mediator_41 : decode cX8_mediator 41 = .ok (.istore_n 3, 1) := by decide +kernel
theorem dX8_mediator_42 : decode cX8_mediator 42 = .ok (.aload_n 0, 1) := by decide +kernel
theorem dX8_mediator_43 : decode cX8_mediator 43 = .ok (.getfield 7, 3) := by decide +kernel
theorem dX8_mediator_46 : decode cX8_mediator 46 = .ok (.bipush 20, 2) := by decide +kernel
theorem dX8_mediator_48 : decode cX8_mediator 48 = .ok (.iconst 2, 1) := by decide +kernel
theorem dX8_mediator_49 : decode cX8_mediator 49 = .ok (.iload_n 3, 1) := by decide +kernel
theorem dX8_mediator_50 : decode cX8_mediator 50 = .ok (.imul, 1) := by decide +kernel
theorem dX8_mediator_51 : decode cX8_mediator 51 = .ok (.iadd, 1) := by decide +kernel
theorem dX8_mediator_52 : decode cX8_mediator 52 = .ok (.iload_n 1, 1) := by decide +kernel
theorem dX8_mediator_53 : decode cX8_mediator 53 = .ok (.iastore, 1) := by decide +kernel
theorem dX8_mediator_54 : decode cX8_mediator 54 = .ok (.aload_n 0, 1) := by decide +kernel
theorem dX8_mediator_55 : decode cX8_mediator 55 = .ok (.getfield 7, 3) := by decide +kernel
theorem dX8_mediator_58 : decode cX8_mediator 58 = .ok (.bipush 20, 2) := by decide +kernel
theorem dX8_mediator_60 : decode cX8_mediator 60 = .ok (.iconst 2, 1) := by decide +kernel
theorem dX8_mediator_61 : decode cX8_mediator 61 = .ok (.iload_n 3, 1) := by decide +kernel
theorem dX8_mediator_62 : decode cX8_mediator 62 = .ok (.imul, 1) := by decide +kernel
theorem dX8_mediator_63 : decode cX8_mediator 63 = .ok (.iadd, 1) := by decide +kernel
theorem dX8_mediator_64 : decode cX8_mediator 64 = .ok (.iconst 1, 1) := by decide +kernel
theorem dX8_mediator_65 : decode cX8_mediator 65 = .ok (.iadd, 1) := by decide +kernel
theorem dX8_mediator_66 : decode cX8_mediator 66 = .ok (.iload_n 2, 1) := by decide +kernel
theorem dX8_mediator_67 : decode cX8_mediator 67 = .ok (.iastore, 1) := by decide +kernel
theorem dX8_mediator_68 : decode cX8_mediator 68 = .ok (.aload_n 0, 1) := by decide +kernel
theorem dX8_mediator_69 : decode cX8_mediator 69 = .ok (.getfield 7, 3) := by decide +kernel
theorem dX8_mediator_72 : decode cX8_mediator 72 = .ok (.bipush 28, 2) := by decide +kernel
theorem dX8_mediator_74 : decode cX8_mediator 74 = .ok (.iload_n 3, 1) := by decide +kernel
theorem dX8_mediator_75 : decode cX8_mediator 75 = .ok (.iadd, 1) := by decide +kernel
theorem dX8_mediator_76 : decode cX8_mediator 76 = .ok (.iconst 0, 1) := by decide +kernel
theorem dX8_mediator_77 : decode cX8_mediator 77 = .ok (.iastore, 1) := by decide +kernel
theorem dX8_mediator_78 : decode cX8_mediator 78 = .ok (.aload_n 0, 1) := by decide +kernel
theorem dX8_mediator_79 : decode cX8_mediator 79 = .ok (.getfield 7, 3) := by decide +kernel
theorem dX8_mediator_82 : decode cX8_mediator 82 = .ok (.iconst 1, 1) := by decide +kernel
theorem dX8_mediator_83 : decode cX8_mediator 83 = .ok (.dup2, 1) := by decide +kernel
theorem dX8_mediator_84 : decode cX8_mediator 84 = .ok (.iaload, 1) := by decide +kernel
theorem dX8_mediator_85 : decode cX8_mediator 85 = .ok (.iconst 1, 1) := by decide +kernel
theorem dX8_mediator_86 : decode cX8_mediator 86 = .ok (.iadd, 1) := by decide +kernel
theorem dX8_mediator_87 : decode cX8_mediator 87 = .ok (.iastore, 1) := by decide +kernel
theorem dX8_mediator_88 : decode cX8_mediator 88 = .ok (.iload_n 3, 1) := by decide +kernel
theorem dX8_mediator_89 : decode cX8_mediator 89 = .ok (.ireturn, 1) := by decide +kernel
set_option maxRecDepth 20000 in
theorem ggX8_kin_X8_isMediator : GoodIn wsX8_kin wsX8_isMediator := goodIn_r _ [6, 1, 7, 8, 5, 9, 14, 15, 16, 17, 18, 19, 20, 21, 22, 23, 24] (by decide +kernel) (by decide +kernel)
set_option maxRecDepth 20000 in
theorem gX8_kin_X8_isMediator : GoodIn wsX8_kin (wsV RX8 39 RX8 yX8_isMediator wsX8_isMediator) := goodIn_app (goodIn_of _ (by decide +kernel)) ggX8_kin_X8_isMediator
set_option maxRecDepth 20000 in
theorem ggX8_kin_X8_isParty : GoodIn wsX8_kin wsX8_isParty := goodIn_r _ [13, 1, 7, 8, 5, 9, 14, 15, 16, 17, 18, 19, 20, 21, 22, 23, 24] (by decide +kernel) (by decide +kernel)
set_option maxRecDepth 20000 in
theorem gX8_kin_X8_isParty : GoodIn wsX8_kin (wsV RX8 43 RX8 yX8_isParty wsX8_isParty) := goodIn_app (goodIn_of _ (by decide +kernel)) ggX8_kin_X8_isParty
theorem dX8_kin_0 : decode cX8_kin 0 = .ok (.aload_n 0, 1) := by decide +kernel
theorem dX8_kin_1 : decode cX8_kin 1 = .ok (.iload_n 1, 1) := by decide +kernel
theorem dX8_kin_2 : decode cX8_kin 2 = .ok (.invokevirtual 39, 3) := by decide +kernel
theorem dX8_kin_5 : decode cX8_kin 5 = .ok (.ifCond .eq 11, 3) := by decide +kernel
theorem dX8_kin_8 : decode cX8_kin 8 = .ok (.aload_n 0, 1) := by decide +kernel
theorem dX8_kin_9 : decode cX8_kin 9 = .ok (.iload_n 2, 1) := by decide +kernel
theorem dX8_kin_10 : decode cX8_kin 10 = .ok (.invokevirtual 43, 3) := by decide +kernel
theorem dX8_kin_13 : decode cX8_kin 13 = .ok (.ifCond .ne 5, 3) := by decide +kernel
theorem dX8_kin_16 : decode cX8_kin 16 = .ok (.iconst (-1), 1) := by decide +kernel
theorem dX8_kin_17 : decode cX8_kin 17 = .ok (.ireturn, 1) := by decide +kernel
theorem dX8_kin_18 : decode cX8_kin 18 = .ok (.aload_n 0, 1) := by decide +kernel
theorem dX8_kin_19 : decode cX8_kin 19 = .ok (.getfield 7, 3) := by decide +kernel
theorem dX8_kin_22 : decode cX8_kin 22 = .ok (.bipush 28, 2) := by decide +kernel
theorem dX8_kin_24 : decode cX8_kin 24 = .ok (.iload_n 1, 1) := by decide +kernel
theorem dX8_kin_25 : decode cX8_kin 25 = .ok (.iadd, 1) := by decide +kernel
theorem dX8_kin_26 : decode cX8_kin 26 = .ok (.iaload, 1) := by decide +kernel
theorem dX8_kin_27 : decode cX8_kin 27 = .ok (.iload_n 2, 1) := by decide +kernel
theorem dX8_kin_28 : decode cX8_kin 28 = .ok (.ishr, 1) := by decide +kernel
theorem dX8_kin_29 : decode cX8_kin 29 = .ok (.iconst 1, 1) := by decide +kernel
theorem dX8_kin_30 : decode cX8_kin 30 = .ok (.iand, 1) := by decide +kernel
theorem dX8_kin_31 : decode cX8_kin 31 = .ok (.iconst 1, 1) := by decide +kernel
theorem dX8_kin_32 : decode cX8_kin 32 = .ok (.if_icmp .ne 7, 3) := by decide +kernel
theorem dX8_kin_35 : decode cX8_kin 35 = .ok (.iconst 1, 1) := by decide +kernel
theorem dX8_kin_36 : decode cX8_kin 36 = .ok (.goto 4, 3) := by decide +kernel
theorem dX8_kin_39 : decode cX8_kin 39 = .ok (.iconst 0, 1) := by decide +kernel
theorem dX8_kin_40 : decode cX8_kin 40 = .ok (.istore 4, 2) := by decide +kernel
theorem dX8_kin_42 : decode cX8_kin 42 = .ok (.aload_n 0, 1) := by decide +kernel
theorem dX8_kin_43 : decode cX8_kin 43 = .ok (.getfield 7, 3) := by decide +kernel
theorem dX8_kin_46 : decode cX8_kin 46 = .ok (.bipush 28, 2) := by decide +kernel
theorem dX8_kin_48 : decode cX8_kin 48 = .ok (.iload_n 1, 1) := by decide +kernel
theorem dX8_kin_49 : decode cX8_kin 49 = .ok (.iadd, 1) := by decide +kernel
theorem dX8_kin_50 : decode cX8_kin 50 = .ok (.iload_n 3, 1) := by decide +kernel
theorem dX8_kin_51 : decode cX8_kin 51 = .ok (.ifCond .eq 19, 3) := by decide +kernel
theorem dX8_kin_54 : decode cX8_kin 54 = .ok (.aload_n 0, 1) := by decide +kernel
theorem dX8_kin_55 : decode cX8_kin 55 = .ok (.getfield 7, 3) := by decide +kernel
theorem dX8_kin_58 : decode cX8_kin 58 = .ok (.bipush 28, 2) := by decide +kernel
theorem dX8_kin_60 : decode cX8_kin 60 = .ok (.iload_n 1, 1) := by decide +kernel
theorem dX8_kin_61 : decode cX8_kin 61 = .ok (.iadd, 1) := by decide +kernel
theorem dX8_kin_62 : decode cX8_kin 62 = .ok (.iaload, 1) := by decide +kernel
theorem dX8_kin_63 : decode cX8_kin 63 = .ok (.iconst 1, 1) := by decide +kernel
theorem dX8_kin_64 : decode cX8_kin 64 = .ok (.iload_n 2, 1) := by decide +kernel
theorem dX8_kin_65 : decode cX8_kin 65 = .ok (.ishl, 1) := by decide +kernel
theorem dX8_kin_66 : decode cX8_kin 66 = .ok (.ior, 1) := by decide +kernel
theorem dX8_kin_67 : decode cX8_kin 67 = .ok (.goto 18, 3) := by decide +kernel
theorem dX8_kin_70 : decode cX8_kin 70 = .ok (.aload_n 0, 1) := by decide +kernel
theorem dX8_kin_71 : decode cX8_kin 71 = .ok (.getfield 7, 3) := by decide +kernel
theorem dX8_kin_74 : decode cX8_kin 74 = .ok (.bipush 28, 2) := by decide +kernel
theorem dX8_kin_76 : decode cX8_kin 76 = .ok (.iload_n 1, 1) := by decide +kernel
theorem dX8_kin_77 : decode cX8_kin 77 = .ok (.iadd, 1) := by decide +kernel
theorem dX8_kin_78 : decode cX8_kin 78 = .ok (.iaload, 1) := by decide +kernel
theorem dX8_kin_79 : decode cX8_kin 79 = .ok (.iconst 1, 1) := by decide +kernel
theorem dX8_kin_80 : decode cX8_kin 80 = .ok (.iload_n 2, 1) := by decide +kernel
theorem dX8_kin_81 : decode cX8_kin 81 = .ok (.ishl, 1) := by decide +kernel
theorem dX8_kin_82 : decode cX8_kin 82 = .ok (.iconst (-1), 1) := by decide +kernel
theorem dX8_kin_83 : decode cX8_kin 83 = .ok (.ixor, 1) := by decide +kernel
theorem dX8_kin_84 : decode cX8_kin 84 = .ok (.iand, 1) := by decide +kernel
theorem dX8_kin_85 : decode cX8_kin 85 = .ok (.iastore, 1) := by decide +kernel
theorem dX8_kin_86 : decode cX8_kin 86 = .ok (.iload 4, 2) := by decide +kernel
theorem dX8_kin_88 : decode cX8_kin 88 = .ok (.iload_n 3, 1) := by decide +kernel
theorem dX8_kin_89 : decode cX8_kin 89 = .ok (.if_icmp .ne 7, 3) := by decide +kernel
theorem dX8_kin_92 : decode cX8_kin 92 = .ok (.iconst 0, 1) := by decide +kernel
theorem dX8_kin_93 : decode cX8_kin 93 = .ok (.goto 4, 3) := by decide +kernel
theorem dX8_kin_96 : decode cX8_kin 96 = .ok (.iconst 1, 1) := by decide +kernel
theorem dX8_kin_97 : decode cX8_kin 97 = .ok (.ireturn, 1) := by decide +kernel
set_option maxRecDepth 20000 in
theorem ggX8_open_X8_isParty : GoodIn wsX8_open wsX8_isParty := goodIn_r _ [6, 1, 7, 8, 5, 9, 13, 14, 15, 16, 17, 18, 19, 20, 21, 22, 23] (by decide +kernel) (by decide +kernel)
set_option maxRecDepth 20000 in
theorem gX8_open_X8_isParty : GoodIn wsX8_open (wsV RX8 43 RX8 yX8_isParty wsX8_isParty) := goodIn_app (goodIn_of _ (by decide +kernel)) ggX8_open_X8_isParty
set_option maxRecDepth 20000 in
theorem ggX8_open_X8_at : GoodIn wsX8_open wsX8_at := goodIn_r _ [12] (by decide +kernel) (by decide +kernel)
set_option maxRecDepth 20000 in
theorem gX8_open_X8_at : GoodIn wsX8_open (va_wsS RX8 46 yX8_at wsX8_at) := goodIn_app (goodIn_of _ (by decide +kernel)) ggX8_open_X8_at
theorem dX8_open_0 : decode cX8_open 0 = .ok (.aload_n 0, 1) := by decide +kernel
theorem dX8_open_1 : decode cX8_open 1 = .ok (.iload_n 1, 1) := by decide +kernel
theorem dX8_open_2 : decode cX8_open 2 = .ok (.invokevirtual 43, 3) := by decide +kernel
theorem dX8_open_5 : decode cX8_open 5 = .ok (.ifCond .eq 16, 3) := by decide +kernel
theorem dX8_open_8 : decode cX8_open 8 = .ok (.aload_n 0, 1) := by decide +kernel
theorem dX8_open_9 : decode cX8_open 9 = .ok (.iload_n 2, 1) := by decide +kernel
theorem dX8_open_10 : decode cX8_open 10 = .ok (.invokevirtual 43, 3) := by decide +kernel
theorem dX8_open_13 : decode cX8_open 13 = .ok (.ifCond .eq 8, 3) := by decide +kernel
theorem dX8_open_16 : decode cX8_open 16 = .ok (.iload_n 1, 1) := by decide +kernel
theorem dX8_open_17 : decode cX8_open 17 = .ok (.iload_n 2, 1) := by decide +kernel
theorem dX8_open_18 : decode cX8_open 18 = .ok (.if_icmp .ne 5, 3) := by decide +kernel
theorem dX8_open_21 : decode cX8_open 21 = .ok (.iconst (-1), 1) := by decide +kernel
theorem dX8_open_22 : decode cX8_open 22 = .ok (.ireturn, 1) := by decide +kernel
theorem dX8_open_23 : decode cX8_open 23 = .ok (.aload_n 0, 1) := by decide +kernel
theorem dX8_open_24 : decode cX8_open 24 = .ok (.getfield 7, 3) := by decide +kernel
theorem dX8_open_27 : decode cX8_open 27 = .ok (.iconst 2, 1) := by decide +kernel
theorem dX8_open_28 : decode cX8_open 28 = .ok (.iaload, 1) := by decide +kernel
theorem dX8_open_29 : decode cX8_open 29 = .ok (.bipush 6, 2) := by decide +kernel
theorem dX8_open_31 : decode cX8_open 31 = .ok (.if_icmp .ne 6, 3) := by decide +kernel
theorem dX8_open_34 : decode cX8_open 34 = .ok (.bipush (-2), 2) := by decide +kernel
theorem dX8_open_36 : decode cX8_open 36 = .ok (.ireturn, 1) := by decide +kernel
theorem dX8_open_37 : decode cX8_open 37 = .ok (.aload_n 0, 1) := by decide +kernel
theorem dX8_open_38 : decode cX8_open 38 = .ok (.getfield 7, 3) := by decide +kernel
theorem dX8_open_41 : decode cX8_open 41 = .ok (.iconst 2, 1) := by decide +kernel
theorem dX8_open_42 : decode cX8_open 42 = .ok (.iaload, 1) := by decide +kernel
theorem dX8_open_43 : decode cX8_open 43 = .ok (.istore_n 3, 1) := by decide +kernel
theorem dX8_open_44 : decode cX8_open 44 = .ok (.aload_n 0, 1) := by decide +kernel
theorem dX8_open_45 : decode cX8_open 45 = .ok (.getfield 7, 3) := by decide +kernel
theorem dX8_open_48 : decode cX8_open 48 = .ok (.iload_n 3, 1) := by decide +kernel
theorem dX8_open_49 : decode cX8_open 49 = .ok (.iconst 0, 1) := by decide +kernel
theorem dX8_open_50 : decode cX8_open 50 = .ok (.invokestatic 46, 3) := by decide +kernel
theorem dX8_open_53 : decode cX8_open 53 = .ok (.iload_n 1, 1) := by decide +kernel
theorem dX8_open_54 : decode cX8_open 54 = .ok (.iastore, 1) := by decide +kernel
theorem dX8_open_55 : decode cX8_open 55 = .ok (.aload_n 0, 1) := by decide +kernel
theorem dX8_open_56 : decode cX8_open 56 = .ok (.getfield 7, 3) := by decide +kernel
theorem dX8_open_59 : decode cX8_open 59 = .ok (.iload_n 3, 1) := by decide +kernel
theorem dX8_open_60 : decode cX8_open 60 = .ok (.iconst 1, 1) := by decide +kernel
theorem dX8_open_61 : decode cX8_open 61 = .ok (.invokestatic 46, 3) := by decide +kernel
theorem dX8_open_64 : decode cX8_open 64 = .ok (.iload_n 2, 1) := by decide +kernel
theorem dX8_open_65 : decode cX8_open 65 = .ok (.iastore, 1) := by decide +kernel
theorem dX8_open_66 : decode cX8_open 66 = .ok (.aload_n 0, 1) := by decide +kernel
theorem dX8_open_67 : decode cX8_open 67 = .ok (.getfield 7, 3) := by decide +kernel
theorem dX8_open_70 : decode cX8_open 70 = .ok (.iload_n 3, 1) := by decide +kernel
theorem dX8_open_71 : decode cX8_open 71 = .ok (.iconst 2, 1) := by decide +kernel
theorem dX8_open_72 : decode cX8_open 72 = .ok (.invokestatic 46, 3) := by decide +kernel
theorem dX8_open_75 : decode cX8_open 75 = .ok (.iconst 0, 1) := by decide +kernel
theorem dX8_open_76 : decode cX8_open 76 = .ok (.iastore, 1) := by decide +kernel
theorem dX8_open_77 : decode cX8_open 77 = .ok (.aload_n 0, 1) := by decide +kernel
theorem dX8_open_78 : decode cX8_open 78 = .ok (.getfield 7, 3) := by decide +kernel
theorem dX8_open_81 : decode cX8_open 81 = .ok (.iload_n 3, 1) := by decide +kernel
theorem dX8_open_82 : decode cX8_open 82 = .ok (.iconst 3, 1) := by decide +kernel
theorem dX8_open_83 : decode cX8_open 83 = .ok (.invokestatic 46, 3) := by decide +kernel
theorem dX8_open_86 : decode cX8_open 86 = .ok (.bipush (-5), 2) := by decide +kernel
theorem dX8_open_88 : decode cX8_open 88 = .ok (.iastore, 1) := by decide +kernel
theorem dX8_open_89 : decode cX8_open 89 = .ok (.aload_n 0, 1) := by decide +kernel
theorem dX8_open_90 : decode cX8_open 90 = .ok (.getfield 7, 3) := by decide +kernel
theorem dX8_open_93 : decode cX8_open 93 = .ok (.iload_n 3, 1) := by decide +kernel
theorem dX8_open_94 : decode cX8_open 94 = .ok (.iconst 4, 1) := by decide +kernel
theorem dX8_open_95 : decode cX8_open 95 = .ok (.invokestatic 46, 3) := by decide +kernel
theorem dX8_open_98 : decode cX8_open 98 = .ok (.iconst 0, 1) := by decide +kernel
theorem dX8_open_99 : decode cX8_open 99 = .ok (.iastore, 1) := by decide +kernel
theorem dX8_open_100 : decode cX8_open 100 = .ok (.aload_n 0, 1) := by decide +kernel
theorem dX8_open_101 : decode cX8_open 101 = .ok (.getfield 7, 3) := by decide +kernel
theorem dX8_open_104 : decode cX8_open 104 = .ok (.iload_n 3, 1) := by decide +kernel
theorem dX8_open_105 : decode cX8_open 105 = .ok (.iconst 5, 1) := by decide +kernel
theorem dX8_open_106 : decode cX8_open 106 = .ok (.invokestatic 46, 3) := by decide +kernel
theorem dX8_open_109 : decode cX8_open 109 = .ok (.iconst 1, 1) := by decide +kernel
theorem dX8_open_110 : decode cX8_open 110 = .ok (.iastore, 1) := by decide +kernel
theorem dX8_open_111 : decode cX8_open 111 = .ok (.aload_n 0, 1) := by decide +kernel
theorem dX8_open_112 : decode cX8_open 112 = .ok (.getfield 7, 3) := by decide +kernel
theorem dX8_open_115 : decode cX8_open 115 = .ok (.iload_n 3, 1) := by decide +kernel
theorem dX8_open_116 : decode cX8_open 116 = .ok (.bipush 6, 2) := by decide +kernel
theorem dX8_open_118 : decode cX8_open 118 = .ok (.invokestatic 46, 3) := by decide +kernel
theorem dX8_open_121 : decode cX8_open 121 = .ok (.iconst 0, 1) := by decide +kernel
theorem dX8_open_122 : decode cX8_open 122 = .ok (.iastore, 1) := by decide +kernel
theorem dX8_open_123 : decode cX8_open 123 = .ok (.aload_n 0, 1) := by decide +kernel
theorem dX8_open_124 : decode cX8_open 124 = .ok (.getfield 7, 3) := by decide +kernel
theorem dX8_open_127 : decode cX8_open 127 = .ok (.bipush 74, 2) := by decide +kernel
theorem dX8_open_129 : decode cX8_open 129 = .ok (.iconst 2, 1) := by decide +kernel
theorem dX8_open_130 : decode cX8_open 130 = .ok (.iload_n 3, 1) := by decide +kernel
theorem dX8_open_131 : decode cX8_open 131 = .ok (.imul, 1) := by decide +kernel
theorem dX8_open_132 : decode cX8_open 132 = .ok (.iadd, 1) := by decide +kernel
theorem dX8_open_133 : decode cX8_open 133 = .ok (.bipush (-5), 2) := by decide +kernel
theorem dX8_open_135 : decode cX8_open 135 = .ok (.iastore, 1) := by decide +kernel
theorem dX8_open_136 : decode cX8_open 136 = .ok (.aload_n 0, 1) := by decide +kernel
theorem dX8_open_137 : decode cX8_open 137 = .ok (.getfield 7, 3) := by decide +kernel
theorem dX8_open_140 : decode cX8_open 140 = .ok (.bipush 74, 2) := by decide +kernel
theorem dX8_open_142 : decode cX8_open 142 = .ok (.iconst 2, 1) := by decide +kernel
theorem dX8_open_143 : decode cX8_open 143 = .ok (.iload_n 3, 1) := by decide +kernel
theorem dX8_open_144 : decode cX8_open 144 = .ok (.imul, 1) := by decide +kernel
theorem dX8_open_145 : decode cX8_open 145 = .ok (.iadd, 1) := by decide +kernel
theorem dX8_open_146 : decode cX8_open 146 = .ok (.iconst 1, 1) := by decide +kernel
theorem dX8_open_147 : decode cX8_open 147 = .ok (.iadd, 1) := by decide +kernel
theorem dX8_open_148 : decode cX8_open 148 = .ok (.bipush (-5), 2) := by decide +kernel
theorem dX8_open_150 : decode cX8_open 150 = .ok (.iastore, 1) := by decide +kernel
theorem dX8_open_151 : decode cX8_open 151 = .ok (.iconst 0, 1) := by decide +kernel
theorem dX8_open_152 : decode cX8_open 152 = .ok (.istore 4, 2) := by decide +kernel
theorem dX8_open_154 : decode cX8_open 154 = .ok (.iload 4, 2) := by decide +kernel
theorem dX8_open_156 : decode cX8_open 156 = .ok (.bipush 48, 2) := by decide +kernel
theorem dX8_open_158 : decode cX8_open 158 = .ok (.if_icmp .ge 27, 3) := by decide +kernel
theorem dX8_open_161 : decode cX8_open 161 = .ok (.aload_n 0, 1) := by decide +kernel
theorem dX8_open_162 : decode cX8_open 162 = .ok (.getfield 7, 3) := by decide +kernel
theorem dX8_open_165 : decode cX8_open 165 = .ok (.sipush 308, 3) := by decide +kernel
theorem dX8_open_168 : decode cX8_open 168 = .ok (.bipush 48, 2) := by decide +kernel
theorem dX8_open_170 : decode cX8_open 170 = .ok (.iload_n 3, 1) := by decide +kernel
theorem dX8_open_171 : decode cX8_open 171 = .ok (.imul, 1) := by decide +kernel
theorem dX8_open_172 : decode cX8_open 172 = .ok (.iadd, 1) := by decide +kernel
theorem dX8_open_173 : decode cX8_open 173 = .ok (.iload 4, 2) := by decide +kernel
theorem dX8_open_175 : decode cX8_open 175 = .ok (.iadd, 1) := by decide +kernel
theorem dX8_open_176 : decode cX8_open 176 = .ok (.bipush 7, 2) := by decide +kernel
theorem dX8_open_178 : decode cX8_open 178 = .ok (.iastore, 1) := by decide +kernel
theorem dX8_open_179 : decode cX8_open 179 = .ok (.iinc 4 1, 3) := by decide +kernel
theorem dX8_open_182 : decode cX8_open 182 = .ok (.goto (-28), 3) := by decide +kernel
theorem dX8_open_185 : decode cX8_open 185 = .ok (.aload_n 0, 1) := by decide +kernel
theorem dX8_open_186 : decode cX8_open 186 = .ok (.getfield 7, 3) := by decide +kernel
theorem dX8_open_189 : decode cX8_open 189 = .ok (.iconst 2, 1) := by decide +kernel
theorem dX8_open_190 : decode cX8_open 190 = .ok (.dup2, 1) := by decide +kernel
theorem dX8_open_191 : decode cX8_open 191 = .ok (.iaload, 1) := by decide +kernel
theorem dX8_open_192 : decode cX8_open 192 = .ok (.iconst 1, 1) := by decide +kernel
theorem dX8_open_193 : decode cX8_open 193 = .ok (.iadd, 1) := by decide +kernel
theorem dX8_open_194 : decode cX8_open 194 = .ok (.iastore, 1) := by decide +kernel
theorem dX8_open_195 : decode cX8_open 195 = .ok (.iload_n 3, 1) := by decide +kernel
theorem dX8_open_196 : decode cX8_open 196 = .ok (.ireturn, 1) := by decide +kernel
set_option maxRecDepth 20000 in
theorem ggX8_close_X8_isCase : GoodIn wsX8_close wsX8_isCase := goodIn_r _ [6, 1, 7, 8, 5, 9, 13, 14, 15, 16, 17, 18, 19, 20, 21, 22, 23] (by decide +kernel) (by decide +kernel)
set_option maxRecDepth 20000 in
theorem gX8_close_X8_isCase : GoodIn wsX8_close (wsV RX8 50 RX8 yX8_isCase wsX8_isCase) := goodIn_app (goodIn_of _ (by decide +kernel)) ggX8_close_X8_isCase
set_option maxRecDepth 20000 in
theorem ggX8_close_X8_at : GoodIn wsX8_close wsX8_at := goodIn_r _ [12] (by decide +kernel) (by decide +kernel)
set_option maxRecDepth 20000 in
theorem gX8_close_X8_at : GoodIn wsX8_close (va_wsS RX8 46 yX8_at wsX8_at) := goodIn_app (goodIn_of _ (by decide +kernel)) ggX8_close_X8_at
theorem dX8_close_0 : decode cX8_close 0 = .ok (.aload_n 0, 1) := by decide +kernel
theorem dX8_close_1 : decode cX8_close 1 = .ok (.iload_n 1, 1) := by decide +kernel
theorem dX8_close_2 : decode cX8_close 2 = .ok (.invokevirtual 50, 3) := by decide +kernel
theorem dX8_close_5 : decode cX8_close 5 = .ok (.ifCond .ne 5, 3) := by decide +kernel
theorem dX8_close_8 : decode cX8_close 8 = .ok (.iconst (-1), 1) := by decide +kernel
theorem dX8_close_9 : decode cX8_close 9 = .ok (.ireturn, 1) := by decide +kernel
theorem dX8_close_10 : decode cX8_close 10 = .ok (.aload_n 0, 1) := by decide +kernel
theorem dX8_close_11 : decode cX8_close 11 = .ok (.getfield 7, 3) := by decide +kernel
theorem dX8_close_14 : decode cX8_close 14 = .ok (.iload_n 1, 1) := by decide +kernel
theorem dX8_close_15 : decode cX8_close 15 = .ok (.iconst 2, 1) := by decide +kernel
theorem dX8_close_16 : decode cX8_close 16 = .ok (.invokestatic 46, 3) := by decide +kernel
theorem dX8_close_19 : decode cX8_close 19 = .ok (.iaload, 1) := by decide +kernel
theorem dX8_close_20 : decode cX8_close 20 = .ok (.ifCond .eq 6, 3) := by decide +kernel
theorem dX8_close_23 : decode cX8_close 23 = .ok (.bipush (-4), 2) := by decide +kernel
theorem dX8_close_25 : decode cX8_close 25 = .ok (.ireturn, 1) := by decide +kernel
theorem dX8_close_26 : decode cX8_close 26 = .ok (.aload_n 0, 1) := by decide +kernel
theorem dX8_close_27 : decode cX8_close 27 = .ok (.getfield 7, 3) := by decide +kernel
theorem dX8_close_30 : decode cX8_close 30 = .ok (.iload_n 1, 1) := by decide +kernel
theorem dX8_close_31 : decode cX8_close 31 = .ok (.iconst 2, 1) := by decide +kernel
theorem dX8_close_32 : decode cX8_close 32 = .ok (.invokestatic 46, 3) := by decide +kernel
theorem dX8_close_35 : decode cX8_close 35 = .ok (.iconst 2, 1) := by decide +kernel
theorem dX8_close_36 : decode cX8_close 36 = .ok (.iastore, 1) := by decide +kernel
theorem dX8_close_37 : decode cX8_close 37 = .ok (.iconst 1, 1) := by decide +kernel
theorem dX8_close_38 : decode cX8_close 38 = .ok (.ireturn, 1) := by decide +kernel
set_option maxRecDepth 20000 in
theorem ggX8_weight_X8_isCase : GoodIn wsX8_weight wsX8_isCase := goodIn_r _ [6, 1, 7, 8, 5, 9, 13, 14, 15, 16, 17, 18, 19, 20, 21, 22, 23] (by decide +kernel) (by decide +kernel)
set_option maxRecDepth 20000 in
theorem gX8_weight_X8_isCase : GoodIn wsX8_weight (wsV RX8 50 RX8 yX8_isCase wsX8_isCase) := goodIn_app (goodIn_of _ (by decide +kernel)) ggX8_weight_X8_isCase
set_option maxRecDepth 20000 in
theorem ggX8_weight_X8_in : GoodIn wsX8_weight wsX8_in := goodIn_r _ [9] (by decide +kernel) (by decide +kernel)
set_option maxRecDepth 20000 in
theorem gX8_weight_X8_in : GoodIn wsX8_weight (va_wsS RX8 35 yX8_in wsX8_in) := goodIn_app (goodIn_of _ (by decide +kernel)) ggX8_weight_X8_in
set_option maxRecDepth 20000 in
theorem ggX8_weight_X8_at : GoodIn wsX8_weight wsX8_at := goodIn_r _ [12] (by decide +kernel) (by decide +kernel)
set_option maxRecDepth 20000 in
theorem gX8_weight_X8_at : GoodIn wsX8_weight (va_wsS RX8 46 yX8_at wsX8_at) := goodIn_app (goodIn_of _ (by decide +kernel)) ggX8_weight_X8_at
theorem dX8_weight_0 : decode cX8_weight 0 = .ok (.aload_n 0, 1) := by decide +kernel
theorem dX8_weight_1 : decode cX8_weight 1 = .ok (.iload_n 1, 1) := by decide +kernel
theorem dX8_weight_2 : decode cX8_weight 2 = .ok (.invokevirtual 50, 3) := by decide +kernel
theorem dX8_weight_5 : decode cX8_weight 5 = .ok (.ifCond .eq 13, 3) := by decide +kernel
theorem dX8_weight_8 : decode cX8_weight 8 = .ok (.iload_n 2, 1) := by decide +kernel
theorem dX8_weight_9 : decode cX8_weight 9 = .ok (.iconst 1, 1) := by decide +kernel
theorem dX8_weight_10 : decode cX8_weight 10 = .ok (.bipush 9, 2) := by decide +kernel
theorem dX8_weight_12 : decode cX8_weight 12 = .ok (.invokestatic 35, 3) := by decide +kernel
theorem dX8_weight_15 : decode cX8_weight 15 = .ok (.ifCond .ne 5, 3) := by decide +kernel
theorem dX8_weight_18 : decode cX8_weight 18 = .ok (.iconst (-1), 1) := by decide +kernel
theorem dX8_weight_19 : decode cX8_weight 19 = .ok (.ireturn, 1) := by decide +kernel
theorem dX8_weight_20 : decode cX8_weight 20 = .ok (.aload_n 0, 1) := by decide +kernel
theorem dX8_weight_21 : decode cX8_weight 21 = .ok (.getfield 7, 3) := by decide +kernel
theorem dX8_weight_24 : decode cX8_weight 24 = .ok (.iload_n 1, 1) := by decide +kernel
theorem dX8_weight_25 : decode cX8_weight 25 = .ok (.iconst 5, 1) := by decide +kernel
theorem dX8_weight_26 : decode cX8_weight 26 = .ok (.invokestatic 46, 3) := by decide +kernel
theorem dX8_weight_29 : decode cX8_weight 29 = .ok (.iaload, 1) := by decide +kernel
theorem dX8_weight_30 : decode cX8_weight 30 = .ok (.istore_n 3, 1) := by decide +kernel
theorem dX8_weight_31 : decode cX8_weight 31 = .ok (.aload_n 0, 1) := by decide +kernel
theorem dX8_weight_32 : decode cX8_weight 32 = .ok (.getfield 7, 3) := by decide +kernel
theorem dX8_weight_35 : decode cX8_weight 35 = .ok (.iload_n 1, 1) := by decide +kernel
theorem dX8_weight_36 : decode cX8_weight 36 = .ok (.iconst 5, 1) := by decide +kernel
theorem dX8_weight_37 : decode cX8_weight 37 = .ok (.invokestatic 46, 3) := by decide +kernel
theorem dX8_weight_40 : decode cX8_weight 40 = .ok (.iload_n 2, 1) := by decide +kernel
theorem dX8_weight_41 : decode cX8_weight 41 = .ok (.iastore, 1) := by decide +kernel
theorem dX8_weight_42 : decode cX8_weight 42 = .ok (.iload_n 3, 1) := by decide +kernel
theorem dX8_weight_43 : decode cX8_weight 43 = .ok (.ireturn, 1) := by decide +kernel
set_option maxRecDepth 20000 in
theorem ggX8_mark_X8_isCase : GoodIn wsX8_mark wsX8_isCase := goodIn_r _ [6, 1, 7, 8, 5, 9, 10, 11, 12, 13, 14, 15, 16, 17, 18, 19, 20] (by decide +kernel) (by decide +kernel)
set_option maxRecDepth 20000 in
theorem gX8_mark_X8_isCase : GoodIn wsX8_mark (wsV RX8 50 RX8 yX8_isCase wsX8_isCase) := goodIn_app (goodIn_of _ (by decide +kernel)) ggX8_mark_X8_isCase
theorem dX8_mark_0 : decode cX8_mark 0 = .ok (.aload_n 0, 1) := by decide +kernel
theorem dX8_mark_1 : decode cX8_mark 1 = .ok (.iload_n 1, 1) := by decide +kernel
theorem dX8_mark_2 : decode cX8_mark 2 = .ok (.invokevirtual 50, 3) := by decide +kernel
theorem dX8_mark_5 : decode cX8_mark 5 = .ok (.ifCond .eq 16, 3) := by decide +kernel
theorem dX8_mark_8 : decode cX8_mark 8 = .ok (.aload_n 0, 1) := by decide +kernel
theorem dX8_mark_9 : decode cX8_mark 9 = .ok (.iload_n 2, 1) := by decide +kernel
theorem dX8_mark_10 : decode cX8_mark 10 = .ok (.invokevirtual 50, 3) := by decide +kernel
theorem dX8_mark_13 : decode cX8_mark 13 = .ok (.ifCond .eq 8, 3) := by decide +kernel
theorem dX8_mark_16 : decode cX8_mark 16 = .ok (.iload_n 1, 1) := by decide +kernel
theorem dX8_mark_17 : decode cX8_mark 17 = .ok (.iload_n 2, 1) := by decide +kernel
theorem dX8_mark_18 : decode cX8_mark 18 = .ok (.if_icmp .ne 5, 3) := by decide +kernel
theorem dX8_mark_21 : decode cX8_mark 21 = .ok (.iconst (-1), 1) := by decide +kernel
theorem dX8_mark_22 : decode cX8_mark 22 = .ok (.ireturn, 1) := by decide +kernel
theorem dX8_mark_23 : decode cX8_mark 23 = .ok (.iconst 0, 1) := by decide +kernel
theorem dX8_mark_24 : decode cX8_mark 24 = .ok (.istore_n 3, 1) := by decide +kernel
theorem dX8_mark_25 : decode cX8_mark 25 = .ok (.iload_n 3, 1) := by decide +kernel
theorem dX8_mark_26 : decode cX8_mark 26 = .ok (.aload_n 0, 1) := by decide +kernel
theorem dX8_mark_27 : decode cX8_mark 27 = .ok (.getfield 7, 3) := by decide +kernel
theorem dX8_mark_30 : decode cX8_mark 30 = .ok (.iconst 3, 1) := by decide +kernel
theorem dX8_mark_31 : decode cX8_mark 31 = .ok (.iaload, 1) := by decide +kernel
theorem dX8_mark_32 : decode cX8_mark 32 = .ok (.if_icmp .ge 66, 3) := by decide +kernel
theorem dX8_mark_35 : decode cX8_mark 35 = .ok (.aload_n 0, 1) := by decide +kernel
theorem dX8_mark_36 : decode cX8_mark 36 = .ok (.getfield 7, 3) := by decide +kernel
theorem dX8_mark_39 : decode cX8_mark 39 = .ok (.sipush 146, 3) := by decide +kernel
theorem dX8_mark_42 : decode cX8_mark 42 = .ok (.iconst 2, 1) := by decide +kernel
theorem dX8_mark_43 : decode cX8_mark 43 = .ok (.iload_n 3, 1) := by decide +kernel
theorem dX8_mark_44 : decode cX8_mark 44 = .ok (.imul, 1) := by decide +kernel
theorem dX8_mark_45 : decode cX8_mark 45 = .ok (.iadd, 1) := by decide +kernel
theorem dX8_mark_46 : decode cX8_mark 46 = .ok (.iaload, 1) := by decide +kernel
theorem dX8_mark_47 : decode cX8_mark 47 = .ok (.istore 4, 2) := by decide +kernel
theorem dX8_mark_49 : decode cX8_mark 49 = .ok (.aload_n 0, 1) := by decide +kernel
theorem dX8_mark_50 : decode cX8_mark 50 = .ok (.getfield 7, 3) := by decide +kernel
theorem dX8_mark_53 : decode cX8_mark 53 = .ok (.sipush 146, 3) := by decide +kernel
theorem dX8_mark_56 : decode cX8_mark 56 = .ok (.iconst 2, 1) := by decide +kernel
theorem dX8_mark_57 : decode cX8_mark 57 = .ok (.iload_n 3, 1) := by decide +kernel
theorem dX8_mark_58 : decode cX8_mark 58 = .ok (.imul, 1) := by decide +kernel
theorem dX8_mark_59 : decode cX8_mark 59 = .ok (.iadd, 1) := by decide +kernel
theorem dX8_mark_60 : decode cX8_mark 60 = .ok (.iconst 1, 1) := by decide +kernel
theorem dX8_mark_61 : decode cX8_mark 61 = .ok (.iadd, 1) := by decide +kernel
theorem dX8_mark_62 : decode cX8_mark 62 = .ok (.iaload, 1) := by decide +kernel
theorem dX8_mark_63 : decode cX8_mark 63 = .ok (.istore 5, 2) := by decide +kernel
theorem dX8_mark_65 : decode cX8_mark 65 = .ok (.iload 4, 2) := by decide +kernel
theorem dX8_mark_67 : decode cX8_mark 67 = .ok (.iload_n 1, 1) := by decide +kernel
theorem dX8_mark_68 : decode cX8_mark 68 = .ok (.if_icmp .ne 9, 3) := by decide +kernel
theorem dX8_mark_71 : decode cX8_mark 71 = .ok (.iload 5, 2) := by decide +kernel
theorem dX8_mark_73 : decode cX8_mark 73 = .ok (.iload_n 2, 1) := by decide +kernel
theorem dX8_mark_74 : decode cX8_mark 74 = .ok (.if_icmp .eq 15, 3) := by decide +kernel
theorem dX8_mark_77 : decode cX8_mark 77 = .ok (.iload 4, 2) := by decide +kernel
theorem dX8_mark_79 : decode cX8_mark 79 = .ok (.iload_n 2, 1) := by decide +kernel
theorem dX8_mark_80 : decode cX8_mark 80 = .ok (.if_icmp .ne 12, 3) := by decide +kernel
theorem dX8_mark_83 : decode cX8_mark 83 = .ok (.iload 5, 2) := by decide +kernel
theorem dX8_mark_85 : decode cX8_mark 85 = .ok (.iload_n 1, 1) := by decide +kernel
theorem dX8_mark_86 : decode cX8_mark 86 = .ok (.if_icmp .ne 6, 3) := by decide +kernel
theorem dX8_mark_89 : decode cX8_mark 89 = .ok (.bipush (-3), 2) := by decide +kernel
theorem dX8_mark_91 : decode cX8_mark 91 = .ok (.ireturn, 1) := by decide +kernel
theorem dX8_mark_92 : decode cX8_mark 92 = .ok (.iinc 3 1, 3) := by decide +kernel
theorem dX8_mark_95 : decode cX8_mark 95 = .ok (.goto (-70), 3) := by decide +kernel
theorem dX8_mark_98 : decode cX8_mark 98 = .ok (.aload_n 0, 1) := by decide +kernel
theorem dX8_mark_99 : decode cX8_mark 99 = .ok (.getfield 7, 3) := by decide +kernel
theorem dX8_mark_102 : decode cX8_mark 102 = .ok (.iconst 3, 1) := by decide +kernel
theorem dX8_mark_103 : decode cX8_mark 103 = .ok (.iaload, 1) := by decide +kernel
theorem dX8_mark_104 : decode cX8_mark 104 = .ok (.bipush 6, 2) := by decide +kernel
theorem dX8_mark_106 : decode cX8_mark 106 = .ok (.if_icmp .ne 6, 3) := by decide +kernel
theorem dX8_mark_109 : decode cX8_mark 109 = .ok (.bipush (-2), 2) := by decide +kernel
theorem dX8_mark_111 : decode cX8_mark 111 = .ok (.ireturn, 1) := by decide +kernel
theorem dX8_mark_112 : decode cX8_mark 112 = .ok (.aload_n 0, 1) := by decide +kernel
theorem dX8_mark_113 : decode cX8_mark 113 = .ok (.getfield 7, 3) := by decide +kernel
theorem dX8_mark_116 : decode cX8_mark 116 = .ok (.sipush 146, 3) := by decide +kernel
theorem dX8_mark_119 : decode cX8_mark 119 = .ok (.iconst 2, 1) := by decide +kernel
theorem dX8_mark_120 : decode cX8_mark 120 = .ok (.aload_n 0, 1) := by decide +kernel
theorem dX8_mark_121 : decode cX8_mark 121 = .ok (.getfield 7, 3) := by decide +kernel
theorem dX8_mark_124 : decode cX8_mark 124 = .ok (.iconst 3, 1) := by decide +kernel
theorem dX8_mark_125 : decode cX8_mark 125 = .ok (.iaload, 1) := by decide +kernel
theorem dX8_mark_126 : decode cX8_mark 126 = .ok (.imul, 1) := by decide +kernel
theorem dX8_mark_127 : decode cX8_mark 127 = .ok (.iadd, 1) := by decide +kernel
theorem dX8_mark_128 : decode cX8_mark 128 = .ok (.iload_n 1, 1) := by decide +kernel
theorem dX8_mark_129 : decode cX8_mark 129 = .ok (.iastore, 1) := by decide +kernel
theorem dX8_mark_130 : decode cX8_mark 130 = .ok (.aload_n 0, 1) := by decide +kernel
theorem dX8_mark_131 : decode cX8_mark 131 = .ok (.getfield 7, 3) := by decide +kernel
theorem dX8_mark_134 : decode cX8_mark 134 = .ok (.sipush 146, 3) := by decide +kernel
theorem dX8_mark_137 : decode cX8_mark 137 = .ok (.iconst 2, 1) := by decide +kernel
theorem dX8_mark_138 : decode cX8_mark 138 = .ok (.aload_n 0, 1) := by decide +kernel
theorem dX8_mark_139 : decode cX8_mark 139 = .ok (.getfield 7, 3) := by decide +kernel
theorem dX8_mark_142 : decode cX8_mark 142 = .ok (.iconst 3, 1) := by decide +kernel
theorem dX8_mark_143 : decode cX8_mark 143 = .ok (.iaload, 1) := by decide +kernel
theorem dX8_mark_144 : decode cX8_mark 144 = .ok (.imul, 1) := by decide +kernel
theorem dX8_mark_145 : decode cX8_mark 145 = .ok (.iadd, 1) := by decide +kernel
theorem dX8_mark_146 : decode cX8_mark 146 = .ok (.iconst 1, 1) := by decide +kernel
theorem dX8_mark_147 : decode cX8_mark 147 = .ok (.iadd, 1) := by decide +kernel
theorem dX8_mark_148 : decode cX8_mark 148 = .ok (.iload_n 2, 1) := by decide +kernel
theorem dX8_mark_149 : decode cX8_mark 149 = .ok (.iastore, 1) := by decide +kernel
theorem dX8_mark_150 : decode cX8_mark 150 = .ok (.aload_n 0, 1) := by decide +kernel
theorem dX8_mark_151 : decode cX8_mark 151 = .ok (.getfield 7, 3) := by decide +kernel
theorem dX8_mark_154 : decode cX8_mark 154 = .ok (.iconst 3, 1) := by decide +kernel
theorem dX8_mark_155 : decode cX8_mark 155 = .ok (.dup2, 1) := by decide +kernel
theorem dX8_mark_156 : decode cX8_mark 156 = .ok (.iaload, 1) := by decide +kernel
theorem dX8_mark_157 : decode cX8_mark 157 = .ok (.iconst 1, 1) := by decide +kernel
theorem dX8_mark_158 : decode cX8_mark 158 = .ok (.iadd, 1) := by decide +kernel
theorem dX8_mark_159 : decode cX8_mark 159 = .ok (.iastore, 1) := by decide +kernel
theorem dX8_mark_160 : decode cX8_mark 160 = .ok (.aload_n 0, 1) := by decide +kernel
theorem dX8_mark_161 : decode cX8_mark 161 = .ok (.getfield 7, 3) := by decide +kernel
theorem dX8_mark_164 : decode cX8_mark 164 = .ok (.iconst 3, 1) := by decide +kernel
theorem dX8_mark_165 : decode cX8_mark 165 = .ok (.iaload, 1) := by decide +kernel
theorem dX8_mark_166 : decode cX8_mark 166 = .ok (.ireturn, 1) := by decide +kernel
theorem dX8_findHeads_0 : decode cX8_findHeads 0 = .ok (.iconst 0, 1) := by decide +kernel
theorem dX8_findHeads_1 : decode cX8_findHeads 1 = .ok (.istore_n 1, 1) := by decide +kernel
theorem dX8_findHeads_2 : decode cX8_findHeads 2 = .ok (.iload_n 1, 1) := by decide +kernel
theorem dX8_findHeads_3 : decode cX8_findHeads 3 = .ok (.aload_n 0, 1) := by decide +kernel
theorem dX8_findHeads_4 : decode cX8_findHeads 4 = .ok (.getfield 7, 3) := by decide +kernel
theorem dX8_findHeads_7 : decode cX8_findHeads 7 = .ok (.iconst 2, 1) := by decide +kernel
theorem dX8_findHeads_8 : decode cX8_findHeads 8 = .ok (.iaload, 1) := by decide +kernel
theorem dX8_findHeads_9 : decode cX8_findHeads 9 = .ok (.if_icmp .ge 16, 3) := by decide +kernel
theorem dX8_findHeads_12 : decode cX8_findHeads 12 = .ok (.aload_n 0, 1) := by decide +kernel
theorem dX8_findHeads_13 : decode cX8_findHeads 13 = .ok (.getfield 20, 3) := by decide +kernel
theorem dX8_findHeads_16 : decode cX8_findHeads 16 = .ok (.iload_n 1, 1) := by decide +kernel
theorem dX8_findHeads_17 : decode cX8_findHeads 17 = .ok (.iload_n 1, 1) := by decide +kernel
theorem dX8_findHeads_18 : decode cX8_findHeads 18 = .ok (.iastore, 1) := by decide +kernel
theorem dX8_findHeads_19 : decode cX8_findHeads 19 = .ok (.iinc 1 1, 3) := by decide +kernel
theorem dX8_findHeads_22 : decode cX8_findHeads 22 = .ok (.goto (-20), 3) := by decide +kernel
theorem dX8_findHeads_25 : decode cX8_findHeads 25 = .ok (.iconst 1, 1) := by decide +kernel
theorem dX8_findHeads_26 : decode cX8_findHeads 26 = .ok (.istore_n 1, 1) := by decide +kernel
theorem dX8_findHeads_27 : decode cX8_findHeads 27 = .ok (.iload_n 1, 1) := by decide +kernel
theorem dX8_findHeads_28 : decode cX8_findHeads 28 = .ok (.ifCond .eq 124, 3) := by decide +kernel
theorem dX8_findHeads_31 : decode cX8_findHeads 31 = .ok (.iconst 0, 1) := by decide +kernel
theorem dX8_findHeads_32 : decode cX8_findHeads 32 = .ok (.istore_n 1, 1) := by decide +kernel
theorem dX8_findHeads_33 : decode cX8_findHeads 33 = .ok (.iconst 0, 1) := by decide +kernel
theorem dX8_findHeads_34 : decode cX8_findHeads 34 = .ok (.istore_n 2, 1) := by decide +kernel
theorem dX8_findHeads_35 : decode cX8_findHeads 35 = .ok (.iload_n 2, 1) := by decide +kernel
theorem dX8_findHeads_36 : decode cX8_findHeads 36 = .ok (.aload_n 0, 1) := by decide +kernel
theorem dX8_findHeads_37 : decode cX8_findHeads 37 = .ok (.getfield 7, 3) := by decide +kernel
theorem dX8_findHeads_40 : decode cX8_findHeads 40 = .ok (.iconst 3, 1) := by decide +kernel
theorem dX8_findHeads_41 : decode cX8_findHeads 41 = .ok (.iaload, 1) := by decide +kernel
theorem dX8_findHeads_42 : decode cX8_findHeads 42 = .ok (.if_icmp .ge 107, 3) := by decide +kernel
theorem dX8_findHeads_45 : decode cX8_findHeads 45 = .ok (.aload_n 0, 1) := by decide +kernel
theorem dX8_findHeads_46 : decode cX8_findHeads 46 = .ok (.getfield 7, 3) := by decide +kernel
theorem dX8_findHeads_49 : decode cX8_findHeads 49 = .ok (.sipush 146, 3) := by decide +kernel
theorem dX8_findHeads_52 : decode cX8_findHeads 52 = .ok (.iconst 2, 1) := by decide +kernel
theorem dX8_findHeads_53 : decode cX8_findHeads 53 = .ok (.iload_n 2, 1) := by decide +kernel
theorem dX8_findHeads_54 : decode cX8_findHeads 54 = .ok (.imul, 1) := by decide +kernel
theorem dX8_findHeads_55 : decode cX8_findHeads 55 = .ok (.iadd, 1) := by decide +kernel
theorem dX8_findHeads_56 : decode cX8_findHeads 56 = .ok (.iaload, 1) := by decide +kernel
theorem dX8_findHeads_57 : decode cX8_findHeads 57 = .ok (.istore_n 3, 1) := by decide +kernel
theorem dX8_findHeads_58 : decode cX8_findHeads 58 = .ok (.aload_n 0, 1) := by decide +kernel
theorem dX8_findHeads_59 : decode cX8_findHeads 59 = .ok (.getfield 7, 3) := by decide +kernel
theorem dX8_findHeads_62 : decode cX8_findHeads 62 = .ok (.sipush 146, 3) := by decide +kernel
theorem dX8_findHeads_65 : decode cX8_findHeads 65 = .ok (.iconst 2, 1) := by decide +kernel
theorem dX8_findHeads_66 : decode cX8_findHeads 66 = .ok (.iload_n 2, 1) := by decide +kernel
theorem dX8_findHeads_67 : decode cX8_findHeads 67 = .ok (.imul, 1) := by decide +kernel
theorem dX8_findHeads_68 : decode cX8_findHeads 68 = .ok (.iadd, 1) := by decide +kernel
theorem dX8_findHeads_69 : decode cX8_findHeads 69 = .ok (.iconst 1, 1) := by decide +kernel
theorem dX8_findHeads_70 : decode cX8_findHeads 70 = .ok (.iadd, 1) := by decide +kernel
theorem dX8_findHeads_71 : decode cX8_findHeads 71 = .ok (.iaload, 1) := by decide +kernel
theorem dX8_findHeads_72 : decode cX8_findHeads 72 = .ok (.istore 4, 2) := by decide +kernel
theorem dX8_findHeads_74 : decode cX8_findHeads 74 = .ok (.aload_n 0, 1) := by decide +kernel
theorem dX8_findHeads_75 : decode cX8_findHeads 75 = .ok (.getfield 20, 3) := by decide +kernel
theorem dX8_findHeads_78 : decode cX8_findHeads 78 = .ok (.iload_n 3, 1) := by decide +kernel
theorem dX8_findHeads_79 : decode cX8_findHeads 79 = .ok (.iaload, 1) := by decide +kernel
theorem dX8_findHeads_80 : decode cX8_findHeads 80 = .ok (.aload_n 0, 1) := by decide +kernel
theorem dX8_findHeads_81 : decode cX8_findHeads 81 = .ok (.getfield 20, 3) := by decide +kernel
theorem dX8_findHeads_84 : decode cX8_findHeads 84 = .ok (.iload 4, 2) := by decide +kernel
theorem dX8_findHeads_86 : decode cX8_findHeads 86 = .ok (.iaload, 1) := by decide +kernel
theorem dX8_findHeads_87 : decode cX8_findHeads 87 = .ok (.if_icmp .eq 56, 3) := by decide +kernel
theorem dX8_findHeads_90 : decode cX8_findHeads 90 = .ok (.aload_n 0, 1) := by decide +kernel
theorem dX8_findHeads_91 : decode cX8_findHeads 91 = .ok (.getfield 20, 3) := by decide +kernel
theorem dX8_findHeads_94 : decode cX8_findHeads 94 = .ok (.iload_n 3, 1) := by decide +kernel
theorem dX8_findHeads_95 : decode cX8_findHeads 95 = .ok (.iaload, 1) := by decide +kernel
theorem dX8_findHeads_96 : decode cX8_findHeads 96 = .ok (.aload_n 0, 1) := by decide +kernel
theorem dX8_findHeads_97 : decode cX8_findHeads 97 = .ok (.getfield 20, 3) := by decide +kernel
theorem dX8_findHeads_100 : decode cX8_findHeads 100 = .ok (.iload 4, 2) := by decide +kernel
theorem dX8_findHeads_102 : decode cX8_findHeads 102 = .ok (.iaload, 1) := by decide +kernel
theorem dX8_findHeads_103 : decode cX8_findHeads 103 = .ok (.if_icmp .ge 12, 3) := by decide +kernel
theorem dX8_findHeads_106 : decode cX8_findHeads 106 = .ok (.aload_n 0, 1) := by decide +kernel
theorem dX8_findHeads_107 : decode cX8_findHeads 107 = .ok (.getfield 20, 3) := by decide +kernel
theorem dX8_findHeads_110 : decode cX8_findHeads 110 = .ok (.iload_n 3, 1) := by decide +kernel
theorem dX8_findHeads_111 : decode cX8_findHeads 111 = .ok (.iaload, 1) := by decide +kernel
theorem dX8_findHeads_112 : decode cX8_findHeads 112 = .ok (.goto 10, 3) := by decide +kernel
theorem dX8_findHeads_115 : decode cX8_findHeads 115 = .ok (.aload_n 0, 1) := by decide +kernel
theorem dX8_findHeads_116 : decode cX8_findHeads 116 = .ok (.getfield 20, 3) := by decide +kernel
theorem dX8_findHeads_119 : decode cX8_findHeads 119 = .ok (.iload 4, 2) := by decide +kernel
theorem dX8_findHeads_121 : decode cX8_findHeads 121 = .ok (.iaload, 1) := by decide +kernel
theorem dX8_findHeads_122 : decode cX8_findHeads 122 = .ok (.istore 5, 2) := by decide +kernel
theorem dX8_findHeads_124 : decode cX8_findHeads 124 = .ok (.aload_n 0, 1) := by decide +kernel
theorem dX8_findHeads_125 : decode cX8_findHeads 125 = .ok (.getfield 20, 3) := by decide +kernel
theorem dX8_findHeads_128 : decode cX8_findHeads 128 = .ok (.iload_n 3, 1) := by decide +kernel
theorem dX8_findHeads_129 : decode cX8_findHeads 129 = .ok (.iload 5, 2) := by decide +kernel
theorem dX8_findHeads_131 : decode cX8_findHeads 131 = .ok (.iastore, 1) := by decide +kernel
theorem dX8_findHeads_132 : decode cX8_findHeads 132 = .ok (.aload_n 0, 1) := by decide +kernel
theorem dX8_findHeads_133 : decode cX8_findHeads 133 = .ok (.getfield 20, 3) := by decide +kernel
theorem dX8_findHeads_136 : decode cX8_findHeads 136 = .ok (.iload 4, 2) := by decide +kernel
theorem dX8_findHeads_138 : decode cX8_findHeads 138 = .ok (.iload 5, 2) := by decide +kernel
theorem dX8_findHeads_140 : decode cX8_findHeads 140 = .ok (.iastore, 1) := by decide +kernel
theorem dX8_findHeads_141 : decode cX8_findHeads 141 = .ok (.iconst 1, 1) := by decide +kernel
theorem dX8_findHeads_142 : decode cX8_findHeads 142 = .ok (.istore_n 1, 1) := by decide +kernel
theorem dX8_findHeads_143 : decode cX8_findHeads 143 = .ok (.iinc 2 1, 3) := by decide +kernel
theorem dX8_findHeads_146 : decode cX8_findHeads 146 = .ok (.goto (-111), 3) := by decide +kernel
theorem dX8_findHeads_149 : decode cX8_findHeads 149 = .ok (.goto (-122), 3) := by decide +kernel
theorem dX8_findHeads_152 : decode cX8_findHeads 152 = .ok (.return_, 1) := by decide +kernel
theorem dX8_joined_0 : decode cX8_joined 0 = .ok (.iconst 0, 1) := by decide +kernel
theorem dX8_joined_1 : decode cX8_joined 1 = .ok (.istore_n 2, 1) := by decide +kernel
theorem dX8_joined_2 : decode cX8_joined 2 = .ok (.iconst 0, 1) := by decide +kernel
theorem dX8_joined_3 : decode cX8_joined 3 = .ok (.istore_n 3, 1) := by decide +kernel
theorem dX8_joined_4 : decode cX8_joined 4 = .ok (.iload_n 3, 1) := by decide +kernel
theorem dX8_joined_5 : decode cX8_joined 5 = .ok (.aload_n 0, 1) := by decide +kernel
theorem dX8_joined_6 : decode cX8_joined 6 = .ok (.getfield 7, 3) := by decide +kernel
theorem dX8_joined_9 : decode cX8_joined 9 = .ok (.iconst 2, 1) := by decide +kernel
theorem dX8_joined_10 : decode cX8_joined 10 = .ok (.iaload, 1) := by decide +kernel
theorem dX8_joined_11 : decode cX8_joined 11 = .ok (.if_icmp .ge 32, 3) := by decide +kernel
theorem dX8_joined_14 : decode cX8_joined 14 = .ok (.iload_n 2, 1) := by decide +kernel
theorem dX8_joined_15 : decode cX8_joined 15 = .ok (.aload_n 0, 1) := by decide +kernel
theorem dX8_joined_16 : decode cX8_joined 16 = .ok (.getfield 20, 3) := by decide +kernel
theorem dX8_joined_19 : decode cX8_joined 19 = .ok (.iload_n 3, 1) := by decide +kernel
theorem dX8_joined_20 : decode cX8_joined 20 = .ok (.iaload, 1) := by decide +kernel
theorem dX8_joined_21 : decode cX8_joined 21 = .ok (.aload_n 0, 1) := by decide +kernel
theorem dX8_joined_22 : decode cX8_joined 22 = .ok (.getfield 20, 3) := by decide +kernel
theorem dX8_joined_25 : decode cX8_joined 25 = .ok (.iload_n 1, 1) := by decide +kernel
theorem dX8_joined_26 : decode cX8_joined 26 = .ok (.iaload, 1) := by decide +kernel
theorem dX8_joined_27 : decode cX8_joined 27 = .ok (.if_icmp .ne 7, 3) := by decide +kernel
theorem dX8_joined_30 : decode cX8_joined 30 = .ok (.iconst 1, 1) := by decide +kernel
theorem dX8_joined_31 : decode cX8_joined 31 = .ok (.goto 4, 3) := by decide +kernel
theorem dX8_joined_34 : decode cX8_joined 34 = .ok (.iconst 0, 1) := by decide +kernel
theorem dX8_joined_35 : decode cX8_joined 35 = .ok (.iadd, 1) := by decide +kernel
theorem dX8_joined_36 : decode cX8_joined 36 = .ok (.istore_n 2, 1) := by decide +kernel
theorem dX8_joined_37 : decode cX8_joined 37 = .ok (.iinc 3 1, 3) := by decide +kernel
theorem dX8_joined_40 : decode cX8_joined 40 = .ok (.goto (-36), 3) := by decide +kernel
theorem dX8_joined_43 : decode cX8_joined 43 = .ok (.iload_n 2, 1) := by decide +kernel
theorem dX8_joined_44 : decode cX8_joined 44 = .ok (.ireturn, 1) := by decide +kernel
set_option maxRecDepth 20000 in
theorem ggX8_of_X8_isCase : GoodIn wsX8_of wsX8_isCase := goodIn_r _ [7, 2, 8, 9, 6, 10, 22, 23, 24, 25, 26, 27, 28, 29, 30, 31, 32] (by decide +kernel) (by decide +kernel)
set_option maxRecDepth 20000 in
theorem gX8_of_X8_isCase : GoodIn wsX8_of (wsV RX8 50 RX8 yX8_isCase wsX8_isCase) := goodIn_app (goodIn_of _ (by decide +kernel)) ggX8_of_X8_isCase
set_option maxRecDepth 20000 in
theorem ggX8_of_X8_in : GoodIn wsX8_of wsX8_in := goodIn_r _ [10] (by decide +kernel) (by decide +kernel)
set_option maxRecDepth 20000 in
theorem gX8_of_X8_in : GoodIn wsX8_of (va_wsS RX8 35 yX8_in wsX8_in) := goodIn_app (goodIn_of _ (by decide +kernel)) ggX8_of_X8_in
set_option maxRecDepth 20000 in
theorem ggX8_of_X8_findHeads : GoodIn wsX8_of wsX8_findHeads := goodIn_r _ [14, 2, 1, 22, 23, 24, 25, 26, 27, 28, 29, 30, 31, 32] (by decide +kernel) (by decide +kernel)
set_option maxRecDepth 20000 in
theorem gX8_of_X8_findHeads : GoodIn wsX8_of (wsV RX8 53 RX8 yX8_findHeads wsX8_findHeads) := goodIn_app (goodIn_of _ (by decide +kernel)) ggX8_of_X8_findHeads
set_option maxRecDepth 20000 in
theorem ggX8_of_X8_joined : GoodIn wsX8_of wsX8_joined := goodIn_r _ [18, 2, 1, 22, 23, 24, 25, 26, 27, 28, 29, 30, 31, 32] (by decide +kernel) (by decide +kernel)
set_option maxRecDepth 20000 in
theorem gX8_of_X8_joined : GoodIn wsX8_of (wsV RX8 56 RX8 yX8_joined wsX8_joined) := goodIn_app (goodIn_of _ (by decide +kernel)) ggX8_of_X8_joined
set_option maxRecDepth 20000 in
theorem ggX8_of_X8_at : GoodIn wsX8_of wsX8_at := goodIn_r _ [21] (by decide +kernel) (by decide +kernel)
set_option maxRecDepth 20000 in
theorem gX8_of_X8_at : GoodIn wsX8_of (va_wsS RX8 46 yX8_at wsX8_at) := goodIn_app (goodIn_of _ (by decide +kernel)) ggX8_of_X8_at
theorem dX8_of_0 : decode cX8_of 0 = .ok (.aload_n 0, 1) := by decide +kernel
theorem dX8_of_1 : decode cX8_of 1 = .ok (.iload_n 1, 1) := by decide +kernel
theorem dX8_of_2 : decode cX8_of 2 = .ok (.invokevirtual 50, 3) := by decide +kernel
theorem dX8_of_5 : decode cX8_of 5 = .ok (.ifCond .eq 13, 3) := by decide +kernel
theorem dX8_of_8 : decode cX8_of 8 = .ok (.iload_n 2, 1) := by decide +kernel
theorem dX8_of_9 : decode cX8_of 9 = .ok (.iconst 0, 1) := by decide +kernel
theorem dX8_of_10 : decode cX8_of 10 = .ok (.bipush 7, 2) := by decide +kernel
theorem dX8_of_12 : decode cX8_of 12 = .ok (.invokestatic 35, 3) := by decide +kernel
theorem dX8_of_15 : decode cX8_of 15 = .ok (.ifCond .ne 5, 3) := by decide +kernel
theorem dX8_of_18 : decode cX8_of 18 = .ok (.iconst (-1), 1) := by decide +kernel
theorem dX8_of_19 : decode cX8_of 19 = .ok (.ireturn, 1) := by decide +kernel
theorem dX8_of_20 : decode cX8_of 20 = .ok (.iload_n 2, 1) := by decide +kernel
theorem dX8_of_21 : decode cX8_of 21 = .ok (.iconst 5, 1) := by decide +kernel
theorem dX8_of_22 : decode cX8_of 22 = .ok (.if_icmp .eq 9, 3) := by decide +kernel
theorem dX8_of_25 : decode cX8_of 25 = .ok (.iload_n 2, 1) := by decide +kernel
theorem dX8_of_26 : decode cX8_of 26 = .ok (.bipush 6, 2) := by decide +kernel
theorem dX8_of_28 : decode cX8_of 28 = .ok (.if_icmp .ne 27, 3) := by decide +kernel
theorem dX8_of_31 : decode cX8_of 31 = .ok (.aload_n 0, 1) := by decide +kernel
theorem dX8_of_32 : decode cX8_of 32 = .ok (.invokevirtual 53, 3) := by decide +kernel
theorem dX8_of_35 : decode cX8_of 35 = .ok (.iload_n 2, 1) := by decide +kernel
theorem dX8_of_36 : decode cX8_of 36 = .ok (.iconst 5, 1) := by decide +kernel
theorem dX8_of_37 : decode cX8_of 37 = .ok (.if_icmp .ne 12, 3) := by decide +kernel
theorem dX8_of_40 : decode cX8_of 40 = .ok (.aload_n 0, 1) := by decide +kernel
theorem dX8_of_41 : decode cX8_of 41 = .ok (.getfield 20, 3) := by decide +kernel
theorem dX8_of_44 : decode cX8_of 44 = .ok (.iload_n 1, 1) := by decide +kernel
theorem dX8_of_45 : decode cX8_of 45 = .ok (.iaload, 1) := by decide +kernel
theorem dX8_of_46 : decode cX8_of 46 = .ok (.goto 8, 3) := by decide +kernel
theorem dX8_of_49 : decode cX8_of 49 = .ok (.aload_n 0, 1) := by decide +kernel
theorem dX8_of_50 : decode cX8_of 50 = .ok (.iload_n 1, 1) := by decide +kernel
theorem dX8_of_51 : decode cX8_of 51 = .ok (.invokevirtual 56, 3) := by decide +kernel
theorem dX8_of_54 : decode cX8_of 54 = .ok (.ireturn, 1) := by decide +kernel
theorem dX8_of_55 : decode cX8_of 55 = .ok (.aload_n 0, 1) := by decide +kernel
theorem dX8_of_56 : decode cX8_of 56 = .ok (.getfield 7, 3) := by decide +kernel
theorem dX8_of_59 : decode cX8_of 59 = .ok (.iload_n 1, 1) := by decide +kernel
theorem dX8_of_60 : decode cX8_of 60 = .ok (.iload_n 2, 1) := by decide +kernel
theorem dX8_of_61 : decode cX8_of 61 = .ok (.bipush 7, 2) := by decide +kernel
theorem dX8_of_63 : decode cX8_of 63 = .ok (.if_icmp .ne 7, 3) := by decide +kernel
theorem dX8_of_66 : decode cX8_of 66 = .ok (.iconst 5, 1) := by decide +kernel
theorem dX8_of_67 : decode cX8_of 67 = .ok (.goto 4, 3) := by decide +kernel
theorem dX8_of_70 : decode cX8_of 70 = .ok (.iload_n 2, 1) := by decide +kernel
theorem dX8_of_71 : decode cX8_of 71 = .ok (.invokestatic 46, 3) := by decide +kernel
theorem dX8_of_74 : decode cX8_of 74 = .ok (.iaload, 1) := by decide +kernel
theorem dX8_of_75 : decode cX8_of 75 = .ok (.ireturn, 1) := by decide +kernel
set_option maxRecDepth 20000 in
theorem ggX8_offer_X8_isCase : GoodIn wsX8_offer wsX8_isCase := goodIn_r _ [6, 1, 7, 8, 5, 9, 16, 17, 18, 19, 20, 21, 22, 23, 24, 25, 26] (by decide +kernel) (by decide +kernel)
set_option maxRecDepth 20000 in
theorem gX8_offer_X8_isCase : GoodIn wsX8_offer (wsV RX8 50 RX8 yX8_isCase wsX8_isCase) := goodIn_app (goodIn_of _ (by decide +kernel)) ggX8_offer_X8_isCase
set_option maxRecDepth 20000 in
theorem ggX8_offer_X8_isSide : GoodIn wsX8_offer wsX8_isSide := goodIn_r _ [12, 7, 8, 5, 9] (by decide +kernel) (by decide +kernel)
set_option maxRecDepth 20000 in
theorem gX8_offer_X8_isSide : GoodIn wsX8_offer (va_wsS RX8 60 yX8_isSide wsX8_isSide) := goodIn_app (goodIn_of _ (by decide +kernel)) ggX8_offer_X8_isSide
set_option maxRecDepth 20000 in
theorem ggX8_offer_X8_in : GoodIn wsX8_offer wsX8_in := goodIn_r _ [9] (by decide +kernel) (by decide +kernel)
set_option maxRecDepth 20000 in
theorem gX8_offer_X8_in : GoodIn wsX8_offer (va_wsS RX8 35 yX8_in wsX8_in) := goodIn_app (goodIn_of _ (by decide +kernel)) ggX8_offer_X8_in
set_option maxRecDepth 20000 in
theorem ggX8_offer_X8_at : GoodIn wsX8_offer wsX8_at := goodIn_r _ [15] (by decide +kernel) (by decide +kernel)
set_option maxRecDepth 20000 in
theorem gX8_offer_X8_at : GoodIn wsX8_offer (va_wsS RX8 46 yX8_at wsX8_at) := goodIn_app (goodIn_of _ (by decide +kernel)) ggX8_offer_X8_at
theorem dX8_offer_0 : decode cX8_offer 0 = .ok (.aload_n 0, 1) := by decide +kernel
theorem dX8_offer_1 : decode cX8_offer 1 = .ok (.iload_n 1, 1) := by decide +kernel
theorem dX8_offer_2 : decode cX8_offer 2 = .ok (.invokevirtual 50, 3) := by decide +kernel
theorem dX8_offer_5 : decode cX8_offer 5 = .ok (.ifCond .eq 20, 3) := by decide +kernel
theorem dX8_offer_8 : decode cX8_offer 8 = .ok (.iload_n 2, 1) := by decide +kernel
theorem dX8_offer_9 : decode cX8_offer 9 = .ok (.invokestatic 60, 3) := by decide +kernel
theorem dX8_offer_12 : decode cX8_offer 12 = .ok (.ifCond .eq 13, 3) := by decide +kernel
theorem dX8_offer_15 : decode cX8_offer 15 = .ok (.iload_n 3, 1) := by decide +kernel
theorem dX8_offer_16 : decode cX8_offer 16 = .ok (.iconst 0, 1) := by decide +kernel
theorem dX8_offer_17 : decode cX8_offer 17 = .ok (.bipush 100, 2) := by decide +kernel
theorem dX8_offer_19 : decode cX8_offer 19 = .ok (.invokestatic 35, 3) := by decide +kernel
theorem dX8_offer_22 : decode cX8_offer 22 = .ok (.ifCond .ne 5, 3) := by decide +kernel
theorem dX8_offer_25 : decode cX8_offer 25 = .ok (.iconst (-1), 1) := by decide +kernel
theorem dX8_offer_26 : decode cX8_offer 26 = .ok (.ireturn, 1) := by decide +kernel
theorem dX8_offer_27 : decode cX8_offer 27 = .ok (.aload_n 0, 1) := by decide +kernel
theorem dX8_offer_28 : decode cX8_offer 28 = .ok (.getfield 7, 3) := by decide +kernel
theorem dX8_offer_31 : decode cX8_offer 31 = .ok (.iload_n 1, 1) := by decide +kernel
theorem dX8_offer_32 : decode cX8_offer 32 = .ok (.iconst 2, 1) := by decide +kernel
theorem dX8_offer_33 : decode cX8_offer 33 = .ok (.invokestatic 46, 3) := by decide +kernel
theorem dX8_offer_36 : decode cX8_offer 36 = .ok (.iaload, 1) := by decide +kernel
theorem dX8_offer_37 : decode cX8_offer 37 = .ok (.ifCond .eq 6, 3) := by decide +kernel
theorem dX8_offer_40 : decode cX8_offer 40 = .ok (.bipush (-4), 2) := by decide +kernel
theorem dX8_offer_42 : decode cX8_offer 42 = .ok (.ireturn, 1) := by decide +kernel
theorem dX8_offer_43 : decode cX8_offer 43 = .ok (.aload_n 0, 1) := by decide +kernel
theorem dX8_offer_44 : decode cX8_offer 44 = .ok (.getfield 7, 3) := by decide +kernel
theorem dX8_offer_47 : decode cX8_offer 47 = .ok (.bipush 74, 2) := by decide +kernel
theorem dX8_offer_49 : decode cX8_offer 49 = .ok (.iconst 2, 1) := by decide +kernel
theorem dX8_offer_50 : decode cX8_offer 50 = .ok (.iload_n 1, 1) := by decide +kernel
theorem dX8_offer_51 : decode cX8_offer 51 = .ok (.imul, 1) := by decide +kernel
theorem dX8_offer_52 : decode cX8_offer 52 = .ok (.iadd, 1) := by decide +kernel
theorem dX8_offer_53 : decode cX8_offer 53 = .ok (.iload_n 2, 1) := by decide +kernel
theorem dX8_offer_54 : decode cX8_offer 54 = .ok (.iadd, 1) := by decide +kernel
theorem dX8_offer_55 : decode cX8_offer 55 = .ok (.iaload, 1) := by decide +kernel
theorem dX8_offer_56 : decode cX8_offer 56 = .ok (.ifCond .lt 6, 3) := by decide +kernel
theorem dX8_offer_59 : decode cX8_offer 59 = .ok (.bipush (-3), 2) := by decide +kernel
theorem dX8_offer_61 : decode cX8_offer 61 = .ok (.ireturn, 1) := by decide +kernel
theorem dX8_offer_62 : decode cX8_offer 62 = .ok (.aload_n 0, 1) := by decide +kernel
theorem dX8_offer_63 : decode cX8_offer 63 = .ok (.getfield 7, 3) := by decide +kernel
theorem dX8_offer_66 : decode cX8_offer 66 = .ok (.iload_n 1, 1) := by decide +kernel
theorem dX8_offer_67 : decode cX8_offer 67 = .ok (.iconst 4, 1) := by decide +kernel
theorem dX8_offer_68 : decode cX8_offer 68 = .ok (.invokestatic 46, 3) := by decide +kernel
theorem dX8_offer_71 : decode cX8_offer 71 = .ok (.iaload, 1) := by decide +kernel
theorem dX8_offer_72 : decode cX8_offer 72 = .ok (.istore 4, 2) := by decide +kernel
theorem dX8_offer_74 : decode cX8_offer 74 = .ok (.iload 4, 2) := by decide +kernel
theorem dX8_offer_76 : decode cX8_offer 76 = .ok (.iconst 5, 1) := by decide +kernel
theorem dX8_offer_77 : decode cX8_offer 77 = .ok (.if_icmp .ne 6, 3) := by decide +kernel
theorem dX8_offer_80 : decode cX8_offer 80 = .ok (.bipush (-2), 2) := by decide +kernel
theorem dX8_offer_82 : decode cX8_offer 82 = .ok (.ireturn, 1) := by decide +kernel
theorem dX8_offer_83 : decode cX8_offer 83 = .ok (.aload_n 0, 1) := by decide +kernel
theorem dX8_offer_84 : decode cX8_offer 84 = .ok (.getfield 7, 3) := by decide +kernel
theorem dX8_offer_87 : decode cX8_offer 87 = .ok (.bipush 74, 2) := by decide +kernel
theorem dX8_offer_89 : decode cX8_offer 89 = .ok (.iconst 2, 1) := by decide +kernel
theorem dX8_offer_90 : decode cX8_offer 90 = .ok (.iload_n 1, 1) := by decide +kernel
theorem dX8_offer_91 : decode cX8_offer 91 = .ok (.imul, 1) := by decide +kernel
theorem dX8_offer_92 : decode cX8_offer 92 = .ok (.iadd, 1) := by decide +kernel
theorem dX8_offer_93 : decode cX8_offer 93 = .ok (.iload_n 2, 1) := by decide +kernel
theorem dX8_offer_94 : decode cX8_offer 94 = .ok (.iadd, 1) := by decide +kernel
theorem dX8_offer_95 : decode cX8_offer 95 = .ok (.iload_n 3, 1) := by decide +kernel
theorem dX8_offer_96 : decode cX8_offer 96 = .ok (.iastore, 1) := by decide +kernel
theorem dX8_offer_97 : decode cX8_offer 97 = .ok (.aload_n 0, 1) := by decide +kernel
theorem dX8_offer_98 : decode cX8_offer 98 = .ok (.getfield 7, 3) := by decide +kernel
theorem dX8_offer_101 : decode cX8_offer 101 = .ok (.bipush 74, 2) := by decide +kernel
theorem dX8_offer_103 : decode cX8_offer 103 = .ok (.iconst 2, 1) := by decide +kernel
theorem dX8_offer_104 : decode cX8_offer 104 = .ok (.iload_n 1, 1) := by decide +kernel
theorem dX8_offer_105 : decode cX8_offer 105 = .ok (.imul, 1) := by decide +kernel
theorem dX8_offer_106 : decode cX8_offer 106 = .ok (.iadd, 1) := by decide +kernel
theorem dX8_offer_107 : decode cX8_offer 107 = .ok (.iconst 1, 1) := by decide +kernel
theorem dX8_offer_108 : decode cX8_offer 108 = .ok (.iadd, 1) := by decide +kernel
theorem dX8_offer_109 : decode cX8_offer 109 = .ok (.iload_n 2, 1) := by decide +kernel
theorem dX8_offer_110 : decode cX8_offer 110 = .ok (.isub, 1) := by decide +kernel
theorem dX8_offer_111 : decode cX8_offer 111 = .ok (.iaload, 1) := by decide +kernel
theorem dX8_offer_112 : decode cX8_offer 112 = .ok (.ifCond .ge 5, 3) := by decide +kernel
theorem dX8_offer_115 : decode cX8_offer 115 = .ok (.iconst 0, 1) := by decide +kernel
theorem dX8_offer_116 : decode cX8_offer 116 = .ok (.ireturn, 1) := by decide +kernel
theorem dX8_offer_117 : decode cX8_offer 117 = .ok (.aload_n 0, 1) := by decide +kernel
theorem dX8_offer_118 : decode cX8_offer 118 = .ok (.getfield 7, 3) := by decide +kernel
theorem dX8_offer_121 : decode cX8_offer 121 = .ok (.bipush 74, 2) := by decide +kernel
theorem dX8_offer_123 : decode cX8_offer 123 = .ok (.iconst 2, 1) := by decide +kernel
theorem dX8_offer_124 : decode cX8_offer 124 = .ok (.iload_n 1, 1) := by decide +kernel
theorem dX8_offer_125 : decode cX8_offer 125 = .ok (.imul, 1) := by decide +kernel
theorem dX8_offer_126 : decode cX8_offer 126 = .ok (.iadd, 1) := by decide +kernel
theorem dX8_offer_127 : decode cX8_offer 127 = .ok (.iaload, 1) := by decide +kernel
theorem dX8_offer_128 : decode cX8_offer 128 = .ok (.istore 5, 2) := by decide +kernel
theorem dX8_offer_130 : decode cX8_offer 130 = .ok (.aload_n 0, 1) := by decide +kernel
theorem dX8_offer_131 : decode cX8_offer 131 = .ok (.getfield 7, 3) := by decide +kernel
theorem dX8_offer_134 : decode cX8_offer 134 = .ok (.bipush 74, 2) := by decide +kernel
theorem dX8_offer_136 : decode cX8_offer 136 = .ok (.iconst 2, 1) := by decide +kernel
theorem dX8_offer_137 : decode cX8_offer 137 = .ok (.iload_n 1, 1) := by decide +kernel
theorem dX8_offer_138 : decode cX8_offer 138 = .ok (.imul, 1) := by decide +kernel
theorem dX8_offer_139 : decode cX8_offer 139 = .ok (.iadd, 1) := by decide +kernel
theorem dX8_offer_140 : decode cX8_offer 140 = .ok (.iconst 1, 1) := by decide +kernel
theorem dX8_offer_141 : decode cX8_offer 141 = .ok (.iadd, 1) := by decide +kernel
theorem dX8_offer_142 : decode cX8_offer 142 = .ok (.iaload, 1) := by decide +kernel
theorem dX8_offer_143 : decode cX8_offer 143 = .ok (.istore 6, 2) := by decide +kernel
theorem dX8_offer_145 : decode cX8_offer 145 = .ok (.aload_n 0, 1) := by decide +kernel
theorem dX8_offer_146 : decode cX8_offer 146 = .ok (.getfield 7, 3) := by decide +kernel
theorem dX8_offer_149 : decode cX8_offer 149 = .ok (.bipush 86, 2) := by decide +kernel
theorem dX8_offer_151 : decode cX8_offer 151 = .ok (.bipush 10, 2) := by decide +kernel
theorem dX8_offer_153 : decode cX8_offer 153 = .ok (.iload_n 1, 1) := by decide +kernel
theorem dX8_offer_154 : decode cX8_offer 154 = .ok (.imul, 1) := by decide +kernel
theorem dX8_offer_155 : decode cX8_offer 155 = .ok (.iadd, 1) := by decide +kernel
theorem dX8_offer_156 : decode cX8_offer 156 = .ok (.iconst 2, 1) := by decide +kernel
theorem dX8_offer_157 : decode cX8_offer 157 = .ok (.iload 4, 2) := by decide +kernel
theorem dX8_offer_159 : decode cX8_offer 159 = .ok (.imul, 1) := by decide +kernel
theorem dX8_offer_160 : decode cX8_offer 160 = .ok (.iadd, 1) := by decide +kernel
theorem dX8_offer_161 : decode cX8_offer 161 = .ok (.iload 5, 2) := by decide +kernel
theorem dX8_offer_163 : decode cX8_offer 163 = .ok (.iastore, 1) := by decide +kernel
theorem dX8_offer_164 : decode cX8_offer 164 = .ok (.aload_n 0, 1) := by decide +kernel
theorem dX8_offer_165 : decode cX8_offer 165 = .ok (.getfield 7, 3) := by decide +kernel
theorem dX8_offer_168 : decode cX8_offer 168 = .ok (.bipush 86, 2) := by decide +kernel
theorem dX8_offer_170 : decode cX8_offer 170 = .ok (.bipush 10, 2) := by decide +kernel
theorem dX8_offer_172 : decode cX8_offer 172 = .ok (.iload_n 1, 1) := by decide +kernel
theorem dX8_offer_173 : decode cX8_offer 173 = .ok (.imul, 1) := by decide +kernel
theorem dX8_offer_174 : decode cX8_offer 174 = .ok (.iadd, 1) := by decide +kernel
theorem dX8_offer_175 : decode cX8_offer 175 = .ok (.iconst 2, 1) := by decide +kernel
theorem dX8_offer_176 : decode cX8_offer 176 = .ok (.iload 4, 2) := by decide +kernel
theorem dX8_offer_178 : decode cX8_offer 178 = .ok (.imul, 1) := by decide +kernel
theorem dX8_offer_179 : decode cX8_offer 179 = .ok (.iadd, 1) := by decide +kernel
theorem dX8_offer_180 : decode cX8_offer 180 = .ok (.iconst 1, 1) := by decide +kernel
theorem dX8_offer_181 : decode cX8_offer 181 = .ok (.iadd, 1) := by decide +kernel
theorem dX8_offer_182 : decode cX8_offer 182 = .ok (.iload 6, 2) := by decide +kernel
theorem dX8_offer_184 : decode cX8_offer 184 = .ok (.iastore, 1) := by decide +kernel
theorem dX8_offer_185 : decode cX8_offer 185 = .ok (.aload_n 0, 1) := by decide +kernel
theorem dX8_offer_186 : decode cX8_offer 186 = .ok (.getfield 7, 3) := by decide +kernel
theorem dX8_offer_189 : decode cX8_offer 189 = .ok (.iload_n 1, 1) := by decide +kernel
theorem dX8_offer_190 : decode cX8_offer 190 = .ok (.iconst 4, 1) := by decide +kernel
theorem dX8_offer_191 : decode cX8_offer 191 = .ok (.invokestatic 46, 3) := by decide +kernel
theorem dX8_offer_194 : decode cX8_offer 194 = .ok (.dup2, 1) := by decide +kernel
theorem dX8_offer_195 : decode cX8_offer 195 = .ok (.iaload, 1) := by decide +kernel
theorem dX8_offer_196 : decode cX8_offer 196 = .ok (.iconst 1, 1) := by decide +kernel
theorem dX8_offer_197 : decode cX8_offer 197 = .ok (.iadd, 1) := by decide +kernel
theorem dX8_offer_198 : decode cX8_offer 198 = .ok (.iastore, 1) := by decide +kernel
theorem dX8_offer_199 : decode cX8_offer 199 = .ok (.aload_n 0, 1) := by decide +kernel
theorem dX8_offer_200 : decode cX8_offer 200 = .ok (.getfield 7, 3) := by decide +kernel
theorem dX8_offer_203 : decode cX8_offer 203 = .ok (.bipush 74, 2) := by decide +kernel
theorem dX8_offer_205 : decode cX8_offer 205 = .ok (.iconst 2, 1) := by decide +kernel
theorem dX8_offer_206 : decode cX8_offer 206 = .ok (.iload_n 1, 1) := by decide +kernel
theorem dX8_offer_207 : decode cX8_offer 207 = .ok (.imul, 1) := by decide +kernel
theorem dX8_offer_208 : decode cX8_offer 208 = .ok (.iadd, 1) := by decide +kernel
theorem dX8_offer_209 : decode cX8_offer 209 = .ok (.bipush (-5), 2) := by decide +kernel
theorem dX8_offer_211 : decode cX8_offer 211 = .ok (.iastore, 1) := by decide +kernel
theorem dX8_offer_212 : decode cX8_offer 212 = .ok (.aload_n 0, 1) := by decide +kernel
theorem dX8_offer_213 : decode cX8_offer 213 = .ok (.getfield 7, 3) := by decide +kernel
theorem dX8_offer_216 : decode cX8_offer 216 = .ok (.bipush 74, 2) := by decide +kernel
theorem dX8_offer_218 : decode cX8_offer 218 = .ok (.iconst 2, 1) := by decide +kernel
theorem dX8_offer_219 : decode cX8_offer 219 = .ok (.iload_n 1, 1) := by decide +kernel
theorem dX8_offer_220 : decode cX8_offer 220 = .ok (.imul, 1) := by decide +kernel
theorem dX8_offer_221 : decode cX8_offer 221 = .ok (.iadd, 1) := by decide +kernel
theorem dX8_offer_222 : decode cX8_offer 222 = .ok (.iconst 1, 1) := by decide +kernel
theorem dX8_offer_223 : decode cX8_offer 223 = .ok (.iadd, 1) := by decide +kernel
theorem dX8_offer_224 : decode cX8_offer 224 = .ok (.bipush (-5), 2) := by decide +kernel
theorem dX8_offer_226 : decode cX8_offer 226 = .ok (.iastore, 1) := by decide +kernel
theorem dX8_offer_227 : decode cX8_offer 227 = .ok (.iload 6, 2) := by decide +kernel
theorem dX8_offer_229 : decode cX8_offer 229 = .ok (.iload 5, 2) := by decide +kernel
theorem dX8_offer_231 : decode cX8_offer 231 = .ok (.if_icmp .ge 5, 3) := by decide +kernel
theorem dX8_offer_234 : decode cX8_offer 234 = .ok (.iconst 2, 1) := by decide +kernel
theorem dX8_offer_235 : decode cX8_offer 235 = .ok (.ireturn, 1) := by decide +kernel
theorem dX8_offer_236 : decode cX8_offer 236 = .ok (.aload_n 0, 1) := by decide +kernel
theorem dX8_offer_237 : decode cX8_offer 237 = .ok (.getfield 7, 3) := by decide +kernel
theorem dX8_offer_240 : decode cX8_offer 240 = .ok (.iload_n 1, 1) := by decide +kernel
theorem dX8_offer_241 : decode cX8_offer 241 = .ok (.iconst 2, 1) := by decide +kernel
theorem dX8_offer_242 : decode cX8_offer 242 = .ok (.invokestatic 46, 3) := by decide +kernel
theorem dX8_offer_245 : decode cX8_offer 245 = .ok (.iconst 1, 1) := by decide +kernel
theorem dX8_offer_246 : decode cX8_offer 246 = .ok (.iastore, 1) := by decide +kernel
theorem dX8_offer_247 : decode cX8_offer 247 = .ok (.aload_n 0, 1) := by decide +kernel
theorem dX8_offer_248 : decode cX8_offer 248 = .ok (.getfield 7, 3) := by decide +kernel
theorem dX8_offer_251 : decode cX8_offer 251 = .ok (.iload_n 1, 1) := by decide +kernel
theorem dX8_offer_252 : decode cX8_offer 252 = .ok (.iconst 3, 1) := by decide +kernel
theorem dX8_offer_253 : decode cX8_offer 253 = .ok (.invokestatic 46, 3) := by decide +kernel
theorem dX8_offer_256 : decode cX8_offer 256 = .ok (.iload 5, 2) := by decide +kernel
theorem dX8_offer_258 : decode cX8_offer 258 = .ok (.iload 6, 2) := by decide +kernel
theorem dX8_offer_260 : decode cX8_offer 260 = .ok (.iadd, 1) := by decide +kernel
theorem dX8_offer_261 : decode cX8_offer 261 = .ok (.iconst 2, 1) := by decide +kernel
theorem dX8_offer_262 : decode cX8_offer 262 = .ok (.idiv, 1) := by decide +kernel
theorem dX8_offer_263 : decode cX8_offer 263 = .ok (.iastore, 1) := by decide +kernel
theorem dX8_offer_264 : decode cX8_offer 264 = .ok (.iconst 1, 1) := by decide +kernel
theorem dX8_offer_265 : decode cX8_offer 265 = .ok (.ireturn, 1) := by decide +kernel
set_option maxRecDepth 20000 in
theorem ggX8_put_X8_isCase : GoodIn wsX8_put wsX8_isCase := goodIn_r _ [6, 1, 7, 8, 5, 9, 13, 14, 15, 16, 17, 18, 19, 20, 21, 22, 23] (by decide +kernel) (by decide +kernel)
set_option maxRecDepth 20000 in
theorem gX8_put_X8_isCase : GoodIn wsX8_put (wsV RX8 50 RX8 yX8_isCase wsX8_isCase) := goodIn_app (goodIn_of _ (by decide +kernel)) ggX8_put_X8_isCase
set_option maxRecDepth 20000 in
theorem ggX8_put_X8_isSide : GoodIn wsX8_put wsX8_isSide := goodIn_r _ [12, 7, 8, 5, 9] (by decide +kernel) (by decide +kernel)
set_option maxRecDepth 20000 in
theorem gX8_put_X8_isSide : GoodIn wsX8_put (va_wsS RX8 60 yX8_isSide wsX8_isSide) := goodIn_app (goodIn_of _ (by decide +kernel)) ggX8_put_X8_isSide
theorem dX8_put_0 : decode cX8_put 0 = .ok (.aload_n 0, 1) := by decide +kernel
theorem dX8_put_1 : decode cX8_put 1 = .ok (.iload_n 1, 1) := by decide +kernel
theorem dX8_put_2 : decode cX8_put 2 = .ok (.invokevirtual 50, 3) := by decide +kernel
theorem dX8_put_5 : decode cX8_put 5 = .ok (.ifCond .eq 10, 3) := by decide +kernel
theorem dX8_put_8 : decode cX8_put 8 = .ok (.iload_n 2, 1) := by decide +kernel
theorem dX8_put_9 : decode cX8_put 9 = .ok (.invokestatic 60, 3) := by decide +kernel
theorem dX8_put_12 : decode cX8_put 12 = .ok (.ifCond .ne 5, 3) := by decide +kernel
theorem dX8_put_15 : decode cX8_put 15 = .ok (.iconst (-1), 1) := by decide +kernel
theorem dX8_put_16 : decode cX8_put 16 = .ok (.ireturn, 1) := by decide +kernel
theorem dX8_put_17 : decode cX8_put 17 = .ok (.aload_n 0, 1) := by decide +kernel
theorem dX8_put_18 : decode cX8_put 18 = .ok (.getfield 7, 3) := by decide +kernel
theorem dX8_put_21 : decode cX8_put 21 = .ok (.bipush 74, 2) := by decide +kernel
theorem dX8_put_23 : decode cX8_put 23 = .ok (.iconst 2, 1) := by decide +kernel
theorem dX8_put_24 : decode cX8_put 24 = .ok (.iload_n 1, 1) := by decide +kernel
theorem dX8_put_25 : decode cX8_put 25 = .ok (.imul, 1) := by decide +kernel
theorem dX8_put_26 : decode cX8_put 26 = .ok (.iadd, 1) := by decide +kernel
theorem dX8_put_27 : decode cX8_put 27 = .ok (.iload_n 2, 1) := by decide +kernel
theorem dX8_put_28 : decode cX8_put 28 = .ok (.iadd, 1) := by decide +kernel
theorem dX8_put_29 : decode cX8_put 29 = .ok (.iaload, 1) := by decide +kernel
theorem dX8_put_30 : decode cX8_put 30 = .ok (.ifCond .lt 7, 3) := by decide +kernel
theorem dX8_put_33 : decode cX8_put 33 = .ok (.iconst 1, 1) := by decide +kernel
theorem dX8_put_34 : decode cX8_put 34 = .ok (.goto 4, 3) := by decide +kernel
theorem dX8_put_37 : decode cX8_put 37 = .ok (.iconst 0, 1) := by decide +kernel
theorem dX8_put_38 : decode cX8_put 38 = .ok (.ireturn, 1) := by decide +kernel
set_option maxRecDepth 20000 in
theorem ggX8_learns_X8_isCase : GoodIn wsX8_learns wsX8_isCase := goodIn_r _ [6, 1, 7, 8, 5, 9, 16, 17, 18, 19, 20, 21, 22, 23, 24, 25, 26] (by decide +kernel) (by decide +kernel)
set_option maxRecDepth 20000 in
theorem gX8_learns_X8_isCase : GoodIn wsX8_learns (wsV RX8 50 RX8 yX8_isCase wsX8_isCase) := goodIn_app (goodIn_of _ (by decide +kernel)) ggX8_learns_X8_isCase
set_option maxRecDepth 20000 in
theorem ggX8_learns_X8_isSide : GoodIn wsX8_learns wsX8_isSide := goodIn_r _ [12, 7, 8, 5, 9] (by decide +kernel) (by decide +kernel)
set_option maxRecDepth 20000 in
theorem gX8_learns_X8_isSide : GoodIn wsX8_learns (va_wsS RX8 60 yX8_isSide wsX8_isSide) := goodIn_app (goodIn_of _ (by decide +kernel)) ggX8_learns_X8_isSide
set_option maxRecDepth 20000 in
theorem ggX8_learns_X8_at : GoodIn wsX8_learns wsX8_at := goodIn_r _ [15] (by decide +kernel) (by decide +kernel)
set_option maxRecDepth 20000 in
theorem gX8_learns_X8_at : GoodIn wsX8_learns (va_wsS RX8 46 yX8_at wsX8_at) := goodIn_app (goodIn_of _ (by decide +kernel)) ggX8_learns_X8_at
set_option maxRecDepth 20000 in
theorem ggX8_learns_X8_in : GoodIn wsX8_learns wsX8_in := goodIn_r _ [9] (by decide +kernel) (by decide +kernel)
set_option maxRecDepth 20000 in
theorem gX8_learns_X8_in : GoodIn wsX8_learns (va_wsS RX8 35 yX8_in wsX8_in) := goodIn_app (goodIn_of _ (by decide +kernel)) ggX8_learns_X8_in
