set_option maxRecDepth 20000 in
theorem ggX0_init_X6_init : GoodIn wsX0_init wsX6_init := goodIn_r _ [15, 16, 2, 3] (by decide +kernel) (by decide +kernel)
set_option maxRecDepth 20000 in
theorem gX0_init_X6_init_n32 : GoodIn wsX0_init (wsX6_init) := ggX0_init_X6_init
theorem dX0_init_0 : decode cX0_init 0 = .ok (.aload_n 0, 1) := by decide +kernel
theorem dX0_init_1 : decode cX0_init 1 = .ok (.invokespecial 3, 3) := by decide +kernel
theorem dX0_init_4 : decode cX0_init 4 = .ok (.aload_n 0, 1) := by decide +kernel
theorem dX0_init_5 : decode cX0_init 5 = .ok (.iconst 2, 1) := by decide +kernel
theorem dX0_init_6 : decode cX0_init 6 = .ok (.newarray .int, 2) := by decide +kernel
theorem dX0_init_8 : decode cX0_init 8 = .ok (.putfield 9, 3) := by decide +kernel
theorem dX0_init_11 : decode cX0_init 11 = .ok (.aload_n 0, 1) := by decide +kernel
theorem dX0_init_12 : decode cX0_init 12 = .ok (.iconst 2, 1) := by decide +kernel
theorem dX0_init_13 : decode cX0_init 13 = .ok (.newarray .int, 2) := by decide +kernel
theorem dX0_init_15 : decode cX0_init 15 = .ok (.putfield 15, 3) := by decide +kernel
theorem dX0_init_18 : decode cX0_init 18 = .ok (.aload_n 0, 1) := by decide +kernel
theorem dX0_init_19 : decode cX0_init 19 = .ok (.iconst 2, 1) := by decide +kernel
theorem dX0_init_20 : decode cX0_init 20 = .ok (.iconst 5, 1) := by decide +kernel
theorem dX0_init_21 : decode cX0_init 21 = .ok (.multianewarray 18 2, 4) := by decide +kernel
theorem dX0_init_25 : decode cX0_init 25 = .ok (.putfield 20, 3) := by decide +kernel
theorem dX0_init_28 : decode cX0_init 28 = .ok (.aload_n 0, 1) := by decide +kernel
theorem dX0_init_29 : decode cX0_init 29 = .ok (.iconst 2, 1) := by decide +kernel
theorem dX0_init_30 : decode cX0_init 30 = .ok (.bipush 24, 2) := by decide +kernel
theorem dX0_init_32 : decode cX0_init 32 = .ok (.multianewarray 18 2, 4) := by decide +kernel
theorem dX0_init_36 : decode cX0_init 36 = .ok (.putfield 23, 3) := by decide +kernel
theorem dX0_init_39 : decode cX0_init 39 = .ok (.aload_n 0, 1) := by decide +kernel
theorem dX0_init_40 : decode cX0_init 40 = .ok (.iconst 5, 1) := by decide +kernel
theorem dX0_init_41 : decode cX0_init 41 = .ok (.anewarray 26, 3) := by decide +kernel
theorem dX0_init_44 : decode cX0_init 44 = .ok (.putfield 28, 3) := by decide +kernel
theorem dX0_init_47 : decode cX0_init 47 = .ok (.iconst 0, 1) := by decide +kernel
theorem dX0_init_48 : decode cX0_init 48 = .ok (.istore_n 1, 1) := by decide +kernel
theorem dX0_init_49 : decode cX0_init 49 = .ok (.iload_n 1, 1) := by decide +kernel
theorem dX0_init_50 : decode cX0_init 50 = .ok (.iconst 5, 1) := by decide +kernel
theorem dX0_init_51 : decode cX0_init 51 = .ok (.if_icmp .ge 22, 3) := by decide +kernel
theorem dX0_init_54 : decode cX0_init 54 = .ok (.aload_n 0, 1) := by decide +kernel
theorem dX0_init_55 : decode cX0_init 55 = .ok (.getfield 28, 3) := by decide +kernel
theorem dX0_init_58 : decode cX0_init 58 = .ok (.iload_n 1, 1) := by decide +kernel
theorem dX0_init_59 : decode cX0_init 59 = .ok (.new 26, 3) := by decide +kernel
theorem dX0_init_62 : decode cX0_init 62 = .ok (.dup, 1) := by decide +kernel
theorem dX0_init_63 : decode cX0_init 63 = .ok (.invokespecial 32, 3) := by decide +kernel
theorem dX0_init_66 : decode cX0_init 66 = .ok (.aastore, 1) := by decide +kernel
theorem dX0_init_67 : decode cX0_init 67 = .ok (.iinc 1 1, 3) := by decide +kernel
theorem dX0_init_70 : decode cX0_init 70 = .ok (.goto (-21), 3) := by decide +kernel
theorem dX0_init_73 : decode cX0_init 73 = .ok (.return_, 1) := by decide +kernel
theorem dX0_begin_0 : decode cX0_begin 0 = .ok (.aload_n 0, 1) := by decide +kernel
theorem dX0_begin_1 : decode cX0_begin 1 = .ok (.iconst 0, 1) := by decide +kernel
theorem dX0_begin_2 : decode cX0_begin 2 = .ok (.putfield 33, 3) := by decide +kernel
theorem dX0_begin_5 : decode cX0_begin 5 = .ok (.aload_n 0, 1) := by decide +kernel
theorem dX0_begin_6 : decode cX0_begin 6 = .ok (.iconst 0, 1) := by decide +kernel
theorem dX0_begin_7 : decode cX0_begin 7 = .ok (.putfield 37, 3) := by decide +kernel
theorem dX0_begin_10 : decode cX0_begin 10 = .ok (.aload_n 0, 1) := by decide +kernel
theorem dX0_begin_11 : decode cX0_begin 11 = .ok (.iconst 0, 1) := by decide +kernel
theorem dX0_begin_12 : decode cX0_begin 12 = .ok (.putfield 40, 3) := by decide +kernel
theorem dX0_begin_15 : decode cX0_begin 15 = .ok (.aload_n 0, 1) := by decide +kernel
theorem dX0_begin_16 : decode cX0_begin 16 = .ok (.iconst 1, 1) := by decide +kernel
theorem dX0_begin_17 : decode cX0_begin 17 = .ok (.putfield 43, 3) := by decide +kernel
theorem dX0_begin_20 : decode cX0_begin 20 = .ok (.aload_n 0, 1) := by decide +kernel
theorem dX0_begin_21 : decode cX0_begin 21 = .ok (.iconst 0, 1) := by decide +kernel
theorem dX0_begin_22 : decode cX0_begin 22 = .ok (.putfield 46, 3) := by decide +kernel
theorem dX0_begin_25 : decode cX0_begin 25 = .ok (.aload_n 0, 1) := by decide +kernel
theorem dX0_begin_26 : decode cX0_begin 26 = .ok (.iconst 0, 1) := by decide +kernel
theorem dX0_begin_27 : decode cX0_begin 27 = .ok (.putfield 49, 3) := by decide +kernel
theorem dX0_begin_30 : decode cX0_begin 30 = .ok (.aload_n 0, 1) := by decide +kernel
theorem dX0_begin_31 : decode cX0_begin 31 = .ok (.getfield 9, 3) := by decide +kernel
theorem dX0_begin_34 : decode cX0_begin 34 = .ok (.iconst 0, 1) := by decide +kernel
theorem dX0_begin_35 : decode cX0_begin 35 = .ok (.iload_n 1, 1) := by decide +kernel
theorem dX0_begin_36 : decode cX0_begin 36 = .ok (.iastore, 1) := by decide +kernel
theorem dX0_begin_37 : decode cX0_begin 37 = .ok (.aload_n 0, 1) := by decide +kernel
theorem dX0_begin_38 : decode cX0_begin 38 = .ok (.getfield 9, 3) := by decide +kernel
theorem dX0_begin_41 : decode cX0_begin 41 = .ok (.iconst 1, 1) := by decide +kernel
theorem dX0_begin_42 : decode cX0_begin 42 = .ok (.iload_n 2, 1) := by decide +kernel
theorem dX0_begin_43 : decode cX0_begin 43 = .ok (.iastore, 1) := by decide +kernel
theorem dX0_begin_44 : decode cX0_begin 44 = .ok (.iconst 0, 1) := by decide +kernel
theorem dX0_begin_45 : decode cX0_begin 45 = .ok (.istore_n 3, 1) := by decide +kernel
theorem dX0_begin_46 : decode cX0_begin 46 = .ok (.iload_n 3, 1) := by decide +kernel
theorem dX0_begin_47 : decode cX0_begin 47 = .ok (.iconst 2, 1) := by decide +kernel
theorem dX0_begin_48 : decode cX0_begin 48 = .ok (.if_icmp .ge 43, 3) := by decide +kernel
theorem dX0_begin_51 : decode cX0_begin 51 = .ok (.aload_n 0, 1) := by decide +kernel
theorem dX0_begin_52 : decode cX0_begin 52 = .ok (.getfield 15, 3) := by decide +kernel
theorem dX0_begin_55 : decode cX0_begin 55 = .ok (.iload_n 3, 1) := by decide +kernel
theorem dX0_begin_56 : decode cX0_begin 56 = .ok (.iconst (-1), 1) := by decide +kernel
theorem dX0_begin_57 : decode cX0_begin 57 = .ok (.iastore, 1) := by decide +kernel
theorem dX0_begin_58 : decode cX0_begin 58 = .ok (.iconst 0, 1) := by decide +kernel
theorem dX0_begin_59 : decode cX0_begin 59 = .ok (.istore 4, 2) := by decide +kernel
theorem dX0_begin_61 : decode cX0_begin 61 = .ok (.iload 4, 2) := by decide +kernel
theorem dX0_begin_63 : decode cX0_begin 63 = .ok (.bipush 24, 2) := by decide +kernel
theorem dX0_begin_65 : decode cX0_begin 65 = .ok (.if_icmp .ge 20, 3) := by decide +kernel
theorem dX0_begin_68 : decode cX0_begin 68 = .ok (.aload_n 0, 1) := by decide +kernel
theorem dX0_begin_69 : decode cX0_begin 69 = .ok (.getfield 23, 3) := by decide +kernel
theorem dX0_begin_72 : decode cX0_begin 72 = .ok (.iload_n 3, 1) := by decide +kernel
theorem dX0_begin_73 : decode cX0_begin 73 = .ok (.aaload, 1) := by decide +kernel
theorem dX0_begin_74 : decode cX0_begin 74 = .ok (.iload 4, 2) := by decide +kernel
theorem dX0_begin_76 : decode cX0_begin 76 = .ok (.bipush 7, 2) := by decide +kernel
theorem dX0_begin_78 : decode cX0_begin 78 = .ok (.iastore, 1) := by decide +kernel
theorem dX0_begin_79 : decode cX0_begin 79 = .ok (.iinc 4 1, 3) := by decide +kernel
theorem dX0_begin_82 : decode cX0_begin 82 = .ok (.goto (-21), 3) := by decide +kernel
theorem dX0_begin_85 : decode cX0_begin 85 = .ok (.iinc 3 1, 3) := by decide +kernel
theorem dX0_begin_88 : decode cX0_begin 88 = .ok (.goto (-42), 3) := by decide +kernel
theorem dX0_begin_91 : decode cX0_begin 91 = .ok (.return_, 1) := by decide +kernel
theorem dX0_endRound_0 : decode cX0_endRound 0 = .ok (.aload_n 0, 1) := by decide +kernel
theorem dX0_endRound_1 : decode cX0_endRound 1 = .ok (.getfield 15, 3) := by decide +kernel
theorem dX0_endRound_4 : decode cX0_endRound 4 = .ok (.iconst 0, 1) := by decide +kernel
theorem dX0_endRound_5 : decode cX0_endRound 5 = .ok (.iaload, 1) := by decide +kernel
theorem dX0_endRound_6 : decode cX0_endRound 6 = .ok (.istore_n 1, 1) := by decide +kernel
theorem dX0_endRound_7 : decode cX0_endRound 7 = .ok (.aload_n 0, 1) := by decide +kernel
theorem dX0_endRound_8 : decode cX0_endRound 8 = .ok (.getfield 15, 3) := by decide +kernel
theorem dX0_endRound_11 : decode cX0_endRound 11 = .ok (.iconst 1, 1) := by decide +kernel
theorem dX0_endRound_12 : decode cX0_endRound 12 = .ok (.iaload, 1) := by decide +kernel
theorem dX0_endRound_13 : decode cX0_endRound 13 = .ok (.istore_n 2, 1) := by decide +kernel
theorem dX0_endRound_14 : decode cX0_endRound 14 = .ok (.aload_n 0, 1) := by decide +kernel
theorem dX0_endRound_15 : decode cX0_endRound 15 = .ok (.getfield 40, 3) := by decide +kernel
theorem dX0_endRound_18 : decode cX0_endRound 18 = .ok (.iconst 5, 1) := by decide +kernel
theorem dX0_endRound_19 : decode cX0_endRound 19 = .ok (.if_icmp .ge 37, 3) := by decide +kernel
theorem dX0_endRound_22 : decode cX0_endRound 22 = .ok (.aload_n 0, 1) := by decide +kernel
theorem dX0_endRound_23 : decode cX0_endRound 23 = .ok (.getfield 20, 3) := by decide +kernel
theorem dX0_endRound_26 : decode cX0_endRound 26 = .ok (.iconst 0, 1) := by decide +kernel
theorem dX0_endRound_27 : decode cX0_endRound 27 = .ok (.aaload, 1) := by decide +kernel
theorem dX0_endRound_28 : decode cX0_endRound 28 = .ok (.aload_n 0, 1) := by decide +kernel
theorem dX0_endRound_29 : decode cX0_endRound 29 = .ok (.getfield 40, 3) := by decide +kernel
theorem dX0_endRound_32 : decode cX0_endRound 32 = .ok (.iload_n 1, 1) := by decide +kernel
theorem dX0_endRound_33 : decode cX0_endRound 33 = .ok (.iastore, 1) := by decide +kernel
theorem dX0_endRound_34 : decode cX0_endRound 34 = .ok (.aload_n 0, 1) := by decide +kernel
theorem dX0_endRound_35 : decode cX0_endRound 35 = .ok (.getfield 20, 3) := by decide +kernel
theorem dX0_endRound_38 : decode cX0_endRound 38 = .ok (.iconst 1, 1) := by decide +kernel
theorem dX0_endRound_39 : decode cX0_endRound 39 = .ok (.aaload, 1) := by decide +kernel
theorem dX0_endRound_40 : decode cX0_endRound 40 = .ok (.aload_n 0, 1) := by decide +kernel
theorem dX0_endRound_41 : decode cX0_endRound 41 = .ok (.getfield 40, 3) := by decide +kernel
theorem dX0_endRound_44 : decode cX0_endRound 44 = .ok (.iload_n 2, 1) := by decide +kernel
theorem dX0_endRound_45 : decode cX0_endRound 45 = .ok (.iastore, 1) := by decide +kernel
theorem dX0_endRound_46 : decode cX0_endRound 46 = .ok (.aload_n 0, 1) := by decide +kernel
theorem dX0_endRound_47 : decode cX0_endRound 47 = .ok (.dup, 1) := by decide +kernel
theorem dX0_endRound_48 : decode cX0_endRound 48 = .ok (.getfield 40, 3) := by decide +kernel
theorem dX0_endRound_51 : decode cX0_endRound 51 = .ok (.iconst 1, 1) := by decide +kernel
theorem dX0_endRound_52 : decode cX0_endRound 52 = .ok (.iadd, 1) := by decide +kernel
theorem dX0_endRound_53 : decode cX0_endRound 53 = .ok (.putfield 40, 3) := by decide +kernel
theorem dX0_endRound_56 : decode cX0_endRound 56 = .ok (.iload_n 2, 1) := by decide +kernel
theorem dX0_endRound_57 : decode cX0_endRound 57 = .ok (.iload_n 1, 1) := by decide +kernel
theorem dX0_endRound_58 : decode cX0_endRound 58 = .ok (.if_icmp .lt 19, 3) := by decide +kernel
theorem dX0_endRound_61 : decode cX0_endRound 61 = .ok (.aload_n 0, 1) := by decide +kernel
theorem dX0_endRound_62 : decode cX0_endRound 62 = .ok (.iconst 1, 1) := by decide +kernel
theorem dX0_endRound_63 : decode cX0_endRound 63 = .ok (.putfield 33, 3) := by decide +kernel
theorem dX0_endRound_66 : decode cX0_endRound 66 = .ok (.aload_n 0, 1) := by decide +kernel
theorem dX0_endRound_67 : decode cX0_endRound 67 = .ok (.iload_n 1, 1) := by decide +kernel
theorem dX0_endRound_68 : decode cX0_endRound 68 = .ok (.iload_n 2, 1) := by decide +kernel
theorem dX0_endRound_69 : decode cX0_endRound 69 = .ok (.iadd, 1) := by decide +kernel
theorem dX0_endRound_70 : decode cX0_endRound 70 = .ok (.iconst 2, 1) := by decide +kernel
theorem dX0_endRound_71 : decode cX0_endRound 71 = .ok (.idiv, 1) := by decide +kernel
theorem dX0_endRound_72 : decode cX0_endRound 72 = .ok (.putfield 37, 3) := by decide +kernel
theorem dX0_endRound_75 : decode cX0_endRound 75 = .ok (.iconst 1, 1) := by decide +kernel
theorem dX0_endRound_76 : decode cX0_endRound 76 = .ok (.ireturn, 1) := by decide +kernel
theorem dX0_endRound_77 : decode cX0_endRound 77 = .ok (.aload_n 0, 1) := by decide +kernel
theorem dX0_endRound_78 : decode cX0_endRound 78 = .ok (.getfield 15, 3) := by decide +kernel
theorem dX0_endRound_81 : decode cX0_endRound 81 = .ok (.iconst 0, 1) := by decide +kernel
theorem dX0_endRound_82 : decode cX0_endRound 82 = .ok (.iconst (-1), 1) := by decide +kernel
theorem dX0_endRound_83 : decode cX0_endRound 83 = .ok (.iastore, 1) := by decide +kernel
theorem dX0_endRound_84 : decode cX0_endRound 84 = .ok (.aload_n 0, 1) := by decide +kernel
theorem dX0_endRound_85 : decode cX0_endRound 85 = .ok (.getfield 15, 3) := by decide +kernel
theorem dX0_endRound_88 : decode cX0_endRound 88 = .ok (.iconst 1, 1) := by decide +kernel
theorem dX0_endRound_89 : decode cX0_endRound 89 = .ok (.iconst (-1), 1) := by decide +kernel
theorem dX0_endRound_90 : decode cX0_endRound 90 = .ok (.iastore, 1) := by decide +kernel
theorem dX0_endRound_91 : decode cX0_endRound 91 = .ok (.iconst 0, 1) := by decide +kernel
theorem dX0_endRound_92 : decode cX0_endRound 92 = .ok (.ireturn, 1) := by decide +kernel
theorem dX0_hasMet_0 : decode cX0_hasMet 0 = .ok (.aload_n 0, 1) := by decide +kernel
theorem dX0_hasMet_1 : decode cX0_hasMet 1 = .ok (.getfield 33, 3) := by decide +kernel
theorem dX0_hasMet_4 : decode cX0_hasMet 4 = .ok (.iconst 1, 1) := by decide +kernel
theorem dX0_hasMet_5 : decode cX0_hasMet 5 = .ok (.if_icmp .ne 17, 3) := by decide +kernel
theorem dX0_hasMet_8 : decode cX0_hasMet 8 = .ok (.iload_n 1, 1) := by decide +kernel
theorem dX0_hasMet_9 : decode cX0_hasMet 9 = .ok (.aload_n 0, 1) := by decide +kernel
theorem dX0_hasMet_10 : decode cX0_hasMet 10 = .ok (.getfield 40, 3) := by decide +kernel
theorem dX0_hasMet_13 : decode cX0_hasMet 13 = .ok (.iconst 1, 1) := by decide +kernel
theorem dX0_hasMet_14 : decode cX0_hasMet 14 = .ok (.isub, 1) := by decide +kernel
theorem dX0_hasMet_15 : decode cX0_hasMet 15 = .ok (.if_icmp .ne 7, 3) := by decide +kernel
theorem dX0_hasMet_18 : decode cX0_hasMet 18 = .ok (.iconst 1, 1) := by decide +kernel
theorem dX0_hasMet_19 : decode cX0_hasMet 19 = .ok (.goto 4, 3) := by decide +kernel
theorem dX0_hasMet_22 : decode cX0_hasMet 22 = .ok (.iconst 0, 1) := by decide +kernel
theorem dX0_hasMet_23 : decode cX0_hasMet 23 = .ok (.ireturn, 1) := by decide +kernel
set_option maxRecDepth 20000 in
theorem ggX0_leastOfOther_X0_hasMet : GoodIn wsX0_leastOfOther wsX0_hasMet := goodIn_r _ [11, 12, 13, 14, 15, 16, 17, 18, 19, 20, 21, 22, 23, 24] (by decide +kernel) (by decide +kernel)
set_option maxRecDepth 20000 in
theorem gX0_leastOfOther_X0_hasMet : GoodIn wsX0_leastOfOther (wsV RX0 52 RX0 yX0_hasMet wsX0_hasMet) := goodIn_app (goodIn_of _ (by decide +kernel)) ggX0_leastOfOther_X0_hasMet
theorem dX0_leastOfOther_0 : decode cX0_leastOfOther 0 = .ok (.aload_n 0, 1) := by decide +kernel
theorem dX0_leastOfOther_1 : decode cX0_leastOfOther 1 = .ok (.getfield 20, 3) := by decide +kernel
theorem dX0_leastOfOther_4 : decode cX0_leastOfOther 4 = .ok (.iload_n 1, 1) := by decide +kernel
theorem dX0_leastOfOther_5 : decode cX0_leastOfOther 5 = .ok (.aaload, 1) := by decide +kernel
theorem dX0_leastOfOther_6 : decode cX0_leastOfOther 6 = .ok (.iload_n 2, 1) := by decide +kernel
theorem dX0_leastOfOther_7 : decode cX0_leastOfOther 7 = .ok (.iaload, 1) := by decide +kernel
theorem dX0_leastOfOther_8 : decode cX0_leastOfOther 8 = .ok (.istore_n 3, 1) := by decide +kernel
theorem dX0_leastOfOther_9 : decode cX0_leastOfOther 9 = .ok (.aload_n 0, 1) := by decide +kernel
theorem dX0_leastOfOther_10 : decode cX0_leastOfOther 10 = .ok (.iload_n 2, 1) := by decide +kernel
theorem dX0_leastOfOther_11 : decode cX0_leastOfOther 11 = .ok (.invokevirtual 52, 3) := by decide +kernel
theorem dX0_leastOfOther_14 : decode cX0_leastOfOther 14 = .ok (.ifCond .ne 15, 3) := by decide +kernel
theorem dX0_leastOfOther_17 : decode cX0_leastOfOther 17 = .ok (.iload_n 1, 1) := by decide +kernel
theorem dX0_leastOfOther_18 : decode cX0_leastOfOther 18 = .ok (.ifCond .ne 7, 3) := by decide +kernel
theorem dX0_leastOfOther_21 : decode cX0_leastOfOther 21 = .ok (.iconst 0, 1) := by decide +kernel
theorem dX0_leastOfOther_22 : decode cX0_leastOfOther 22 = .ok (.goto 6, 3) := by decide +kernel
theorem dX0_leastOfOther_25 : decode cX0_leastOfOther 25 = .ok (.iload_n 3, 1) := by decide +kernel
theorem dX0_leastOfOther_26 : decode cX0_leastOfOther 26 = .ok (.iconst 1, 1) := by decide +kernel
theorem dX0_leastOfOther_27 : decode cX0_leastOfOther 27 = .ok (.iadd, 1) := by decide +kernel
theorem dX0_leastOfOther_28 : decode cX0_leastOfOther 28 = .ok (.ireturn, 1) := by decide +kernel
theorem dX0_leastOfOther_29 : decode cX0_leastOfOther 29 = .ok (.iload_n 1, 1) := by decide +kernel
theorem dX0_leastOfOther_30 : decode cX0_leastOfOther 30 = .ok (.ifCond .ne 7, 3) := by decide +kernel
theorem dX0_leastOfOther_33 : decode cX0_leastOfOther 33 = .ok (.iload_n 3, 1) := by decide +kernel
theorem dX0_leastOfOther_34 : decode cX0_leastOfOther 34 = .ok (.goto 4, 3) := by decide +kernel
theorem dX0_leastOfOther_37 : decode cX0_leastOfOther 37 = .ok (.iconst 0, 1) := by decide +kernel
theorem dX0_leastOfOther_38 : decode cX0_leastOfOther 38 = .ok (.istore 4, 2) := by decide +kernel
theorem dX0_leastOfOther_40 : decode cX0_leastOfOther 40 = .ok (.iload 4, 2) := by decide +kernel
theorem dX0_leastOfOther_42 : decode cX0_leastOfOther 42 = .ok (.iconst 2, 1) := by decide +kernel
theorem dX0_leastOfOther_43 : decode cX0_leastOfOther 43 = .ok (.aload_n 0, 1) := by decide +kernel
theorem dX0_leastOfOther_44 : decode cX0_leastOfOther 44 = .ok (.getfield 37, 3) := by decide +kernel
theorem dX0_leastOfOther_47 : decode cX0_leastOfOther 47 = .ok (.imul, 1) := by decide +kernel
theorem dX0_leastOfOther_48 : decode cX0_leastOfOther 48 = .ok (.iload_n 3, 1) := by decide +kernel
theorem dX0_leastOfOther_49 : decode cX0_leastOfOther 49 = .ok (.isub, 1) := by decide +kernel
theorem dX0_leastOfOther_50 : decode cX0_leastOfOther 50 = .ok (.invokestatic 56, 3) := by decide +kernel
theorem dX0_leastOfOther_53 : decode cX0_leastOfOther 53 = .ok (.ireturn, 1) := by decide +kernel
set_option maxRecDepth 20000 in
theorem ggX0_greatestOfOther_X0_hasMet : GoodIn wsX0_greatestOfOther wsX0_hasMet := goodIn_r _ [11, 12, 13, 14, 15, 16, 17, 18, 19, 20, 21, 22, 23, 24] (by decide +kernel) (by decide +kernel)
set_option maxRecDepth 20000 in
theorem gX0_greatestOfOther_X0_hasMet : GoodIn wsX0_greatestOfOther (wsV RX0 52 RX0 yX0_hasMet wsX0_hasMet) := goodIn_app (goodIn_of _ (by decide +kernel)) ggX0_greatestOfOther_X0_hasMet
theorem dX0_greatestOfOther_0 : decode cX0_greatestOfOther 0 = .ok (.aload_n 0, 1) := by decide +kernel
theorem dX0_greatestOfOther_1 : decode cX0_greatestOfOther 1 = .ok (.getfield 20, 3) := by decide +kernel
theorem dX0_greatestOfOther_4 : decode cX0_greatestOfOther 4 = .ok (.iload_n 1, 1) := by decide +kernel
theorem dX0_greatestOfOther_5 : decode cX0_greatestOfOther 5 = .ok (.aaload, 1) := by decide +kernel
theorem dX0_greatestOfOther_6 : decode cX0_greatestOfOther 6 = .ok (.iload_n 2, 1) := by decide +kernel
theorem dX0_greatestOfOther_7 : decode cX0_greatestOfOther 7 = .ok (.iaload, 1) := by decide +kernel
theorem dX0_greatestOfOther_8 : decode cX0_greatestOfOther 8 = .ok (.istore_n 3, 1) := by decide +kernel
theorem dX0_greatestOfOther_9 : decode cX0_greatestOfOther 9 = .ok (.aload_n 0, 1) := by decide +kernel
theorem dX0_greatestOfOther_10 : decode cX0_greatestOfOther 10 = .ok (.iload_n 2, 1) := by decide +kernel
theorem dX0_greatestOfOther_11 : decode cX0_greatestOfOther 11 = .ok (.invokevirtual 52, 3) := by decide +kernel
theorem dX0_greatestOfOther_14 : decode cX0_greatestOfOther 14 = .ok (.ifCond .ne 16, 3) := by decide +kernel
theorem dX0_greatestOfOther_17 : decode cX0_greatestOfOther 17 = .ok (.iload_n 1, 1) := by decide +kernel
theorem dX0_greatestOfOther_18 : decode cX0_greatestOfOther 18 = .ok (.ifCond .ne 9, 3) := by decide +kernel
theorem dX0_greatestOfOther_21 : decode cX0_greatestOfOther 21 = .ok (.iload_n 3, 1) := by decide +kernel
theorem dX0_greatestOfOther_22 : decode cX0_greatestOfOther 22 = .ok (.iconst 1, 1) := by decide +kernel
theorem dX0_greatestOfOther_23 : decode cX0_greatestOfOther 23 = .ok (.isub, 1) := by decide +kernel
theorem dX0_greatestOfOther_24 : decode cX0_greatestOfOther 24 = .ok (.goto 5, 3) := by decide +kernel
theorem dX0_greatestOfOther_27 : decode cX0_greatestOfOther 27 = .ok (.bipush 100, 2) := by decide +kernel
theorem dX0_greatestOfOther_29 : decode cX0_greatestOfOther 29 = .ok (.ireturn, 1) := by decide +kernel
theorem dX0_greatestOfOther_30 : decode cX0_greatestOfOther 30 = .ok (.iload_n 1, 1) := by decide +kernel
theorem dX0_greatestOfOther_31 : decode cX0_greatestOfOther 31 = .ok (.ifCond .ne 8, 3) := by decide +kernel
theorem dX0_greatestOfOther_34 : decode cX0_greatestOfOther 34 = .ok (.bipush 100, 2) := by decide +kernel
theorem dX0_greatestOfOther_36 : decode cX0_greatestOfOther 36 = .ok (.goto 4, 3) := by decide +kernel
theorem dX0_greatestOfOther_39 : decode cX0_greatestOfOther 39 = .ok (.iload_n 3, 1) := by decide +kernel
theorem dX0_greatestOfOther_40 : decode cX0_greatestOfOther 40 = .ok (.istore 4, 2) := by decide +kernel
theorem dX0_greatestOfOther_42 : decode cX0_greatestOfOther 42 = .ok (.iload 4, 2) := by decide +kernel
theorem dX0_greatestOfOther_44 : decode cX0_greatestOfOther 44 = .ok (.iconst 2, 1) := by decide +kernel
theorem dX0_greatestOfOther_45 : decode cX0_greatestOfOther 45 = .ok (.aload_n 0, 1) := by decide +kernel
theorem dX0_greatestOfOther_46 : decode cX0_greatestOfOther 46 = .ok (.getfield 37, 3) := by decide +kernel
theorem dX0_greatestOfOther_49 : decode cX0_greatestOfOther 49 = .ok (.imul, 1) := by decide +kernel
theorem dX0_greatestOfOther_50 : decode cX0_greatestOfOther 50 = .ok (.iconst 1, 1) := by decide +kernel
theorem dX0_greatestOfOther_51 : decode cX0_greatestOfOther 51 = .ok (.iadd, 1) := by decide +kernel
theorem dX0_greatestOfOther_52 : decode cX0_greatestOfOther 52 = .ok (.iload_n 3, 1) := by decide +kernel
theorem dX0_greatestOfOther_53 : decode cX0_greatestOfOther 53 = .ok (.isub, 1) := by decide +kernel
theorem dX0_greatestOfOther_54 : decode cX0_greatestOfOther 54 = .ok (.invokestatic 62, 3) := by decide +kernel
theorem dX0_greatestOfOther_57 : decode cX0_greatestOfOther 57 = .ok (.ireturn, 1) := by decide +kernel
theorem dX0_judge_0 : decode cX0_judge 0 = .ok (.aload_n 0, 1) := by decide +kernel
theorem dX0_judge_1 : decode cX0_judge 1 = .ok (.getfield 28, 3) := by decide +kernel
theorem dX0_judge_4 : decode cX0_judge 4 = .ok (.iload_n 1, 1) := by decide +kernel
theorem dX0_judge_5 : decode cX0_judge 5 = .ok (.aaload, 1) := by decide +kernel
theorem dX0_judge_6 : decode cX0_judge 6 = .ok (.astore_n 2, 1) := by decide +kernel
theorem dX0_judge_7 : decode cX0_judge 7 = .ok (.iconst 1, 1) := by decide +kernel
theorem dX0_judge_8 : decode cX0_judge 8 = .ok (.istore_n 3, 1) := by decide +kernel
theorem dX0_judge_9 : decode cX0_judge 9 = .ok (.aload_n 2, 1) := by decide +kernel
theorem dX0_judge_10 : decode cX0_judge 10 = .ok (.getfield 65, 3) := by decide +kernel
theorem dX0_judge_13 : decode cX0_judge 13 = .ok (.istore 4, 2) := by decide +kernel
theorem dX0_judge_15 : decode cX0_judge 15 = .ok (.iload 4, 2) := by decide +kernel
theorem dX0_judge_17 : decode cX0_judge 17 = .ok (.aload_n 2, 1) := by decide +kernel
theorem dX0_judge_18 : decode cX0_judge 18 = .ok (.getfield 68, 3) := by decide +kernel
theorem dX0_judge_21 : decode cX0_judge 21 = .ok (.if_icmp .gt 54, 3) := by decide +kernel
theorem dX0_judge_24 : decode cX0_judge 24 = .ok (.aload_n 0, 1) := by decide +kernel
theorem dX0_judge_25 : decode cX0_judge 25 = .ok (.getfield 23, 3) := by decide +kernel
theorem dX0_judge_28 : decode cX0_judge 28 = .ok (.aload_n 2, 1) := by decide +kernel
theorem dX0_judge_29 : decode cX0_judge 29 = .ok (.getfield 71, 3) := by decide +kernel
theorem dX0_judge_32 : decode cX0_judge 32 = .ok (.aaload, 1) := by decide +kernel
theorem dX0_judge_33 : decode cX0_judge 33 = .ok (.iload 4, 2) := by decide +kernel
theorem dX0_judge_35 : decode cX0_judge 35 = .ok (.iaload, 1) := by decide +kernel
theorem dX0_judge_36 : decode cX0_judge 36 = .ok (.istore 5, 2) := by decide +kernel
theorem dX0_judge_38 : decode cX0_judge 38 = .ok (.iload 5, 2) := by decide +kernel
theorem dX0_judge_40 : decode cX0_judge 40 = .ok (.aload_n 2, 1) := by decide +kernel
theorem dX0_judge_41 : decode cX0_judge 41 = .ok (.getfield 74, 3) := by decide +kernel
theorem dX0_judge_44 : decode cX0_judge 44 = .ok (.if_icmp .ne 16, 3) := by decide +kernel
theorem dX0_judge_47 : decode cX0_judge 47 = .ok (.aload_n 2, 1) := by decide +kernel
theorem dX0_judge_48 : decode cX0_judge 48 = .ok (.getfield 77, 3) := by decide +kernel
theorem dX0_judge_51 : decode cX0_judge 51 = .ok (.ifCond .eq 7, 3) := by decide +kernel
theorem dX0_judge_54 : decode cX0_judge 54 = .ok (.iconst 1, 1) := by decide +kernel
theorem dX0_judge_55 : decode cX0_judge 55 = .ok (.goto 4, 3) := by decide +kernel
theorem dX0_judge_58 : decode cX0_judge 58 = .ok (.iconst 0, 1) := by decide +kernel
theorem dX0_judge_59 : decode cX0_judge 59 = .ok (.ireturn, 1) := by decide +kernel
theorem dX0_judge_60 : decode cX0_judge 60 = .ok (.iload 5, 2) := by decide +kernel
theorem dX0_judge_62 : decode cX0_judge 62 = .ok (.bipush 7, 2) := by decide +kernel
theorem dX0_judge_64 : decode cX0_judge 64 = .ok (.if_icmp .ne 5, 3) := by decide +kernel
theorem dX0_judge_67 : decode cX0_judge 67 = .ok (.iconst 0, 1) := by decide +kernel
theorem dX0_judge_68 : decode cX0_judge 68 = .ok (.istore_n 3, 1) := by decide +kernel
theorem dX0_judge_69 : decode cX0_judge 69 = .ok (.iinc 4 1, 3) := by decide +kernel
theorem dX0_judge_72 : decode cX0_judge 72 = .ok (.goto (-57), 3) := by decide +kernel
theorem dX0_judge_75 : decode cX0_judge 75 = .ok (.iload_n 3, 1) := by decide +kernel
theorem dX0_judge_76 : decode cX0_judge 76 = .ok (.ifCond .ne 5, 3) := by decide +kernel
theorem dX0_judge_79 : decode cX0_judge 79 = .ok (.iconst 2, 1) := by decide +kernel
theorem dX0_judge_80 : decode cX0_judge 80 = .ok (.ireturn, 1) := by decide +kernel
theorem dX0_judge_81 : decode cX0_judge 81 = .ok (.aload_n 2, 1) := by decide +kernel
theorem dX0_judge_82 : decode cX0_judge 82 = .ok (.getfield 77, 3) := by decide +kernel
theorem dX0_judge_85 : decode cX0_judge 85 = .ok (.ifCond .eq 7, 3) := by decide +kernel
theorem dX0_judge_88 : decode cX0_judge 88 = .ok (.iconst 0, 1) := by decide +kernel
theorem dX0_judge_89 : decode cX0_judge 89 = .ok (.goto 4, 3) := by decide +kernel
theorem dX0_judge_92 : decode cX0_judge 92 = .ok (.iconst 1, 1) := by decide +kernel
theorem dX0_judge_93 : decode cX0_judge 93 = .ok (.ireturn, 1) := by decide +kernel
set_option maxRecDepth 20000 in
theorem ggX0_copyFrom_X6_copyFrom : GoodIn wsX0_copyFrom wsX6_copyFrom := goodIn_r _ [20, 21, 22, 23, 24, 25, 37, 38, 39, 40, 41] (by decide +kernel) (by decide +kernel)
set_option maxRecDepth 20000 in
theorem gX0_copyFrom_X6_copyFrom : GoodIn wsX0_copyFrom (wsV RX0 87 RX6 yX6_copyFrom wsX6_copyFrom) := goodIn_app (goodIn_of _ (by decide +kernel)) ggX0_copyFrom_X6_copyFrom
theorem dX0_copyFrom_0 : decode cX0_copyFrom 0 = .ok (.aload_n 0, 1) := by decide +kernel
theorem dX0_copyFrom_1 : decode cX0_copyFrom 1 = .ok (.aload_n 1, 1) := by decide +kernel
theorem dX0_copyFrom_2 : decode cX0_copyFrom 2 = .ok (.getfield 33, 3) := by decide +kernel
theorem dX0_copyFrom_5 : decode cX0_copyFrom 5 = .ok (.putfield 33, 3) := by decide +kernel
theorem dX0_copyFrom_8 : decode cX0_copyFrom 8 = .ok (.aload_n 0, 1) := by decide +kernel
theorem dX0_copyFrom_9 : decode cX0_copyFrom 9 = .ok (.aload_n 1, 1) := by decide +kernel
theorem dX0_copyFrom_10 : decode cX0_copyFrom 10 = .ok (.getfield 37, 3) := by decide +kernel
theorem dX0_copyFrom_13 : decode cX0_copyFrom 13 = .ok (.putfield 37, 3) := by decide +kernel
theorem dX0_copyFrom_16 : decode cX0_copyFrom 16 = .ok (.aload_n 0, 1) := by decide +kernel
theorem dX0_copyFrom_17 : decode cX0_copyFrom 17 = .ok (.aload_n 1, 1) := by decide +kernel
theorem dX0_copyFrom_18 : decode cX0_copyFrom 18 = .ok (.getfield 40, 3) := by decide +kernel
theorem dX0_copyFrom_21 : decode cX0_copyFrom 21 = .ok (.putfield 40, 3) := by decide +kernel
theorem dX0_copyFrom_24 : decode cX0_copyFrom 24 = .ok (.aload_n 0, 1) := by decide +kernel
theorem dX0_copyFrom_25 : decode cX0_copyFrom 25 = .ok (.aload_n 1, 1) := by decide +kernel
theorem dX0_copyFrom_26 : decode cX0_copyFrom 26 = .ok (.getfield 43, 3) := by decide +kernel
theorem dX0_copyFrom_29 : decode cX0_copyFrom 29 = .ok (.putfield 43, 3) := by decide +kernel
theorem dX0_copyFrom_32 : decode cX0_copyFrom 32 = .ok (.aload_n 0, 1) := by decide +kernel
theorem dX0_copyFrom_33 : decode cX0_copyFrom 33 = .ok (.aload_n 1, 1) := by decide +kernel
theorem dX0_copyFrom_34 : decode cX0_copyFrom 34 = .ok (.getfield 46, 3) := by decide +kernel
theorem dX0_copyFrom_37 : decode cX0_copyFrom 37 = .ok (.putfield 46, 3) := by decide +kernel
theorem dX0_copyFrom_40 : decode cX0_copyFrom 40 = .ok (.aload_n 0, 1) := by decide +kernel
theorem dX0_copyFrom_41 : decode cX0_copyFrom 41 = .ok (.aload_n 1, 1) := by decide +kernel
theorem dX0_copyFrom_42 : decode cX0_copyFrom 42 = .ok (.getfield 49, 3) := by decide +kernel
theorem dX0_copyFrom_45 : decode cX0_copyFrom 45 = .ok (.putfield 49, 3) := by decide +kernel
theorem dX0_copyFrom_48 : decode cX0_copyFrom 48 = .ok (.iconst 0, 1) := by decide +kernel
theorem dX0_copyFrom_49 : decode cX0_copyFrom 49 = .ok (.istore_n 2, 1) := by decide +kernel
theorem dX0_copyFrom_50 : decode cX0_copyFrom 50 = .ok (.iload_n 2, 1) := by decide +kernel
theorem dX0_copyFrom_51 : decode cX0_copyFrom 51 = .ok (.iconst 2, 1) := by decide +kernel
theorem dX0_copyFrom_52 : decode cX0_copyFrom 52 = .ok (.if_icmp .ge 73, 3) := by decide +kernel
theorem dX0_copyFrom_55 : decode cX0_copyFrom 55 = .ok (.aload_n 0, 1) := by decide +kernel
theorem dX0_copyFrom_56 : decode cX0_copyFrom 56 = .ok (.getfield 9, 3) := by decide +kernel
theorem dX0_copyFrom_59 : decode cX0_copyFrom 59 = .ok (.iload_n 2, 1) := by decide +kernel
theorem dX0_copyFrom_60 : decode cX0_copyFrom 60 = .ok (.aload_n 1, 1) := by decide +kernel
theorem dX0_copyFrom_61 : decode cX0_copyFrom 61 = .ok (.getfield 9, 3) := by decide +kernel
theorem dX0_copyFrom_64 : decode cX0_copyFrom 64 = .ok (.iload_n 2, 1) := by decide +kernel
theorem dX0_copyFrom_65 : decode cX0_copyFrom 65 = .ok (.iaload, 1) := by decide +kernel
theorem dX0_copyFrom_66 : decode cX0_copyFrom 66 = .ok (.iastore, 1) := by decide +kernel
theorem dX0_copyFrom_67 : decode cX0_copyFrom 67 = .ok (.aload_n 0, 1) := by decide +kernel
theorem dX0_copyFrom_68 : decode cX0_copyFrom 68 = .ok (.getfield 15, 3) := by decide +kernel
theorem dX0_copyFrom_71 : decode cX0_copyFrom 71 = .ok (.iload_n 2, 1) := by decide +kernel
theorem dX0_copyFrom_72 : decode cX0_copyFrom 72 = .ok (.aload_n 1, 1) := by decide +kernel
theorem dX0_copyFrom_73 : decode cX0_copyFrom 73 = .ok (.getfield 15, 3) := by decide +kernel
theorem dX0_copyFrom_76 : decode cX0_copyFrom 76 = .ok (.iload_n 2, 1) := by decide +kernel
theorem dX0_copyFrom_77 : decode cX0_copyFrom 77 = .ok (.iaload, 1) := by decide +kernel
theorem dX0_copyFrom_78 : decode cX0_copyFrom 78 = .ok (.iastore, 1) := by decide +kernel
theorem dX0_copyFrom_79 : decode cX0_copyFrom 79 = .ok (.aload_n 1, 1) := by decide +kernel
theorem dX0_copyFrom_80 : decode cX0_copyFrom 80 = .ok (.getfield 20, 3) := by decide +kernel
theorem dX0_copyFrom_83 : decode cX0_copyFrom 83 = .ok (.iload_n 2, 1) := by decide +kernel
theorem dX0_copyFrom_84 : decode cX0_copyFrom 84 = .ok (.aaload, 1) := by decide +kernel
theorem dX0_copyFrom_85 : decode cX0_copyFrom 85 = .ok (.iconst 0, 1) := by decide +kernel
theorem dX0_copyFrom_86 : decode cX0_copyFrom 86 = .ok (.aload_n 0, 1) := by decide +kernel
theorem dX0_copyFrom_87 : decode cX0_copyFrom 87 = .ok (.getfield 20, 3) := by decide +kernel
theorem dX0_copyFrom_90 : decode cX0_copyFrom 90 = .ok (.iload_n 2, 1) := by decide +kernel
theorem dX0_copyFrom_91 : decode cX0_copyFrom 91 = .ok (.aaload, 1) := by decide +kernel
theorem dX0_copyFrom_92 : decode cX0_copyFrom 92 = .ok (.iconst 0, 1) := by decide +kernel
theorem dX0_copyFrom_93 : decode cX0_copyFrom 93 = .ok (.aload_n 0, 1) := by decide +kernel
theorem dX0_copyFrom_94 : decode cX0_copyFrom 94 = .ok (.getfield 40, 3) := by decide +kernel
theorem dX0_copyFrom_97 : decode cX0_copyFrom 97 = .ok (.invokestatic 81, 3) := by decide +kernel
theorem dX0_copyFrom_100 : decode cX0_copyFrom 100 = .ok (.aload_n 1, 1) := by decide +kernel
theorem dX0_copyFrom_101 : decode cX0_copyFrom 101 = .ok (.getfield 23, 3) := by decide +kernel
theorem dX0_copyFrom_104 : decode cX0_copyFrom 104 = .ok (.iload_n 2, 1) := by decide +kernel
theorem dX0_copyFrom_105 : decode cX0_copyFrom 105 = .ok (.aaload, 1) := by decide +kernel
theorem dX0_copyFrom_106 : decode cX0_copyFrom 106 = .ok (.iconst 0, 1) := by decide +kernel
theorem dX0_copyFrom_107 : decode cX0_copyFrom 107 = .ok (.aload_n 0, 1) := by decide +kernel
theorem dX0_copyFrom_108 : decode cX0_copyFrom 108 = .ok (.getfield 23, 3) := by decide +kernel
theorem dX0_copyFrom_111 : decode cX0_copyFrom 111 = .ok (.iload_n 2, 1) := by decide +kernel
theorem dX0_copyFrom_112 : decode cX0_copyFrom 112 = .ok (.aaload, 1) := by decide +kernel
theorem dX0_copyFrom_113 : decode cX0_copyFrom 113 = .ok (.iconst 0, 1) := by decide +kernel
theorem dX0_copyFrom_114 : decode cX0_copyFrom 114 = .ok (.bipush 24, 2) := by decide +kernel
theorem dX0_copyFrom_116 : decode cX0_copyFrom 116 = .ok (.invokestatic 81, 3) := by decide +kernel
theorem dX0_copyFrom_119 : decode cX0_copyFrom 119 = .ok (.iinc 2 1, 3) := by decide +kernel
theorem dX0_copyFrom_122 : decode cX0_copyFrom 122 = .ok (.goto (-72), 3) := by decide +kernel
theorem dX0_copyFrom_125 : decode cX0_copyFrom 125 = .ok (.iconst 0, 1) := by decide +kernel
theorem dX0_copyFrom_126 : decode cX0_copyFrom 126 = .ok (.istore_n 2, 1) := by decide +kernel
theorem dX0_copyFrom_127 : decode cX0_copyFrom 127 = .ok (.iload_n 2, 1) := by decide +kernel
theorem dX0_copyFrom_128 : decode cX0_copyFrom 128 = .ok (.aload_n 0, 1) := by decide +kernel
theorem dX0_copyFrom_129 : decode cX0_copyFrom 129 = .ok (.getfield 49, 3) := by decide +kernel
theorem dX0_copyFrom_132 : decode cX0_copyFrom 132 = .ok (.if_icmp .ge 24, 3) := by decide +kernel
theorem dX0_copyFrom_135 : decode cX0_copyFrom 135 = .ok (.aload_n 0, 1) := by decide +kernel
theorem dX0_copyFrom_136 : decode cX0_copyFrom 136 = .ok (.getfield 28, 3) := by decide +kernel
theorem dX0_copyFrom_139 : decode cX0_copyFrom 139 = .ok (.iload_n 2, 1) := by decide +kernel
theorem dX0_copyFrom_140 : decode cX0_copyFrom 140 = .ok (.aaload, 1) := by decide +kernel
theorem dX0_copyFrom_141 : decode cX0_copyFrom 141 = .ok (.aload_n 1, 1) := by decide +kernel
theorem dX0_copyFrom_142 : decode cX0_copyFrom 142 = .ok (.getfield 28, 3) := by decide +kernel
theorem dX0_copyFrom_145 : decode cX0_copyFrom 145 = .ok (.iload_n 2, 1) := by decide +kernel
theorem dX0_copyFrom_146 : decode cX0_copyFrom 146 = .ok (.aaload, 1) := by decide +kernel
theorem dX0_copyFrom_147 : decode cX0_copyFrom 147 = .ok (.invokevirtual 87, 3) := by decide +kernel
theorem dX0_copyFrom_150 : decode cX0_copyFrom 150 = .ok (.iinc 2 1, 3) := by decide +kernel
theorem dX0_copyFrom_153 : decode cX0_copyFrom 153 = .ok (.goto (-26), 3) := by decide +kernel
theorem dX0_copyFrom_156 : decode cX0_copyFrom 156 = .ok (.return_, 1) := by decide +kernel
set_option maxRecDepth 20000 in
theorem ggX1_init_X3_init : GoodIn wsX1_init wsX3_init := goodIn_r _ [17, 18, 2, 3] (by decide +kernel) (by decide +kernel)
set_option maxRecDepth 20000 in
theorem gX1_init_X3_init_n29 : GoodIn wsX1_init (wsX3_init) := ggX1_init_X3_init
set_option maxRecDepth 20000 in
theorem ggX1_init_X2_init : GoodIn wsX1_init wsX2_init := goodIn_r _ [20, 21, 2, 3] (by decide +kernel) (by decide +kernel)
set_option maxRecDepth 20000 in
theorem gX1_init_X2_init_n30 : GoodIn wsX1_init (wsX2_init) := ggX1_init_X2_init
set_option maxRecDepth 20000 in
theorem ggX1_init_X0_init : GoodIn wsX1_init wsX0_init := goodIn_r _ [24, 25, 2, 3, 26, 27, 28, 29, 30, 31, 32, 33, 34, 35, 36, 37, 38, 51, 52, 53, 54, 55, 56, 57, 58, 59, 60, 61, 62, 63, 64, 65, 66] (by decide +kernel) (by decide +kernel)
set_option maxRecDepth 20000 in
theorem gX1_init_X0_init : GoodIn wsX1_init (wsX0_init) := ggX1_init_X0_init
theorem dX1_init_0 : decode cX1_init 0 = .ok (.aload_n 0, 1) := by decide +kernel
theorem dX1_init_1 : decode cX1_init 1 = .ok (.invokespecial 3, 3) := by decide +kernel
theorem dX1_init_4 : decode cX1_init 4 = .ok (.aload_n 0, 1) := by decide +kernel
theorem dX1_init_5 : decode cX1_init 5 = .ok (.bipush 8, 2) := by decide +kernel
theorem dX1_init_7 : decode cX1_init 7 = .ok (.anewarray 9, 3) := by decide +kernel
theorem dX1_init_10 : decode cX1_init 10 = .ok (.putfield 11, 3) := by decide +kernel
theorem dX1_init_13 : decode cX1_init 13 = .ok (.aload_n 0, 1) := by decide +kernel
theorem dX1_init_14 : decode cX1_init 14 = .ok (.iconst 4, 1) := by decide +kernel
theorem dX1_init_15 : decode cX1_init 15 = .ok (.anewarray 17, 3) := by decide +kernel
theorem dX1_init_18 : decode cX1_init 18 = .ok (.putfield 19, 3) := by decide +kernel
theorem dX1_init_21 : decode cX1_init 21 = .ok (.aload_n 0, 1) := by decide +kernel
theorem dX1_init_22 : decode cX1_init 22 = .ok (.bipush 6, 2) := by decide +kernel
theorem dX1_init_24 : decode cX1_init 24 = .ok (.anewarray 23, 3) := by decide +kernel
theorem dX1_init_27 : decode cX1_init 27 = .ok (.putfield 25, 3) := by decide +kernel
theorem dX1_init_30 : decode cX1_init 30 = .ok (.iconst 0, 1) := by decide +kernel
theorem dX1_init_31 : decode cX1_init 31 = .ok (.istore_n 1, 1) := by decide +kernel
theorem dX1_init_32 : decode cX1_init 32 = .ok (.iload_n 1, 1) := by decide +kernel
theorem dX1_init_33 : decode cX1_init 33 = .ok (.bipush 8, 2) := by decide +kernel
theorem dX1_init_35 : decode cX1_init 35 = .ok (.if_icmp .ge 22, 3) := by decide +kernel
theorem dX1_init_38 : decode cX1_init 38 = .ok (.aload_n 0, 1) := by decide +kernel
theorem dX1_init_39 : decode cX1_init 39 = .ok (.getfield 11, 3) := by decide +kernel
theorem dX1_init_42 : decode cX1_init 42 = .ok (.iload_n 1, 1) := by decide +kernel
theorem dX1_init_43 : decode cX1_init 43 = .ok (.new 9, 3) := by decide +kernel
theorem dX1_init_46 : decode cX1_init 46 = .ok (.dup, 1) := by decide +kernel
theorem dX1_init_47 : decode cX1_init 47 = .ok (.invokespecial 29, 3) := by decide +kernel
theorem dX1_init_50 : decode cX1_init 50 = .ok (.aastore, 1) := by decide +kernel
theorem dX1_init_51 : decode cX1_init 51 = .ok (.iinc 1 1, 3) := by decide +kernel
theorem dX1_init_54 : decode cX1_init 54 = .ok (.goto (-22), 3) := by decide +kernel
theorem dX1_init_57 : decode cX1_init 57 = .ok (.iconst 0, 1) := by decide +kernel
theorem dX1_init_58 : decode cX1_init 58 = .ok (.istore_n 1, 1) := by decide +kernel
theorem dX1_init_59 : decode cX1_init 59 = .ok (.iload_n 1, 1) := by decide +kernel
theorem dX1_init_60 : decode cX1_init 60 = .ok (.iconst 4, 1) := by decide +kernel
theorem dX1_init_61 : decode cX1_init 61 = .ok (.if_icmp .ge 22, 3) := by decide +kernel
theorem dX1_init_64 : decode cX1_init 64 = .ok (.aload_n 0, 1) := by decide +kernel
theorem dX1_init_65 : decode cX1_init 65 = .ok (.getfield 19, 3) := by decide +kernel
theorem dX1_init_68 : decode cX1_init 68 = .ok (.iload_n 1, 1) := by decide +kernel
theorem dX1_init_69 : decode cX1_init 69 = .ok (.new 17, 3) := by decide +kernel
theorem dX1_init_72 : decode cX1_init 72 = .ok (.dup, 1) := by decide +kernel
theorem dX1_init_73 : decode cX1_init 73 = .ok (.invokespecial 30, 3) := by decide +kernel
theorem dX1_init_76 : decode cX1_init 76 = .ok (.aastore, 1) := by decide +kernel
theorem dX1_init_77 : decode cX1_init 77 = .ok (.iinc 1 1, 3) := by decide +kernel
theorem dX1_init_80 : decode cX1_init 80 = .ok (.goto (-21), 3) := by decide +kernel
theorem dX1_init_83 : decode cX1_init 83 = .ok (.iconst 0, 1) := by decide +kernel
theorem dX1_init_84 : decode cX1_init 84 = .ok (.istore_n 1, 1) := by decide +kernel
theorem dX1_init_85 : decode cX1_init 85 = .ok (.iload_n 1, 1) := by decide +kernel
theorem dX1_init_86 : decode cX1_init 86 = .ok (.bipush 6, 2) := by decide +kernel
theorem dX1_init_88 : decode cX1_init 88 = .ok (.if_icmp .ge 22, 3) := by decide +kernel
theorem dX1_init_91 : decode cX1_init 91 = .ok (.aload_n 0, 1) := by decide +kernel
theorem dX1_init_92 : decode cX1_init 92 = .ok (.getfield 25, 3) := by decide +kernel
theorem dX1_init_95 : decode cX1_init 95 = .ok (.iload_n 1, 1) := by decide +kernel
theorem dX1_init_96 : decode cX1_init 96 = .ok (.new 23, 3) := by decide +kernel
theorem dX1_init_99 : decode cX1_init 99 = .ok (.dup, 1) := by decide +kernel
theorem dX1_init_100 : decode cX1_init 100 = .ok (.invokespecial 31, 3) := by decide +kernel
theorem dX1_init_103 : decode cX1_init 103 = .ok (.aastore, 1) := by decide +kernel
theorem dX1_init_104 : decode cX1_init 104 = .ok (.iinc 1 1, 3) := by decide +kernel
theorem dX1_init_107 : decode cX1_init 107 = .ok (.goto (-22), 3) := by decide +kernel
theorem dX1_init_110 : decode cX1_init 110 = .ok (.return_, 1) := by decide +kernel
theorem dX1_hasPair_0 : decode cX1_hasPair 0 = .ok (.getstatic 32, 3) := by decide +kernel
theorem dX1_hasPair_3 : decode cX1_hasPair 3 = .ok (.iload_n 1, 1) := by decide +kernel
theorem dX1_hasPair_4 : decode cX1_hasPair 4 = .ok (.iaload, 1) := by decide +kernel
theorem dX1_hasPair_5 : decode cX1_hasPair 5 = .ok (.aload_n 0, 1) := by decide +kernel
theorem dX1_hasPair_6 : decode cX1_hasPair 6 = .ok (.getfield 36, 3) := by decide +kernel
theorem dX1_hasPair_9 : decode cX1_hasPair 9 = .ok (.if_icmp .ge 7, 3) := by decide +kernel
theorem dX1_hasPair_12 : decode cX1_hasPair 12 = .ok (.iconst 1, 1) := by decide +kernel
theorem dX1_hasPair_13 : decode cX1_hasPair 13 = .ok (.goto 4, 3) := by decide +kernel
theorem dX1_hasPair_16 : decode cX1_hasPair 16 = .ok (.iconst 0, 1) := by decide +kernel
theorem dX1_hasPair_17 : decode cX1_hasPair 17 = .ok (.ireturn, 1) := by decide +kernel
set_option maxRecDepth 20000 in
theorem ggX1_pairFits_X7_hasBit : GoodIn wsX1_pairFits wsX7_hasBit := goodIn_r _ [8] (by decide +kernel) (by decide +kernel)
set_option maxRecDepth 20000 in
theorem gX1_pairFits_X7_hasBit_n51 : GoodIn wsX1_pairFits (wsX7_hasBit) := ggX1_pairFits_X7_hasBit
set_option maxRecDepth 20000 in
theorem ggX1_pairFits_X1_isNear : GoodIn wsX1_pairFits wsX1_isNear := goodIn_r _ [13, 14, 15, 4, 16, 6, 7, 8, 24, 25, 26, 17, 18, 19, 20, 21, 22, 23, 38, 39] (by decide +kernel) (by decide +kernel)
set_option maxRecDepth 20000 in
theorem gX1_pairFits_X1_isNear : GoodIn wsX1_pairFits (wsV RX1 55 RX1 yX1_isNear wsX1_isNear) := goodIn_app (goodIn_of _ (by decide +kernel)) ggX1_pairFits_X1_isNear
theorem dX1_pairFits_0 : decode cX1_pairFits 0 = .ok (.aload_n 0, 1) := by decide +kernel
theorem dX1_pairFits_1 : decode cX1_pairFits 1 = .ok (.getfield 19, 3) := by decide +kernel
theorem dX1_pairFits_4 : decode cX1_pairFits 4 = .ok (.getstatic 40, 3) := by decide +kernel
theorem dX1_pairFits_7 : decode cX1_pairFits 7 = .ok (.iload_n 1, 1) := by decide +kernel
theorem dX1_pairFits_8 : decode cX1_pairFits 8 = .ok (.iaload, 1) := by decide +kernel
theorem dX1_pairFits_9 : decode cX1_pairFits 9 = .ok (.aaload, 1) := by decide +kernel
theorem dX1_pairFits_10 : decode cX1_pairFits 10 = .ok (.astore_n 3, 1) := by decide +kernel
theorem dX1_pairFits_11 : decode cX1_pairFits 11 = .ok (.aload_n 0, 1) := by decide +kernel
theorem dX1_pairFits_12 : decode cX1_pairFits 12 = .ok (.getfield 19, 3) := by decide +kernel
theorem dX1_pairFits_15 : decode cX1_pairFits 15 = .ok (.getstatic 32, 3) := by decide +kernel
theorem dX1_pairFits_18 : decode cX1_pairFits 18 = .ok (.iload_n 1, 1) := by decide +kernel
theorem dX1_pairFits_19 : decode cX1_pairFits 19 = .ok (.iaload, 1) := by decide +kernel
theorem dX1_pairFits_20 : decode cX1_pairFits 20 = .ok (.aaload, 1) := by decide +kernel
theorem dX1_pairFits_21 : decode cX1_pairFits 21 = .ok (.astore 4, 2) := by decide +kernel
theorem dX1_pairFits_23 : decode cX1_pairFits 23 = .ok (.aload_n 3, 1) := by decide +kernel
theorem dX1_pairFits_24 : decode cX1_pairFits 24 = .ok (.getfield 43, 3) := by decide +kernel
theorem dX1_pairFits_27 : decode cX1_pairFits 27 = .ok (.aload 4, 2) := by decide +kernel
theorem dX1_pairFits_29 : decode cX1_pairFits 29 = .ok (.getfield 43, 3) := by decide +kernel
theorem dX1_pairFits_32 : decode cX1_pairFits 32 = .ok (.ior, 1) := by decide +kernel
theorem dX1_pairFits_33 : decode cX1_pairFits 33 = .ok (.istore 5, 2) := by decide +kernel
theorem dX1_pairFits_35 : decode cX1_pairFits 35 = .ok (.iconst 0, 1) := by decide +kernel
theorem dX1_pairFits_36 : decode cX1_pairFits 36 = .ok (.istore 6, 2) := by decide +kernel
theorem dX1_pairFits_38 : decode cX1_pairFits 38 = .ok (.iload 6, 2) := by decide +kernel
theorem dX1_pairFits_40 : decode cX1_pairFits 40 = .ok (.iconst 2, 1) := by decide +kernel
theorem dX1_pairFits_41 : decode cX1_pairFits 41 = .ok (.if_icmp .ge 59, 3) := by decide +kernel
theorem dX1_pairFits_44 : decode cX1_pairFits 44 = .ok (.aload_n 2, 1) := by decide +kernel
theorem dX1_pairFits_45 : decode cX1_pairFits 45 = .ok (.getfield 46, 3) := by decide +kernel
theorem dX1_pairFits_48 : decode cX1_pairFits 48 = .ok (.iload 6, 2) := by decide +kernel
theorem dX1_pairFits_50 : decode cX1_pairFits 50 = .ok (.iaload, 1) := by decide +kernel
theorem dX1_pairFits_51 : decode cX1_pairFits 51 = .ok (.istore 7, 2) := by decide +kernel
theorem dX1_pairFits_53 : decode cX1_pairFits 53 = .ok (.iload 5, 2) := by decide +kernel
theorem dX1_pairFits_55 : decode cX1_pairFits 55 = .ok (.aload_n 0, 1) := by decide +kernel
theorem dX1_pairFits_56 : decode cX1_pairFits 56 = .ok (.getfield 11, 3) := by decide +kernel
theorem dX1_pairFits_59 : decode cX1_pairFits 59 = .ok (.iload 7, 2) := by decide +kernel
theorem dX1_pairFits_61 : decode cX1_pairFits 61 = .ok (.aaload, 1) := by decide +kernel
theorem dX1_pairFits_62 : decode cX1_pairFits 62 = .ok (.getfield 48, 3) := by decide +kernel
theorem dX1_pairFits_65 : decode cX1_pairFits 65 = .ok (.invokestatic 51, 3) := by decide +kernel
theorem dX1_pairFits_68 : decode cX1_pairFits 68 = .ok (.ifCond .eq 24, 3) := by decide +kernel
theorem dX1_pairFits_71 : decode cX1_pairFits 71 = .ok (.aload_n 0, 1) := by decide +kernel
theorem dX1_pairFits_72 : decode cX1_pairFits 72 = .ok (.aload_n 3, 1) := by decide +kernel
theorem dX1_pairFits_73 : decode cX1_pairFits 73 = .ok (.iload 7, 2) := by decide +kernel
theorem dX1_pairFits_75 : decode cX1_pairFits 75 = .ok (.invokevirtual 55, 3) := by decide +kernel
theorem dX1_pairFits_78 : decode cX1_pairFits 78 = .ok (.ifCond .ne 14, 3) := by decide +kernel
theorem dX1_pairFits_81 : decode cX1_pairFits 81 = .ok (.aload_n 0, 1) := by decide +kernel
theorem dX1_pairFits_82 : decode cX1_pairFits 82 = .ok (.aload 4, 2) := by decide +kernel
theorem dX1_pairFits_84 : decode cX1_pairFits 84 = .ok (.iload 7, 2) := by decide +kernel
theorem dX1_pairFits_86 : decode cX1_pairFits 86 = .ok (.invokevirtual 55, 3) := by decide +kernel
theorem dX1_pairFits_89 : decode cX1_pairFits 89 = .ok (.ifCond .eq 5, 3) := by decide +kernel
theorem dX1_pairFits_92 : decode cX1_pairFits 92 = .ok (.iconst 0, 1) := by decide +kernel
theorem dX1_pairFits_93 : decode cX1_pairFits 93 = .ok (.ireturn, 1) := by decide +kernel
theorem dX1_pairFits_94 : decode cX1_pairFits 94 = .ok (.iinc 6 1, 3) := by decide +kernel
theorem dX1_pairFits_97 : decode cX1_pairFits 97 = .ok (.goto (-59), 3) := by decide +kernel
theorem dX1_pairFits_100 : decode cX1_pairFits 100 = .ok (.iconst 1, 1) := by decide +kernel
theorem dX1_pairFits_101 : decode cX1_pairFits 101 = .ok (.ireturn, 1) := by decide +kernel
set_option maxRecDepth 20000 in
theorem ggX1_isNear_X7_hasBit : GoodIn wsX1_isNear wsX7_hasBit := goodIn_r _ [7] (by decide +kernel) (by decide +kernel)
set_option maxRecDepth 20000 in
theorem gX1_isNear_X7_hasBit_n51 : GoodIn wsX1_isNear (wsX7_hasBit) := ggX1_isNear_X7_hasBit
theorem dX1_isNear_0 : decode cX1_isNear 0 = .ok (.aload_n 1, 1) := by decide +kernel
theorem dX1_isNear_1 : decode cX1_isNear 1 = .ok (.getfield 59, 3) := by decide +kernel
theorem dX1_isNear_4 : decode cX1_isNear 4 = .ok (.iload_n 2, 1) := by decide +kernel
theorem dX1_isNear_5 : decode cX1_isNear 5 = .ok (.invokestatic 51, 3) := by decide +kernel
theorem dX1_isNear_8 : decode cX1_isNear 8 = .ok (.ifCond .ne 19, 3) := by decide +kernel
theorem dX1_isNear_11 : decode cX1_isNear 11 = .ok (.aload_n 1, 1) := by decide +kernel
theorem dX1_isNear_12 : decode cX1_isNear 12 = .ok (.getfield 62, 3) := by decide +kernel
theorem dX1_isNear_15 : decode cX1_isNear 15 = .ok (.aload_n 0, 1) := by decide +kernel
theorem dX1_isNear_16 : decode cX1_isNear 16 = .ok (.getfield 11, 3) := by decide +kernel
theorem dX1_isNear_19 : decode cX1_isNear 19 = .ok (.iload_n 2, 1) := by decide +kernel
theorem dX1_isNear_20 : decode cX1_isNear 20 = .ok (.aaload, 1) := by decide +kernel
theorem dX1_isNear_21 : decode cX1_isNear 21 = .ok (.getfield 65, 3) := by decide +kernel
theorem dX1_isNear_24 : decode cX1_isNear 24 = .ok (.if_icmp .ne 7, 3) := by decide +kernel
theorem dX1_isNear_27 : decode cX1_isNear 27 = .ok (.iconst 1, 1) := by decide +kernel
theorem dX1_isNear_28 : decode cX1_isNear 28 = .ok (.goto 4, 3) := by decide +kernel
theorem dX1_isNear_31 : decode cX1_isNear 31 = .ok (.iconst 0, 1) := by decide +kernel
theorem dX1_isNear_32 : decode cX1_isNear 32 = .ok (.ireturn, 1) := by decide +kernel
set_option maxRecDepth 20000 in
theorem ggX1_quarrelBits_X7_hasBit : GoodIn wsX1_quarrelBits wsX7_hasBit := goodIn_r _ [6] (by decide +kernel) (by decide +kernel)
set_option maxRecDepth 20000 in
theorem gX1_quarrelBits_X7_hasBit_n51 : GoodIn wsX1_quarrelBits (wsX7_hasBit) := ggX1_quarrelBits_X7_hasBit
theorem dX1_quarrelBits_0 : decode cX1_quarrelBits 0 = .ok (.iconst 1, 1) := by decide +kernel
theorem dX1_quarrelBits_1 : decode cX1_quarrelBits 1 = .ok (.iload_n 1, 1) := by decide +kernel
theorem dX1_quarrelBits_2 : decode cX1_quarrelBits 2 = .ok (.ishl, 1) := by decide +kernel
theorem dX1_quarrelBits_3 : decode cX1_quarrelBits 3 = .ok (.istore_n 2, 1) := by decide +kernel
theorem dX1_quarrelBits_4 : decode cX1_quarrelBits 4 = .ok (.iconst 1, 1) := by decide +kernel
theorem dX1_quarrelBits_5 : decode cX1_quarrelBits 5 = .ok (.istore_n 3, 1) := by decide +kernel
theorem dX1_quarrelBits_6 : decode cX1_quarrelBits 6 = .ok (.iload_n 3, 1) := by decide +kernel
theorem dX1_quarrelBits_7 : decode cX1_quarrelBits 7 = .ok (.aload_n 0, 1) := by decide +kernel
theorem dX1_quarrelBits_8 : decode cX1_quarrelBits 8 = .ok (.getfield 66, 3) := by decide +kernel
theorem dX1_quarrelBits_11 : decode cX1_quarrelBits 11 = .ok (.if_icmp .ge 49, 3) := by decide +kernel
theorem dX1_quarrelBits_14 : decode cX1_quarrelBits 14 = .ok (.iconst 0, 1) := by decide +kernel
theorem dX1_quarrelBits_15 : decode cX1_quarrelBits 15 = .ok (.istore 4, 2) := by decide +kernel
theorem dX1_quarrelBits_17 : decode cX1_quarrelBits 17 = .ok (.iload 4, 2) := by decide +kernel
theorem dX1_quarrelBits_19 : decode cX1_quarrelBits 19 = .ok (.aload_n 0, 1) := by decide +kernel
theorem dX1_quarrelBits_20 : decode cX1_quarrelBits 20 = .ok (.getfield 66, 3) := by decide +kernel
theorem dX1_quarrelBits_23 : decode cX1_quarrelBits 23 = .ok (.if_icmp .ge 31, 3) := by decide +kernel
theorem dX1_quarrelBits_26 : decode cX1_quarrelBits 26 = .ok (.iload_n 2, 1) := by decide +kernel
theorem dX1_quarrelBits_27 : decode cX1_quarrelBits 27 = .ok (.iload 4, 2) := by decide +kernel
theorem dX1_quarrelBits_29 : decode cX1_quarrelBits 29 = .ok (.invokestatic 51, 3) := by decide +kernel
theorem dX1_quarrelBits_32 : decode cX1_quarrelBits 32 = .ok (.ifCond .eq 16, 3) := by decide +kernel
theorem dX1_quarrelBits_35 : decode cX1_quarrelBits 35 = .ok (.iload_n 2, 1) := by decide +kernel
theorem dX1_quarrelBits_36 : decode cX1_quarrelBits 36 = .ok (.aload_n 0, 1) := by decide +kernel
theorem dX1_quarrelBits_37 : decode cX1_quarrelBits 37 = .ok (.getfield 25, 3) := by decide +kernel
theorem dX1_quarrelBits_40 : decode cX1_quarrelBits 40 = .ok (.iload 4, 2) := by decide +kernel
theorem dX1_quarrelBits_42 : decode cX1_quarrelBits 42 = .ok (.aaload, 1) := by decide +kernel
theorem dX1_quarrelBits_43 : decode cX1_quarrelBits 43 = .ok (.getfield 69, 3) := by decide +kernel
theorem dX1_quarrelBits_46 : decode cX1_quarrelBits 46 = .ok (.ior, 1) := by decide +kernel
theorem dX1_quarrelBits_47 : decode cX1_quarrelBits 47 = .ok (.istore_n 2, 1) := by decide +kernel
theorem dX1_quarrelBits_48 : decode cX1_quarrelBits 48 = .ok (.iinc 4 1, 3) := by decide +kernel
theorem dX1_quarrelBits_51 : decode cX1_quarrelBits 51 = .ok (.goto (-34), 3) := by decide +kernel
theorem dX1_quarrelBits_54 : decode cX1_quarrelBits 54 = .ok (.iinc 3 1, 3) := by decide +kernel
theorem dX1_quarrelBits_57 : decode cX1_quarrelBits 57 = .ok (.goto (-51), 3) := by decide +kernel
theorem dX1_quarrelBits_60 : decode cX1_quarrelBits 60 = .ok (.iload_n 2, 1) := by decide +kernel
theorem dX1_quarrelBits_61 : decode cX1_quarrelBits 61 = .ok (.ireturn, 1) := by decide +kernel
set_option maxRecDepth 20000 in
theorem ggX1_headOfQuarrel_X1_quarrelBits : GoodIn wsX1_headOfQuarrel wsX1_quarrelBits := goodIn_r _ [5, 6, 7, 8, 9, 10, 11, 12, 13, 14, 15, 16, 17, 18, 19, 20, 21, 22, 23, 24, 25, 26, 27, 28, 29] (by decide +kernel) (by decide +kernel)
set_option maxRecDepth 20000 in
theorem gX1_headOfQuarrel_X1_quarrelBits : GoodIn wsX1_headOfQuarrel (wsV RX1 72 RX1 yX1_quarrelBits wsX1_quarrelBits) := goodIn_app (goodIn_of _ (by decide +kernel)) ggX1_headOfQuarrel_X1_quarrelBits
set_option maxRecDepth 20000 in
theorem ggX1_headOfQuarrel_X7_hasBit : GoodIn wsX1_headOfQuarrel wsX7_hasBit := goodIn_r _ [11] (by decide +kernel) (by decide +kernel)
set_option maxRecDepth 20000 in
theorem gX1_headOfQuarrel_X7_hasBit_n51 : GoodIn wsX1_headOfQuarrel (wsX7_hasBit) := ggX1_headOfQuarrel_X7_hasBit
theorem dX1_headOfQuarrel_0 : decode cX1_headOfQuarrel 0 = .ok (.aload_n 0, 1) := by decide +kernel
theorem dX1_headOfQuarrel_1 : decode cX1_headOfQuarrel 1 = .ok (.iload_n 1, 1) := by decide +kernel
theorem dX1_headOfQuarrel_2 : decode cX1_headOfQuarrel 2 = .ok (.invokevirtual 72, 3) := by decide +kernel
theorem dX1_headOfQuarrel_5 : decode cX1_headOfQuarrel 5 = .ok (.istore_n 2, 1) := by decide +kernel
theorem dX1_headOfQuarrel_6 : decode cX1_headOfQuarrel 6 = .ok (.iconst 0, 1) := by decide +kernel
theorem dX1_headOfQuarrel_7 : decode cX1_headOfQuarrel 7 = .ok (.istore_n 3, 1) := by decide +kernel
theorem dX1_headOfQuarrel_8 : decode cX1_headOfQuarrel 8 = .ok (.iload_n 3, 1) := by decide +kernel
theorem dX1_headOfQuarrel_9 : decode cX1_headOfQuarrel 9 = .ok (.iload_n 1, 1) := by decide +kernel
theorem dX1_headOfQuarrel_10 : decode cX1_headOfQuarrel 10 = .ok (.if_icmp .ge 19, 3) := by decide +kernel
theorem dX1_headOfQuarrel_13 : decode cX1_headOfQuarrel 13 = .ok (.iload_n 2, 1) := by decide +kernel
theorem dX1_headOfQuarrel_14 : decode cX1_headOfQuarrel 14 = .ok (.iload_n 3, 1) := by decide +kernel
theorem dX1_headOfQuarrel_15 : decode cX1_headOfQuarrel 15 = .ok (.invokestatic 51, 3) := by decide +kernel
theorem dX1_headOfQuarrel_18 : decode cX1_headOfQuarrel 18 = .ok (.ifCond .eq 5, 3) := by decide +kernel
theorem dX1_headOfQuarrel_21 : decode cX1_headOfQuarrel 21 = .ok (.iload_n 3, 1) := by decide +kernel
theorem dX1_headOfQuarrel_22 : decode cX1_headOfQuarrel 22 = .ok (.ireturn, 1) := by decide +kernel
theorem dX1_headOfQuarrel_23 : decode cX1_headOfQuarrel 23 = .ok (.iinc 3 1, 3) := by decide +kernel
theorem dX1_headOfQuarrel_26 : decode cX1_headOfQuarrel 26 = .ok (.goto (-18), 3) := by decide +kernel
theorem dX1_headOfQuarrel_29 : decode cX1_headOfQuarrel 29 = .ok (.iload_n 1, 1) := by decide +kernel
theorem dX1_headOfQuarrel_30 : decode cX1_headOfQuarrel 30 = .ok (.ireturn, 1) := by decide +kernel
set_option maxRecDepth 20000 in
theorem ggX1_countQuarrels_X1_headOfQuarrel : GoodIn wsX1_countQuarrels wsX1_headOfQuarrel := goodIn_r _ [6, 7, 8, 9, 5, 10, 1, 11, 12, 13, 14, 15, 16, 17, 18, 19, 20, 21, 22, 23, 24, 25, 26, 27, 28, 29, 30, 31, 32, 33] (by decide +kernel) (by decide +kernel)
set_option maxRecDepth 20000 in
theorem gX1_countQuarrels_X1_headOfQuarrel : GoodIn wsX1_countQuarrels (wsV RX1 76 RX1 yX1_headOfQuarrel wsX1_headOfQuarrel) := goodIn_app (goodIn_of _ (by decide +kernel)) ggX1_countQuarrels_X1_headOfQuarrel
theorem dX1_countQuarrels_0 : decode cX1_countQuarrels 0 = .ok (.iconst 0, 1) := by decide +kernel
theorem dX1_countQuarrels_1 : decode cX1_countQuarrels 1 = .ok (.istore_n 1, 1) := by decide +kernel
theorem dX1_countQuarrels_2 : decode cX1_countQuarrels 2 = .ok (.iconst 0, 1) := by decide +kernel
theorem dX1_countQuarrels_3 : decode cX1_countQuarrels 3 = .ok (.istore_n 2, 1) := by decide +kernel
theorem dX1_countQuarrels_4 : decode cX1_countQuarrels 4 = .ok (.iload_n 2, 1) := by decide +kernel
theorem dX1_countQuarrels_5 : decode cX1_countQuarrels 5 = .ok (.aload_n 0, 1) := by decide +kernel
theorem dX1_countQuarrels_6 : decode cX1_countQuarrels 6 = .ok (.getfield 66, 3) := by decide +kernel
theorem dX1_countQuarrels_9 : decode cX1_countQuarrels 9 = .ok (.if_icmp .ge 21, 3) := by decide +kernel
theorem dX1_countQuarrels_12 : decode cX1_countQuarrels 12 = .ok (.aload_n 0, 1) := by decide +kernel
theorem dX1_countQuarrels_13 : decode cX1_countQuarrels 13 = .ok (.iload_n 2, 1) := by decide +kernel
theorem dX1_countQuarrels_14 : decode cX1_countQuarrels 14 = .ok (.invokevirtual 76, 3) := by decide +kernel
theorem dX1_countQuarrels_17 : decode cX1_countQuarrels 17 = .ok (.iload_n 2, 1) := by decide +kernel
theorem dX1_countQuarrels_18 : decode cX1_countQuarrels 18 = .ok (.if_icmp .ne 6, 3) := by decide +kernel
theorem dX1_countQuarrels_21 : decode cX1_countQuarrels 21 = .ok (.iinc 1 1, 3) := by decide +kernel
theorem dX1_countQuarrels_24 : decode cX1_countQuarrels 24 = .ok (.iinc 2 1, 3) := by decide +kernel
theorem dX1_countQuarrels_27 : decode cX1_countQuarrels 27 = .ok (.goto (-23), 3) := by decide +kernel
theorem dX1_countQuarrels_30 : decode cX1_countQuarrels 30 = .ok (.iload_n 1, 1) := by decide +kernel
theorem dX1_countQuarrels_31 : decode cX1_countQuarrels 31 = .ok (.ireturn, 1) := by decide +kernel
theorem dX1_countState_0 : decode cX1_countState 0 = .ok (.iconst 0, 1) := by decide +kernel
theorem dX1_countState_1 : decode cX1_countState 1 = .ok (.istore_n 2, 1) := by decide +kernel
theorem dX1_countState_2 : decode cX1_countState 2 = .ok (.iconst 0, 1) := by decide +kernel
theorem dX1_countState_3 : decode cX1_countState 3 = .ok (.istore_n 3, 1) := by decide +kernel
theorem dX1_countState_4 : decode cX1_countState 4 = .ok (.iload_n 3, 1) := by decide +kernel
theorem dX1_countState_5 : decode cX1_countState 5 = .ok (.aload_n 0, 1) := by decide +kernel
theorem dX1_countState_6 : decode cX1_countState 6 = .ok (.getfield 66, 3) := by decide +kernel
theorem dX1_countState_9 : decode cX1_countState 9 = .ok (.if_icmp .ge 25, 3) := by decide +kernel
theorem dX1_countState_12 : decode cX1_countState 12 = .ok (.aload_n 0, 1) := by decide +kernel
theorem dX1_countState_13 : decode cX1_countState 13 = .ok (.getfield 25, 3) := by decide +kernel
theorem dX1_countState_16 : decode cX1_countState 16 = .ok (.iload_n 3, 1) := by decide +kernel
theorem dX1_countState_17 : decode cX1_countState 17 = .ok (.aaload, 1) := by decide +kernel
theorem dX1_countState_18 : decode cX1_countState 18 = .ok (.getfield 79, 3) := by decide +kernel
theorem dX1_countState_21 : decode cX1_countState 21 = .ok (.iload_n 1, 1) := by decide +kernel
theorem dX1_countState_22 : decode cX1_countState 22 = .ok (.if_icmp .ne 6, 3) := by decide +kernel
theorem dX1_countState_25 : decode cX1_countState 25 = .ok (.iinc 2 1, 3) := by decide +kernel
theorem dX1_countState_28 : decode cX1_countState 28 = .ok (.iinc 3 1, 3) := by decide +kernel
theorem dX1_countState_31 : decode cX1_countState 31 = .ok (.goto (-27), 3) := by decide +kernel
theorem dX1_countState_34 : decode cX1_countState 34 = .ok (.iload_n 2, 1) := by decide +kernel
theorem dX1_countState_35 : decode cX1_countState 35 = .ok (.ireturn, 1) := by decide +kernel
theorem dX1_countTerms_0 : decode cX1_countTerms 0 = .ok (.iconst 0, 1) := by decide +kernel
theorem dX1_countTerms_1 : decode cX1_countTerms 1 = .ok (.istore_n 1, 1) := by decide +kernel
theorem dX1_countTerms_2 : decode cX1_countTerms 2 = .ok (.iconst 0, 1) := by decide +kernel
theorem dX1_countTerms_3 : decode cX1_countTerms 3 = .ok (.istore_n 2, 1) := by decide +kernel
theorem dX1_countTerms_4 : decode cX1_countTerms 4 = .ok (.iload_n 2, 1) := by decide +kernel
theorem dX1_countTerms_5 : decode cX1_countTerms 5 = .ok (.aload_n 0, 1) := by decide +kernel
theorem dX1_countTerms_6 : decode cX1_countTerms 6 = .ok (.getfield 66, 3) := by decide +kernel
theorem dX1_countTerms_9 : decode cX1_countTerms 9 = .ok (.if_icmp .ge 21, 3) := by decide +kernel
theorem dX1_countTerms_12 : decode cX1_countTerms 12 = .ok (.iload_n 1, 1) := by decide +kernel
theorem dX1_countTerms_13 : decode cX1_countTerms 13 = .ok (.aload_n 0, 1) := by decide +kernel
theorem dX1_countTerms_14 : decode cX1_countTerms 14 = .ok (.getfield 25, 3) := by decide +kernel
theorem dX1_countTerms_17 : decode cX1_countTerms 17 = .ok (.iload_n 2, 1) := by decide +kernel
theorem dX1_countTerms_18 : decode cX1_countTerms 18 = .ok (.aaload, 1) := by decide +kernel
theorem dX1_countTerms_19 : decode cX1_countTerms 19 = .ok (.getfield 82, 3) := by decide +kernel
theorem dX1_countTerms_22 : decode cX1_countTerms 22 = .ok (.iadd, 1) := by decide +kernel
theorem dX1_countTerms_23 : decode cX1_countTerms 23 = .ok (.istore_n 1, 1) := by decide +kernel
theorem dX1_countTerms_24 : decode cX1_countTerms 24 = .ok (.iinc 2 1, 3) := by decide +kernel
theorem dX1_countTerms_27 : decode cX1_countTerms 27 = .ok (.goto (-23), 3) := by decide +kernel
theorem dX1_countTerms_30 : decode cX1_countTerms 30 = .ok (.iload_n 1, 1) := by decide +kernel
theorem dX1_countTerms_31 : decode cX1_countTerms 31 = .ok (.ireturn, 1) := by decide +kernel
set_option maxRecDepth 20000 in
theorem ggX1_countJudged_X0_judge : GoodIn wsX1_countJudged wsX0_judge := goodIn_r _ [8, 9, 10, 11, 12, 13, 14, 15, 23, 24, 25, 26, 27, 28, 29, 30, 31, 32, 33, 34, 35, 36, 37, 38] (by decide +kernel) (by decide +kernel)
set_option maxRecDepth 20000 in
theorem gX1_countJudged_X0_judge : GoodIn wsX1_countJudged (wsV RX1 85 RX0 yX0_judge wsX0_judge) := goodIn_app (goodIn_of _ (by decide +kernel)) ggX1_countJudged_X0_judge
theorem dX1_countJudged_0 : decode cX1_countJudged 0 = .ok (.iconst 0, 1) := by decide +kernel
theorem dX1_countJudged_1 : decode cX1_countJudged 1 = .ok (.istore_n 2, 1) := by decide +kernel
theorem dX1_countJudged_2 : decode cX1_countJudged 2 = .ok (.iconst 0, 1) := by decide +kernel
theorem dX1_countJudged_3 : decode cX1_countJudged 3 = .ok (.istore_n 3, 1) := by decide +kernel
theorem dX1_countJudged_4 : decode cX1_countJudged 4 = .ok (.iload_n 3, 1) := by decide +kernel
theorem dX1_countJudged_5 : decode cX1_countJudged 5 = .ok (.aload_n 0, 1) := by decide +kernel
theorem dX1_countJudged_6 : decode cX1_countJudged 6 = .ok (.getfield 66, 3) := by decide +kernel
theorem dX1_countJudged_9 : decode cX1_countJudged 9 = .ok (.if_icmp .ge 50, 3) := by decide +kernel
theorem dX1_countJudged_12 : decode cX1_countJudged 12 = .ok (.iconst 0, 1) := by decide +kernel
theorem dX1_countJudged_13 : decode cX1_countJudged 13 = .ok (.istore 4, 2) := by decide +kernel
theorem dX1_countJudged_15 : decode cX1_countJudged 15 = .ok (.iload 4, 2) := by decide +kernel
theorem dX1_countJudged_17 : decode cX1_countJudged 17 = .ok (.aload_n 0, 1) := by decide +kernel
theorem dX1_countJudged_18 : decode cX1_countJudged 18 = .ok (.getfield 25, 3) := by decide +kernel
theorem dX1_countJudged_21 : decode cX1_countJudged 21 = .ok (.iload_n 3, 1) := by decide +kernel
theorem dX1_countJudged_22 : decode cX1_countJudged 22 = .ok (.aaload, 1) := by decide +kernel
theorem dX1_countJudged_23 : decode cX1_countJudged 23 = .ok (.getfield 82, 3) := by decide +kernel
theorem dX1_countJudged_26 : decode cX1_countJudged 26 = .ok (.if_icmp .ge 27, 3) := by decide +kernel
theorem dX1_countJudged_29 : decode cX1_countJudged 29 = .ok (.aload_n 0, 1) := by decide +kernel
theorem dX1_countJudged_30 : decode cX1_countJudged 30 = .ok (.getfield 25, 3) := by decide +kernel
theorem dX1_countJudged_33 : decode cX1_countJudged 33 = .ok (.iload_n 3, 1) := by decide +kernel
theorem dX1_countJudged_34 : decode cX1_countJudged 34 = .ok (.aaload, 1) := by decide +kernel
theorem dX1_countJudged_35 : decode cX1_countJudged 35 = .ok (.iload 4, 2) := by decide +kernel
theorem dX1_countJudged_37 : decode cX1_countJudged 37 = .ok (.invokevirtual 85, 3) := by decide +kernel
theorem dX1_countJudged_40 : decode cX1_countJudged 40 = .ok (.iload_n 1, 1) := by decide +kernel
theorem dX1_countJudged_41 : decode cX1_countJudged 41 = .ok (.if_icmp .ne 6, 3) := by decide +kernel
theorem dX1_countJudged_44 : decode cX1_countJudged 44 = .ok (.iinc 2 1, 3) := by decide +kernel
theorem dX1_countJudged_47 : decode cX1_countJudged 47 = .ok (.iinc 4 1, 3) := by decide +kernel
theorem dX1_countJudged_50 : decode cX1_countJudged 50 = .ok (.goto (-35), 3) := by decide +kernel
theorem dX1_countJudged_53 : decode cX1_countJudged 53 = .ok (.iinc 3 1, 3) := by decide +kernel
theorem dX1_countJudged_56 : decode cX1_countJudged 56 = .ok (.goto (-52), 3) := by decide +kernel
theorem dX1_countJudged_59 : decode cX1_countJudged 59 = .ok (.iload_n 2, 1) := by decide +kernel
theorem dX1_countJudged_60 : decode cX1_countJudged 60 = .ok (.ireturn, 1) := by decide +kernel
set_option maxRecDepth 20000 in
theorem ggX1_copyFrom_X3_copyFrom : GoodIn wsX1_copyFrom wsX3_copyFrom := goodIn_r _ [12, 13, 14, 60, 61] (by decide +kernel) (by decide +kernel)
set_option maxRecDepth 20000 in
theorem gX1_copyFrom_X3_copyFrom : GoodIn wsX1_copyFrom (wsV RX1 94 RX3 yX3_copyFrom wsX3_copyFrom) := goodIn_app (goodIn_of _ (by decide +kernel)) ggX1_copyFrom_X3_copyFrom
set_option maxRecDepth 20000 in
theorem ggX1_copyFrom_X2_copyFrom : GoodIn wsX1_copyFrom wsX2_copyFrom := goodIn_r _ [19, 20, 21, 22, 62, 63, 64] (by decide +kernel) (by decide +kernel)
set_option maxRecDepth 20000 in
theorem gX1_copyFrom_X2_copyFrom : GoodIn wsX1_copyFrom (wsV RX1 98 RX2 yX2_copyFrom wsX2_copyFrom) := goodIn_app (goodIn_of _ (by decide +kernel)) ggX1_copyFrom_X2_copyFrom
set_option maxRecDepth 20000 in
theorem ggX1_copyFrom_X0_copyFrom : GoodIn wsX1_copyFrom wsX0_copyFrom := goodIn_r _ [27, 28, 29, 30, 31, 32, 33, 34, 35, 36, 37, 38, 39, 40, 41, 42, 43, 44, 45, 46, 47, 48, 49, 50, 51, 52, 65, 66, 67, 68, 69, 70, 71, 72, 73, 74, 75, 76, 77, 78, 79, 80] (by decide +kernel) (by decide +kernel)
set_option maxRecDepth 20000 in
theorem gX1_copyFrom_X0_copyFrom : GoodIn wsX1_copyFrom (wsV RX1 101 RX0 yX0_copyFrom wsX0_copyFrom) := goodIn_app (goodIn_of _ (by decide +kernel)) ggX1_copyFrom_X0_copyFrom
theorem dX1_copyFrom_0 : decode cX1_copyFrom 0 = .ok (.aload_n 0, 1) := by decide +kernel
theorem dX1_copyFrom_1 : decode cX1_copyFrom 1 = .ok (.aload_n 1, 1) := by decide +kernel
theorem dX1_copyFrom_2 : decode cX1_copyFrom 2 = .ok (.getfield 88, 3) := by decide +kernel
theorem dX1_copyFrom_5 : decode cX1_copyFrom 5 = .ok (.putfield 88, 3) := by decide +kernel
theorem dX1_copyFrom_8 : decode cX1_copyFrom 8 = .ok (.aload_n 0, 1) := by decide +kernel
theorem dX1_copyFrom_9 : decode cX1_copyFrom 9 = .ok (.aload_n 1, 1) := by decide +kernel
theorem dX1_copyFrom_10 : decode cX1_copyFrom 10 = .ok (.getfield 36, 3) := by decide +kernel
theorem dX1_copyFrom_13 : decode cX1_copyFrom 13 = .ok (.putfield 36, 3) := by decide +kernel
theorem dX1_copyFrom_16 : decode cX1_copyFrom 16 = .ok (.aload_n 0, 1) := by decide +kernel
theorem dX1_copyFrom_17 : decode cX1_copyFrom 17 = .ok (.aload_n 1, 1) := by decide +kernel
theorem dX1_copyFrom_18 : decode cX1_copyFrom 18 = .ok (.getfield 66, 3) := by decide +kernel
theorem dX1_copyFrom_21 : decode cX1_copyFrom 21 = .ok (.putfield 66, 3) := by decide +kernel
theorem dX1_copyFrom_24 : decode cX1_copyFrom 24 = .ok (.aload_n 0, 1) := by decide +kernel
theorem dX1_copyFrom_25 : decode cX1_copyFrom 25 = .ok (.aload_n 1, 1) := by decide +kernel
theorem dX1_copyFrom_26 : decode cX1_copyFrom 26 = .ok (.getfield 91, 3) := by decide +kernel
theorem dX1_copyFrom_29 : decode cX1_copyFrom 29 = .ok (.putfield 91, 3) := by decide +kernel
theorem dX1_copyFrom_32 : decode cX1_copyFrom 32 = .ok (.iconst 0, 1) := by decide +kernel
theorem dX1_copyFrom_33 : decode cX1_copyFrom 33 = .ok (.istore_n 2, 1) := by decide +kernel
theorem dX1_copyFrom_34 : decode cX1_copyFrom 34 = .ok (.iload_n 2, 1) := by decide +kernel
theorem dX1_copyFrom_35 : decode cX1_copyFrom 35 = .ok (.aload_n 0, 1) := by decide +kernel
theorem dX1_copyFrom_36 : decode cX1_copyFrom 36 = .ok (.getfield 88, 3) := by decide +kernel
theorem dX1_copyFrom_39 : decode cX1_copyFrom 39 = .ok (.if_icmp .ge 24, 3) := by decide +kernel
theorem dX1_copyFrom_42 : decode cX1_copyFrom 42 = .ok (.aload_n 0, 1) := by decide +kernel
theorem dX1_copyFrom_43 : decode cX1_copyFrom 43 = .ok (.getfield 11, 3) := by decide +kernel
theorem dX1_copyFrom_46 : decode cX1_copyFrom 46 = .ok (.iload_n 2, 1) := by decide +kernel
theorem dX1_copyFrom_47 : decode cX1_copyFrom 47 = .ok (.aaload, 1) := by decide +kernel
theorem dX1_copyFrom_48 : decode cX1_copyFrom 48 = .ok (.aload_n 1, 1) := by decide +kernel
theorem dX1_copyFrom_49 : decode cX1_copyFrom 49 = .ok (.getfield 11, 3) := by decide +kernel
theorem dX1_copyFrom_52 : decode cX1_copyFrom 52 = .ok (.iload_n 2, 1) := by decide +kernel
theorem dX1_copyFrom_53 : decode cX1_copyFrom 53 = .ok (.aaload, 1) := by decide +kernel
theorem dX1_copyFrom_54 : decode cX1_copyFrom 54 = .ok (.invokevirtual 94, 3) := by decide +kernel
theorem dX1_copyFrom_57 : decode cX1_copyFrom 57 = .ok (.iinc 2 1, 3) := by decide +kernel
theorem dX1_copyFrom_60 : decode cX1_copyFrom 60 = .ok (.goto (-26), 3) := by decide +kernel
theorem dX1_copyFrom_63 : decode cX1_copyFrom 63 = .ok (.iconst 0, 1) := by decide +kernel
theorem dX1_copyFrom_64 : decode cX1_copyFrom 64 = .ok (.istore_n 2, 1) := by decide +kernel
theorem dX1_copyFrom_65 : decode cX1_copyFrom 65 = .ok (.iload_n 2, 1) := by decide +kernel
theorem dX1_copyFrom_66 : decode cX1_copyFrom 66 = .ok (.aload_n 0, 1) := by decide +kernel
theorem dX1_copyFrom_67 : decode cX1_copyFrom 67 = .ok (.getfield 36, 3) := by decide +kernel
theorem dX1_copyFrom_70 : decode cX1_copyFrom 70 = .ok (.if_icmp .ge 24, 3) := by decide +kernel
theorem dX1_copyFrom_73 : decode cX1_copyFrom 73 = .ok (.aload_n 0, 1) := by decide +kernel
theorem dX1_copyFrom_74 : decode cX1_copyFrom 74 = .ok (.getfield 19, 3) := by decide +kernel
theorem dX1_copyFrom_77 : decode cX1_copyFrom 77 = .ok (.iload_n 2, 1) := by decide +kernel
theorem dX1_copyFrom_78 : decode cX1_copyFrom 78 = .ok (.aaload, 1) := by decide +kernel
theorem dX1_copyFrom_79 : decode cX1_copyFrom 79 = .ok (.aload_n 1, 1) := by decide +kernel
theorem dX1_copyFrom_80 : decode cX1_copyFrom 80 = .ok (.getfield 19, 3) := by decide +kernel
theorem dX1_copyFrom_83 : decode cX1_copyFrom 83 = .ok (.iload_n 2, 1) := by decide +kernel
theorem dX1_copyFrom_84 : decode cX1_copyFrom 84 = .ok (.aaload, 1) := by decide +kernel
theorem dX1_copyFrom_85 : decode cX1_copyFrom 85 = .ok (.invokevirtual 98, 3) := by decide +kernel
theorem dX1_copyFrom_88 : decode cX1_copyFrom 88 = .ok (.iinc 2 1, 3) := by decide +kernel
theorem dX1_copyFrom_91 : decode cX1_copyFrom 91 = .ok (.goto (-26), 3) := by decide +kernel
theorem dX1_copyFrom_94 : decode cX1_copyFrom 94 = .ok (.iconst 0, 1) := by decide +kernel
theorem dX1_copyFrom_95 : decode cX1_copyFrom 95 = .ok (.istore_n 2, 1) := by decide +kernel
theorem dX1_copyFrom_96 : decode cX1_copyFrom 96 = .ok (.iload_n 2, 1) := by decide +kernel
theorem dX1_copyFrom_97 : decode cX1_copyFrom 97 = .ok (.aload_n 0, 1) := by decide +kernel
theorem dX1_copyFrom_98 : decode cX1_copyFrom 98 = .ok (.getfield 66, 3) := by decide +kernel
theorem dX1_copyFrom_101 : decode cX1_copyFrom 101 = .ok (.if_icmp .ge 24, 3) := by decide +kernel
theorem dX1_copyFrom_104 : decode cX1_copyFrom 104 = .ok (.aload_n 0, 1) := by decide +kernel
theorem dX1_copyFrom_105 : decode cX1_copyFrom 105 = .ok (.getfield 25, 3) := by decide +kernel
theorem dX1_copyFrom_108 : decode cX1_copyFrom 108 = .ok (.iload_n 2, 1) := by decide +kernel
theorem dX1_copyFrom_109 : decode cX1_copyFrom 109 = .ok (.aaload, 1) := by decide +kernel
theorem dX1_copyFrom_110 : decode cX1_copyFrom 110 = .ok (.aload_n 1, 1) := by decide +kernel
theorem dX1_copyFrom_111 : decode cX1_copyFrom 111 = .ok (.getfield 25, 3) := by decide +kernel
theorem dX1_copyFrom_114 : decode cX1_copyFrom 114 = .ok (.iload_n 2, 1) := by decide +kernel
theorem dX1_copyFrom_115 : decode cX1_copyFrom 115 = .ok (.aaload, 1) := by decide +kernel
theorem dX1_copyFrom_116 : decode cX1_copyFrom 116 = .ok (.invokevirtual 101, 3) := by decide +kernel
theorem dX1_copyFrom_119 : decode cX1_copyFrom 119 = .ok (.iinc 2 1, 3) := by decide +kernel
theorem dX1_copyFrom_122 : decode cX1_copyFrom 122 = .ok (.goto (-26), 3) := by decide +kernel
theorem dX1_copyFrom_125 : decode cX1_copyFrom 125 = .ok (.return_, 1) := by decide +kernel
theorem dX2_init_0 : decode cX2_init 0 = .ok (.aload_n 0, 1) := by decide +kernel
theorem dX2_init_1 : decode cX2_init 1 = .ok (.invokespecial 1, 3) := by decide +kernel
theorem dX2_init_4 : decode cX2_init 4 = .ok (.return_, 1) := by decide +kernel
theorem dX2_copyFrom_0 : decode cX2_copyFrom 0 = .ok (.aload_n 0, 1) := by decide +kernel
theorem dX2_copyFrom_1 : decode cX2_copyFrom 1 = .ok (.aload_n 1, 1) := by decide +kernel
theorem dX2_copyFrom_2 : decode cX2_copyFrom 2 = .ok (.getfield 7, 3) := by decide +kernel
theorem dX2_copyFrom_5 : decode cX2_copyFrom 5 = .ok (.putfield 7, 3) := by decide +kernel
theorem dX2_copyFrom_8 : decode cX2_copyFrom 8 = .ok (.aload_n 0, 1) := by decide +kernel
theorem dX2_copyFrom_9 : decode cX2_copyFrom 9 = .ok (.aload_n 1, 1) := by decide +kernel
theorem dX2_copyFrom_10 : decode cX2_copyFrom 10 = .ok (.getfield 13, 3) := by decide +kernel
theorem dX2_copyFrom_13 : decode cX2_copyFrom 13 = .ok (.putfield 13, 3) := by decide +kernel
theorem dX2_copyFrom_16 : decode cX2_copyFrom 16 = .ok (.aload_n 0, 1) := by decide +kernel
theorem dX2_copyFrom_17 : decode cX2_copyFrom 17 = .ok (.aload_n 1, 1) := by decide +kernel
theorem dX2_copyFrom_18 : decode cX2_copyFrom 18 = .ok (.getfield 16, 3) := by decide +kernel
theorem dX2_copyFrom_21 : decode cX2_copyFrom 21 = .ok (.putfield 16, 3) := by decide +kernel
theorem dX2_copyFrom_24 : decode cX2_copyFrom 24 = .ok (.return_, 1) := by decide +kernel
theorem dX3_init_0 : decode cX3_init 0 = .ok (.aload_n 0, 1) := by decide +kernel
theorem dX3_init_1 : decode cX3_init 1 = .ok (.invokespecial 1, 3) := by decide +kernel
theorem dX3_init_4 : decode cX3_init 4 = .ok (.return_, 1) := by decide +kernel
theorem dX3_copyFrom_0 : decode cX3_copyFrom 0 = .ok (.aload_n 0, 1) := by decide +kernel
theorem dX3_copyFrom_1 : decode cX3_copyFrom 1 = .ok (.aload_n 1, 1) := by decide +kernel
theorem dX3_copyFrom_2 : decode cX3_copyFrom 2 = .ok (.getfield 7, 3) := by decide +kernel
theorem dX3_copyFrom_5 : decode cX3_copyFrom 5 = .ok (.putfield 7, 3) := by decide +kernel
theorem dX3_copyFrom_8 : decode cX3_copyFrom 8 = .ok (.aload_n 0, 1) := by decide +kernel
theorem dX3_copyFrom_9 : decode cX3_copyFrom 9 = .ok (.aload_n 1, 1) := by decide +kernel
theorem dX3_copyFrom_10 : decode cX3_copyFrom 10 = .ok (.getfield 13, 3) := by decide +kernel
theorem dX3_copyFrom_13 : decode cX3_copyFrom 13 = .ok (.putfield 13, 3) := by decide +kernel
theorem dX3_copyFrom_16 : decode cX3_copyFrom 16 = .ok (.return_, 1) := by decide +kernel
theorem dX4_init_0 : decode cX4_init 0 = .ok (.aload_n 0, 1) := by decide +kernel
theorem dX4_init_1 : decode cX4_init 1 = .ok (.invokespecial 3, 3) := by decide +kernel
theorem dX4_init_4 : decode cX4_init 4 = .ok (.aload_n 0, 1) := by decide +kernel
theorem dX4_init_5 : decode cX4_init 5 = .ok (.iconst 4, 1) := by decide +kernel
theorem dX4_init_6 : decode cX4_init 6 = .ok (.newarray .int, 2) := by decide +kernel
theorem dX4_init_8 : decode cX4_init 8 = .ok (.putfield 9, 3) := by decide +kernel
theorem dX4_init_11 : decode cX4_init 11 = .ok (.aload_n 0, 1) := by decide +kernel
theorem dX4_init_12 : decode cX4_init 12 = .ok (.iconst 4, 1) := by decide +kernel
theorem dX4_init_13 : decode cX4_init 13 = .ok (.newarray .int, 2) := by decide +kernel
theorem dX4_init_15 : decode cX4_init 15 = .ok (.putfield 15, 3) := by decide +kernel
theorem dX4_init_18 : decode cX4_init 18 = .ok (.aload_n 0, 1) := by decide +kernel
theorem dX4_init_19 : decode cX4_init 19 = .ok (.iconst 4, 1) := by decide +kernel
theorem dX4_init_20 : decode cX4_init 20 = .ok (.newarray .int, 2) := by decide +kernel
theorem dX4_init_22 : decode cX4_init 22 = .ok (.putfield 18, 3) := by decide +kernel
theorem dX4_init_25 : decode cX4_init 25 = .ok (.aload_n 0, 1) := by decide +kernel
theorem dX4_init_26 : decode cX4_init 26 = .ok (.iconst 4, 1) := by decide +kernel
theorem dX4_init_27 : decode cX4_init 27 = .ok (.newarray .int, 2) := by decide +kernel
theorem dX4_init_29 : decode cX4_init 29 = .ok (.putfield 21, 3) := by decide +kernel
theorem dX4_init_32 : decode cX4_init 32 = .ok (.aload_n 0, 1) := by decide +kernel
theorem dX4_init_33 : decode cX4_init 33 = .ok (.iconst 4, 1) := by decide +kernel
theorem dX4_init_34 : decode cX4_init 34 = .ok (.newarray .int, 2) := by decide +kernel
theorem dX4_init_36 : decode cX4_init 36 = .ok (.putfield 24, 3) := by decide +kernel
theorem dX4_init_39 : decode cX4_init 39 = .ok (.aload_n 0, 1) := by decide +kernel
theorem dX4_init_40 : decode cX4_init 40 = .ok (.iconst 4, 1) := by decide +kernel
theorem dX4_init_41 : decode cX4_init 41 = .ok (.newarray .int, 2) := by decide +kernel
theorem dX4_init_43 : decode cX4_init 43 = .ok (.putfield 27, 3) := by decide +kernel
theorem dX4_init_46 : decode cX4_init 46 = .ok (.aload_n 0, 1) := by decide +kernel
theorem dX4_init_47 : decode cX4_init 47 = .ok (.iconst 3, 1) := by decide +kernel
theorem dX4_init_48 : decode cX4_init 48 = .ok (.newarray .int, 2) := by decide +kernel
theorem dX4_init_50 : decode cX4_init 50 = .ok (.putfield 30, 3) := by decide +kernel
theorem dX4_init_53 : decode cX4_init 53 = .ok (.aload_n 0, 1) := by decide +kernel
theorem dX4_init_54 : decode cX4_init 54 = .ok (.iconst 3, 1) := by decide +kernel
theorem dX4_init_55 : decode cX4_init 55 = .ok (.newarray .int, 2) := by decide +kernel
theorem dX4_init_57 : decode cX4_init 57 = .ok (.putfield 33, 3) := by decide +kernel
theorem dX4_init_60 : decode cX4_init 60 = .ok (.return_, 1) := by decide +kernel
set_option maxRecDepth 20000 in
theorem ggX4_findPlan_X4_gather : GoodIn wsX4_findPlan wsX4_gather := goodIn_r _ [16, 8, 17, 18, 19, 20, 9, 21, 22, 23, 24, 15, 25, 26, 27, 28, 29, 30, 31, 32, 33, 34, 35, 36, 37, 38, 39, 40, 41, 42, 43, 44, 45, 46, 47, 48, 49, 50, 81, 82, 83, 84, 85, 86, 87, 88, 89, 90, 91, 74, 75, 76, 77, 78, 79, 80, 92, 93, 94, 95, 96, 97, 98, 99, 100, 101, 102, 103, 104, 105, 106, 107] (by decide +kernel) (by decide +kernel)
set_option maxRecDepth 20000 in
theorem gX4_findPlan_X4_gather : GoodIn wsX4_findPlan (wsV RX4 51 RX4 yX4_gather wsX4_gather) := goodIn_app (goodIn_of _ (by decide +kernel)) ggX4_findPlan_X4_gather
set_option maxRecDepth 20000 in
theorem ggX4_findPlan_X4_sortByWeight : GoodIn wsX4_findPlan wsX4_sortByWeight := goodIn_r _ [54, 8, 9, 55, 81, 82, 83, 84, 85, 86, 87, 88, 89, 90, 91] (by decide +kernel) (by decide +kernel)
set_option maxRecDepth 20000 in
theorem gX4_findPlan_X4_sortByWeight : GoodIn wsX4_findPlan (wsV RX4 55 RX4 yX4_sortByWeight wsX4_sortByWeight) := goodIn_app (goodIn_of _ (by decide +kernel)) ggX4_findPlan_X4_sortByWeight
set_option maxRecDepth 20000 in
theorem ggX4_findPlan_X4_search : GoodIn wsX4_findPlan wsX4_search := goodIn_r _ [59, 7, 8, 60, 61, 62, 63, 64, 65, 11, 6, 9, 66, 67, 68, 15, 69, 55, 22, 70, 71, 72, 56, 57, 58, 73, 10, 41, 42, 43, 81, 82, 83, 84, 85, 86, 87, 88, 89, 90, 91] (by decide +kernel) (by decide +kernel)
set_option maxRecDepth 20000 in
theorem gX4_findPlan_X4_search : GoodIn wsX4_findPlan (wsV RX4 64 RX4 yX4_search wsX4_search) := goodIn_app (goodIn_of _ (by decide +kernel)) ggX4_findPlan_X4_search
theorem dX4_findPlan_0 : decode cX4_findPlan 0 = .ok (.aload_n 0, 1) := by decide +kernel
theorem dX4_findPlan_1 : decode cX4_findPlan 1 = .ok (.iload_n 2, 1) := by decide +kernel
theorem dX4_findPlan_2 : decode cX4_findPlan 2 = .ok (.aload_n 1, 1) := by decide +kernel
theorem dX4_findPlan_3 : decode cX4_findPlan 3 = .ok (.getfield 36, 3) := by decide +kernel
theorem dX4_findPlan_6 : decode cX4_findPlan 6 = .ok (.iconst 2, 1) := by decide +kernel
theorem dX4_findPlan_7 : decode cX4_findPlan 7 = .ok (.idiv, 1) := by decide +kernel
theorem dX4_findPlan_8 : decode cX4_findPlan 8 = .ok (.invokestatic 42, 3) := by decide +kernel
theorem dX4_findPlan_11 : decode cX4_findPlan 11 = .ok (.putfield 48, 3) := by decide +kernel
theorem dX4_findPlan_14 : decode cX4_findPlan 14 = .ok (.aload_n 0, 1) := by decide +kernel
theorem dX4_findPlan_15 : decode cX4_findPlan 15 = .ok (.aload_n 1, 1) := by decide +kernel
theorem dX4_findPlan_16 : decode cX4_findPlan 16 = .ok (.invokevirtual 51, 3) := by decide +kernel
theorem dX4_findPlan_19 : decode cX4_findPlan 19 = .ok (.aload_n 0, 1) := by decide +kernel
theorem dX4_findPlan_20 : decode cX4_findPlan 20 = .ok (.invokevirtual 55, 3) := by decide +kernel
theorem dX4_findPlan_23 : decode cX4_findPlan 23 = .ok (.aload_n 0, 1) := by decide +kernel
theorem dX4_findPlan_24 : decode cX4_findPlan 24 = .ok (.iconst 1, 1) := by decide +kernel
theorem dX4_findPlan_25 : decode cX4_findPlan 25 = .ok (.putfield 58, 3) := by decide +kernel
theorem dX4_findPlan_28 : decode cX4_findPlan 28 = .ok (.iconst 0, 1) := by decide +kernel
theorem dX4_findPlan_29 : decode cX4_findPlan 29 = .ok (.istore_n 3, 1) := by decide +kernel
theorem dX4_findPlan_30 : decode cX4_findPlan 30 = .ok (.iload_n 3, 1) := by decide +kernel
theorem dX4_findPlan_31 : decode cX4_findPlan 31 = .ok (.aload_n 0, 1) := by decide +kernel
theorem dX4_findPlan_32 : decode cX4_findPlan 32 = .ok (.getfield 61, 3) := by decide +kernel
theorem dX4_findPlan_35 : decode cX4_findPlan 35 = .ok (.if_icmp .ge 26, 3) := by decide +kernel
theorem dX4_findPlan_38 : decode cX4_findPlan 38 = .ok (.aload_n 0, 1) := by decide +kernel
theorem dX4_findPlan_39 : decode cX4_findPlan 39 = .ok (.dup, 1) := by decide +kernel
theorem dX4_findPlan_40 : decode cX4_findPlan 40 = .ok (.getfield 58, 3) := by decide +kernel
theorem dX4_findPlan_43 : decode cX4_findPlan 43 = .ok (.iconst 4, 1) := by decide +kernel
theorem dX4_findPlan_44 : decode cX4_findPlan 44 = .ok (.aload_n 0, 1) := by decide +kernel
theorem dX4_findPlan_45 : decode cX4_findPlan 45 = .ok (.getfield 15, 3) := by decide +kernel
theorem dX4_findPlan_48 : decode cX4_findPlan 48 = .ok (.iload_n 3, 1) := by decide +kernel
theorem dX4_findPlan_49 : decode cX4_findPlan 49 = .ok (.iaload, 1) := by decide +kernel
theorem dX4_findPlan_50 : decode cX4_findPlan 50 = .ok (.imul, 1) := by decide +kernel
theorem dX4_findPlan_51 : decode cX4_findPlan 51 = .ok (.iadd, 1) := by decide +kernel
theorem dX4_findPlan_52 : decode cX4_findPlan 52 = .ok (.putfield 58, 3) := by decide +kernel
theorem dX4_findPlan_55 : decode cX4_findPlan 55 = .ok (.iinc 3 1, 3) := by decide +kernel
theorem dX4_findPlan_58 : decode cX4_findPlan 58 = .ok (.goto (-28), 3) := by decide +kernel
theorem dX4_findPlan_61 : decode cX4_findPlan 61 = .ok (.iconst 0, 1) := by decide +kernel
theorem dX4_findPlan_62 : decode cX4_findPlan 62 = .ok (.istore_n 3, 1) := by decide +kernel
theorem dX4_findPlan_63 : decode cX4_findPlan 63 = .ok (.iload_n 3, 1) := by decide +kernel
theorem dX4_findPlan_64 : decode cX4_findPlan 64 = .ok (.iconst 3, 1) := by decide +kernel
theorem dX4_findPlan_65 : decode cX4_findPlan 65 = .ok (.if_icmp .ge 23, 3) := by decide +kernel
theorem dX4_findPlan_68 : decode cX4_findPlan 68 = .ok (.aload_n 0, 1) := by decide +kernel
theorem dX4_findPlan_69 : decode cX4_findPlan 69 = .ok (.getfield 30, 3) := by decide +kernel
theorem dX4_findPlan_72 : decode cX4_findPlan 72 = .ok (.iload_n 3, 1) := by decide +kernel
theorem dX4_findPlan_73 : decode cX4_findPlan 73 = .ok (.iconst 0, 1) := by decide +kernel
theorem dX4_findPlan_74 : decode cX4_findPlan 74 = .ok (.iastore, 1) := by decide +kernel
theorem dX4_findPlan_75 : decode cX4_findPlan 75 = .ok (.aload_n 0, 1) := by decide +kernel
theorem dX4_findPlan_76 : decode cX4_findPlan 76 = .ok (.getfield 33, 3) := by decide +kernel
theorem dX4_findPlan_79 : decode cX4_findPlan 79 = .ok (.iload_n 3, 1) := by decide +kernel
theorem dX4_findPlan_80 : decode cX4_findPlan 80 = .ok (.iconst 0, 1) := by decide +kernel
theorem dX4_findPlan_81 : decode cX4_findPlan 81 = .ok (.iastore, 1) := by decide +kernel
theorem dX4_findPlan_82 : decode cX4_findPlan 82 = .ok (.iinc 3 1, 3) := by decide +kernel
theorem dX4_findPlan_85 : decode cX4_findPlan 85 = .ok (.goto (-22), 3) := by decide +kernel
theorem dX4_findPlan_88 : decode cX4_findPlan 88 = .ok (.aload_n 0, 1) := by decide +kernel
theorem dX4_findPlan_89 : decode cX4_findPlan 89 = .ok (.iconst 0, 1) := by decide +kernel
theorem dX4_findPlan_90 : decode cX4_findPlan 90 = .ok (.iconst 0, 1) := by decide +kernel
theorem dX4_findPlan_91 : decode cX4_findPlan 91 = .ok (.invokevirtual 64, 3) := by decide +kernel
theorem dX4_findPlan_94 : decode cX4_findPlan 94 = .ok (.return_, 1) := by decide +kernel
theorem dX4_seatOf_0 : decode cX4_seatOf 0 = .ok (.iconst 0, 1) := by decide +kernel
theorem dX4_seatOf_1 : decode cX4_seatOf 1 = .ok (.istore_n 2, 1) := by decide +kernel
theorem dX4_seatOf_2 : decode cX4_seatOf 2 = .ok (.iload_n 2, 1) := by decide +kernel
theorem dX4_seatOf_3 : decode cX4_seatOf 3 = .ok (.aload_n 0, 1) := by decide +kernel
theorem dX4_seatOf_4 : decode cX4_seatOf 4 = .ok (.getfield 61, 3) := by decide +kernel
theorem dX4_seatOf_7 : decode cX4_seatOf 7 = .ok (.if_icmp .ge 37, 3) := by decide +kernel
theorem dX4_seatOf_10 : decode cX4_seatOf 10 = .ok (.aload_n 0, 1) := by decide +kernel
theorem dX4_seatOf_11 : decode cX4_seatOf 11 = .ok (.getfield 9, 3) := by decide +kernel
theorem dX4_seatOf_14 : decode cX4_seatOf 14 = .ok (.iload_n 2, 1) := by decide +kernel
theorem dX4_seatOf_15 : decode cX4_seatOf 15 = .ok (.iaload, 1) := by decide +kernel
theorem dX4_seatOf_16 : decode cX4_seatOf 16 = .ok (.iload_n 1, 1) := by decide +kernel
theorem dX4_seatOf_17 : decode cX4_seatOf 17 = .ok (.if_icmp .ne 21, 3) := by decide +kernel
theorem dX4_seatOf_20 : decode cX4_seatOf 20 = .ok (.aload_n 0, 1) := by decide +kernel
theorem dX4_seatOf_21 : decode cX4_seatOf 21 = .ok (.getfield 27, 3) := by decide +kernel
theorem dX4_seatOf_24 : decode cX4_seatOf 24 = .ok (.iload_n 2, 1) := by decide +kernel
theorem dX4_seatOf_25 : decode cX4_seatOf 25 = .ok (.iaload, 1) := by decide +kernel
theorem dX4_seatOf_26 : decode cX4_seatOf 26 = .ok (.bipush 18, 2) := by decide +kernel
theorem dX4_seatOf_28 : decode cX4_seatOf 28 = .ok (.if_icmp .eq 10, 3) := by decide +kernel
theorem dX4_seatOf_31 : decode cX4_seatOf 31 = .ok (.aload_n 0, 1) := by decide +kernel
theorem dX4_seatOf_32 : decode cX4_seatOf 32 = .ok (.getfield 27, 3) := by decide +kernel
theorem dX4_seatOf_35 : decode cX4_seatOf 35 = .ok (.iload_n 2, 1) := by decide +kernel
theorem dX4_seatOf_36 : decode cX4_seatOf 36 = .ok (.iaload, 1) := by decide +kernel
theorem dX4_seatOf_37 : decode cX4_seatOf 37 = .ok (.ireturn, 1) := by decide +kernel
theorem dX4_seatOf_38 : decode cX4_seatOf 38 = .ok (.iinc 2 1, 3) := by decide +kernel
theorem dX4_seatOf_41 : decode cX4_seatOf 41 = .ok (.goto (-39), 3) := by decide +kernel
theorem dX4_seatOf_44 : decode cX4_seatOf 44 = .ok (.bipush (-5), 2) := by decide +kernel
theorem dX4_seatOf_46 : decode cX4_seatOf 46 = .ok (.ireturn, 1) := by decide +kernel
set_option maxRecDepth 20000 in
theorem ggX4_gather_X4_fittingPairs : GoodIn wsX4_gather wsX4_fittingPairs := goodIn_r _ [12, 13, 14, 15, 16, 17, 18, 19, 20, 21, 22, 23, 24, 25, 26, 27, 28, 29, 30, 31, 32, 33, 34, 35, 36, 37, 49, 50, 51, 52, 53, 54, 55, 67, 68, 69, 56, 57, 58, 59, 60, 61, 62, 63, 64, 65, 66, 70, 71] (by decide +kernel) (by decide +kernel)
set_option maxRecDepth 20000 in
theorem gX4_gather_X4_fittingPairs : GoodIn wsX4_gather (va_wsS RX4 83 yX4_fittingPairs wsX4_fittingPairs) := goodIn_app (goodIn_of _ (by decide +kernel)) ggX4_gather_X4_fittingPairs
theorem dX4_gather_0 : decode cX4_gather 0 = .ok (.aload_n 0, 1) := by decide +kernel
theorem dX4_gather_1 : decode cX4_gather 1 = .ok (.iconst 0, 1) := by decide +kernel
theorem dX4_gather_2 : decode cX4_gather 2 = .ok (.putfield 61, 3) := by decide +kernel
theorem dX4_gather_5 : decode cX4_gather 5 = .ok (.iconst 0, 1) := by decide +kernel
theorem dX4_gather_6 : decode cX4_gather 6 = .ok (.istore_n 2, 1) := by decide +kernel
theorem dX4_gather_7 : decode cX4_gather 7 = .ok (.iload_n 2, 1) := by decide +kernel
theorem dX4_gather_8 : decode cX4_gather 8 = .ok (.aload_n 1, 1) := by decide +kernel
theorem dX4_gather_9 : decode cX4_gather 9 = .ok (.getfield 68, 3) := by decide +kernel
theorem dX4_gather_12 : decode cX4_gather 12 = .ok (.if_icmp .ge 78, 3) := by decide +kernel
theorem dX4_gather_15 : decode cX4_gather 15 = .ok (.aload_n 0, 1) := by decide +kernel
theorem dX4_gather_16 : decode cX4_gather 16 = .ok (.getfield 61, 3) := by decide +kernel
theorem dX4_gather_19 : decode cX4_gather 19 = .ok (.iconst 4, 1) := by decide +kernel
theorem dX4_gather_20 : decode cX4_gather 20 = .ok (.if_icmp .ge 70, 3) := by decide +kernel
theorem dX4_gather_23 : decode cX4_gather 23 = .ok (.aload_n 1, 1) := by decide +kernel
theorem dX4_gather_24 : decode cX4_gather 24 = .ok (.getfield 71, 3) := by decide +kernel
theorem dX4_gather_27 : decode cX4_gather 27 = .ok (.iload_n 2, 1) := by decide +kernel
theorem dX4_gather_28 : decode cX4_gather 28 = .ok (.aaload, 1) := by decide +kernel
theorem dX4_gather_29 : decode cX4_gather 29 = .ok (.astore_n 3, 1) := by decide +kernel
theorem dX4_gather_30 : decode cX4_gather 30 = .ok (.aload_n 3, 1) := by decide +kernel
theorem dX4_gather_31 : decode cX4_gather 31 = .ok (.getfield 75, 3) := by decide +kernel
theorem dX4_gather_34 : decode cX4_gather 34 = .ok (.ifCond .ne 50, 3) := by decide +kernel
theorem dX4_gather_37 : decode cX4_gather 37 = .ok (.aload_n 0, 1) := by decide +kernel
theorem dX4_gather_38 : decode cX4_gather 38 = .ok (.getfield 9, 3) := by decide +kernel
theorem dX4_gather_41 : decode cX4_gather 41 = .ok (.aload_n 0, 1) := by decide +kernel
theorem dX4_gather_42 : decode cX4_gather 42 = .ok (.getfield 61, 3) := by decide +kernel
theorem dX4_gather_45 : decode cX4_gather 45 = .ok (.iload_n 2, 1) := by decide +kernel
theorem dX4_gather_46 : decode cX4_gather 46 = .ok (.iastore, 1) := by decide +kernel
theorem dX4_gather_47 : decode cX4_gather 47 = .ok (.aload_n 0, 1) := by decide +kernel
theorem dX4_gather_48 : decode cX4_gather 48 = .ok (.getfield 15, 3) := by decide +kernel
theorem dX4_gather_51 : decode cX4_gather 51 = .ok (.aload_n 0, 1) := by decide +kernel
theorem dX4_gather_52 : decode cX4_gather 52 = .ok (.getfield 61, 3) := by decide +kernel
theorem dX4_gather_55 : decode cX4_gather 55 = .ok (.aload_n 3, 1) := by decide +kernel
theorem dX4_gather_56 : decode cX4_gather 56 = .ok (.getfield 80, 3) := by decide +kernel
theorem dX4_gather_59 : decode cX4_gather 59 = .ok (.iastore, 1) := by decide +kernel
theorem dX4_gather_60 : decode cX4_gather 60 = .ok (.aload_n 0, 1) := by decide +kernel
