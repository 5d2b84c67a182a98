theorem dX3_goOn_4 : decode cX3_goOn 4 = .ok (.iload_n 3, 1) := by decide +kernel
theorem dX3_goOn_5 : decode cX3_goOn 5 = .ok (.aload_n 0, 1) := by decide +kernel
theorem dX3_goOn_6 : decode cX3_goOn 6 = .ok (.getfield 66, 3) := by decide +kernel
theorem dX3_goOn_9 : decode cX3_goOn 9 = .ok (.if_icmp .ge 52, 3) := by decide +kernel
theorem dX3_goOn_12 : decode cX3_goOn 12 = .ok (.aload_n 0, 1) := by decide +kernel
theorem dX3_goOn_13 : decode cX3_goOn 13 = .ok (.getfield 25, 3) := by decide +kernel
theorem dX3_goOn_16 : decode cX3_goOn 16 = .ok (.iload_n 3, 1) := by decide +kernel
theorem dX3_goOn_17 : decode cX3_goOn 17 = .ok (.baload, 1) := by decide +kernel
theorem dX3_goOn_18 : decode cX3_goOn 18 = .ok (.ifCond .eq 37, 3) := by decide +kernel
theorem dX3_goOn_21 : decode cX3_goOn 21 = .ok (.aload_n 0, 1) := by decide +kernel
theorem dX3_goOn_22 : decode cX3_goOn 22 = .ok (.getfield 22, 3) := by decide +kernel
theorem dX3_goOn_25 : decode cX3_goOn 25 = .ok (.iload_n 3, 1) := by decide +kernel
theorem dX3_goOn_26 : decode cX3_goOn 26 = .ok (.iaload, 1) := by decide +kernel
theorem dX3_goOn_27 : decode cX3_goOn 27 = .ok (.iconst (-1), 1) := by decide +kernel
theorem dX3_goOn_28 : decode cX3_goOn 28 = .ok (.if_icmp .eq 27, 3) := by decide +kernel
theorem dX3_goOn_31 : decode cX3_goOn 31 = .ok (.aload_n 0, 1) := by decide +kernel
theorem dX3_goOn_32 : decode cX3_goOn 32 = .ok (.getfield 19, 3) := by decide +kernel
theorem dX3_goOn_35 : decode cX3_goOn 35 = .ok (.iload_n 3, 1) := by decide +kernel
theorem dX3_goOn_36 : decode cX3_goOn 36 = .ok (.iaload, 1) := by decide +kernel
theorem dX3_goOn_37 : decode cX3_goOn 37 = .ok (.iload_n 1, 1) := by decide +kernel
theorem dX3_goOn_38 : decode cX3_goOn 38 = .ok (.invokestatic 69, 3) := by decide +kernel
theorem dX3_goOn_41 : decode cX3_goOn 41 = .ok (.ifCond .eq 14, 3) := by decide +kernel
theorem dX3_goOn_44 : decode cX3_goOn 44 = .ok (.iload_n 2, 1) := by decide +kernel
theorem dX3_goOn_45 : decode cX3_goOn 45 = .ok (.iconst 1, 1) := by decide +kernel
theorem dX3_goOn_46 : decode cX3_goOn 46 = .ok (.aload_n 0, 1) := by decide +kernel
theorem dX3_goOn_47 : decode cX3_goOn 47 = .ok (.getfield 22, 3) := by decide +kernel
theorem dX3_goOn_50 : decode cX3_goOn 50 = .ok (.iload_n 3, 1) := by decide +kernel
theorem dX3_goOn_51 : decode cX3_goOn 51 = .ok (.iaload, 1) := by decide +kernel
theorem dX3_goOn_52 : decode cX3_goOn 52 = .ok (.ishl, 1) := by decide +kernel
theorem dX3_goOn_53 : decode cX3_goOn 53 = .ok (.ior, 1) := by decide +kernel
theorem dX3_goOn_54 : decode cX3_goOn 54 = .ok (.istore_n 2, 1) := by decide +kernel
theorem dX3_goOn_55 : decode cX3_goOn 55 = .ok (.iinc 3 1, 3) := by decide +kernel
theorem dX3_goOn_58 : decode cX3_goOn 58 = .ok (.goto (-54), 3) := by decide +kernel
theorem dX3_goOn_61 : decode cX3_goOn 61 = .ok (.iload_n 2, 1) := by decide +kernel
theorem dX3_goOn_62 : decode cX3_goOn 62 = .ok (.ireturn, 1) := by decide +kernel
set_option maxRecDepth 20000 in
theorem ggX3_know_X3_begin : GoodIn wsX3_know wsX3_begin := goodIn_r _ [13, 2, 14, 22, 23, 24, 25, 26, 27, 28, 29, 30, 31, 32, 33, 34] (by decide +kernel) (by decide +kernel)
set_option maxRecDepth 20000 in
theorem gX3_know_X3_begin : GoodIn wsX3_know (wsV RX3 73 RX3 yX3_begin wsX3_begin) := goodIn_app (goodIn_of _ (by decide +kernel)) ggX3_know_X3_begin
set_option maxRecDepth 20000 in
theorem ggX3_know_X3_goOn : GoodIn wsX3_know wsX3_goOn := goodIn_r _ [18, 5, 6, 7, 8, 19, 20, 12, 21, 22, 23, 24, 25, 26, 27, 28, 29, 30, 31, 32, 33, 34] (by decide +kernel) (by decide +kernel)
set_option maxRecDepth 20000 in
theorem gX3_know_X3_goOn : GoodIn wsX3_know (wsV RX3 76 RX3 yX3_goOn wsX3_goOn) := goodIn_app (goodIn_of _ (by decide +kernel)) ggX3_know_X3_goOn
set_option maxRecDepth 20000 in
theorem ggX3_know_X3_isIn : GoodIn wsX3_know wsX3_isIn := goodIn_r _ [21] (by decide +kernel) (by decide +kernel)
set_option maxRecDepth 20000 in
theorem gX3_know_X3_isIn : GoodIn wsX3_know (va_wsS RX3 69 yX3_isIn wsX3_isIn) := goodIn_app (goodIn_of _ (by decide +kernel)) ggX3_know_X3_isIn
theorem dX3_know_0 : decode cX3_know 0 = .ok (.aload_n 0, 1) := by decide +kernel
theorem dX3_know_1 : decode cX3_know 1 = .ok (.getfield 45, 3) := by decide +kernel
theorem dX3_know_4 : decode cX3_know 4 = .ok (.ifCond .eq 4, 3) := by decide +kernel
theorem dX3_know_7 : decode cX3_know 7 = .ok (.return_, 1) := by decide +kernel
theorem dX3_know_8 : decode cX3_know 8 = .ok (.aload_n 0, 1) := by decide +kernel
theorem dX3_know_9 : decode cX3_know 9 = .ok (.iconst 1, 1) := by decide +kernel
theorem dX3_know_10 : decode cX3_know 10 = .ok (.putfield 45, 3) := by decide +kernel
theorem dX3_know_13 : decode cX3_know 13 = .ok (.iconst 0, 1) := by decide +kernel
theorem dX3_know_14 : decode cX3_know 14 = .ok (.istore_n 1, 1) := by decide +kernel
theorem dX3_know_15 : decode cX3_know 15 = .ok (.iload_n 1, 1) := by decide +kernel
theorem dX3_know_16 : decode cX3_know 16 = .ok (.iconst 1, 1) := by decide +kernel
theorem dX3_know_17 : decode cX3_know 17 = .ok (.aload_n 0, 1) := by decide +kernel
theorem dX3_know_18 : decode cX3_know 18 = .ok (.getfield 42, 3) := by decide +kernel
theorem dX3_know_21 : decode cX3_know 21 = .ok (.ishl, 1) := by decide +kernel
theorem dX3_know_22 : decode cX3_know 22 = .ok (.if_icmp .ge 107, 3) := by decide +kernel
theorem dX3_know_25 : decode cX3_know 25 = .ok (.iconst (-1), 1) := by decide +kernel
theorem dX3_know_26 : decode cX3_know 26 = .ok (.istore_n 2, 1) := by decide +kernel
theorem dX3_know_27 : decode cX3_know 27 = .ok (.aload_n 0, 1) := by decide +kernel
theorem dX3_know_28 : decode cX3_know 28 = .ok (.iload_n 1, 1) := by decide +kernel
theorem dX3_know_29 : decode cX3_know 29 = .ok (.invokevirtual 73, 3) := by decide +kernel
theorem dX3_know_32 : decode cX3_know 32 = .ok (.istore_n 3, 1) := by decide +kernel
theorem dX3_know_33 : decode cX3_know 33 = .ok (.iload_n 3, 1) := by decide +kernel
theorem dX3_know_34 : decode cX3_know 34 = .ok (.iload_n 2, 1) := by decide +kernel
theorem dX3_know_35 : decode cX3_know 35 = .ok (.if_icmp .eq 14, 3) := by decide +kernel
theorem dX3_know_38 : decode cX3_know 38 = .ok (.iload_n 3, 1) := by decide +kernel
theorem dX3_know_39 : decode cX3_know 39 = .ok (.istore_n 2, 1) := by decide +kernel
theorem dX3_know_40 : decode cX3_know 40 = .ok (.aload_n 0, 1) := by decide +kernel
theorem dX3_know_41 : decode cX3_know 41 = .ok (.iload_n 3, 1) := by decide +kernel
theorem dX3_know_42 : decode cX3_know 42 = .ok (.invokevirtual 76, 3) := by decide +kernel
theorem dX3_know_45 : decode cX3_know 45 = .ok (.istore_n 3, 1) := by decide +kernel
theorem dX3_know_46 : decode cX3_know 46 = .ok (.goto (-13), 3) := by decide +kernel
theorem dX3_know_49 : decode cX3_know 49 = .ok (.aload_n 0, 1) := by decide +kernel
theorem dX3_know_50 : decode cX3_know 50 = .ok (.getfield 29, 3) := by decide +kernel
theorem dX3_know_53 : decode cX3_know 53 = .ok (.iload_n 1, 1) := by decide +kernel
theorem dX3_know_54 : decode cX3_know 54 = .ok (.iload_n 3, 1) := by decide +kernel
theorem dX3_know_55 : decode cX3_know 55 = .ok (.iastore, 1) := by decide +kernel
theorem dX3_know_56 : decode cX3_know 56 = .ok (.aload_n 0, 1) := by decide +kernel
theorem dX3_know_57 : decode cX3_know 57 = .ok (.getfield 32, 3) := by decide +kernel
theorem dX3_know_60 : decode cX3_know 60 = .ok (.iload_n 1, 1) := by decide +kernel
theorem dX3_know_61 : decode cX3_know 61 = .ok (.iconst 1, 1) := by decide +kernel
theorem dX3_know_62 : decode cX3_know 62 = .ok (.bastore, 1) := by decide +kernel
theorem dX3_know_63 : decode cX3_know 63 = .ok (.iconst 0, 1) := by decide +kernel
theorem dX3_know_64 : decode cX3_know 64 = .ok (.istore 4, 2) := by decide +kernel
theorem dX3_know_66 : decode cX3_know 66 = .ok (.iload 4, 2) := by decide +kernel
theorem dX3_know_68 : decode cX3_know 68 = .ok (.aload_n 0, 1) := by decide +kernel
theorem dX3_know_69 : decode cX3_know 69 = .ok (.getfield 66, 3) := by decide +kernel
theorem dX3_know_72 : decode cX3_know 72 = .ok (.if_icmp .ge 51, 3) := by decide +kernel
theorem dX3_know_75 : decode cX3_know 75 = .ok (.aload_n 0, 1) := by decide +kernel
theorem dX3_know_76 : decode cX3_know 76 = .ok (.getfield 25, 3) := by decide +kernel
theorem dX3_know_79 : decode cX3_know 79 = .ok (.iload 4, 2) := by decide +kernel
theorem dX3_know_81 : decode cX3_know 81 = .ok (.baload, 1) := by decide +kernel
theorem dX3_know_82 : decode cX3_know 82 = .ok (.ifCond .eq 35, 3) := by decide +kernel
theorem dX3_know_85 : decode cX3_know 85 = .ok (.aload_n 0, 1) := by decide +kernel
theorem dX3_know_86 : decode cX3_know 86 = .ok (.getfield 22, 3) := by decide +kernel
theorem dX3_know_89 : decode cX3_know 89 = .ok (.iload 4, 2) := by decide +kernel
theorem dX3_know_91 : decode cX3_know 91 = .ok (.iaload, 1) := by decide +kernel
theorem dX3_know_92 : decode cX3_know 92 = .ok (.iconst (-1), 1) := by decide +kernel
theorem dX3_know_93 : decode cX3_know 93 = .ok (.if_icmp .ne 24, 3) := by decide +kernel
theorem dX3_know_96 : decode cX3_know 96 = .ok (.aload_n 0, 1) := by decide +kernel
theorem dX3_know_97 : decode cX3_know 97 = .ok (.getfield 19, 3) := by decide +kernel
theorem dX3_know_100 : decode cX3_know 100 = .ok (.iload 4, 2) := by decide +kernel
theorem dX3_know_102 : decode cX3_know 102 = .ok (.iaload, 1) := by decide +kernel
theorem dX3_know_103 : decode cX3_know 103 = .ok (.iload_n 3, 1) := by decide +kernel
theorem dX3_know_104 : decode cX3_know 104 = .ok (.invokestatic 69, 3) := by decide +kernel
theorem dX3_know_107 : decode cX3_know 107 = .ok (.ifCond .eq 10, 3) := by decide +kernel
theorem dX3_know_110 : decode cX3_know 110 = .ok (.aload_n 0, 1) := by decide +kernel
theorem dX3_know_111 : decode cX3_know 111 = .ok (.getfield 32, 3) := by decide +kernel
theorem dX3_know_114 : decode cX3_know 114 = .ok (.iload_n 1, 1) := by decide +kernel
theorem dX3_know_115 : decode cX3_know 115 = .ok (.iconst 0, 1) := by decide +kernel
theorem dX3_know_116 : decode cX3_know 116 = .ok (.bastore, 1) := by decide +kernel
theorem dX3_know_117 : decode cX3_know 117 = .ok (.iinc 4 1, 3) := by decide +kernel
theorem dX3_know_120 : decode cX3_know 120 = .ok (.goto (-54), 3) := by decide +kernel
theorem dX3_know_123 : decode cX3_know 123 = .ok (.iinc 1 1, 3) := by decide +kernel
theorem dX3_know_126 : decode cX3_know 126 = .ok (.goto (-111), 3) := by decide +kernel
theorem dX3_know_129 : decode cX3_know 129 = .ok (.return_, 1) := by decide +kernel
theorem dX3_has_0 : decode cX3_has 0 = .ok (.aload_n 0, 1) := by decide +kernel
theorem dX3_has_1 : decode cX3_has 1 = .ok (.getfield 29, 3) := by decide +kernel
theorem dX3_has_4 : decode cX3_has 4 = .ok (.iload_n 2, 1) := by decide +kernel
theorem dX3_has_5 : decode cX3_has 5 = .ok (.iaload, 1) := by decide +kernel
theorem dX3_has_6 : decode cX3_has 6 = .ok (.iload_n 1, 1) := by decide +kernel
theorem dX3_has_7 : decode cX3_has 7 = .ok (.ishr, 1) := by decide +kernel
theorem dX3_has_8 : decode cX3_has 8 = .ok (.iconst 1, 1) := by decide +kernel
theorem dX3_has_9 : decode cX3_has 9 = .ok (.iand, 1) := by decide +kernel
theorem dX3_has_10 : decode cX3_has 10 = .ok (.iconst 1, 1) := by decide +kernel
theorem dX3_has_11 : decode cX3_has 11 = .ok (.if_icmp .ne 7, 3) := by decide +kernel
theorem dX3_has_14 : decode cX3_has 14 = .ok (.iconst 1, 1) := by decide +kernel
theorem dX3_has_15 : decode cX3_has 15 = .ok (.goto 4, 3) := by decide +kernel
theorem dX3_has_18 : decode cX3_has 18 = .ok (.iconst 0, 1) := by decide +kernel
theorem dX3_has_19 : decode cX3_has 19 = .ok (.ireturn, 1) := by decide +kernel
set_option maxRecDepth 20000 in
theorem ggX3_asks_X3_isNode : GoodIn wsX3_asks wsX3_isNode := goodIn_r _ [6, 7, 36, 37, 38, 39, 40, 41, 42, 43, 44, 45, 46, 47, 48] (by decide +kernel) (by decide +kernel)
set_option maxRecDepth 20000 in
theorem gX3_asks_X3_isNode : GoodIn wsX3_asks (wsV RX3 63 RX3 yX3_isNode wsX3_isNode) := goodIn_app (goodIn_of _ (by decide +kernel)) ggX3_asks_X3_isNode
set_option maxRecDepth 20000 in
theorem ggX3_asks_X3_isEnvironment : GoodIn wsX3_asks wsX3_isEnvironment := goodIn_r _ [11, 12, 36, 37, 38, 39, 40, 41, 42, 43, 44, 45, 46, 47, 48] (by decide +kernel) (by decide +kernel)
set_option maxRecDepth 20000 in
theorem gX3_asks_X3_isEnvironment : GoodIn wsX3_asks (wsV RX3 79 RX3 yX3_isEnvironment wsX3_isEnvironment) := goodIn_app (goodIn_of _ (by decide +kernel)) ggX3_asks_X3_isEnvironment
set_option maxRecDepth 20000 in
theorem ggX3_asks_X3_know : GoodIn wsX3_asks wsX3_know := goodIn_r _ [16, 17, 12, 18, 19, 20, 21, 22, 23, 24, 25, 26, 5, 27, 28, 29, 30, 31, 32, 33, 34, 35, 36, 37, 38, 39, 40, 41, 42, 43, 44, 45, 46, 47, 48] (by decide +kernel) (by decide +kernel)
set_option maxRecDepth 20000 in
theorem gX3_asks_X3_know : GoodIn wsX3_asks (wsV RX3 82 RX3 yX3_know wsX3_know) := goodIn_app (goodIn_of _ (by decide +kernel)) ggX3_asks_X3_know
theorem dX3_asks_0 : decode cX3_asks 0 = .ok (.aload_n 0, 1) := by decide +kernel
theorem dX3_asks_1 : decode cX3_asks 1 = .ok (.aload_n 0, 1) := by decide +kernel
theorem dX3_asks_2 : decode cX3_asks 2 = .ok (.iload_n 1, 1) := by decide +kernel
theorem dX3_asks_3 : decode cX3_asks 3 = .ok (.invokevirtual 63, 3) := by decide +kernel
theorem dX3_asks_6 : decode cX3_asks 6 = .ok (.ifCond .ne 7, 3) := by decide +kernel
theorem dX3_asks_9 : decode cX3_asks 9 = .ok (.iconst 1, 1) := by decide +kernel
theorem dX3_asks_10 : decode cX3_asks 10 = .ok (.goto 16, 3) := by decide +kernel
theorem dX3_asks_13 : decode cX3_asks 13 = .ok (.aload_n 0, 1) := by decide +kernel
theorem dX3_asks_14 : decode cX3_asks 14 = .ok (.iload_n 2, 1) := by decide +kernel
theorem dX3_asks_15 : decode cX3_asks 15 = .ok (.invokevirtual 79, 3) := by decide +kernel
theorem dX3_asks_18 : decode cX3_asks 18 = .ok (.ifCond .ne 7, 3) := by decide +kernel
theorem dX3_asks_21 : decode cX3_asks 21 = .ok (.iconst 2, 1) := by decide +kernel
theorem dX3_asks_22 : decode cX3_asks 22 = .ok (.goto 4, 3) := by decide +kernel
theorem dX3_asks_25 : decode cX3_asks 25 = .ok (.iconst 0, 1) := by decide +kernel
theorem dX3_asks_26 : decode cX3_asks 26 = .ok (.putfield 35, 3) := by decide +kernel
theorem dX3_asks_29 : decode cX3_asks 29 = .ok (.aload_n 0, 1) := by decide +kernel
theorem dX3_asks_30 : decode cX3_asks 30 = .ok (.invokevirtual 82, 3) := by decide +kernel
theorem dX3_asks_33 : decode cX3_asks 33 = .ok (.aload_n 0, 1) := by decide +kernel
theorem dX3_asks_34 : decode cX3_asks 34 = .ok (.getfield 35, 3) := by decide +kernel
theorem dX3_asks_37 : decode cX3_asks 37 = .ok (.ifCond .ne 7, 3) := by decide +kernel
theorem dX3_asks_40 : decode cX3_asks 40 = .ok (.iconst 1, 1) := by decide +kernel
theorem dX3_asks_41 : decode cX3_asks 41 = .ok (.goto 4, 3) := by decide +kernel
theorem dX3_asks_44 : decode cX3_asks 44 = .ok (.iconst 0, 1) := by decide +kernel
theorem dX3_asks_45 : decode cX3_asks 45 = .ok (.ireturn, 1) := by decide +kernel
set_option maxRecDepth 20000 in
theorem ggX3_asksEnvironment_X3_isEnvironment : GoodIn wsX3_asksEnvironment wsX3_isEnvironment := goodIn_r _ [6, 7, 31, 32, 33, 34, 35, 36, 37, 38, 39, 40, 41, 42, 43] (by decide +kernel) (by decide +kernel)
set_option maxRecDepth 20000 in
theorem gX3_asksEnvironment_X3_isEnvironment : GoodIn wsX3_asksEnvironment (wsV RX3 79 RX3 yX3_isEnvironment wsX3_isEnvironment) := goodIn_app (goodIn_of _ (by decide +kernel)) ggX3_asksEnvironment_X3_isEnvironment
set_option maxRecDepth 20000 in
theorem ggX3_asksEnvironment_X3_know : GoodIn wsX3_asksEnvironment wsX3_know := goodIn_r _ [11, 12, 7, 13, 14, 15, 16, 17, 18, 19, 20, 21, 5, 22, 23, 24, 25, 26, 27, 28, 29, 30, 31, 32, 33, 34, 35, 36, 37, 38, 39, 40, 41, 42, 43] (by decide +kernel) (by decide +kernel)
set_option maxRecDepth 20000 in
theorem gX3_asksEnvironment_X3_know : GoodIn wsX3_asksEnvironment (wsV RX3 82 RX3 yX3_know wsX3_know) := goodIn_app (goodIn_of _ (by decide +kernel)) ggX3_asksEnvironment_X3_know
theorem dX3_asksEnvironment_0 : decode cX3_asksEnvironment 0 = .ok (.aload_n 0, 1) := by decide +kernel
theorem dX3_asksEnvironment_1 : decode cX3_asksEnvironment 1 = .ok (.aload_n 0, 1) := by decide +kernel
theorem dX3_asksEnvironment_2 : decode cX3_asksEnvironment 2 = .ok (.iload_n 1, 1) := by decide +kernel
theorem dX3_asksEnvironment_3 : decode cX3_asksEnvironment 3 = .ok (.invokevirtual 79, 3) := by decide +kernel
theorem dX3_asksEnvironment_6 : decode cX3_asksEnvironment 6 = .ok (.ifCond .eq 7, 3) := by decide +kernel
theorem dX3_asksEnvironment_9 : decode cX3_asksEnvironment 9 = .ok (.iconst 0, 1) := by decide +kernel
theorem dX3_asksEnvironment_10 : decode cX3_asksEnvironment 10 = .ok (.goto 4, 3) := by decide +kernel
theorem dX3_asksEnvironment_13 : decode cX3_asksEnvironment 13 = .ok (.iconst 1, 1) := by decide +kernel
theorem dX3_asksEnvironment_14 : decode cX3_asksEnvironment 14 = .ok (.putfield 35, 3) := by decide +kernel
theorem dX3_asksEnvironment_17 : decode cX3_asksEnvironment 17 = .ok (.aload_n 0, 1) := by decide +kernel
theorem dX3_asksEnvironment_18 : decode cX3_asksEnvironment 18 = .ok (.invokevirtual 82, 3) := by decide +kernel
theorem dX3_asksEnvironment_21 : decode cX3_asksEnvironment 21 = .ok (.aload_n 0, 1) := by decide +kernel
theorem dX3_asksEnvironment_22 : decode cX3_asksEnvironment 22 = .ok (.getfield 35, 3) := by decide +kernel
theorem dX3_asksEnvironment_25 : decode cX3_asksEnvironment 25 = .ok (.ifCond .ne 7, 3) := by decide +kernel
theorem dX3_asksEnvironment_28 : decode cX3_asksEnvironment 28 = .ok (.iconst 1, 1) := by decide +kernel
theorem dX3_asksEnvironment_29 : decode cX3_asksEnvironment 29 = .ok (.goto 4, 3) := by decide +kernel
theorem dX3_asksEnvironment_32 : decode cX3_asksEnvironment 32 = .ok (.iconst 0, 1) := by decide +kernel
theorem dX3_asksEnvironment_33 : decode cX3_asksEnvironment 33 = .ok (.ireturn, 1) := by decide +kernel
set_option maxRecDepth 20000 in
theorem ggX3_asksNode_X3_isNode : GoodIn wsX3_asksNode wsX3_isNode := goodIn_r _ [6, 7, 32, 33, 34, 35, 36, 37, 38, 39, 40, 41, 42, 43, 44] (by decide +kernel) (by decide +kernel)
set_option maxRecDepth 20000 in
theorem gX3_asksNode_X3_isNode : GoodIn wsX3_asksNode (wsV RX3 63 RX3 yX3_isNode wsX3_isNode) := goodIn_app (goodIn_of _ (by decide +kernel)) ggX3_asksNode_X3_isNode
set_option maxRecDepth 20000 in
theorem ggX3_asksNode_X3_know : GoodIn wsX3_asksNode wsX3_know := goodIn_r _ [11, 12, 13, 14, 15, 16, 17, 18, 19, 20, 21, 22, 5, 23, 24, 25, 26, 27, 28, 29, 30, 31, 32, 33, 34, 35, 36, 37, 38, 39, 40, 41, 42, 43, 44] (by decide +kernel) (by decide +kernel)
set_option maxRecDepth 20000 in
theorem gX3_asksNode_X3_know : GoodIn wsX3_asksNode (wsV RX3 82 RX3 yX3_know wsX3_know) := goodIn_app (goodIn_of _ (by decide +kernel)) ggX3_asksNode_X3_know
theorem dX3_asksNode_0 : decode cX3_asksNode 0 = .ok (.aload_n 0, 1) := by decide +kernel
theorem dX3_asksNode_1 : decode cX3_asksNode 1 = .ok (.aload_n 0, 1) := by decide +kernel
theorem dX3_asksNode_2 : decode cX3_asksNode 2 = .ok (.iload_n 1, 1) := by decide +kernel
theorem dX3_asksNode_3 : decode cX3_asksNode 3 = .ok (.invokevirtual 63, 3) := by decide +kernel
theorem dX3_asksNode_6 : decode cX3_asksNode 6 = .ok (.ifCond .eq 7, 3) := by decide +kernel
theorem dX3_asksNode_9 : decode cX3_asksNode 9 = .ok (.iconst 0, 1) := by decide +kernel
theorem dX3_asksNode_10 : decode cX3_asksNode 10 = .ok (.goto 4, 3) := by decide +kernel
theorem dX3_asksNode_13 : decode cX3_asksNode 13 = .ok (.iconst 1, 1) := by decide +kernel
theorem dX3_asksNode_14 : decode cX3_asksNode 14 = .ok (.putfield 35, 3) := by decide +kernel
theorem dX3_asksNode_17 : decode cX3_asksNode 17 = .ok (.aload_n 0, 1) := by decide +kernel
theorem dX3_asksNode_18 : decode cX3_asksNode 18 = .ok (.invokevirtual 82, 3) := by decide +kernel
theorem dX3_asksNode_21 : decode cX3_asksNode 21 = .ok (.aload_n 0, 1) := by decide +kernel
theorem dX3_asksNode_22 : decode cX3_asksNode 22 = .ok (.getfield 35, 3) := by decide +kernel
theorem dX3_asksNode_25 : decode cX3_asksNode 25 = .ok (.ifCond .ne 7, 3) := by decide +kernel
theorem dX3_asksNode_28 : decode cX3_asksNode 28 = .ok (.iconst 1, 1) := by decide +kernel
theorem dX3_asksNode_29 : decode cX3_asksNode 29 = .ok (.goto 4, 3) := by decide +kernel
theorem dX3_asksNode_32 : decode cX3_asksNode 32 = .ok (.iconst 0, 1) := by decide +kernel
theorem dX3_asksNode_33 : decode cX3_asksNode 33 = .ok (.ireturn, 1) := by decide +kernel
set_option maxRecDepth 20000 in
theorem ggX3_holds_X3_asks : GoodIn wsX3_holds wsX3_asks := goodIn_r _ [5, 6, 7, 8, 9, 4, 10, 11, 12, 13, 14, 15, 16, 17, 18, 19, 20, 21, 22, 23, 24, 25, 26, 27, 28, 29, 30, 31, 32, 33, 34, 35, 36, 37, 38, 39, 44, 45, 46, 47, 48, 49, 50, 51, 52, 53, 54, 55, 56] (by decide +kernel) (by decide +kernel)
set_option maxRecDepth 20000 in
theorem gX3_holds_X3_asks : GoodIn wsX3_holds (wsV RX3 85 RX3 yX3_asks wsX3_asks) := goodIn_app (goodIn_of _ (by decide +kernel)) ggX3_holds_X3_asks
set_option maxRecDepth 20000 in
theorem ggX3_holds_X3_has : GoodIn wsX3_holds wsX3_has := goodIn_r _ [43, 22, 44, 45, 46, 47, 48, 49, 50, 51, 52, 53, 54, 55, 56] (by decide +kernel) (by decide +kernel)
set_option maxRecDepth 20000 in
theorem gX3_holds_X3_has : GoodIn wsX3_holds (wsV RX3 88 RX3 yX3_has wsX3_has) := goodIn_app (goodIn_of _ (by decide +kernel)) ggX3_holds_X3_has
theorem dX3_holds_0 : decode cX3_holds 0 = .ok (.aload_n 0, 1) := by decide +kernel
theorem dX3_holds_1 : decode cX3_holds 1 = .ok (.iload_n 1, 1) := by decide +kernel
theorem dX3_holds_2 : decode cX3_holds 2 = .ok (.iload_n 2, 1) := by decide +kernel
theorem dX3_holds_3 : decode cX3_holds 3 = .ok (.invokevirtual 85, 3) := by decide +kernel
theorem dX3_holds_6 : decode cX3_holds 6 = .ok (.ifCond .eq 16, 3) := by decide +kernel
theorem dX3_holds_9 : decode cX3_holds 9 = .ok (.aload_n 0, 1) := by decide +kernel
theorem dX3_holds_10 : decode cX3_holds 10 = .ok (.iload_n 1, 1) := by decide +kernel
theorem dX3_holds_11 : decode cX3_holds 11 = .ok (.iload_n 2, 1) := by decide +kernel
theorem dX3_holds_12 : decode cX3_holds 12 = .ok (.invokevirtual 88, 3) := by decide +kernel
theorem dX3_holds_15 : decode cX3_holds 15 = .ok (.ifCond .eq 7, 3) := by decide +kernel
theorem dX3_holds_18 : decode cX3_holds 18 = .ok (.iconst 1, 1) := by decide +kernel
theorem dX3_holds_19 : decode cX3_holds 19 = .ok (.goto 4, 3) := by decide +kernel
theorem dX3_holds_22 : decode cX3_holds 22 = .ok (.iconst 0, 1) := by decide +kernel
theorem dX3_holds_23 : decode cX3_holds 23 = .ok (.ireturn, 1) := by decide +kernel
set_option maxRecDepth 20000 in
theorem ggX3_depthIn_X3_has : GoodIn wsX3_depthIn wsX3_has := goodIn_r _ [5, 6, 24, 25, 26, 27, 28, 29, 30, 31, 32, 33, 34, 35, 36] (by decide +kernel) (by decide +kernel)
set_option maxRecDepth 20000 in
theorem gX3_depthIn_X3_has : GoodIn wsX3_depthIn (wsV RX3 88 RX3 yX3_has wsX3_has) := goodIn_app (goodIn_of _ (by decide +kernel)) ggX3_depthIn_X3_has
set_option maxRecDepth 20000 in
theorem ggX3_depthIn_X3_begin : GoodIn wsX3_depthIn wsX3_begin := goodIn_r _ [10, 11, 12, 24, 25, 26, 27, 28, 29, 30, 31, 32, 33, 34, 35, 36] (by decide +kernel) (by decide +kernel)
set_option maxRecDepth 20000 in
theorem gX3_depthIn_X3_begin : GoodIn wsX3_depthIn (wsV RX3 73 RX3 yX3_begin wsX3_begin) := goodIn_app (goodIn_of _ (by decide +kernel)) ggX3_depthIn_X3_begin
set_option maxRecDepth 20000 in
theorem ggX3_depthIn_X3_goOn : GoodIn wsX3_depthIn wsX3_goOn := goodIn_r _ [16, 17, 18, 19, 20, 21, 22, 4, 23, 24, 25, 26, 27, 28, 29, 30, 31, 32, 33, 34, 35, 36] (by decide +kernel) (by decide +kernel)
set_option maxRecDepth 20000 in
theorem gX3_depthIn_X3_goOn : GoodIn wsX3_depthIn (wsV RX3 76 RX3 yX3_goOn wsX3_goOn) := goodIn_app (goodIn_of _ (by decide +kernel)) ggX3_depthIn_X3_goOn
theorem dX3_depthIn_0 : decode cX3_depthIn 0 = .ok (.aload_n 0, 1) := by decide +kernel
theorem dX3_depthIn_1 : decode cX3_depthIn 1 = .ok (.iload_n 1, 1) := by decide +kernel
theorem dX3_depthIn_2 : decode cX3_depthIn 2 = .ok (.iload_n 2, 1) := by decide +kernel
theorem dX3_depthIn_3 : decode cX3_depthIn 3 = .ok (.invokevirtual 88, 3) := by decide +kernel
theorem dX3_depthIn_6 : decode cX3_depthIn 6 = .ok (.ifCond .ne 5, 3) := by decide +kernel
theorem dX3_depthIn_9 : decode cX3_depthIn 9 = .ok (.iconst (-1), 1) := by decide +kernel
theorem dX3_depthIn_10 : decode cX3_depthIn 10 = .ok (.ireturn, 1) := by decide +kernel
theorem dX3_depthIn_11 : decode cX3_depthIn 11 = .ok (.iconst 0, 1) := by decide +kernel
theorem dX3_depthIn_12 : decode cX3_depthIn 12 = .ok (.istore_n 3, 1) := by decide +kernel
theorem dX3_depthIn_13 : decode cX3_depthIn 13 = .ok (.aload_n 0, 1) := by decide +kernel
theorem dX3_depthIn_14 : decode cX3_depthIn 14 = .ok (.iload_n 2, 1) := by decide +kernel
theorem dX3_depthIn_15 : decode cX3_depthIn 15 = .ok (.invokevirtual 73, 3) := by decide +kernel
theorem dX3_depthIn_18 : decode cX3_depthIn 18 = .ok (.istore 4, 2) := by decide +kernel
theorem dX3_depthIn_20 : decode cX3_depthIn 20 = .ok (.iload 4, 2) := by decide +kernel
theorem dX3_depthIn_22 : decode cX3_depthIn 22 = .ok (.iload_n 1, 1) := by decide +kernel
theorem dX3_depthIn_23 : decode cX3_depthIn 23 = .ok (.ishr, 1) := by decide +kernel
theorem dX3_depthIn_24 : decode cX3_depthIn 24 = .ok (.iconst 1, 1) := by decide +kernel
theorem dX3_depthIn_25 : decode cX3_depthIn 25 = .ok (.iand, 1) := by decide +kernel
theorem dX3_depthIn_26 : decode cX3_depthIn 26 = .ok (.ifCond .ne 17, 3) := by decide +kernel
theorem dX3_depthIn_29 : decode cX3_depthIn 29 = .ok (.iinc 3 1, 3) := by decide +kernel
theorem dX3_depthIn_32 : decode cX3_depthIn 32 = .ok (.aload_n 0, 1) := by decide +kernel
theorem dX3_depthIn_33 : decode cX3_depthIn 33 = .ok (.iload 4, 2) := by decide +kernel
theorem dX3_depthIn_35 : decode cX3_depthIn 35 = .ok (.invokevirtual 76, 3) := by decide +kernel
theorem dX3_depthIn_38 : decode cX3_depthIn 38 = .ok (.istore 4, 2) := by decide +kernel
theorem dX3_depthIn_40 : decode cX3_depthIn 40 = .ok (.goto (-20), 3) := by decide +kernel
theorem dX3_depthIn_43 : decode cX3_depthIn 43 = .ok (.iload_n 3, 1) := by decide +kernel
theorem dX3_depthIn_44 : decode cX3_depthIn 44 = .ok (.ireturn, 1) := by decide +kernel
set_option maxRecDepth 20000 in
theorem ggX3_depth_X3_asks : GoodIn wsX3_depth wsX3_asks := goodIn_r _ [5, 6, 7, 8, 9, 4, 10, 11, 12, 13, 14, 15, 16, 17, 18, 19, 20, 21, 22, 23, 24, 25, 26, 27, 28, 29, 30, 31, 32, 33, 34, 35, 36, 37, 38, 39, 48, 49, 50, 51, 52, 53, 54, 55, 56, 57, 58, 59, 60] (by decide +kernel) (by decide +kernel)
set_option maxRecDepth 20000 in
theorem gX3_depth_X3_asks : GoodIn wsX3_depth (wsV RX3 85 RX3 yX3_asks wsX3_asks) := goodIn_app (goodIn_of _ (by decide +kernel)) ggX3_depth_X3_asks
set_option maxRecDepth 20000 in
theorem ggX3_depth_X3_depthIn : GoodIn wsX3_depth wsX3_depthIn := goodIn_r _ [43, 44, 45, 46, 4, 47, 22, 28, 29, 30, 31, 16, 32, 33, 34, 35, 36, 24, 25, 26, 27, 37, 38, 39, 48, 49, 50, 51, 52, 53, 54, 55, 56, 57, 58, 59, 60] (by decide +kernel) (by decide +kernel)
set_option maxRecDepth 20000 in
theorem gX3_depth_X3_depthIn : GoodIn wsX3_depth (wsV RX3 91 RX3 yX3_depthIn wsX3_depthIn) := goodIn_app (goodIn_of _ (by decide +kernel)) ggX3_depth_X3_depthIn
theorem dX3_depth_0 : decode cX3_depth 0 = .ok (.aload_n 0, 1) := by decide +kernel
theorem dX3_depth_1 : decode cX3_depth 1 = .ok (.iload_n 1, 1) := by decide +kernel
theorem dX3_depth_2 : decode cX3_depth 2 = .ok (.iload_n 2, 1) := by decide +kernel
theorem dX3_depth_3 : decode cX3_depth 3 = .ok (.invokevirtual 85, 3) := by decide +kernel
theorem dX3_depth_6 : decode cX3_depth 6 = .ok (.ifCond .eq 12, 3) := by decide +kernel
theorem dX3_depth_9 : decode cX3_depth 9 = .ok (.aload_n 0, 1) := by decide +kernel
theorem dX3_depth_10 : decode cX3_depth 10 = .ok (.iload_n 1, 1) := by decide +kernel
theorem dX3_depth_11 : decode cX3_depth 11 = .ok (.iload_n 2, 1) := by decide +kernel
theorem dX3_depth_12 : decode cX3_depth 12 = .ok (.invokevirtual 91, 3) := by decide +kernel
theorem dX3_depth_15 : decode cX3_depth 15 = .ok (.goto 4, 3) := by decide +kernel
theorem dX3_depth_18 : decode cX3_depth 18 = .ok (.iconst 0, 1) := by decide +kernel
theorem dX3_depth_19 : decode cX3_depth 19 = .ok (.ireturn, 1) := by decide +kernel
set_option maxRecDepth 20000 in
theorem ggX3_support_X3_asks : GoodIn wsX3_support wsX3_asks := goodIn_r _ [8, 9, 10, 11, 12, 7, 13, 14, 15, 16, 17, 18, 19, 20, 21, 22, 23, 24, 25, 26, 27, 1, 2, 3, 28, 29, 30, 31, 32, 33, 34, 35, 36, 37, 38, 39, 48, 49, 50, 51, 52, 53, 54, 55, 56, 57, 58, 59, 60] (by decide +kernel) (by decide +kernel)
set_option maxRecDepth 20000 in
theorem gX3_support_X3_asks : GoodIn wsX3_support (wsV RX3 85 RX3 yX3_asks wsX3_asks) := goodIn_app (goodIn_of _ (by decide +kernel)) ggX3_support_X3_asks
set_option maxRecDepth 20000 in
theorem ggX3_support_X3_depthIn : GoodIn wsX3_support wsX3_depthIn := goodIn_r _ [43, 44, 45, 46, 7, 47, 25, 28, 29, 30, 31, 19, 32, 33, 34, 35, 36, 27, 1, 2, 3, 37, 38, 39, 48, 49, 50, 51, 52, 53, 54, 55, 56, 57, 58, 59, 60] (by decide +kernel) (by decide +kernel)
set_option maxRecDepth 20000 in
theorem gX3_support_X3_depthIn : GoodIn wsX3_support (wsV RX3 91 RX3 yX3_depthIn wsX3_depthIn) := goodIn_app (goodIn_of _ (by decide +kernel)) ggX3_support_X3_depthIn
set_option maxRecDepth 20000 in
theorem ggX3_support_X3_begin : GoodIn wsX3_support wsX3_begin := goodIn_r _ [31, 19, 32, 48, 49, 50, 51, 52, 53, 54, 55, 56, 57, 58, 59, 60] (by decide +kernel) (by decide +kernel)
set_option maxRecDepth 20000 in
theorem gX3_support_X3_begin : GoodIn wsX3_support (wsV RX3 73 RX3 yX3_begin wsX3_begin) := goodIn_app (goodIn_of _ (by decide +kernel)) ggX3_support_X3_begin
set_option maxRecDepth 20000 in
theorem ggX3_support_X3_goOn : GoodIn wsX3_support wsX3_goOn := goodIn_r _ [36, 27, 1, 2, 3, 37, 38, 7, 39, 48, 49, 50, 51, 52, 53, 54, 55, 56, 57, 58, 59, 60] (by decide +kernel) (by decide +kernel)
set_option maxRecDepth 20000 in
theorem gX3_support_X3_goOn : GoodIn wsX3_support (wsV RX3 76 RX3 yX3_goOn wsX3_goOn) := goodIn_app (goodIn_of _ (by decide +kernel)) ggX3_support_X3_goOn
set_option maxRecDepth 20000 in
theorem ggX3_support_X3_isIn : GoodIn wsX3_support wsX3_isIn := goodIn_r _ [39] (by decide +kernel) (by decide +kernel)
set_option maxRecDepth 20000 in
theorem gX3_support_X3_isIn : GoodIn wsX3_support (va_wsS RX3 69 yX3_isIn wsX3_isIn) := goodIn_app (goodIn_of _ (by decide +kernel)) ggX3_support_X3_isIn
theorem dX3_support_0 : decode cX3_support 0 = .ok (.aload_n 0, 1) := by decide +kernel
theorem dX3_support_1 : decode cX3_support 1 = .ok (.iload_n 1, 1) := by decide +kernel
theorem dX3_support_2 : decode cX3_support 2 = .ok (.iload_n 2, 1) := by decide +kernel
theorem dX3_support_3 : decode cX3_support 3 = .ok (.invokevirtual 85, 3) := by decide +kernel
theorem dX3_support_6 : decode cX3_support 6 = .ok (.ifCond .ne 5, 3) := by decide +kernel
theorem dX3_support_9 : decode cX3_support 9 = .ok (.iconst 0, 1) := by decide +kernel
theorem dX3_support_10 : decode cX3_support 10 = .ok (.ireturn, 1) := by decide +kernel
theorem dX3_support_11 : decode cX3_support 11 = .ok (.aload_n 0, 1) := by decide +kernel
theorem dX3_support_12 : decode cX3_support 12 = .ok (.iload_n 1, 1) := by decide +kernel
theorem dX3_support_13 : decode cX3_support 13 = .ok (.iload_n 2, 1) := by decide +kernel
theorem dX3_support_14 : decode cX3_support 14 = .ok (.invokevirtual 91, 3) := by decide +kernel
theorem dX3_support_17 : decode cX3_support 17 = .ok (.istore_n 3, 1) := by decide +kernel
theorem dX3_support_18 : decode cX3_support 18 = .ok (.iload_n 3, 1) := by decide +kernel
theorem dX3_support_19 : decode cX3_support 19 = .ok (.ifCond .gt 14, 3) := by decide +kernel
theorem dX3_support_22 : decode cX3_support 22 = .ok (.iload_n 3, 1) := by decide +kernel
theorem dX3_support_23 : decode cX3_support 23 = .ok (.ifCond .ne 7, 3) := by decide +kernel
theorem dX3_support_26 : decode cX3_support 26 = .ok (.iconst (-1), 1) := by decide +kernel
theorem dX3_support_27 : decode cX3_support 27 = .ok (.goto 5, 3) := by decide +kernel
theorem dX3_support_30 : decode cX3_support 30 = .ok (.bipush (-2), 2) := by decide +kernel
theorem dX3_support_32 : decode cX3_support 32 = .ok (.ireturn, 1) := by decide +kernel
theorem dX3_support_33 : decode cX3_support 33 = .ok (.aload_n 0, 1) := by decide +kernel
theorem dX3_support_34 : decode cX3_support 34 = .ok (.iload_n 2, 1) := by decide +kernel
theorem dX3_support_35 : decode cX3_support 35 = .ok (.invokevirtual 73, 3) := by decide +kernel
theorem dX3_support_38 : decode cX3_support 38 = .ok (.istore 4, 2) := by decide +kernel
theorem dX3_support_40 : decode cX3_support 40 = .ok (.iconst 1, 1) := by decide +kernel
theorem dX3_support_41 : decode cX3_support 41 = .ok (.istore 5, 2) := by decide +kernel
theorem dX3_support_43 : decode cX3_support 43 = .ok (.iload 5, 2) := by decide +kernel
theorem dX3_support_45 : decode cX3_support 45 = .ok (.iload_n 3, 1) := by decide +kernel
theorem dX3_support_46 : decode cX3_support 46 = .ok (.if_icmp .ge 17, 3) := by decide +kernel
theorem dX3_support_49 : decode cX3_support 49 = .ok (.aload_n 0, 1) := by decide +kernel
theorem dX3_support_50 : decode cX3_support 50 = .ok (.iload 4, 2) := by decide +kernel
theorem dX3_support_52 : decode cX3_support 52 = .ok (.invokevirtual 76, 3) := by decide +kernel
theorem dX3_support_55 : decode cX3_support 55 = .ok (.istore 4, 2) := by decide +kernel
theorem dX3_support_57 : decode cX3_support 57 = .ok (.iinc 5 1, 3) := by decide +kernel
theorem dX3_support_60 : decode cX3_support 60 = .ok (.goto (-17), 3) := by decide +kernel
theorem dX3_support_63 : decode cX3_support 63 = .ok (.iconst 0, 1) := by decide +kernel
theorem dX3_support_64 : decode cX3_support 64 = .ok (.istore 5, 2) := by decide +kernel
theorem dX3_support_66 : decode cX3_support 66 = .ok (.aload_n 0, 1) := by decide +kernel
theorem dX3_support_67 : decode cX3_support 67 = .ok (.getfield 25, 3) := by decide +kernel
theorem dX3_support_70 : decode cX3_support 70 = .ok (.iload 5, 2) := by decide +kernel
theorem dX3_support_72 : decode cX3_support 72 = .ok (.baload, 1) := by decide +kernel
theorem dX3_support_73 : decode cX3_support 73 = .ok (.ifCond .eq 29, 3) := by decide +kernel
theorem dX3_support_76 : decode cX3_support 76 = .ok (.aload_n 0, 1) := by decide +kernel
theorem dX3_support_77 : decode cX3_support 77 = .ok (.getfield 22, 3) := by decide +kernel
theorem dX3_support_80 : decode cX3_support 80 = .ok (.iload 5, 2) := by decide +kernel
theorem dX3_support_82 : decode cX3_support 82 = .ok (.iaload, 1) := by decide +kernel
theorem dX3_support_83 : decode cX3_support 83 = .ok (.iload_n 1, 1) := by decide +kernel
theorem dX3_support_84 : decode cX3_support 84 = .ok (.if_icmp .ne 18, 3) := by decide +kernel
theorem dX3_support_87 : decode cX3_support 87 = .ok (.aload_n 0, 1) := by decide +kernel
theorem dX3_support_88 : decode cX3_support 88 = .ok (.getfield 19, 3) := by decide +kernel
theorem dX3_support_91 : decode cX3_support 91 = .ok (.iload 5, 2) := by decide +kernel
theorem dX3_support_93 : decode cX3_support 93 = .ok (.iaload, 1) := by decide +kernel
theorem dX3_support_94 : decode cX3_support 94 = .ok (.iload 4, 2) := by decide +kernel
theorem dX3_support_96 : decode cX3_support 96 = .ok (.invokestatic 69, 3) := by decide +kernel
theorem dX3_support_99 : decode cX3_support 99 = .ok (.ifCond .ne 9, 3) := by decide +kernel
theorem dX3_support_102 : decode cX3_support 102 = .ok (.iinc 5 1, 3) := by decide +kernel
theorem dX3_support_105 : decode cX3_support 105 = .ok (.goto (-39), 3) := by decide +kernel
theorem dX3_support_108 : decode cX3_support 108 = .ok (.iload 5, 2) := by decide +kernel
theorem dX3_support_110 : decode cX3_support 110 = .ok (.ireturn, 1) := by decide +kernel
set_option maxRecDepth 20000 in
theorem ggX3_heldCount_X3_asksEnvironment : GoodIn wsX3_heldCount wsX3_asksEnvironment := goodIn_r _ [6, 7, 8, 9, 10, 5, 11, 12, 13, 14, 15, 16, 17, 18, 19, 20, 21, 22, 23, 24, 25, 26, 27, 28, 29, 30, 31, 32, 33, 34, 35, 40, 41, 42, 43, 44, 45, 46, 47, 48, 49, 50, 51, 52] (by decide +kernel) (by decide +kernel)
set_option maxRecDepth 20000 in
theorem gX3_heldCount_X3_asksEnvironment : GoodIn wsX3_heldCount (wsV RX3 95 RX3 yX3_asksEnvironment wsX3_asksEnvironment) := goodIn_app (goodIn_of _ (by decide +kernel)) ggX3_heldCount_X3_asksEnvironment
set_option maxRecDepth 20000 in
theorem ggX3_heldCount_X3_has : GoodIn wsX3_heldCount wsX3_has := goodIn_r _ [39, 18, 40, 41, 42, 43, 44, 45, 46, 47, 48, 49, 50, 51, 52] (by decide +kernel) (by decide +kernel)
set_option maxRecDepth 20000 in
theorem gX3_heldCount_X3_has : GoodIn wsX3_heldCount (wsV RX3 88 RX3 yX3_has wsX3_has) := goodIn_app (goodIn_of _ (by decide +kernel)) ggX3_heldCount_X3_has
theorem dX3_heldCount_0 : decode cX3_heldCount 0 = .ok (.aload_n 0, 1) := by decide +kernel
theorem dX3_heldCount_1 : decode cX3_heldCount 1 = .ok (.iload_n 1, 1) := by decide +kernel
theorem dX3_heldCount_2 : decode cX3_heldCount 2 = .ok (.invokevirtual 95, 3) := by decide +kernel
theorem dX3_heldCount_5 : decode cX3_heldCount 5 = .ok (.ifCond .ne 5, 3) := by decide +kernel
theorem dX3_heldCount_8 : decode cX3_heldCount 8 = .ok (.iconst 0, 1) := by decide +kernel
theorem dX3_heldCount_9 : decode cX3_heldCount 9 = .ok (.ireturn, 1) := by decide +kernel
theorem dX3_heldCount_10 : decode cX3_heldCount 10 = .ok (.iconst 0, 1) := by decide +kernel
theorem dX3_heldCount_11 : decode cX3_heldCount 11 = .ok (.istore_n 2, 1) := by decide +kernel
theorem dX3_heldCount_12 : decode cX3_heldCount 12 = .ok (.iconst 0, 1) := by decide +kernel
theorem dX3_heldCount_13 : decode cX3_heldCount 13 = .ok (.istore_n 3, 1) := by decide +kernel
theorem dX3_heldCount_14 : decode cX3_heldCount 14 = .ok (.iload_n 3, 1) := by decide +kernel
theorem dX3_heldCount_15 : decode cX3_heldCount 15 = .ok (.aload_n 0, 1) := by decide +kernel
theorem dX3_heldCount_16 : decode cX3_heldCount 16 = .ok (.getfield 39, 3) := by decide +kernel
theorem dX3_heldCount_19 : decode cX3_heldCount 19 = .ok (.if_icmp .ge 26, 3) := by decide +kernel
theorem dX3_heldCount_22 : decode cX3_heldCount 22 = .ok (.iload_n 2, 1) := by decide +kernel
theorem dX3_heldCount_23 : decode cX3_heldCount 23 = .ok (.aload_n 0, 1) := by decide +kernel
theorem dX3_heldCount_24 : decode cX3_heldCount 24 = .ok (.iload_n 3, 1) := by decide +kernel
theorem dX3_heldCount_25 : decode cX3_heldCount 25 = .ok (.iload_n 1, 1) := by decide +kernel
theorem dX3_heldCount_26 : decode cX3_heldCount 26 = .ok (.invokevirtual 88, 3) := by decide +kernel
theorem dX3_heldCount_29 : decode cX3_heldCount 29 = .ok (.ifCond .eq 7, 3) := by decide +kernel
theorem dX3_heldCount_32 : decode cX3_heldCount 32 = .ok (.iconst 1, 1) := by decide +kernel
theorem dX3_heldCount_33 : decode cX3_heldCount 33 = .ok (.goto 4, 3) := by decide +kernel
theorem dX3_heldCount_36 : decode cX3_heldCount 36 = .ok (.iconst 0, 1) := by decide +kernel
theorem dX3_heldCount_37 : decode cX3_heldCount 37 = .ok (.iadd, 1) := by decide +kernel
theorem dX3_heldCount_38 : decode cX3_heldCount 38 = .ok (.istore_n 2, 1) := by decide +kernel
theorem dX3_heldCount_39 : decode cX3_heldCount 39 = .ok (.iinc 3 1, 3) := by decide +kernel
theorem dX3_heldCount_42 : decode cX3_heldCount 42 = .ok (.goto (-28), 3) := by decide +kernel
theorem dX3_heldCount_45 : decode cX3_heldCount 45 = .ok (.iload_n 2, 1) := by decide +kernel
theorem dX3_heldCount_46 : decode cX3_heldCount 46 = .ok (.ireturn, 1) := by decide +kernel
set_option maxRecDepth 20000 in
theorem ggX3_isConsistent_X3_asksEnvironment : GoodIn wsX3_isConsistent wsX3_asksEnvironment := goodIn_r _ [6, 7, 8, 9, 10, 5, 11, 12, 13, 14, 15, 16, 17, 18, 1, 19, 20, 21, 22, 23, 24, 25, 26, 27, 28, 29, 30, 31, 32, 33, 34, 35, 36, 37, 38, 39, 40, 41, 42, 43, 44, 45, 46, 47] (by decide +kernel) (by decide +kernel)
set_option maxRecDepth 20000 in
theorem gX3_isConsistent_X3_asksEnvironment : GoodIn wsX3_isConsistent (wsV RX3 95 RX3 yX3_asksEnvironment wsX3_asksEnvironment) := goodIn_app (goodIn_of _ (by decide +kernel)) ggX3_isConsistent_X3_asksEnvironment
theorem dX3_isConsistent_0 : decode cX3_isConsistent 0 = .ok (.aload_n 0, 1) := by decide +kernel
theorem dX3_isConsistent_1 : decode cX3_isConsistent 1 = .ok (.iload_n 1, 1) := by decide +kernel
theorem dX3_isConsistent_2 : decode cX3_isConsistent 2 = .ok (.invokevirtual 95, 3) := by decide +kernel
theorem dX3_isConsistent_5 : decode cX3_isConsistent 5 = .ok (.ifCond .eq 16, 3) := by decide +kernel
theorem dX3_isConsistent_8 : decode cX3_isConsistent 8 = .ok (.aload_n 0, 1) := by decide +kernel
theorem dX3_isConsistent_9 : decode cX3_isConsistent 9 = .ok (.getfield 32, 3) := by decide +kernel
theorem dX3_isConsistent_12 : decode cX3_isConsistent 12 = .ok (.iload_n 1, 1) := by decide +kernel
theorem dX3_isConsistent_13 : decode cX3_isConsistent 13 = .ok (.baload, 1) := by decide +kernel
theorem dX3_isConsistent_14 : decode cX3_isConsistent 14 = .ok (.ifCond .eq 7, 3) := by decide +kernel
theorem dX3_isConsistent_17 : decode cX3_isConsistent 17 = .ok (.iconst 1, 1) := by decide +kernel
theorem dX3_isConsistent_18 : decode cX3_isConsistent 18 = .ok (.goto 4, 3) := by decide +kernel
theorem dX3_isConsistent_21 : decode cX3_isConsistent 21 = .ok (.iconst 0, 1) := by decide +kernel
theorem dX3_isConsistent_22 : decode cX3_isConsistent 22 = .ok (.ireturn, 1) := by decide +kernel
theorem dX3_costOf_0 : decode cX3_costOf 0 = .ok (.iconst 0, 1) := by decide +kernel
theorem dX3_costOf_1 : decode cX3_costOf 1 = .ok (.istore_n 2, 1) := by decide +kernel
theorem dX3_costOf_2 : decode cX3_costOf 2 = .ok (.iconst 0, 1) := by decide +kernel
theorem dX3_costOf_3 : decode cX3_costOf 3 = .ok (.istore_n 3, 1) := by decide +kernel
theorem dX3_costOf_4 : decode cX3_costOf 4 = .ok (.iload_n 3, 1) := by decide +kernel
theorem dX3_costOf_5 : decode cX3_costOf 5 = .ok (.aload_n 0, 1) := by decide +kernel
theorem dX3_costOf_6 : decode cX3_costOf 6 = .ok (.getfield 42, 3) := by decide +kernel
theorem dX3_costOf_9 : decode cX3_costOf 9 = .ok (.if_icmp .ge 24, 3) := by decide +kernel
theorem dX3_costOf_12 : decode cX3_costOf 12 = .ok (.iload_n 2, 1) := by decide +kernel
theorem dX3_costOf_13 : decode cX3_costOf 13 = .ok (.iload_n 1, 1) := by decide +kernel
theorem dX3_costOf_14 : decode cX3_costOf 14 = .ok (.iload_n 3, 1) := by decide +kernel
theorem dX3_costOf_15 : decode cX3_costOf 15 = .ok (.ishr, 1) := by decide +kernel
theorem dX3_costOf_16 : decode cX3_costOf 16 = .ok (.iconst 1, 1) := by decide +kernel
theorem dX3_costOf_17 : decode cX3_costOf 17 = .ok (.iand, 1) := by decide +kernel
theorem dX3_costOf_18 : decode cX3_costOf 18 = .ok (.aload_n 0, 1) := by decide +kernel
theorem dX3_costOf_19 : decode cX3_costOf 19 = .ok (.getfield 16, 3) := by decide +kernel
theorem dX3_costOf_22 : decode cX3_costOf 22 = .ok (.iload_n 3, 1) := by decide +kernel
theorem dX3_costOf_23 : decode cX3_costOf 23 = .ok (.iaload, 1) := by decide +kernel
theorem dX3_costOf_24 : decode cX3_costOf 24 = .ok (.imul, 1) := by decide +kernel
theorem dX3_costOf_25 : decode cX3_costOf 25 = .ok (.iadd, 1) := by decide +kernel
theorem dX3_costOf_26 : decode cX3_costOf 26 = .ok (.istore_n 2, 1) := by decide +kernel
theorem dX3_costOf_27 : decode cX3_costOf 27 = .ok (.iinc 3 1, 3) := by decide +kernel
theorem dX3_costOf_30 : decode cX3_costOf 30 = .ok (.goto (-26), 3) := by decide +kernel
theorem dX3_costOf_33 : decode cX3_costOf 33 = .ok (.iload_n 2, 1) := by decide +kernel
theorem dX3_costOf_34 : decode cX3_costOf 34 = .ok (.ireturn, 1) := by decide +kernel
set_option maxRecDepth 20000 in
theorem ggX3_cost_X3_asksEnvironment : GoodIn wsX3_cost wsX3_asksEnvironment := goodIn_r _ [5, 6, 7, 8, 9, 4, 10, 11, 12, 13, 14, 15, 16, 17, 18, 19, 20, 21, 22, 23, 24, 25, 26, 27, 28, 29, 30, 31, 32, 33, 34, 40, 41, 42, 43, 44, 45, 46, 47, 48, 49, 50, 51, 52] (by decide +kernel) (by decide +kernel)
set_option maxRecDepth 20000 in
theorem gX3_cost_X3_asksEnvironment : GoodIn wsX3_cost (wsV RX3 95 RX3 yX3_asksEnvironment wsX3_asksEnvironment) := goodIn_app (goodIn_of _ (by decide +kernel)) ggX3_cost_X3_asksEnvironment
set_option maxRecDepth 20000 in
theorem ggX3_cost_X3_costOf : GoodIn wsX3_cost wsX3_costOf := goodIn_r _ [38, 11, 39, 40, 41, 42, 43, 44, 45, 46, 47, 48, 49, 50, 51, 52] (by decide +kernel) (by decide +kernel)
set_option maxRecDepth 20000 in
theorem gX3_cost_X3_costOf : GoodIn wsX3_cost (wsV RX3 98 RX3 yX3_costOf wsX3_costOf) := goodIn_app (goodIn_of _ (by decide +kernel)) ggX3_cost_X3_costOf
theorem dX3_cost_0 : decode cX3_cost 0 = .ok (.aload_n 0, 1) := by decide +kernel
theorem dX3_cost_1 : decode cX3_cost 1 = .ok (.iload_n 1, 1) := by decide +kernel
theorem dX3_cost_2 : decode cX3_cost 2 = .ok (.invokevirtual 95, 3) := by decide +kernel
theorem dX3_cost_5 : decode cX3_cost 5 = .ok (.ifCond .eq 11, 3) := by decide +kernel
theorem dX3_cost_8 : decode cX3_cost 8 = .ok (.aload_n 0, 1) := by decide +kernel
theorem dX3_cost_9 : decode cX3_cost 9 = .ok (.iload_n 1, 1) := by decide +kernel
theorem dX3_cost_10 : decode cX3_cost 10 = .ok (.invokevirtual 98, 3) := by decide +kernel
theorem dX3_cost_13 : decode cX3_cost 13 = .ok (.goto 4, 3) := by decide +kernel
theorem dX3_cost_16 : decode cX3_cost 16 = .ok (.iconst 0, 1) := by decide +kernel
theorem dX3_cost_17 : decode cX3_cost 17 = .ok (.ireturn, 1) := by decide +kernel
set_option maxRecDepth 20000 in
theorem ggX3_extend_X3_asksEnvironment : GoodIn wsX3_extend wsX3_asksEnvironment := goodIn_r _ [8, 9, 10, 11, 12, 7, 13, 2, 14, 15, 16, 17, 18, 19, 1, 20, 21, 22, 23, 24, 25, 26, 27, 28, 29, 30, 31, 32, 33, 34, 35, 40, 41, 42, 43, 44, 45, 46, 47, 48, 49, 50, 51, 52] (by decide +kernel) (by decide +kernel)
set_option maxRecDepth 20000 in
theorem gX3_extend_X3_asksEnvironment : GoodIn wsX3_extend (wsV RX3 95 RX3 yX3_asksEnvironment wsX3_asksEnvironment) := goodIn_app (goodIn_of _ (by decide +kernel)) ggX3_extend_X3_asksEnvironment
set_option maxRecDepth 20000 in
theorem ggX3_extend_X3_no : GoodIn wsX3_extend wsX3_no := goodIn_r _ [39, 9, 40, 41, 42, 43, 44, 45, 46, 47, 48, 49, 50, 51, 52] (by decide +kernel) (by decide +kernel)
set_option maxRecDepth 20000 in
theorem gX3_extend_X3_no : GoodIn wsX3_extend (wsV RX3 49 RX3 yX3_no wsX3_no) := goodIn_app (goodIn_of _ (by decide +kernel)) ggX3_extend_X3_no
theorem dX3_extend_0 : decode cX3_extend 0 = .ok (.aload_n 0, 1) := by decide +kernel
theorem dX3_extend_1 : decode cX3_extend 1 = .ok (.iload_n 1, 1) := by decide +kernel
theorem dX3_extend_2 : decode cX3_extend 2 = .ok (.invokevirtual 95, 3) := by decide +kernel
theorem dX3_extend_5 : decode cX3_extend 5 = .ok (.ifCond .ne 5, 3) := by decide +kernel
theorem dX3_extend_8 : decode cX3_extend 8 = .ok (.iconst 0, 1) := by decide +kernel
theorem dX3_extend_9 : decode cX3_extend 9 = .ok (.ireturn, 1) := by decide +kernel
theorem dX3_extend_10 : decode cX3_extend 10 = .ok (.aload_n 0, 1) := by decide +kernel
theorem dX3_extend_11 : decode cX3_extend 11 = .ok (.getfield 32, 3) := by decide +kernel
theorem dX3_extend_14 : decode cX3_extend 14 = .ok (.iload_n 1, 1) := by decide +kernel
theorem dX3_extend_15 : decode cX3_extend 15 = .ok (.baload, 1) := by decide +kernel
theorem dX3_extend_16 : decode cX3_extend 16 = .ok (.ifCond .ne 9, 3) := by decide +kernel
theorem dX3_extend_19 : decode cX3_extend 19 = .ok (.aload_n 0, 1) := by decide +kernel
theorem dX3_extend_20 : decode cX3_extend 20 = .ok (.iconst 2, 1) := by decide +kernel
theorem dX3_extend_21 : decode cX3_extend 21 = .ok (.invokevirtual 49, 3) := by decide +kernel
theorem dX3_extend_24 : decode cX3_extend 24 = .ok (.ireturn, 1) := by decide +kernel
theorem dX3_extend_25 : decode cX3_extend 25 = .ok (.iload_n 1, 1) := by decide +kernel
theorem dX3_extend_26 : decode cX3_extend 26 = .ok (.istore_n 2, 1) := by decide +kernel
theorem dX3_extend_27 : decode cX3_extend 27 = .ok (.iload_n 1, 1) := by decide +kernel
theorem dX3_extend_28 : decode cX3_extend 28 = .ok (.istore_n 3, 1) := by decide +kernel
theorem dX3_extend_29 : decode cX3_extend 29 = .ok (.iload_n 3, 1) := by decide +kernel
theorem dX3_extend_30 : decode cX3_extend 30 = .ok (.iconst 1, 1) := by decide +kernel
theorem dX3_extend_31 : decode cX3_extend 31 = .ok (.aload_n 0, 1) := by decide +kernel
theorem dX3_extend_32 : decode cX3_extend 32 = .ok (.getfield 42, 3) := by decide +kernel
theorem dX3_extend_35 : decode cX3_extend 35 = .ok (.ishl, 1) := by decide +kernel
theorem dX3_extend_36 : decode cX3_extend 36 = .ok (.iconst 1, 1) := by decide +kernel
theorem dX3_extend_37 : decode cX3_extend 37 = .ok (.isub, 1) := by decide +kernel
theorem dX3_extend_38 : decode cX3_extend 38 = .ok (.if_icmp .eq 91, 3) := by decide +kernel
theorem dX3_extend_41 : decode cX3_extend 41 = .ok (.iconst (-1), 1) := by decide +kernel
theorem dX3_extend_42 : decode cX3_extend 42 = .ok (.istore 4, 2) := by decide +kernel
theorem dX3_extend_44 : decode cX3_extend 44 = .ok (.iconst 0, 1) := by decide +kernel
theorem dX3_extend_45 : decode cX3_extend 45 = .ok (.istore 5, 2) := by decide +kernel
theorem dX3_extend_47 : decode cX3_extend 47 = .ok (.iload 5, 2) := by decide +kernel
theorem dX3_extend_49 : decode cX3_extend 49 = .ok (.aload_n 0, 1) := by decide +kernel
theorem dX3_extend_50 : decode cX3_extend 50 = .ok (.getfield 42, 3) := by decide +kernel
theorem dX3_extend_53 : decode cX3_extend 53 = .ok (.if_icmp .ge 45, 3) := by decide +kernel
theorem dX3_extend_56 : decode cX3_extend 56 = .ok (.iload_n 3, 1) := by decide +kernel
theorem dX3_extend_57 : decode cX3_extend 57 = .ok (.iload 5, 2) := by decide +kernel
theorem dX3_extend_59 : decode cX3_extend 59 = .ok (.ishr, 1) := by decide +kernel
theorem dX3_extend_60 : decode cX3_extend 60 = .ok (.iconst 1, 1) := by decide +kernel
theorem dX3_extend_61 : decode cX3_extend 61 = .ok (.iand, 1) := by decide +kernel
theorem dX3_extend_62 : decode cX3_extend 62 = .ok (.ifCond .ne 30, 3) := by decide +kernel
theorem dX3_extend_65 : decode cX3_extend 65 = .ok (.iload 4, 2) := by decide +kernel
theorem dX3_extend_67 : decode cX3_extend 67 = .ok (.iconst (-1), 1) := by decide +kernel
theorem dX3_extend_68 : decode cX3_extend 68 = .ok (.if_icmp .eq 20, 3) := by decide +kernel
theorem dX3_extend_71 : decode cX3_extend 71 = .ok (.aload_n 0, 1) := by decide +kernel
theorem dX3_extend_72 : decode cX3_extend 72 = .ok (.getfield 16, 3) := by decide +kernel
theorem dX3_extend_75 : decode cX3_extend 75 = .ok (.iload 5, 2) := by decide +kernel
theorem dX3_extend_77 : decode cX3_extend 77 = .ok (.iaload, 1) := by decide +kernel
theorem dX3_extend_78 : decode cX3_extend 78 = .ok (.aload_n 0, 1) := by decide +kernel
theorem dX3_extend_79 : decode cX3_extend 79 = .ok (.getfield 16, 3) := by decide +kernel
theorem dX3_extend_82 : decode cX3_extend 82 = .ok (.iload 4, 2) := by decide +kernel
theorem dX3_extend_84 : decode cX3_extend 84 = .ok (.iaload, 1) := by decide +kernel
theorem dX3_extend_85 : decode cX3_extend 85 = .ok (.if_icmp .le 7, 3) := by decide +kernel
theorem dX3_extend_88 : decode cX3_extend 88 = .ok (.iload 5, 2) := by decide +kernel
theorem dX3_extend_90 : decode cX3_extend 90 = .ok (.istore 4, 2) := by decide +kernel
theorem dX3_extend_92 : decode cX3_extend 92 = .ok (.iinc 5 1, 3) := by decide +kernel
theorem dX3_extend_95 : decode cX3_extend 95 = .ok (.goto (-48), 3) := by decide +kernel
theorem dX3_extend_98 : decode cX3_extend 98 = .ok (.iload_n 3, 1) := by decide +kernel
theorem dX3_extend_99 : decode cX3_extend 99 = .ok (.iconst 1, 1) := by decide +kernel
theorem dX3_extend_100 : decode cX3_extend 100 = .ok (.iload 4, 2) := by decide +kernel
theorem dX3_extend_102 : decode cX3_extend 102 = .ok (.ishl, 1) := by decide +kernel
theorem dX3_extend_103 : decode cX3_extend 103 = .ok (.ior, 1) := by decide +kernel
theorem dX3_extend_104 : decode cX3_extend 104 = .ok (.istore_n 3, 1) := by decide +kernel
theorem dX3_extend_105 : decode cX3_extend 105 = .ok (.aload_n 0, 1) := by decide +kernel
theorem dX3_extend_106 : decode cX3_extend 106 = .ok (.getfield 32, 3) := by decide +kernel
theorem dX3_extend_109 : decode cX3_extend 109 = .ok (.iload_n 2, 1) := by decide +kernel
theorem dX3_extend_110 : decode cX3_extend 110 = .ok (.iconst 1, 1) := by decide +kernel
theorem dX3_extend_111 : decode cX3_extend 111 = .ok (.iload 4, 2) := by decide +kernel
theorem dX3_extend_113 : decode cX3_extend 113 = .ok (.ishl, 1) := by decide +kernel
theorem dX3_extend_114 : decode cX3_extend 114 = .ok (.ior, 1) := by decide +kernel
theorem dX3_extend_115 : decode cX3_extend 115 = .ok (.baload, 1) := by decide +kernel
theorem dX3_extend_116 : decode cX3_extend 116 = .ok (.ifCond .eq 10, 3) := by decide +kernel
theorem dX3_extend_119 : decode cX3_extend 119 = .ok (.iload_n 2, 1) := by decide +kernel
theorem dX3_extend_120 : decode cX3_extend 120 = .ok (.iconst 1, 1) := by decide +kernel
theorem dX3_extend_121 : decode cX3_extend 121 = .ok (.iload 4, 2) := by decide +kernel
theorem dX3_extend_123 : decode cX3_extend 123 = .ok (.ishl, 1) := by decide +kernel
theorem dX3_extend_124 : decode cX3_extend 124 = .ok (.ior, 1) := by decide +kernel
theorem dX3_extend_125 : decode cX3_extend 125 = .ok (.istore_n 2, 1) := by decide +kernel
theorem dX3_extend_126 : decode cX3_extend 126 = .ok (.goto (-97), 3) := by decide +kernel
theorem dX3_extend_129 : decode cX3_extend 129 = .ok (.iload_n 2, 1) := by decide +kernel
theorem dX3_extend_130 : decode cX3_extend 130 = .ok (.ireturn, 1) := by decide +kernel
set_option maxRecDepth 20000 in
theorem ggX3_isGood_X3_has : GoodIn wsX3_isGood wsX3_has := goodIn_r _ [6, 7, 8, 9, 10, 11, 12, 13, 14, 15, 16, 17, 18, 19, 20] (by decide +kernel) (by decide +kernel)
set_option maxRecDepth 20000 in
theorem gX3_isGood_X3_has : GoodIn wsX3_isGood (wsV RX3 88 RX3 yX3_has wsX3_has) := goodIn_app (goodIn_of _ (by decide +kernel)) ggX3_isGood_X3_has
theorem dX3_isGood_0 : decode cX3_isGood 0 = .ok (.aload_n 0, 1) := by decide +kernel
theorem dX3_isGood_1 : decode cX3_isGood 1 = .ok (.getfield 32, 3) := by decide +kernel
theorem dX3_isGood_4 : decode cX3_isGood 4 = .ok (.iload_n 2, 1) := by decide +kernel
theorem dX3_isGood_5 : decode cX3_isGood 5 = .ok (.baload, 1) := by decide +kernel
theorem dX3_isGood_6 : decode cX3_isGood 6 = .ok (.ifCond .eq 16, 3) := by decide +kernel
theorem dX3_isGood_9 : decode cX3_isGood 9 = .ok (.aload_n 0, 1) := by decide +kernel
theorem dX3_isGood_10 : decode cX3_isGood 10 = .ok (.iload_n 1, 1) := by decide +kernel
theorem dX3_isGood_11 : decode cX3_isGood 11 = .ok (.iload_n 2, 1) := by decide +kernel
theorem dX3_isGood_12 : decode cX3_isGood 12 = .ok (.invokevirtual 88, 3) := by decide +kernel
theorem dX3_isGood_15 : decode cX3_isGood 15 = .ok (.ifCond .eq 7, 3) := by decide +kernel
theorem dX3_isGood_18 : decode cX3_isGood 18 = .ok (.iconst 1, 1) := by decide +kernel
theorem dX3_isGood_19 : decode cX3_isGood 19 = .ok (.goto 4, 3) := by decide +kernel
theorem dX3_isGood_22 : decode cX3_isGood 22 = .ok (.iconst 0, 1) := by decide +kernel
theorem dX3_isGood_23 : decode cX3_isGood 23 = .ok (.ireturn, 1) := by decide +kernel
set_option maxRecDepth 20000 in
theorem ggX3_isLabel_X3_isGood : GoodIn wsX3_isLabel wsX3_isGood := goodIn_r _ [5, 6, 7, 8, 9, 4, 10, 11, 15, 16, 17, 18, 19, 20, 21, 22, 23, 24, 25, 26, 27] (by decide +kernel) (by decide +kernel)
set_option maxRecDepth 20000 in
theorem gX3_isLabel_X3_isGood : GoodIn wsX3_isLabel (wsV RX3 101 RX3 yX3_isGood wsX3_isGood) := goodIn_app (goodIn_of _ (by decide +kernel)) ggX3_isLabel_X3_isGood
set_option maxRecDepth 20000 in
theorem ggX3_isLabel_X3_isIn : GoodIn wsX3_isLabel wsX3_isIn := goodIn_r _ [14] (by decide +kernel) (by decide +kernel)
set_option maxRecDepth 20000 in
theorem gX3_isLabel_X3_isIn : GoodIn wsX3_isLabel (va_wsS RX3 69 yX3_isIn wsX3_isIn) := goodIn_app (goodIn_of _ (by decide +kernel)) ggX3_isLabel_X3_isIn
theorem dX3_isLabel_0 : decode cX3_isLabel 0 = .ok (.aload_n 0, 1) := by decide +kernel
theorem dX3_isLabel_1 : decode cX3_isLabel 1 = .ok (.iload_n 1, 1) := by decide +kernel
theorem dX3_isLabel_2 : decode cX3_isLabel 2 = .ok (.iload_n 2, 1) := by decide +kernel
theorem dX3_isLabel_3 : decode cX3_isLabel 3 = .ok (.invokevirtual 101, 3) := by decide +kernel
theorem dX3_isLabel_6 : decode cX3_isLabel 6 = .ok (.istore_n 3, 1) := by decide +kernel
theorem dX3_isLabel_7 : decode cX3_isLabel 7 = .ok (.iconst 0, 1) := by decide +kernel
theorem dX3_isLabel_8 : decode cX3_isLabel 8 = .ok (.istore 4, 2) := by decide +kernel
theorem dX3_isLabel_10 : decode cX3_isLabel 10 = .ok (.iload 4, 2) := by decide +kernel
theorem dX3_isLabel_12 : decode cX3_isLabel 12 = .ok (.iload_n 2, 1) := by decide +kernel
theorem dX3_isLabel_13 : decode cX3_isLabel 13 = .ok (.if_icmp .ge 38, 3) := by decide +kernel
theorem dX3_isLabel_16 : decode cX3_isLabel 16 = .ok (.iload_n 3, 1) := by decide +kernel
theorem dX3_isLabel_17 : decode cX3_isLabel 17 = .ok (.ifCond .eq 34, 3) := by decide +kernel
theorem dX3_isLabel_20 : decode cX3_isLabel 20 = .ok (.iload 4, 2) := by decide +kernel
theorem dX3_isLabel_22 : decode cX3_isLabel 22 = .ok (.iload_n 2, 1) := by decide +kernel
theorem dX3_isLabel_23 : decode cX3_isLabel 23 = .ok (.invokestatic 69, 3) := by decide +kernel
theorem dX3_isLabel_26 : decode cX3_isLabel 26 = .ok (.ifCond .eq 13, 3) := by decide +kernel
theorem dX3_isLabel_29 : decode cX3_isLabel 29 = .ok (.aload_n 0, 1) := by decide +kernel
theorem dX3_isLabel_30 : decode cX3_isLabel 30 = .ok (.iload_n 1, 1) := by decide +kernel
theorem dX3_isLabel_31 : decode cX3_isLabel 31 = .ok (.iload 4, 2) := by decide +kernel
theorem dX3_isLabel_33 : decode cX3_isLabel 33 = .ok (.invokevirtual 101, 3) := by decide +kernel
theorem dX3_isLabel_36 : decode cX3_isLabel 36 = .ok (.ifCond .ne 7, 3) := by decide +kernel
theorem dX3_isLabel_39 : decode cX3_isLabel 39 = .ok (.iconst 1, 1) := by decide +kernel
theorem dX3_isLabel_40 : decode cX3_isLabel 40 = .ok (.goto 4, 3) := by decide +kernel
theorem dX3_isLabel_43 : decode cX3_isLabel 43 = .ok (.iconst 0, 1) := by decide +kernel
theorem dX3_isLabel_44 : decode cX3_isLabel 44 = .ok (.istore_n 3, 1) := by decide +kernel
theorem dX3_isLabel_45 : decode cX3_isLabel 45 = .ok (.iinc 4 1, 3) := by decide +kernel
theorem dX3_isLabel_48 : decode cX3_isLabel 48 = .ok (.goto (-38), 3) := by decide +kernel
theorem dX3_isLabel_51 : decode cX3_isLabel 51 = .ok (.iload_n 3, 1) := by decide +kernel
theorem dX3_isLabel_52 : decode cX3_isLabel 52 = .ok (.ireturn, 1) := by decide +kernel
set_option maxRecDepth 20000 in
theorem ggX3_isNogood_X3_isIn : GoodIn wsX3_isNogood wsX3_isIn := goodIn_r _ [5] (by decide +kernel) (by decide +kernel)
set_option maxRecDepth 20000 in
theorem gX3_isNogood_X3_isIn : GoodIn wsX3_isNogood (va_wsS RX3 69 yX3_isIn wsX3_isIn) := goodIn_app (goodIn_of _ (by decide +kernel)) ggX3_isNogood_X3_isIn
theorem dX3_isNogood_0 : decode cX3_isNogood 0 = .ok (.aload_n 0, 1) := by decide +kernel
theorem dX3_isNogood_1 : decode cX3_isNogood 1 = .ok (.getfield 32, 3) := by decide +kernel
theorem dX3_isNogood_4 : decode cX3_isNogood 4 = .ok (.iload_n 1, 1) := by decide +kernel
theorem dX3_isNogood_5 : decode cX3_isNogood 5 = .ok (.baload, 1) := by decide +kernel
theorem dX3_isNogood_6 : decode cX3_isNogood 6 = .ok (.ifCond .ne 7, 3) := by decide +kernel
theorem dX3_isNogood_9 : decode cX3_isNogood 9 = .ok (.iconst 1, 1) := by decide +kernel
theorem dX3_isNogood_10 : decode cX3_isNogood 10 = .ok (.goto 4, 3) := by decide +kernel
theorem dX3_isNogood_13 : decode cX3_isNogood 13 = .ok (.iconst 0, 1) := by decide +kernel
theorem dX3_isNogood_14 : decode cX3_isNogood 14 = .ok (.istore_n 2, 1) := by decide +kernel
theorem dX3_isNogood_15 : decode cX3_isNogood 15 = .ok (.iconst 0, 1) := by decide +kernel
theorem dX3_isNogood_16 : decode cX3_isNogood 16 = .ok (.istore_n 3, 1) := by decide +kernel
theorem dX3_isNogood_17 : decode cX3_isNogood 17 = .ok (.iload_n 3, 1) := by decide +kernel
theorem dX3_isNogood_18 : decode cX3_isNogood 18 = .ok (.iload_n 1, 1) := by decide +kernel
theorem dX3_isNogood_19 : decode cX3_isNogood 19 = .ok (.if_icmp .ge 36, 3) := by decide +kernel
theorem dX3_isNogood_22 : decode cX3_isNogood 22 = .ok (.iload_n 2, 1) := by decide +kernel
theorem dX3_isNogood_23 : decode cX3_isNogood 23 = .ok (.ifCond .eq 32, 3) := by decide +kernel
theorem dX3_isNogood_26 : decode cX3_isNogood 26 = .ok (.aload_n 0, 1) := by decide +kernel
theorem dX3_isNogood_27 : decode cX3_isNogood 27 = .ok (.getfield 32, 3) := by decide +kernel
theorem dX3_isNogood_30 : decode cX3_isNogood 30 = .ok (.iload_n 3, 1) := by decide +kernel
theorem dX3_isNogood_31 : decode cX3_isNogood 31 = .ok (.baload, 1) := by decide +kernel
theorem dX3_isNogood_32 : decode cX3_isNogood 32 = .ok (.ifCond .ne 11, 3) := by decide +kernel
theorem dX3_isNogood_35 : decode cX3_isNogood 35 = .ok (.iload_n 3, 1) := by decide +kernel
theorem dX3_isNogood_36 : decode cX3_isNogood 36 = .ok (.iload_n 1, 1) := by decide +kernel
theorem dX3_isNogood_37 : decode cX3_isNogood 37 = .ok (.invokestatic 69, 3) := by decide +kernel
theorem dX3_isNogood_40 : decode cX3_isNogood 40 = .ok (.ifCond .ne 7, 3) := by decide +kernel
theorem dX3_isNogood_43 : decode cX3_isNogood 43 = .ok (.iconst 1, 1) := by decide +kernel
theorem dX3_isNogood_44 : decode cX3_isNogood 44 = .ok (.goto 4, 3) := by decide +kernel
theorem dX3_isNogood_47 : decode cX3_isNogood 47 = .ok (.iconst 0, 1) := by decide +kernel
theorem dX3_isNogood_48 : decode cX3_isNogood 48 = .ok (.istore_n 2, 1) := by decide +kernel
theorem dX3_isNogood_49 : decode cX3_isNogood 49 = .ok (.iinc 3 1, 3) := by decide +kernel
theorem dX3_isNogood_52 : decode cX3_isNogood 52 = .ok (.goto (-35), 3) := by decide +kernel
theorem dX3_isNogood_55 : decode cX3_isNogood 55 = .ok (.iload_n 2, 1) := by decide +kernel
theorem dX3_isNogood_56 : decode cX3_isNogood 56 = .ok (.ireturn, 1) := by decide +kernel
set_option maxRecDepth 20000 in
theorem ggX3_isWorld_X3_isIn : GoodIn wsX3_isWorld wsX3_isIn := goodIn_r _ [6] (by decide +kernel) (by decide +kernel)
set_option maxRecDepth 20000 in
theorem gX3_isWorld_X3_isIn : GoodIn wsX3_isWorld (va_wsS RX3 69 yX3_isIn wsX3_isIn) := goodIn_app (goodIn_of _ (by decide +kernel)) ggX3_isWorld_X3_isIn
theorem dX3_isWorld_0 : decode cX3_isWorld 0 = .ok (.aload_n 0, 1) := by decide +kernel
theorem dX3_isWorld_1 : decode cX3_isWorld 1 = .ok (.getfield 32, 3) := by decide +kernel
theorem dX3_isWorld_4 : decode cX3_isWorld 4 = .ok (.iload_n 1, 1) := by decide +kernel
theorem dX3_isWorld_5 : decode cX3_isWorld 5 = .ok (.baload, 1) := by decide +kernel
theorem dX3_isWorld_6 : decode cX3_isWorld 6 = .ok (.istore_n 2, 1) := by decide +kernel
theorem dX3_isWorld_7 : decode cX3_isWorld 7 = .ok (.iload_n 1, 1) := by decide +kernel
theorem dX3_isWorld_8 : decode cX3_isWorld 8 = .ok (.iconst 1, 1) := by decide +kernel
theorem dX3_isWorld_9 : decode cX3_isWorld 9 = .ok (.iadd, 1) := by decide +kernel
theorem dX3_isWorld_10 : decode cX3_isWorld 10 = .ok (.istore_n 3, 1) := by decide +kernel
theorem dX3_isWorld_11 : decode cX3_isWorld 11 = .ok (.iload_n 3, 1) := by decide +kernel
theorem dX3_isWorld_12 : decode cX3_isWorld 12 = .ok (.iconst 1, 1) := by decide +kernel
theorem dX3_isWorld_13 : decode cX3_isWorld 13 = .ok (.aload_n 0, 1) := by decide +kernel
theorem dX3_isWorld_14 : decode cX3_isWorld 14 = .ok (.getfield 42, 3) := by decide +kernel
theorem dX3_isWorld_17 : decode cX3_isWorld 17 = .ok (.ishl, 1) := by decide +kernel
theorem dX3_isWorld_18 : decode cX3_isWorld 18 = .ok (.if_icmp .ge 36, 3) := by decide +kernel
theorem dX3_isWorld_21 : decode cX3_isWorld 21 = .ok (.iload_n 2, 1) := by decide +kernel
theorem dX3_isWorld_22 : decode cX3_isWorld 22 = .ok (.ifCond .eq 32, 3) := by decide +kernel
theorem dX3_isWorld_25 : decode cX3_isWorld 25 = .ok (.aload_n 0, 1) := by decide +kernel
theorem dX3_isWorld_26 : decode cX3_isWorld 26 = .ok (.getfield 32, 3) := by decide +kernel
theorem dX3_isWorld_29 : decode cX3_isWorld 29 = .ok (.iload_n 3, 1) := by decide +kernel
theorem dX3_isWorld_30 : decode cX3_isWorld 30 = .ok (.baload, 1) := by decide +kernel
theorem dX3_isWorld_31 : decode cX3_isWorld 31 = .ok (.ifCond .eq 11, 3) := by decide +kernel
theorem dX3_isWorld_34 : decode cX3_isWorld 34 = .ok (.iload_n 1, 1) := by decide +kernel
theorem dX3_isWorld_35 : decode cX3_isWorld 35 = .ok (.iload_n 3, 1) := by decide +kernel
theorem dX3_isWorld_36 : decode cX3_isWorld 36 = .ok (.invokestatic 69, 3) := by decide +kernel
theorem dX3_isWorld_39 : decode cX3_isWorld 39 = .ok (.ifCond .ne 7, 3) := by decide +kernel
theorem dX3_isWorld_42 : decode cX3_isWorld 42 = .ok (.iconst 1, 1) := by decide +kernel
theorem dX3_isWorld_43 : decode cX3_isWorld 43 = .ok (.goto 4, 3) := by decide +kernel
theorem dX3_isWorld_46 : decode cX3_isWorld 46 = .ok (.iconst 0, 1) := by decide +kernel
theorem dX3_isWorld_47 : decode cX3_isWorld 47 = .ok (.istore_n 2, 1) := by decide +kernel
theorem dX3_isWorld_48 : decode cX3_isWorld 48 = .ok (.iinc 3 1, 3) := by decide +kernel
theorem dX3_isWorld_51 : decode cX3_isWorld 51 = .ok (.goto (-40), 3) := by decide +kernel
theorem dX3_isWorld_54 : decode cX3_isWorld 54 = .ok (.iload_n 2, 1) := by decide +kernel
theorem dX3_isWorld_55 : decode cX3_isWorld 55 = .ok (.ireturn, 1) := by decide +kernel
set_option maxRecDepth 20000 in
theorem ggX3_find_X3_isLabel : GoodIn wsX3_find wsX3_isLabel := goodIn_r _ [6, 7, 8, 9, 5, 10, 11, 12, 13, 14, 15, 16, 17, 18, 19, 28, 29, 30, 31, 32, 33, 34, 35, 36, 37, 38, 39, 40] (by decide +kernel) (by decide +kernel)
set_option maxRecDepth 20000 in
theorem gX3_find_X3_isLabel : GoodIn wsX3_find (wsV RX3 104 RX3 yX3_isLabel wsX3_isLabel) := goodIn_app (goodIn_of _ (by decide +kernel)) ggX3_find_X3_isLabel
set_option maxRecDepth 20000 in
theorem ggX3_find_X3_isNogood : GoodIn wsX3_find wsX3_isNogood := goodIn_r _ [23, 11, 17, 18, 5, 19, 28, 29, 30, 31, 32, 33, 34, 35, 36, 37, 38, 39, 40] (by decide +kernel) (by decide +kernel)
set_option maxRecDepth 20000 in
theorem gX3_find_X3_isNogood : GoodIn wsX3_find (wsV RX3 107 RX3 yX3_isNogood wsX3_isNogood) := goodIn_app (goodIn_of _ (by decide +kernel)) ggX3_find_X3_isNogood
set_option maxRecDepth 20000 in
theorem ggX3_find_X3_isWorld : GoodIn wsX3_find wsX3_isWorld := goodIn_r _ [27, 11, 1, 17, 18, 5, 19, 28, 29, 30, 31, 32, 33, 34, 35, 36, 37, 38, 39, 40] (by decide +kernel) (by decide +kernel)
set_option maxRecDepth 20000 in
theorem gX3_find_X3_isWorld : GoodIn wsX3_find (wsV RX3 110 RX3 yX3_isWorld wsX3_isWorld) := goodIn_app (goodIn_of _ (by decide +kernel)) ggX3_find_X3_isWorld
theorem dX3_find_0 : decode cX3_find 0 = .ok (.iload_n 3, 1) := by decide +kernel
theorem dX3_find_1 : decode cX3_find 1 = .ok (.istore 4, 2) := by decide +kernel
theorem dX3_find_3 : decode cX3_find 3 = .ok (.iconst 0, 1) := by decide +kernel
theorem dX3_find_4 : decode cX3_find 4 = .ok (.istore 5, 2) := by decide +kernel
theorem dX3_find_6 : decode cX3_find 6 = .ok (.iload 5, 2) := by decide +kernel
theorem dX3_find_8 : decode cX3_find 8 = .ok (.iconst 1, 1) := by decide +kernel
theorem dX3_find_9 : decode cX3_find 9 = .ok (.aload_n 0, 1) := by decide +kernel
theorem dX3_find_10 : decode cX3_find 10 = .ok (.getfield 42, 3) := by decide +kernel
theorem dX3_find_13 : decode cX3_find 13 = .ok (.ishl, 1) := by decide +kernel
theorem dX3_find_14 : decode cX3_find 14 = .ok (.if_icmp .ge 73, 3) := by decide +kernel
theorem dX3_find_17 : decode cX3_find 17 = .ok (.iload 4, 2) := by decide +kernel
theorem dX3_find_19 : decode cX3_find 19 = .ok (.ifCond .lt 68, 3) := by decide +kernel
theorem dX3_find_22 : decode cX3_find 22 = .ok (.iload_n 1, 1) := by decide +kernel
theorem dX3_find_23 : decode cX3_find 23 = .ok (.ifCond .ne 13, 3) := by decide +kernel
theorem dX3_find_26 : decode cX3_find 26 = .ok (.aload_n 0, 1) := by decide +kernel
theorem dX3_find_27 : decode cX3_find 27 = .ok (.iload_n 2, 1) := by decide +kernel
theorem dX3_find_28 : decode cX3_find 28 = .ok (.iload 5, 2) := by decide +kernel
theorem dX3_find_30 : decode cX3_find 30 = .ok (.invokevirtual 104, 3) := by decide +kernel
theorem dX3_find_33 : decode cX3_find 33 = .ok (.goto 23, 3) := by decide +kernel
theorem dX3_find_36 : decode cX3_find 36 = .ok (.iload_n 1, 1) := by decide +kernel
theorem dX3_find_37 : decode cX3_find 37 = .ok (.iconst 1, 1) := by decide +kernel
theorem dX3_find_38 : decode cX3_find 38 = .ok (.if_icmp .ne 12, 3) := by decide +kernel
theorem dX3_find_41 : decode cX3_find 41 = .ok (.aload_n 0, 1) := by decide +kernel
theorem dX3_find_42 : decode cX3_find 42 = .ok (.iload 5, 2) := by decide +kernel
theorem dX3_find_44 : decode cX3_find 44 = .ok (.invokevirtual 107, 3) := by decide +kernel
theorem dX3_find_47 : decode cX3_find 47 = .ok (.goto 9, 3) := by decide +kernel
theorem dX3_find_50 : decode cX3_find 50 = .ok (.aload_n 0, 1) := by decide +kernel
theorem dX3_find_51 : decode cX3_find 51 = .ok (.iload 5, 2) := by decide +kernel
theorem dX3_find_53 : decode cX3_find 53 = .ok (.invokevirtual 110, 3) := by decide +kernel
theorem dX3_find_56 : decode cX3_find 56 = .ok (.istore 6, 2) := by decide +kernel
theorem dX3_find_58 : decode cX3_find 58 = .ok (.iload 4, 2) := by decide +kernel
theorem dX3_find_60 : decode cX3_find 60 = .ok (.iload 6, 2) := by decide +kernel
theorem dX3_find_62 : decode cX3_find 62 = .ok (.ifCond .eq 7, 3) := by decide +kernel
theorem dX3_find_65 : decode cX3_find 65 = .ok (.iconst 1, 1) := by decide +kernel
theorem dX3_find_66 : decode cX3_find 66 = .ok (.goto 4, 3) := by decide +kernel
theorem dX3_find_69 : decode cX3_find 69 = .ok (.iconst 0, 1) := by decide +kernel
theorem dX3_find_70 : decode cX3_find 70 = .ok (.isub, 1) := by decide +kernel
theorem dX3_find_71 : decode cX3_find 71 = .ok (.istore 4, 2) := by decide +kernel
theorem dX3_find_73 : decode cX3_find 73 = .ok (.iload 4, 2) := by decide +kernel
theorem dX3_find_75 : decode cX3_find 75 = .ok (.ifCond .ge 6, 3) := by decide +kernel
theorem dX3_find_78 : decode cX3_find 78 = .ok (.iload 5, 2) := by decide +kernel
theorem dX3_find_80 : decode cX3_find 80 = .ok (.ireturn, 1) := by decide +kernel
theorem dX3_find_81 : decode cX3_find 81 = .ok (.iinc 5 1, 3) := by decide +kernel
theorem dX3_find_84 : decode cX3_find 84 = .ok (.goto (-78), 3) := by decide +kernel
theorem dX3_find_87 : decode cX3_find 87 = .ok (.iconst (-1), 1) := by decide +kernel
theorem dX3_find_88 : decode cX3_find 88 = .ok (.ireturn, 1) := by decide +kernel
set_option maxRecDepth 20000 in
theorem ggX3_count_X3_isLabel : GoodIn wsX3_count wsX3_isLabel := goodIn_r _ [6, 7, 8, 9, 5, 10, 11, 12, 13, 14, 15, 16, 17, 18, 19, 28, 29, 30, 31, 32, 33, 34, 35, 36, 37, 38, 39, 40] (by decide +kernel) (by decide +kernel)
set_option maxRecDepth 20000 in
theorem gX3_count_X3_isLabel : GoodIn wsX3_count (wsV RX3 104 RX3 yX3_isLabel wsX3_isLabel) := goodIn_app (goodIn_of _ (by decide +kernel)) ggX3_count_X3_isLabel
set_option maxRecDepth 20000 in
theorem ggX3_count_X3_isNogood : GoodIn wsX3_count wsX3_isNogood := goodIn_r _ [23, 11, 17, 18, 5, 19, 28, 29, 30, 31, 32, 33, 34, 35, 36, 37, 38, 39, 40] (by decide +kernel) (by decide +kernel)
set_option maxRecDepth 20000 in
theorem gX3_count_X3_isNogood : GoodIn wsX3_count (wsV RX3 107 RX3 yX3_isNogood wsX3_isNogood) := goodIn_app (goodIn_of _ (by decide +kernel)) ggX3_count_X3_isNogood
set_option maxRecDepth 20000 in
theorem ggX3_count_X3_isWorld : GoodIn wsX3_count wsX3_isWorld := goodIn_r _ [27, 11, 1, 17, 18, 5, 19, 28, 29, 30, 31, 32, 33, 34, 35, 36, 37, 38, 39, 40] (by decide +kernel) (by decide +kernel)
set_option maxRecDepth 20000 in
theorem gX3_count_X3_isWorld : GoodIn wsX3_count (wsV RX3 110 RX3 yX3_isWorld wsX3_isWorld) := goodIn_app (goodIn_of _ (by decide +kernel)) ggX3_count_X3_isWorld
theorem dX3_count_0 : decode cX3_count 0 = .ok (.iconst 0, 1) := by decide +kernel
theorem dX3_count_1 : decode cX3_count 1 = .ok (.istore_n 3, 1) := by decide +kernel
theorem dX3_count_2 : decode cX3_count 2 = .ok (.iconst 0, 1) := by decide +kernel
theorem dX3_count_3 : decode cX3_count 3 = .ok (.istore 4, 2) := by decide +kernel
theorem dX3_count_5 : decode cX3_count 5 = .ok (.iload 4, 2) := by decide +kernel
theorem dX3_count_7 : decode cX3_count 7 = .ok (.iconst 1, 1) := by decide +kernel
theorem dX3_count_8 : decode cX3_count 8 = .ok (.aload_n 0, 1) := by decide +kernel
theorem dX3_count_9 : decode cX3_count 9 = .ok (.getfield 42, 3) := by decide +kernel
theorem dX3_count_12 : decode cX3_count 12 = .ok (.ishl, 1) := by decide +kernel
theorem dX3_count_13 : decode cX3_count 13 = .ok (.if_icmp .ge 60, 3) := by decide +kernel
theorem dX3_count_16 : decode cX3_count 16 = .ok (.iload_n 3, 1) := by decide +kernel
theorem dX3_count_17 : decode cX3_count 17 = .ok (.iload_n 1, 1) := by decide +kernel
theorem dX3_count_18 : decode cX3_count 18 = .ok (.ifCond .ne 16, 3) := by decide +kernel
theorem dX3_count_21 : decode cX3_count 21 = .ok (.aload_n 0, 1) := by decide +kernel
theorem dX3_count_22 : decode cX3_count 22 = .ok (.iload_n 2, 1) := by decide +kernel
theorem dX3_count_23 : decode cX3_count 23 = .ok (.iload 4, 2) := by decide +kernel
theorem dX3_count_25 : decode cX3_count 25 = .ok (.invokevirtual 104, 3) := by decide +kernel
theorem dX3_count_28 : decode cX3_count 28 = .ok (.ifCond .eq 36, 3) := by decide +kernel
theorem dX3_count_31 : decode cX3_count 31 = .ok (.goto 29, 3) := by decide +kernel
theorem dX3_count_34 : decode cX3_count 34 = .ok (.iload_n 1, 1) := by decide +kernel
theorem dX3_count_35 : decode cX3_count 35 = .ok (.iconst 1, 1) := by decide +kernel
theorem dX3_count_36 : decode cX3_count 36 = .ok (.if_icmp .ne 15, 3) := by decide +kernel
theorem dX3_count_39 : decode cX3_count 39 = .ok (.aload_n 0, 1) := by decide +kernel
theorem dX3_count_40 : decode cX3_count 40 = .ok (.iload 4, 2) := by decide +kernel
theorem dX3_count_42 : decode cX3_count 42 = .ok (.invokevirtual 107, 3) := by decide +kernel
theorem dX3_count_45 : decode cX3_count 45 = .ok (.ifCond .eq 19, 3) := by decide +kernel
theorem dX3_count_48 : decode cX3_count 48 = .ok (.goto 12, 3) := by decide +kernel
theorem dX3_count_51 : decode cX3_count 51 = .ok (.aload_n 0, 1) := by decide +kernel
theorem dX3_count_52 : decode cX3_count 52 = .ok (.iload 4, 2) := by decide +kernel
theorem dX3_count_54 : decode cX3_count 54 = .ok (.invokevirtual 110, 3) := by decide +kernel
theorem dX3_count_57 : decode cX3_count 57 = .ok (.ifCond .eq 7, 3) := by decide +kernel
theorem dX3_count_60 : decode cX3_count 60 = .ok (.iconst 1, 1) := by decide +kernel
theorem dX3_count_61 : decode cX3_count 61 = .ok (.goto 4, 3) := by decide +kernel
theorem dX3_count_64 : decode cX3_count 64 = .ok (.iconst 0, 1) := by decide +kernel
theorem dX3_count_65 : decode cX3_count 65 = .ok (.iadd, 1) := by decide +kernel
theorem dX3_count_66 : decode cX3_count 66 = .ok (.istore_n 3, 1) := by decide +kernel
theorem dX3_count_67 : decode cX3_count 67 = .ok (.iinc 4 1, 3) := by decide +kernel
theorem dX3_count_70 : decode cX3_count 70 = .ok (.goto (-65), 3) := by decide +kernel
theorem dX3_count_73 : decode cX3_count 73 = .ok (.iload_n 3, 1) := by decide +kernel
theorem dX3_count_74 : decode cX3_count 74 = .ok (.ireturn, 1) := by decide +kernel
set_option maxRecDepth 20000 in
theorem ggX3_labelSize_X3_asksNode : GoodIn wsX3_labelSize wsX3_asksNode := goodIn_r _ [5, 6, 7, 8, 9, 4, 10, 11, 12, 13, 14, 15, 16, 17, 18, 19, 20, 21, 22, 23, 24, 25, 26, 27, 28, 29, 30, 31, 32, 33, 34, 35, 60, 61, 62, 63, 64, 65, 66, 67, 68, 69, 70, 71, 72] (by decide +kernel) (by decide +kernel)
set_option maxRecDepth 20000 in
theorem gX3_labelSize_X3_asksNode : GoodIn wsX3_labelSize (wsV RX3 113 RX3 yX3_asksNode wsX3_asksNode) := goodIn_app (goodIn_of _ (by decide +kernel)) ggX3_labelSize_X3_asksNode
set_option maxRecDepth 20000 in
theorem ggX3_labelSize_X3_count : GoodIn wsX3_labelSize wsX3_count := goodIn_r _ [39, 17, 40, 41, 42, 4, 43, 44, 45, 46, 47, 19, 48, 49, 50, 51, 18, 33, 34, 35, 52, 53, 54, 55, 56, 57, 58, 59, 60, 61, 62, 63, 64, 65, 66, 67, 68, 69, 70, 71, 72] (by decide +kernel) (by decide +kernel)
set_option maxRecDepth 20000 in
theorem gX3_labelSize_X3_count : GoodIn wsX3_labelSize (wsV RX3 116 RX3 yX3_count wsX3_count) := goodIn_app (goodIn_of _ (by decide +kernel)) ggX3_labelSize_X3_count
theorem dX3_labelSize_0 : decode cX3_labelSize 0 = .ok (.aload_n 0, 1) := by decide +kernel
theorem dX3_labelSize_1 : decode cX3_labelSize 1 = .ok (.iload_n 1, 1) := by decide +kernel
theorem dX3_labelSize_2 : decode cX3_labelSize 2 = .ok (.invokevirtual 113, 3) := by decide +kernel
theorem dX3_labelSize_5 : decode cX3_labelSize 5 = .ok (.ifCond .eq 12, 3) := by decide +kernel
theorem dX3_labelSize_8 : decode cX3_labelSize 8 = .ok (.aload_n 0, 1) := by decide +kernel
theorem dX3_labelSize_9 : decode cX3_labelSize 9 = .ok (.iconst 0, 1) := by decide +kernel
theorem dX3_labelSize_10 : decode cX3_labelSize 10 = .ok (.iload_n 1, 1) := by decide +kernel
theorem dX3_labelSize_11 : decode cX3_labelSize 11 = .ok (.invokevirtual 116, 3) := by decide +kernel
theorem dX3_labelSize_14 : decode cX3_labelSize 14 = .ok (.goto 4, 3) := by decide +kernel
theorem dX3_labelSize_17 : decode cX3_labelSize 17 = .ok (.iconst 0, 1) := by decide +kernel
theorem dX3_labelSize_18 : decode cX3_labelSize 18 = .ok (.ireturn, 1) := by decide +kernel
set_option maxRecDepth 20000 in
theorem ggX3_label_X3_asksNode : GoodIn wsX3_label wsX3_asksNode := goodIn_r _ [5, 6, 7, 8, 9, 4, 10, 11, 12, 13, 14, 15, 16, 17, 18, 19, 20, 21, 22, 23, 24, 25, 26, 27, 28, 29, 30, 31, 32, 33, 34, 35, 64, 65, 66, 67, 68, 69, 70, 71, 72, 73, 74, 75, 76] (by decide +kernel) (by decide +kernel)
set_option maxRecDepth 20000 in
theorem gX3_label_X3_asksNode : GoodIn wsX3_label (wsV RX3 113 RX3 yX3_asksNode wsX3_asksNode) := goodIn_app (goodIn_of _ (by decide +kernel)) ggX3_label_X3_asksNode
set_option maxRecDepth 20000 in
theorem ggX3_label_X3_find : GoodIn wsX3_label wsX3_find := goodIn_r _ [39, 17, 40, 41, 42, 4, 43, 44, 45, 46, 47, 19, 48, 49, 50, 51, 18, 33, 34, 35, 52, 53, 54, 55, 56, 57, 58, 59, 64, 65, 66, 67, 68, 69, 70, 71, 72, 73, 74, 75, 76] (by decide +kernel) (by decide +kernel)
set_option maxRecDepth 20000 in
theorem gX3_label_X3_find : GoodIn wsX3_label (wsV RX3 119 RX3 yX3_find wsX3_find) := goodIn_app (goodIn_of _ (by decide +kernel)) ggX3_label_X3_find
set_option maxRecDepth 20000 in
theorem ggX3_label_X3_no : GoodIn wsX3_label wsX3_no := goodIn_r _ [63, 6, 64, 65, 66, 67, 68, 69, 70, 71, 72, 73, 74, 75, 76] (by decide +kernel) (by decide +kernel)
set_option maxRecDepth 20000 in
theorem gX3_label_X3_no : GoodIn wsX3_label (wsV RX3 49 RX3 yX3_no wsX3_no) := goodIn_app (goodIn_of _ (by decide +kernel)) ggX3_label_X3_no
theorem dX3_label_0 : decode cX3_label 0 = .ok (.aload_n 0, 1) := by decide +kernel
theorem dX3_label_1 : decode cX3_label 1 = .ok (.iload_n 1, 1) := by decide +kernel
theorem dX3_label_2 : decode cX3_label 2 = .ok (.invokevirtual 113, 3) := by decide +kernel
theorem dX3_label_5 : decode cX3_label 5 = .ok (.ifCond .ne 5, 3) := by decide +kernel
theorem dX3_label_8 : decode cX3_label 8 = .ok (.iconst 0, 1) := by decide +kernel
theorem dX3_label_9 : decode cX3_label 9 = .ok (.ireturn, 1) := by decide +kernel
theorem dX3_label_10 : decode cX3_label 10 = .ok (.aload_n 0, 1) := by decide +kernel
theorem dX3_label_11 : decode cX3_label 11 = .ok (.iconst 0, 1) := by decide +kernel
theorem dX3_label_12 : decode cX3_label 12 = .ok (.iload_n 1, 1) := by decide +kernel
theorem dX3_label_13 : decode cX3_label 13 = .ok (.iload_n 2, 1) := by decide +kernel
theorem dX3_label_14 : decode cX3_label 14 = .ok (.invokevirtual 119, 3) := by decide +kernel
theorem dX3_label_17 : decode cX3_label 17 = .ok (.istore_n 3, 1) := by decide +kernel
theorem dX3_label_18 : decode cX3_label 18 = .ok (.iload_n 3, 1) := by decide +kernel
theorem dX3_label_19 : decode cX3_label 19 = .ok (.iconst (-1), 1) := by decide +kernel
theorem dX3_label_20 : decode cX3_label 20 = .ok (.if_icmp .ne 11, 3) := by decide +kernel
theorem dX3_label_23 : decode cX3_label 23 = .ok (.aload_n 0, 1) := by decide +kernel
theorem dX3_label_24 : decode cX3_label 24 = .ok (.iconst 1, 1) := by decide +kernel
theorem dX3_label_25 : decode cX3_label 25 = .ok (.invokevirtual 49, 3) := by decide +kernel
theorem dX3_label_28 : decode cX3_label 28 = .ok (.goto 4, 3) := by decide +kernel
theorem dX3_label_31 : decode cX3_label 31 = .ok (.iload_n 3, 1) := by decide +kernel
theorem dX3_label_32 : decode cX3_label 32 = .ok (.ireturn, 1) := by decide +kernel
set_option maxRecDepth 20000 in
theorem ggX3_cheapest_X3_asksNode : GoodIn wsX3_cheapest wsX3_asksNode := goodIn_r _ [6, 7, 8, 9, 10, 5, 11, 12, 13, 14, 15, 16, 17, 1, 18, 19, 20, 21, 22, 23, 24, 25, 26, 27, 28, 29, 30, 31, 32, 33, 34, 35, 53, 54, 55, 56, 57, 58, 59, 60, 61, 62, 63, 64, 65] (by decide +kernel) (by decide +kernel)
set_option maxRecDepth 20000 in
theorem gX3_cheapest_X3_asksNode : GoodIn wsX3_cheapest (wsV RX3 113 RX3 yX3_asksNode wsX3_asksNode) := goodIn_app (goodIn_of _ (by decide +kernel)) ggX3_cheapest_X3_asksNode
set_option maxRecDepth 20000 in
theorem ggX3_cheapest_X3_isLabel : GoodIn wsX3_cheapest wsX3_isLabel := goodIn_r _ [39, 40, 41, 42, 5, 43, 19, 44, 45, 46, 47, 18, 33, 34, 35, 53, 54, 55, 56, 57, 58, 59, 60, 61, 62, 63, 64, 65] (by decide +kernel) (by decide +kernel)
set_option maxRecDepth 20000 in
theorem gX3_cheapest_X3_isLabel : GoodIn wsX3_cheapest (wsV RX3 104 RX3 yX3_isLabel wsX3_isLabel) := goodIn_app (goodIn_of _ (by decide +kernel)) ggX3_cheapest_X3_isLabel
set_option maxRecDepth 20000 in
theorem ggX3_cheapest_X3_costOf : GoodIn wsX3_cheapest wsX3_costOf := goodIn_r _ [51, 1, 52, 53, 54, 55, 56, 57, 58, 59, 60, 61, 62, 63, 64, 65] (by decide +kernel) (by decide +kernel)
set_option maxRecDepth 20000 in
theorem gX3_cheapest_X3_costOf : GoodIn wsX3_cheapest (wsV RX3 98 RX3 yX3_costOf wsX3_costOf) := goodIn_app (goodIn_of _ (by decide +kernel)) ggX3_cheapest_X3_costOf
theorem dX3_cheapest_0 : decode cX3_cheapest 0 = .ok (.aload_n 0, 1) := by decide +kernel
theorem dX3_cheapest_1 : decode cX3_cheapest 1 = .ok (.iload_n 1, 1) := by decide +kernel
theorem dX3_cheapest_2 : decode cX3_cheapest 2 = .ok (.invokevirtual 113, 3) := by decide +kernel
theorem dX3_cheapest_5 : decode cX3_cheapest 5 = .ok (.ifCond .ne 5, 3) := by decide +kernel
theorem dX3_cheapest_8 : decode cX3_cheapest 8 = .ok (.iconst 0, 1) := by decide +kernel
theorem dX3_cheapest_9 : decode cX3_cheapest 9 = .ok (.ireturn, 1) := by decide +kernel
theorem dX3_cheapest_10 : decode cX3_cheapest 10 = .ok (.iconst (-1), 1) := by decide +kernel
theorem dX3_cheapest_11 : decode cX3_cheapest 11 = .ok (.istore_n 2, 1) := by decide +kernel
theorem dX3_cheapest_12 : decode cX3_cheapest 12 = .ok (.iconst 0, 1) := by decide +kernel
theorem dX3_cheapest_13 : decode cX3_cheapest 13 = .ok (.istore_n 3, 1) := by decide +kernel
theorem dX3_cheapest_14 : decode cX3_cheapest 14 = .ok (.iload_n 3, 1) := by decide +kernel
theorem dX3_cheapest_15 : decode cX3_cheapest 15 = .ok (.iconst 1, 1) := by decide +kernel
theorem dX3_cheapest_16 : decode cX3_cheapest 16 = .ok (.aload_n 0, 1) := by decide +kernel
theorem dX3_cheapest_17 : decode cX3_cheapest 17 = .ok (.getfield 42, 3) := by decide +kernel
theorem dX3_cheapest_20 : decode cX3_cheapest 20 = .ok (.ishl, 1) := by decide +kernel
theorem dX3_cheapest_21 : decode cX3_cheapest 21 = .ok (.if_icmp .ge 38, 3) := by decide +kernel
theorem dX3_cheapest_24 : decode cX3_cheapest 24 = .ok (.aload_n 0, 1) := by decide +kernel
theorem dX3_cheapest_25 : decode cX3_cheapest 25 = .ok (.iload_n 1, 1) := by decide +kernel
theorem dX3_cheapest_26 : decode cX3_cheapest 26 = .ok (.iload_n 3, 1) := by decide +kernel
theorem dX3_cheapest_27 : decode cX3_cheapest 27 = .ok (.invokevirtual 104, 3) := by decide +kernel
theorem dX3_cheapest_30 : decode cX3_cheapest 30 = .ok (.ifCond .eq 23, 3) := by decide +kernel
theorem dX3_cheapest_33 : decode cX3_cheapest 33 = .ok (.iload_n 2, 1) := by decide +kernel
theorem dX3_cheapest_34 : decode cX3_cheapest 34 = .ok (.iconst (-1), 1) := by decide +kernel
theorem dX3_cheapest_35 : decode cX3_cheapest 35 = .ok (.if_icmp .eq 16, 3) := by decide +kernel
theorem dX3_cheapest_38 : decode cX3_cheapest 38 = .ok (.aload_n 0, 1) := by decide +kernel
theorem dX3_cheapest_39 : decode cX3_cheapest 39 = .ok (.iload_n 3, 1) := by decide +kernel
theorem dX3_cheapest_40 : decode cX3_cheapest 40 = .ok (.invokevirtual 98, 3) := by decide +kernel
theorem dX3_cheapest_43 : decode cX3_cheapest 43 = .ok (.aload_n 0, 1) := by decide +kernel
theorem dX3_cheapest_44 : decode cX3_cheapest 44 = .ok (.iload_n 2, 1) := by decide +kernel
theorem dX3_cheapest_45 : decode cX3_cheapest 45 = .ok (.invokevirtual 98, 3) := by decide +kernel
theorem dX3_cheapest_48 : decode cX3_cheapest 48 = .ok (.if_icmp .ge 5, 3) := by decide +kernel
theorem dX3_cheapest_51 : decode cX3_cheapest 51 = .ok (.iload_n 3, 1) := by decide +kernel
theorem dX3_cheapest_52 : decode cX3_cheapest 52 = .ok (.istore_n 2, 1) := by decide +kernel
theorem dX3_cheapest_53 : decode cX3_cheapest 53 = .ok (.iinc 3 1, 3) := by decide +kernel
theorem dX3_cheapest_56 : decode cX3_cheapest 56 = .ok (.goto (-42), 3) := by decide +kernel
theorem dX3_cheapest_59 : decode cX3_cheapest 59 = .ok (.iload_n 2, 1) := by decide +kernel
theorem dX3_cheapest_60 : decode cX3_cheapest 60 = .ok (.ireturn, 1) := by decide +kernel
set_option maxRecDepth 20000 in
theorem ggX3_needed_X3_asksNode : GoodIn wsX3_needed wsX3_asksNode := goodIn_r _ [6, 7, 8, 9, 10, 5, 11, 12, 13, 14, 15, 16, 17, 1, 18, 19, 20, 21, 22, 23, 24, 25, 26, 27, 28, 29, 30, 31, 32, 33, 34, 35, 48, 49, 50, 51, 52, 53, 54, 55, 56, 57, 58, 59, 60] (by decide +kernel) (by decide +kernel)
set_option maxRecDepth 20000 in
theorem gX3_needed_X3_asksNode : GoodIn wsX3_needed (wsV RX3 113 RX3 yX3_asksNode wsX3_asksNode) := goodIn_app (goodIn_of _ (by decide +kernel)) ggX3_needed_X3_asksNode
set_option maxRecDepth 20000 in
theorem ggX3_needed_X3_isLabel : GoodIn wsX3_needed wsX3_isLabel := goodIn_r _ [39, 40, 41, 42, 5, 43, 19, 44, 45, 46, 47, 18, 33, 34, 35, 48, 49, 50, 51, 52, 53, 54, 55, 56, 57, 58, 59, 60] (by decide +kernel) (by decide +kernel)
set_option maxRecDepth 20000 in
theorem gX3_needed_X3_isLabel : GoodIn wsX3_needed (wsV RX3 104 RX3 yX3_isLabel wsX3_isLabel) := goodIn_app (goodIn_of _ (by decide +kernel)) ggX3_needed_X3_isLabel
theorem dX3_needed_0 : decode cX3_needed 0 = .ok (.aload_n 0, 1) := by decide +kernel
theorem dX3_needed_1 : decode cX3_needed 1 = .ok (.iload_n 1, 1) := by decide +kernel
theorem dX3_needed_2 : decode cX3_needed 2 = .ok (.invokevirtual 113, 3) := by decide +kernel
theorem dX3_needed_5 : decode cX3_needed 5 = .ok (.ifCond .ne 5, 3) := by decide +kernel
theorem dX3_needed_8 : decode cX3_needed 8 = .ok (.iconst 0, 1) := by decide +kernel
theorem dX3_needed_9 : decode cX3_needed 9 = .ok (.ireturn, 1) := by decide +kernel
theorem dX3_needed_10 : decode cX3_needed 10 = .ok (.iconst 1, 1) := by decide +kernel
theorem dX3_needed_11 : decode cX3_needed 11 = .ok (.aload_n 0, 1) := by decide +kernel
theorem dX3_needed_12 : decode cX3_needed 12 = .ok (.getfield 42, 3) := by decide +kernel
theorem dX3_needed_15 : decode cX3_needed 15 = .ok (.ishl, 1) := by decide +kernel
theorem dX3_needed_16 : decode cX3_needed 16 = .ok (.iconst 1, 1) := by decide +kernel
theorem dX3_needed_17 : decode cX3_needed 17 = .ok (.isub, 1) := by decide +kernel
theorem dX3_needed_18 : decode cX3_needed 18 = .ok (.istore_n 2, 1) := by decide +kernel
theorem dX3_needed_19 : decode cX3_needed 19 = .ok (.iconst 0, 1) := by decide +kernel
theorem dX3_needed_20 : decode cX3_needed 20 = .ok (.istore_n 3, 1) := by decide +kernel
theorem dX3_needed_21 : decode cX3_needed 21 = .ok (.iload_n 3, 1) := by decide +kernel
theorem dX3_needed_22 : decode cX3_needed 22 = .ok (.iconst 1, 1) := by decide +kernel
theorem dX3_needed_23 : decode cX3_needed 23 = .ok (.aload_n 0, 1) := by decide +kernel
theorem dX3_needed_24 : decode cX3_needed 24 = .ok (.getfield 42, 3) := by decide +kernel
theorem dX3_needed_27 : decode cX3_needed 27 = .ok (.ishl, 1) := by decide +kernel
theorem dX3_needed_28 : decode cX3_needed 28 = .ok (.if_icmp .ge 22, 3) := by decide +kernel
theorem dX3_needed_31 : decode cX3_needed 31 = .ok (.aload_n 0, 1) := by decide +kernel
theorem dX3_needed_32 : decode cX3_needed 32 = .ok (.iload_n 1, 1) := by decide +kernel
theorem dX3_needed_33 : decode cX3_needed 33 = .ok (.iload_n 3, 1) := by decide +kernel
theorem dX3_needed_34 : decode cX3_needed 34 = .ok (.invokevirtual 104, 3) := by decide +kernel
theorem dX3_needed_37 : decode cX3_needed 37 = .ok (.ifCond .eq 7, 3) := by decide +kernel
theorem dX3_needed_40 : decode cX3_needed 40 = .ok (.iload_n 2, 1) := by decide +kernel
theorem dX3_needed_41 : decode cX3_needed 41 = .ok (.iload_n 3, 1) := by decide +kernel
theorem dX3_needed_42 : decode cX3_needed 42 = .ok (.iand, 1) := by decide +kernel
theorem dX3_needed_43 : decode cX3_needed 43 = .ok (.istore_n 2, 1) := by decide +kernel
theorem dX3_needed_44 : decode cX3_needed 44 = .ok (.iinc 3 1, 3) := by decide +kernel
theorem dX3_needed_47 : decode cX3_needed 47 = .ok (.goto (-26), 3) := by decide +kernel
theorem dX3_needed_50 : decode cX3_needed 50 = .ok (.iload_n 2, 1) := by decide +kernel
theorem dX3_needed_51 : decode cX3_needed 51 = .ok (.ireturn, 1) := by decide +kernel
set_option maxRecDepth 20000 in
theorem ggX3_useful_X3_asksNode : GoodIn wsX3_useful wsX3_asksNode := goodIn_r _ [6, 7, 8, 9, 10, 5, 11, 12, 13, 14, 15, 16, 17, 1, 18, 19, 20, 21, 22, 23, 24, 25, 26, 27, 28, 29, 30, 31, 32, 33, 34, 35, 48, 49, 50, 51, 52, 53, 54, 55, 56, 57, 58, 59, 60] (by decide +kernel) (by decide +kernel)
set_option maxRecDepth 20000 in
theorem gX3_useful_X3_asksNode : GoodIn wsX3_useful (wsV RX3 113 RX3 yX3_asksNode wsX3_asksNode) := goodIn_app (goodIn_of _ (by decide +kernel)) ggX3_useful_X3_asksNode
set_option maxRecDepth 20000 in
theorem ggX3_useful_X3_isLabel : GoodIn wsX3_useful wsX3_isLabel := goodIn_r _ [39, 40, 41, 42, 5, 43, 19, 44, 45, 46, 47, 18, 33, 34, 35, 48, 49, 50, 51, 52, 53, 54, 55, 56, 57, 58, 59, 60] (by decide +kernel) (by decide +kernel)
set_option maxRecDepth 20000 in
theorem gX3_useful_X3_isLabel : GoodIn wsX3_useful (wsV RX3 104 RX3 yX3_isLabel wsX3_isLabel) := goodIn_app (goodIn_of _ (by decide +kernel)) ggX3_useful_X3_isLabel
theorem dX3_useful_0 : decode cX3_useful 0 = .ok (.aload_n 0, 1) := by decide +kernel
theorem dX3_useful_1 : decode cX3_useful 1 = .ok (.iload_n 1, 1) := by decide +kernel
theorem dX3_useful_2 : decode cX3_useful 2 = .ok (.invokevirtual 113, 3) := by decide +kernel
theorem dX3_useful_5 : decode cX3_useful 5 = .ok (.ifCond .ne 5, 3) := by decide +kernel
theorem dX3_useful_8 : decode cX3_useful 8 = .ok (.iconst 0, 1) := by decide +kernel
theorem dX3_useful_9 : decode cX3_useful 9 = .ok (.ireturn, 1) := by decide +kernel
theorem dX3_useful_10 : decode cX3_useful 10 = .ok (.iconst 0, 1) := by decide +kernel
theorem dX3_useful_11 : decode cX3_useful 11 = .ok (.istore_n 2, 1) := by decide +kernel
theorem dX3_useful_12 : decode cX3_useful 12 = .ok (.iconst 0, 1) := by decide +kernel
theorem dX3_useful_13 : decode cX3_useful 13 = .ok (.istore_n 3, 1) := by decide +kernel
theorem dX3_useful_14 : decode cX3_useful 14 = .ok (.iload_n 3, 1) := by decide +kernel
theorem dX3_useful_15 : decode cX3_useful 15 = .ok (.iconst 1, 1) := by decide +kernel
theorem dX3_useful_16 : decode cX3_useful 16 = .ok (.aload_n 0, 1) := by decide +kernel
theorem dX3_useful_17 : decode cX3_useful 17 = .ok (.getfield 42, 3) := by decide +kernel
theorem dX3_useful_20 : decode cX3_useful 20 = .ok (.ishl, 1) := by decide +kernel
theorem dX3_useful_21 : decode cX3_useful 21 = .ok (.if_icmp .ge 22, 3) := by decide +kernel
theorem dX3_useful_24 : decode cX3_useful 24 = .ok (.aload_n 0, 1) := by decide +kernel
theorem dX3_useful_25 : decode cX3_useful 25 = .ok (.iload_n 1, 1) := by decide +kernel
theorem dX3_useful_26 : decode cX3_useful 26 = .ok (.iload_n 3, 1) := by decide +kernel
theorem dX3_useful_27 : decode cX3_useful 27 = .ok (.invokevirtual 104, 3) := by decide +kernel
theorem dX3_useful_30 : decode cX3_useful 30 = .ok (.ifCond .eq 7, 3) := by decide +kernel
theorem dX3_useful_33 : decode cX3_useful 33 = .ok (.iload_n 2, 1) := by decide +kernel
theorem dX3_useful_34 : decode cX3_useful 34 = .ok (.iload_n 3, 1) := by decide +kernel
theorem dX3_useful_35 : decode cX3_useful 35 = .ok (.ior, 1) := by decide +kernel
theorem dX3_useful_36 : decode cX3_useful 36 = .ok (.istore_n 2, 1) := by decide +kernel
theorem dX3_useful_37 : decode cX3_useful 37 = .ok (.iinc 3 1, 3) := by decide +kernel
theorem dX3_useful_40 : decode cX3_useful 40 = .ok (.goto (-26), 3) := by decide +kernel
theorem dX3_useful_43 : decode cX3_useful 43 = .ok (.iload_n 2, 1) := by decide +kernel
theorem dX3_useful_44 : decode cX3_useful 44 = .ok (.ireturn, 1) := by decide +kernel
set_option maxRecDepth 20000 in
theorem ggX3_nogoodCount_X3_know : GoodIn wsX3_nogoodCount wsX3_know := goodIn_r _ [6, 7, 8, 9, 10, 11, 12, 13, 14, 15, 16, 17, 5, 18, 19, 20, 21, 22, 23, 24, 25, 26, 51, 52, 53, 54, 55, 56, 57, 58, 59, 60, 61, 62, 63] (by decide +kernel) (by decide +kernel)
set_option maxRecDepth 20000 in
theorem gX3_nogoodCount_X3_know : GoodIn wsX3_nogoodCount (wsV RX3 82 RX3 yX3_know wsX3_know) := goodIn_app (goodIn_of _ (by decide +kernel)) ggX3_nogoodCount_X3_know
set_option maxRecDepth 20000 in
theorem ggX3_nogoodCount_X3_count : GoodIn wsX3_nogoodCount wsX3_count := goodIn_r _ [30, 8, 31, 32, 33, 5, 34, 35, 36, 37, 38, 10, 39, 40, 41, 42, 9, 24, 25, 26, 43, 44, 45, 46, 47, 48, 49, 50, 51, 52, 53, 54, 55, 56, 57, 58, 59, 60, 61, 62, 63] (by decide +kernel) (by decide +kernel)
set_option maxRecDepth 20000 in
theorem gX3_nogoodCount_X3_count : GoodIn wsX3_nogoodCount (wsV RX3 116 RX3 yX3_count wsX3_count) := goodIn_app (goodIn_of _ (by decide +kernel)) ggX3_nogoodCount_X3_count
theorem dX3_nogoodCount_0 : decode cX3_nogoodCount 0 = .ok (.aload_n 0, 1) := by decide +kernel
theorem dX3_nogoodCount_1 : decode cX3_nogoodCount 1 = .ok (.iconst 0, 1) := by decide +kernel
theorem dX3_nogoodCount_2 : decode cX3_nogoodCount 2 = .ok (.putfield 35, 3) := by decide +kernel
theorem dX3_nogoodCount_5 : decode cX3_nogoodCount 5 = .ok (.aload_n 0, 1) := by decide +kernel
theorem dX3_nogoodCount_6 : decode cX3_nogoodCount 6 = .ok (.invokevirtual 82, 3) := by decide +kernel
theorem dX3_nogoodCount_9 : decode cX3_nogoodCount 9 = .ok (.aload_n 0, 1) := by decide +kernel
theorem dX3_nogoodCount_10 : decode cX3_nogoodCount 10 = .ok (.iconst 1, 1) := by decide +kernel
theorem dX3_nogoodCount_11 : decode cX3_nogoodCount 11 = .ok (.iconst 0, 1) := by decide +kernel
theorem dX3_nogoodCount_12 : decode cX3_nogoodCount 12 = .ok (.invokevirtual 116, 3) := by decide +kernel
theorem dX3_nogoodCount_15 : decode cX3_nogoodCount 15 = .ok (.ireturn, 1) := by decide +kernel
set_option maxRecDepth 20000 in
theorem ggX3_nogood_X3_know : GoodIn wsX3_nogood wsX3_know := goodIn_r _ [6, 7, 8, 9, 10, 11, 12, 13, 14, 15, 16, 17, 5, 18, 19, 20, 21, 22, 23, 24, 25, 26, 55, 56, 57, 58, 59, 60, 61, 62, 63, 64, 65, 66, 67] (by decide +kernel) (by decide +kernel)
set_option maxRecDepth 20000 in
theorem gX3_nogood_X3_know : GoodIn wsX3_nogood (wsV RX3 82 RX3 yX3_know wsX3_know) := goodIn_app (goodIn_of _ (by decide +kernel)) ggX3_nogood_X3_know
set_option maxRecDepth 20000 in
theorem ggX3_nogood_X3_find : GoodIn wsX3_nogood wsX3_find := goodIn_r _ [30, 8, 31, 32, 33, 5, 34, 35, 36, 37, 38, 10, 39, 40, 41, 42, 9, 24, 25, 26, 43, 44, 45, 46, 47, 48, 49, 50, 55, 56, 57, 58, 59, 60, 61, 62, 63, 64, 65, 66, 67] (by decide +kernel) (by decide +kernel)
set_option maxRecDepth 20000 in
theorem gX3_nogood_X3_find : GoodIn wsX3_nogood (wsV RX3 119 RX3 yX3_find wsX3_find) := goodIn_app (goodIn_of _ (by decide +kernel)) ggX3_nogood_X3_find
set_option maxRecDepth 20000 in
theorem ggX3_nogood_X3_no : GoodIn wsX3_nogood wsX3_no := goodIn_r _ [54, 1, 55, 56, 57, 58, 59, 60, 61, 62, 63, 64, 65, 66, 67] (by decide +kernel) (by decide +kernel)
set_option maxRecDepth 20000 in
theorem gX3_nogood_X3_no : GoodIn wsX3_nogood (wsV RX3 49 RX3 yX3_no wsX3_no) := goodIn_app (goodIn_of _ (by decide +kernel)) ggX3_nogood_X3_no
theorem dX3_nogood_0 : decode cX3_nogood 0 = .ok (.aload_n 0, 1) := by decide +kernel
theorem dX3_nogood_1 : decode cX3_nogood 1 = .ok (.iconst 0, 1) := by decide +kernel
theorem dX3_nogood_2 : decode cX3_nogood 2 = .ok (.putfield 35, 3) := by decide +kernel
theorem dX3_nogood_5 : decode cX3_nogood 5 = .ok (.aload_n 0, 1) := by decide +kernel
theorem dX3_nogood_6 : decode cX3_nogood 6 = .ok (.invokevirtual 82, 3) := by decide +kernel
theorem dX3_nogood_9 : decode cX3_nogood 9 = .ok (.aload_n 0, 1) := by decide +kernel
theorem dX3_nogood_10 : decode cX3_nogood 10 = .ok (.iconst 1, 1) := by decide +kernel
theorem dX3_nogood_11 : decode cX3_nogood 11 = .ok (.iconst 0, 1) := by decide +kernel
theorem dX3_nogood_12 : decode cX3_nogood 12 = .ok (.iload_n 1, 1) := by decide +kernel
theorem dX3_nogood_13 : decode cX3_nogood 13 = .ok (.invokevirtual 119, 3) := by decide +kernel
theorem dX3_nogood_16 : decode cX3_nogood 16 = .ok (.istore_n 2, 1) := by decide +kernel
theorem dX3_nogood_17 : decode cX3_nogood 17 = .ok (.iload_n 2, 1) := by decide +kernel
theorem dX3_nogood_18 : decode cX3_nogood 18 = .ok (.iconst (-1), 1) := by decide +kernel
theorem dX3_nogood_19 : decode cX3_nogood 19 = .ok (.if_icmp .ne 11, 3) := by decide +kernel
theorem dX3_nogood_22 : decode cX3_nogood 22 = .ok (.aload_n 0, 1) := by decide +kernel
theorem dX3_nogood_23 : decode cX3_nogood 23 = .ok (.iconst 1, 1) := by decide +kernel
theorem dX3_nogood_24 : decode cX3_nogood 24 = .ok (.invokevirtual 49, 3) := by decide +kernel
theorem dX3_nogood_27 : decode cX3_nogood 27 = .ok (.goto 4, 3) := by decide +kernel
theorem dX3_nogood_30 : decode cX3_nogood 30 = .ok (.iload_n 2, 1) := by decide +kernel
theorem dX3_nogood_31 : decode cX3_nogood 31 = .ok (.ireturn, 1) := by decide +kernel
set_option maxRecDepth 20000 in
theorem ggX3_worldCount_X3_know : GoodIn wsX3_worldCount wsX3_know := goodIn_r _ [6, 7, 8, 9, 10, 11, 12, 13, 14, 15, 16, 17, 5, 18, 19, 20, 21, 22, 23, 24, 25, 26, 51, 52, 53, 54, 55, 56, 57, 58, 59, 60, 61, 62, 63] (by decide +kernel) (by decide +kernel)
set_option maxRecDepth 20000 in
theorem gX3_worldCount_X3_know : GoodIn wsX3_worldCount (wsV RX3 82 RX3 yX3_know wsX3_know) := goodIn_app (goodIn_of _ (by decide +kernel)) ggX3_worldCount_X3_know
set_option maxRecDepth 20000 in
theorem ggX3_worldCount_X3_count : GoodIn wsX3_worldCount wsX3_count := goodIn_r _ [30, 8, 31, 32, 33, 5, 34, 35, 36, 37, 38, 10, 39, 40, 41, 42, 9, 24, 25, 26, 43, 44, 45, 46, 47, 48, 49, 50, 51, 52, 53, 54, 55, 56, 57, 58, 59, 60, 61, 62, 63] (by decide +kernel) (by decide +kernel)
set_option maxRecDepth 20000 in
theorem gX3_worldCount_X3_count : GoodIn wsX3_worldCount (wsV RX3 116 RX3 yX3_count wsX3_count) := goodIn_app (goodIn_of _ (by decide +kernel)) ggX3_worldCount_X3_count
theorem dX3_worldCount_0 : decode cX3_worldCount 0 = .ok (.aload_n 0, 1) := by decide +kernel
theorem dX3_worldCount_1 : decode cX3_worldCount 1 = .ok (.iconst 0, 1) := by decide +kernel
theorem dX3_worldCount_2 : decode cX3_worldCount 2 = .ok (.putfield 35, 3) := by decide +kernel
theorem dX3_worldCount_5 : decode cX3_worldCount 5 = .ok (.aload_n 0, 1) := by decide +kernel
theorem dX3_worldCount_6 : decode cX3_worldCount 6 = .ok (.invokevirtual 82, 3) := by decide +kernel
theorem dX3_worldCount_9 : decode cX3_worldCount 9 = .ok (.aload_n 0, 1) := by decide +kernel
theorem dX3_worldCount_10 : decode cX3_worldCount 10 = .ok (.iconst 2, 1) := by decide +kernel
theorem dX3_worldCount_11 : decode cX3_worldCount 11 = .ok (.iconst 0, 1) := by decide +kernel
theorem dX3_worldCount_12 : decode cX3_worldCount 12 = .ok (.invokevirtual 116, 3) := by decide +kernel
theorem dX3_worldCount_15 : decode cX3_worldCount 15 = .ok (.ireturn, 1) := by decide +kernel
set_option maxRecDepth 20000 in
theorem ggX3_world_X3_know : GoodIn wsX3_world wsX3_know := goodIn_r _ [6, 7, 8, 9, 10, 11, 12, 13, 14, 15, 16, 17, 5, 18, 19, 20, 21, 22, 23, 24, 25, 26, 55, 56, 57, 58, 59, 60, 61, 62, 63, 64, 65, 66, 67] (by decide +kernel) (by decide +kernel)
set_option maxRecDepth 20000 in
theorem gX3_world_X3_know : GoodIn wsX3_world (wsV RX3 82 RX3 yX3_know wsX3_know) := goodIn_app (goodIn_of _ (by decide +kernel)) ggX3_world_X3_know
set_option maxRecDepth 20000 in
theorem ggX3_world_X3_find : GoodIn wsX3_world wsX3_find := goodIn_r _ [30, 8, 31, 32, 33, 5, 34, 35, 36, 37, 38, 10, 39, 40, 41, 42, 9, 24, 25, 26, 43, 44, 45, 46, 47, 48, 49, 50, 55, 56, 57, 58, 59, 60, 61, 62, 63, 64, 65, 66, 67] (by decide +kernel) (by decide +kernel)
set_option maxRecDepth 20000 in
theorem gX3_world_X3_find : GoodIn wsX3_world (wsV RX3 119 RX3 yX3_find wsX3_find) := goodIn_app (goodIn_of _ (by decide +kernel)) ggX3_world_X3_find
set_option maxRecDepth 20000 in
theorem ggX3_world_X3_no : GoodIn wsX3_world wsX3_no := goodIn_r _ [54, 1, 55, 56, 57, 58, 59, 60, 61, 62, 63, 64, 65, 66, 67] (by decide +kernel) (by decide +kernel)
set_option maxRecDepth 20000 in
theorem gX3_world_X3_no : GoodIn wsX3_world (wsV RX3 49 RX3 yX3_no wsX3_no) := goodIn_app (goodIn_of _ (by decide +kernel)) ggX3_world_X3_no
theorem dX3_world_0 : decode cX3_world 0 = .ok (.aload_n 0, 1) := by decide +kernel
theorem dX3_world_1 : decode cX3_world 1 = .ok (.iconst 0, 1) := by decide +kernel
theorem dX3_world_2 : decode cX3_world 2 = .ok (.putfield 35, 3) := by decide +kernel
theorem dX3_world_5 : decode cX3_world 5 = .ok (.aload_n 0, 1) := by decide +kernel
theorem dX3_world_6 : decode cX3_world 6 = .ok (.invokevirtual 82, 3) := by decide +kernel
theorem dX3_world_9 : decode cX3_world 9 = .ok (.aload_n 0, 1) := by decide +kernel
theorem dX3_world_10 : decode cX3_world 10 = .ok (.iconst 2, 1) := by decide +kernel
theorem dX3_world_11 : decode cX3_world 11 = .ok (.iconst 0, 1) := by decide +kernel
theorem dX3_world_12 : decode cX3_world 12 = .ok (.iload_n 1, 1) := by decide +kernel
theorem dX3_world_13 : decode cX3_world 13 = .ok (.invokevirtual 119, 3) := by decide +kernel
theorem dX3_world_16 : decode cX3_world 16 = .ok (.istore_n 2, 1) := by decide +kernel
theorem dX3_world_17 : decode cX3_world 17 = .ok (.iload_n 2, 1) := by decide +kernel
theorem dX3_world_18 : decode cX3_world 18 = .ok (.iconst (-1), 1) := by decide +kernel
theorem dX3_world_19 : decode cX3_world 19 = .ok (.if_icmp .ne 11, 3) := by decide +kernel
theorem dX3_world_22 : decode cX3_world 22 = .ok (.aload_n 0, 1) := by decide +kernel
theorem dX3_world_23 : decode cX3_world 23 = .ok (.iconst 1, 1) := by decide +kernel
theorem dX3_world_24 : decode cX3_world 24 = .ok (.invokevirtual 49, 3) := by decide +kernel
theorem dX3_world_27 : decode cX3_world 27 = .ok (.goto 4, 3) := by decide +kernel
theorem dX3_world_30 : decode cX3_world 30 = .ok (.iload_n 2, 1) := by decide +kernel
theorem dX3_world_31 : decode cX3_world 31 = .ok (.ireturn, 1) := by decide +kernel
set_option maxRecDepth 20000 in
theorem ggX3_worldsWith_X3_asksNode : GoodIn wsX3_worldsWith wsX3_asksNode := goodIn_r _ [6, 7, 8, 9, 10, 5, 11, 12, 13, 14, 15, 16, 17, 1, 18, 19, 20, 21, 22, 23, 24, 25, 26, 27, 28, 29, 30, 31, 32, 33, 34, 35, 44, 45, 46, 47, 48, 49, 50, 51, 52, 53, 54, 55, 56] (by decide +kernel) (by decide +kernel)
set_option maxRecDepth 20000 in
theorem gX3_worldsWith_X3_asksNode : GoodIn wsX3_worldsWith (wsV RX3 113 RX3 yX3_asksNode wsX3_asksNode) := goodIn_app (goodIn_of _ (by decide +kernel)) ggX3_worldsWith_X3_asksNode
set_option maxRecDepth 20000 in
theorem ggX3_worldsWith_X3_has : GoodIn wsX3_worldsWith wsX3_has := goodIn_r _ [39, 18, 44, 45, 46, 47, 48, 49, 50, 51, 52, 53, 54, 55, 56] (by decide +kernel) (by decide +kernel)
set_option maxRecDepth 20000 in
theorem gX3_worldsWith_X3_has : GoodIn wsX3_worldsWith (wsV RX3 88 RX3 yX3_has wsX3_has) := goodIn_app (goodIn_of _ (by decide +kernel)) ggX3_worldsWith_X3_has
set_option maxRecDepth 20000 in
theorem ggX3_worldsWith_X3_isWorld : GoodIn wsX3_worldsWith wsX3_isWorld := goodIn_r _ [43, 19, 1, 33, 34, 5, 35, 44, 45, 46, 47, 48, 49, 50, 51, 52, 53, 54, 55, 56] (by decide +kernel) (by decide +kernel)
set_option maxRecDepth 20000 in
theorem gX3_worldsWith_X3_isWorld : GoodIn wsX3_worldsWith (wsV RX3 110 RX3 yX3_isWorld wsX3_isWorld) := goodIn_app (goodIn_of _ (by decide +kernel)) ggX3_worldsWith_X3_isWorld
theorem dX3_worldsWith_0 : decode cX3_worldsWith 0 = .ok (.aload_n 0, 1) := by decide +kernel
theorem dX3_worldsWith_1 : decode cX3_worldsWith 1 = .ok (.iload_n 1, 1) := by decide +kernel
theorem dX3_worldsWith_2 : decode cX3_worldsWith 2 = .ok (.invokevirtual 113, 3) := by decide +kernel
theorem dX3_worldsWith_5 : decode cX3_worldsWith 5 = .ok (.ifCond .ne 5, 3) := by decide +kernel
theorem dX3_worldsWith_8 : decode cX3_worldsWith 8 = .ok (.iconst 0, 1) := by decide +kernel
theorem dX3_worldsWith_9 : decode cX3_worldsWith 9 = .ok (.ireturn, 1) := by decide +kernel
theorem dX3_worldsWith_10 : decode cX3_worldsWith 10 = .ok (.iconst 0, 1) := by decide +kernel
theorem dX3_worldsWith_11 : decode cX3_worldsWith 11 = .ok (.istore_n 2, 1) := by decide +kernel
theorem dX3_worldsWith_12 : decode cX3_worldsWith 12 = .ok (.iconst 0, 1) := by decide +kernel
theorem dX3_worldsWith_13 : decode cX3_worldsWith 13 = .ok (.istore_n 3, 1) := by decide +kernel
theorem dX3_worldsWith_14 : decode cX3_worldsWith 14 = .ok (.iload_n 3, 1) := by decide +kernel
theorem dX3_worldsWith_15 : decode cX3_worldsWith 15 = .ok (.iconst 1, 1) := by decide +kernel
theorem dX3_worldsWith_16 : decode cX3_worldsWith 16 = .ok (.aload_n 0, 1) := by decide +kernel
theorem dX3_worldsWith_17 : decode cX3_worldsWith 17 = .ok (.getfield 42, 3) := by decide +kernel
theorem dX3_worldsWith_20 : decode cX3_worldsWith 20 = .ok (.ishl, 1) := by decide +kernel
theorem dX3_worldsWith_21 : decode cX3_worldsWith 21 = .ok (.if_icmp .ge 34, 3) := by decide +kernel
theorem dX3_worldsWith_24 : decode cX3_worldsWith 24 = .ok (.iload_n 2, 1) := by decide +kernel
theorem dX3_worldsWith_25 : decode cX3_worldsWith 25 = .ok (.aload_n 0, 1) := by decide +kernel
theorem dX3_worldsWith_26 : decode cX3_worldsWith 26 = .ok (.iload_n 1, 1) := by decide +kernel
theorem dX3_worldsWith_27 : decode cX3_worldsWith 27 = .ok (.iload_n 3, 1) := by decide +kernel
theorem dX3_worldsWith_28 : decode cX3_worldsWith 28 = .ok (.invokevirtual 88, 3) := by decide +kernel
theorem dX3_worldsWith_31 : decode cX3_worldsWith 31 = .ok (.ifCond .eq 15, 3) := by decide +kernel
theorem dX3_worldsWith_34 : decode cX3_worldsWith 34 = .ok (.aload_n 0, 1) := by decide +kernel
theorem dX3_worldsWith_35 : decode cX3_worldsWith 35 = .ok (.iload_n 3, 1) := by decide +kernel
theorem dX3_worldsWith_36 : decode cX3_worldsWith 36 = .ok (.invokevirtual 110, 3) := by decide +kernel
theorem dX3_worldsWith_39 : decode cX3_worldsWith 39 = .ok (.ifCond .eq 7, 3) := by decide +kernel
theorem dX3_worldsWith_42 : decode cX3_worldsWith 42 = .ok (.iconst 1, 1) := by decide +kernel
theorem dX3_worldsWith_43 : decode cX3_worldsWith 43 = .ok (.goto 4, 3) := by decide +kernel
theorem dX3_worldsWith_46 : decode cX3_worldsWith 46 = .ok (.iconst 0, 1) := by decide +kernel
theorem dX3_worldsWith_47 : decode cX3_worldsWith 47 = .ok (.iadd, 1) := by decide +kernel
theorem dX3_worldsWith_48 : decode cX3_worldsWith 48 = .ok (.istore_n 2, 1) := by decide +kernel
theorem dX3_worldsWith_49 : decode cX3_worldsWith 49 = .ok (.iinc 3 1, 3) := by decide +kernel
theorem dX3_worldsWith_52 : decode cX3_worldsWith 52 = .ok (.goto (-38), 3) := by decide +kernel
theorem dX3_worldsWith_55 : decode cX3_worldsWith 55 = .ok (.iload_n 2, 1) := by decide +kernel
theorem dX3_worldsWith_56 : decode cX3_worldsWith 56 = .ok (.ireturn, 1) := by decide +kernel
set_option maxRecDepth 20000 in
theorem ggX3_belief_X3_asksNode : GoodIn wsX3_belief wsX3_asksNode := goodIn_r _ [7, 8, 9, 10, 11, 6, 12, 13, 14, 15, 16, 17, 18, 1, 19, 2, 20, 21, 22, 23, 24, 25, 26, 27, 28, 29, 30, 31, 32, 33, 34, 35, 44, 45, 46, 47, 48, 49, 50, 51, 52, 53, 54, 55, 56] (by decide +kernel) (by decide +kernel)
set_option maxRecDepth 20000 in
theorem gX3_belief_X3_asksNode : GoodIn wsX3_belief (wsV RX3 113 RX3 yX3_asksNode wsX3_asksNode) := goodIn_app (goodIn_of _ (by decide +kernel)) ggX3_belief_X3_asksNode
set_option maxRecDepth 20000 in
theorem ggX3_belief_X3_isGood : GoodIn wsX3_belief wsX3_isGood := goodIn_r _ [39, 2, 40, 41, 42, 6, 43, 19, 44, 45, 46, 47, 48, 49, 50, 51, 52, 53, 54, 55, 56] (by decide +kernel) (by decide +kernel)
set_option maxRecDepth 20000 in
theorem gX3_belief_X3_isGood : GoodIn wsX3_belief (wsV RX3 101 RX3 yX3_isGood wsX3_isGood) := goodIn_app (goodIn_of _ (by decide +kernel)) ggX3_belief_X3_isGood
theorem dX3_belief_0 : decode cX3_belief 0 = .ok (.aload_n 0, 1) := by decide +kernel
theorem dX3_belief_1 : decode cX3_belief 1 = .ok (.iload_n 1, 1) := by decide +kernel
theorem dX3_belief_2 : decode cX3_belief 2 = .ok (.invokevirtual 113, 3) := by decide +kernel
theorem dX3_belief_5 : decode cX3_belief 5 = .ok (.ifCond .ne 5, 3) := by decide +kernel
theorem dX3_belief_8 : decode cX3_belief 8 = .ok (.dconst 0, 1) := by decide +kernel
theorem dX3_belief_9 : decode cX3_belief 9 = .ok (.dreturn, 1) := by decide +kernel
theorem dX3_belief_10 : decode cX3_belief 10 = .ok (.iconst 0, 1) := by decide +kernel
theorem dX3_belief_11 : decode cX3_belief 11 = .ok (.istore_n 2, 1) := by decide +kernel
theorem dX3_belief_12 : decode cX3_belief 12 = .ok (.iconst 0, 1) := by decide +kernel
theorem dX3_belief_13 : decode cX3_belief 13 = .ok (.istore_n 3, 1) := by decide +kernel
theorem dX3_belief_14 : decode cX3_belief 14 = .ok (.iconst 0, 1) := by decide +kernel
theorem dX3_belief_15 : decode cX3_belief 15 = .ok (.istore 4, 2) := by decide +kernel
theorem dX3_belief_17 : decode cX3_belief 17 = .ok (.iload 4, 2) := by decide +kernel
theorem dX3_belief_19 : decode cX3_belief 19 = .ok (.iconst 1, 1) := by decide +kernel
theorem dX3_belief_20 : decode cX3_belief 20 = .ok (.aload_n 0, 1) := by decide +kernel
theorem dX3_belief_21 : decode cX3_belief 21 = .ok (.getfield 42, 3) := by decide +kernel
theorem dX3_belief_24 : decode cX3_belief 24 = .ok (.ishl, 1) := by decide +kernel
theorem dX3_belief_25 : decode cX3_belief 25 = .ok (.if_icmp .ge 45, 3) := by decide +kernel
theorem dX3_belief_28 : decode cX3_belief 28 = .ok (.iload_n 3, 1) := by decide +kernel
theorem dX3_belief_29 : decode cX3_belief 29 = .ok (.aload_n 0, 1) := by decide +kernel
theorem dX3_belief_30 : decode cX3_belief 30 = .ok (.getfield 32, 3) := by decide +kernel
theorem dX3_belief_33 : decode cX3_belief 33 = .ok (.iload 4, 2) := by decide +kernel
theorem dX3_belief_35 : decode cX3_belief 35 = .ok (.baload, 1) := by decide +kernel
theorem dX3_belief_36 : decode cX3_belief 36 = .ok (.ifCond .eq 7, 3) := by decide +kernel
theorem dX3_belief_39 : decode cX3_belief 39 = .ok (.iconst 1, 1) := by decide +kernel
theorem dX3_belief_40 : decode cX3_belief 40 = .ok (.goto 4, 3) := by decide +kernel
theorem dX3_belief_43 : decode cX3_belief 43 = .ok (.iconst 0, 1) := by decide +kernel
theorem dX3_belief_44 : decode cX3_belief 44 = .ok (.iadd, 1) := by decide +kernel
theorem dX3_belief_45 : decode cX3_belief 45 = .ok (.istore_n 3, 1) := by decide +kernel
theorem dX3_belief_46 : decode cX3_belief 46 = .ok (.iload_n 2, 1) := by decide +kernel
theorem dX3_belief_47 : decode cX3_belief 47 = .ok (.aload_n 0, 1) := by decide +kernel
theorem dX3_belief_48 : decode cX3_belief 48 = .ok (.iload_n 1, 1) := by decide +kernel
theorem dX3_belief_49 : decode cX3_belief 49 = .ok (.iload 4, 2) := by decide +kernel
theorem dX3_belief_51 : decode cX3_belief 51 = .ok (.invokevirtual 101, 3) := by decide +kernel
theorem dX3_belief_54 : decode cX3_belief 54 = .ok (.ifCond .eq 7, 3) := by decide +kernel
theorem dX3_belief_57 : decode cX3_belief 57 = .ok (.iconst 1, 1) := by decide +kernel
theorem dX3_belief_58 : decode cX3_belief 58 = .ok (.goto 4, 3) := by decide +kernel
theorem dX3_belief_61 : decode cX3_belief 61 = .ok (.iconst 0, 1) := by decide +kernel
theorem dX3_belief_62 : decode cX3_belief 62 = .ok (.iadd, 1) := by decide +kernel
theorem dX3_belief_63 : decode cX3_belief 63 = .ok (.istore_n 2, 1) := by decide +kernel
theorem dX3_belief_64 : decode cX3_belief 64 = .ok (.iinc 4 1, 3) := by decide +kernel
theorem dX3_belief_67 : decode cX3_belief 67 = .ok (.goto (-50), 3) := by decide +kernel
theorem dX3_belief_70 : decode cX3_belief 70 = .ok (.iload_n 3, 1) := by decide +kernel
theorem dX3_belief_71 : decode cX3_belief 71 = .ok (.ifCond .ne 7, 3) := by decide +kernel
theorem dX3_belief_74 : decode cX3_belief 74 = .ok (.dconst 0, 1) := by decide +kernel
theorem dX3_belief_75 : decode cX3_belief 75 = .ok (.goto 8, 3) := by decide +kernel
theorem dX3_belief_78 : decode cX3_belief 78 = .ok (.iload_n 2, 1) := by decide +kernel
theorem dX3_belief_79 : decode cX3_belief 79 = .ok (.i2d, 1) := by decide +kernel
theorem dX3_belief_80 : decode cX3_belief 80 = .ok (.iload_n 3, 1) := by decide +kernel
theorem dX3_belief_81 : decode cX3_belief 81 = .ok (.i2d, 1) := by decide +kernel
theorem dX3_belief_82 : decode cX3_belief 82 = .ok (.ddiv, 1) := by decide +kernel
theorem dX3_belief_83 : decode cX3_belief 83 = .ok (.dreturn, 1) := by decide +kernel
set_option maxRecDepth 20000 in
theorem ggX3_isNever_X3_isGood : GoodIn wsX3_isNever wsX3_isGood := goodIn_r _ [6, 7, 8, 9, 10, 5, 11, 12, 13, 14, 15, 16, 17, 18, 19, 20, 21, 22, 23, 24, 25] (by decide +kernel) (by decide +kernel)
set_option maxRecDepth 20000 in
theorem gX3_isNever_X3_isGood : GoodIn wsX3_isNever (wsV RX3 101 RX3 yX3_isGood wsX3_isGood) := goodIn_app (goodIn_of _ (by decide +kernel)) ggX3_isNever_X3_isGood
set_option maxRecDepth 20000 in
theorem ggX3_isNever_X3_has : GoodIn wsX3_isNever wsX3_has := goodIn_r _ [11, 12, 13, 14, 15, 16, 17, 18, 19, 20, 21, 22, 23, 24, 25] (by decide +kernel) (by decide +kernel)
set_option maxRecDepth 20000 in
theorem gX3_isNever_X3_has : GoodIn wsX3_isNever (wsV RX3 88 RX3 yX3_has wsX3_has) := goodIn_app (goodIn_of _ (by decide +kernel)) ggX3_isNever_X3_has
theorem dX3_isNever_0 : decode cX3_isNever 0 = .ok (.iconst 1, 1) := by decide +kernel
theorem dX3_isNever_1 : decode cX3_isNever 1 = .ok (.istore 4, 2) := by decide +kernel
theorem dX3_isNever_3 : decode cX3_isNever 3 = .ok (.iconst 0, 1) := by decide +kernel
theorem dX3_isNever_4 : decode cX3_isNever 4 = .ok (.istore 5, 2) := by decide +kernel
theorem dX3_isNever_6 : decode cX3_isNever 6 = .ok (.iload 5, 2) := by decide +kernel
theorem dX3_isNever_8 : decode cX3_isNever 8 = .ok (.iconst 1, 1) := by decide +kernel
theorem dX3_isNever_9 : decode cX3_isNever 9 = .ok (.aload_n 0, 1) := by decide +kernel
theorem dX3_isNever_10 : decode cX3_isNever 10 = .ok (.getfield 42, 3) := by decide +kernel
theorem dX3_isNever_13 : decode cX3_isNever 13 = .ok (.ishl, 1) := by decide +kernel
theorem dX3_isNever_14 : decode cX3_isNever 14 = .ok (.if_icmp .ge 42, 3) := by decide +kernel
theorem dX3_isNever_17 : decode cX3_isNever 17 = .ok (.iload 4, 2) := by decide +kernel
theorem dX3_isNever_19 : decode cX3_isNever 19 = .ok (.ifCond .eq 28, 3) := by decide +kernel
theorem dX3_isNever_22 : decode cX3_isNever 22 = .ok (.aload_n 0, 1) := by decide +kernel
theorem dX3_isNever_23 : decode cX3_isNever 23 = .ok (.iload_n 1, 1) := by decide +kernel
theorem dX3_isNever_24 : decode cX3_isNever 24 = .ok (.iload 5, 2) := by decide +kernel
theorem dX3_isNever_26 : decode cX3_isNever 26 = .ok (.invokevirtual 101, 3) := by decide +kernel
theorem dX3_isNever_29 : decode cX3_isNever 29 = .ok (.ifCond .eq 14, 3) := by decide +kernel
theorem dX3_isNever_32 : decode cX3_isNever 32 = .ok (.aload_n 0, 1) := by decide +kernel
theorem dX3_isNever_33 : decode cX3_isNever 33 = .ok (.iload_n 2, 1) := by decide +kernel
theorem dX3_isNever_34 : decode cX3_isNever 34 = .ok (.iload 5, 2) := by decide +kernel
theorem dX3_isNever_36 : decode cX3_isNever 36 = .ok (.invokevirtual 88, 3) := by decide +kernel
theorem dX3_isNever_39 : decode cX3_isNever 39 = .ok (.iload_n 3, 1) := by decide +kernel
theorem dX3_isNever_40 : decode cX3_isNever 40 = .ok (.if_icmp .eq 7, 3) := by decide +kernel
theorem dX3_isNever_43 : decode cX3_isNever 43 = .ok (.iconst 1, 1) := by decide +kernel
theorem dX3_isNever_44 : decode cX3_isNever 44 = .ok (.goto 4, 3) := by decide +kernel
theorem dX3_isNever_47 : decode cX3_isNever 47 = .ok (.iconst 0, 1) := by decide +kernel
theorem dX3_isNever_48 : decode cX3_isNever 48 = .ok (.istore 4, 2) := by decide +kernel
theorem dX3_isNever_50 : decode cX3_isNever 50 = .ok (.iinc 5 1, 3) := by decide +kernel
theorem dX3_isNever_53 : decode cX3_isNever 53 = .ok (.goto (-47), 3) := by decide +kernel
theorem dX3_isNever_56 : decode cX3_isNever 56 = .ok (.iload 4, 2) := by decide +kernel
theorem dX3_isNever_58 : decode cX3_isNever 58 = .ok (.ireturn, 1) := by decide +kernel
set_option maxRecDepth 20000 in
theorem ggX3_asksPair_X3_isNode : GoodIn wsX3_asksPair wsX3_isNode := goodIn_r _ [6, 7, 32, 33, 34, 35, 36, 37, 38, 39, 40, 41, 42, 43, 44] (by decide +kernel) (by decide +kernel)
set_option maxRecDepth 20000 in
theorem gX3_asksPair_X3_isNode : GoodIn wsX3_asksPair (wsV RX3 63 RX3 yX3_isNode wsX3_isNode) := goodIn_app (goodIn_of _ (by decide +kernel)) ggX3_asksPair_X3_isNode
set_option maxRecDepth 20000 in
theorem ggX3_asksPair_X3_know : GoodIn wsX3_asksPair wsX3_know := goodIn_r _ [11, 12, 13, 14, 15, 16, 17, 18, 19, 20, 21, 22, 5, 23, 24, 25, 26, 27, 28, 29, 30, 31, 32, 33, 34, 35, 36, 37, 38, 39, 40, 41, 42, 43, 44] (by decide +kernel) (by decide +kernel)
set_option maxRecDepth 20000 in
theorem gX3_asksPair_X3_know : GoodIn wsX3_asksPair (wsV RX3 82 RX3 yX3_know wsX3_know) := goodIn_app (goodIn_of _ (by decide +kernel)) ggX3_asksPair_X3_know
theorem dX3_asksPair_0 : decode cX3_asksPair 0 = .ok (.aload_n 0, 1) := by decide +kernel
theorem dX3_asksPair_1 : decode cX3_asksPair 1 = .ok (.aload_n 0, 1) := by decide +kernel
theorem dX3_asksPair_2 : decode cX3_asksPair 2 = .ok (.iload_n 1, 1) := by decide +kernel
theorem dX3_asksPair_3 : decode cX3_asksPair 3 = .ok (.invokevirtual 63, 3) := by decide +kernel
theorem dX3_asksPair_6 : decode cX3_asksPair 6 = .ok (.ifCond .eq 15, 3) := by decide +kernel
theorem dX3_asksPair_9 : decode cX3_asksPair 9 = .ok (.aload_n 0, 1) := by decide +kernel
theorem dX3_asksPair_10 : decode cX3_asksPair 10 = .ok (.iload_n 2, 1) := by decide +kernel
theorem dX3_asksPair_11 : decode cX3_asksPair 11 = .ok (.invokevirtual 63, 3) := by decide +kernel
theorem dX3_asksPair_14 : decode cX3_asksPair 14 = .ok (.ifCond .eq 7, 3) := by decide +kernel
theorem dX3_asksPair_17 : decode cX3_asksPair 17 = .ok (.iconst 0, 1) := by decide +kernel
theorem dX3_asksPair_18 : decode cX3_asksPair 18 = .ok (.goto 4, 3) := by decide +kernel
theorem dX3_asksPair_21 : decode cX3_asksPair 21 = .ok (.iconst 1, 1) := by decide +kernel
theorem dX3_asksPair_22 : decode cX3_asksPair 22 = .ok (.putfield 35, 3) := by decide +kernel
theorem dX3_asksPair_25 : decode cX3_asksPair 25 = .ok (.aload_n 0, 1) := by decide +kernel
theorem dX3_asksPair_26 : decode cX3_asksPair 26 = .ok (.invokevirtual 82, 3) := by decide +kernel
theorem dX3_asksPair_29 : decode cX3_asksPair 29 = .ok (.aload_n 0, 1) := by decide +kernel
theorem dX3_asksPair_30 : decode cX3_asksPair 30 = .ok (.getfield 35, 3) := by decide +kernel
theorem dX3_asksPair_33 : decode cX3_asksPair 33 = .ok (.ifCond .ne 7, 3) := by decide +kernel
theorem dX3_asksPair_36 : decode cX3_asksPair 36 = .ok (.iconst 1, 1) := by decide +kernel
theorem dX3_asksPair_37 : decode cX3_asksPair 37 = .ok (.goto 4, 3) := by decide +kernel
theorem dX3_asksPair_40 : decode cX3_asksPair 40 = .ok (.iconst 0, 1) := by decide +kernel
theorem dX3_asksPair_41 : decode cX3_asksPair 41 = .ok (.ireturn, 1) := by decide +kernel
set_option maxRecDepth 20000 in
theorem ggX3_implies_X3_asksPair : GoodIn wsX3_implies wsX3_asksPair := goodIn_r _ [5, 6, 7, 8, 9, 4, 10, 11, 12, 13, 14, 15, 16, 17, 18, 19, 20, 21, 22, 23, 24, 25, 26, 27, 28, 29, 30, 31, 32, 33, 34, 35, 48, 49, 50, 51, 52, 53, 54, 55, 56, 57, 58, 59, 60] (by decide +kernel) (by decide +kernel)
set_option maxRecDepth 20000 in
theorem gX3_implies_X3_asksPair : GoodIn wsX3_implies (wsV RX3 123 RX3 yX3_asksPair wsX3_asksPair) := goodIn_app (goodIn_of _ (by decide +kernel)) ggX3_implies_X3_asksPair
set_option maxRecDepth 20000 in
theorem ggX3_implies_X3_isNever : GoodIn wsX3_implies wsX3_isNever := goodIn_r _ [39, 17, 40, 41, 42, 4, 43, 19, 44, 45, 46, 47, 18, 48, 49, 50, 51, 52, 53, 54, 55, 56, 57, 58, 59, 60] (by decide +kernel) (by decide +kernel)
set_option maxRecDepth 20000 in
theorem gX3_implies_X3_isNever : GoodIn wsX3_implies (wsV RX3 126 RX3 yX3_isNever wsX3_isNever) := goodIn_app (goodIn_of _ (by decide +kernel)) ggX3_implies_X3_isNever
theorem dX3_implies_0 : decode cX3_implies 0 = .ok (.aload_n 0, 1) := by decide +kernel
theorem dX3_implies_1 : decode cX3_implies 1 = .ok (.iload_n 1, 1) := by decide +kernel
theorem dX3_implies_2 : decode cX3_implies 2 = .ok (.iload_n 2, 1) := by decide +kernel
theorem dX3_implies_3 : decode cX3_implies 3 = .ok (.invokevirtual 123, 3) := by decide +kernel
theorem dX3_implies_6 : decode cX3_implies 6 = .ok (.ifCond .eq 17, 3) := by decide +kernel
theorem dX3_implies_9 : decode cX3_implies 9 = .ok (.aload_n 0, 1) := by decide +kernel
theorem dX3_implies_10 : decode cX3_implies 10 = .ok (.iload_n 1, 1) := by decide +kernel
theorem dX3_implies_11 : decode cX3_implies 11 = .ok (.iload_n 2, 1) := by decide +kernel
theorem dX3_implies_12 : decode cX3_implies 12 = .ok (.iconst 0, 1) := by decide +kernel
theorem dX3_implies_13 : decode cX3_implies 13 = .ok (.invokevirtual 126, 3) := by decide +kernel
theorem dX3_implies_16 : decode cX3_implies 16 = .ok (.ifCond .eq 7, 3) := by decide +kernel
theorem dX3_implies_19 : decode cX3_implies 19 = .ok (.iconst 1, 1) := by decide +kernel
theorem dX3_implies_20 : decode cX3_implies 20 = .ok (.goto 4, 3) := by decide +kernel
theorem dX3_implies_23 : decode cX3_implies 23 = .ok (.iconst 0, 1) := by decide +kernel
theorem dX3_implies_24 : decode cX3_implies 24 = .ok (.ireturn, 1) := by decide +kernel
set_option maxRecDepth 20000 in
theorem ggX3_excludes_X3_asksPair : GoodIn wsX3_excludes wsX3_asksPair := goodIn_r _ [5, 6, 7, 8, 9, 4, 10, 11, 12, 13, 14, 15, 16, 17, 18, 19, 20, 21, 22, 23, 24, 25, 26, 27, 28, 29, 30, 31, 32, 33, 34, 35, 48, 49, 50, 51, 52, 53, 54, 55, 56, 57, 58, 59, 60] (by decide +kernel) (by decide +kernel)
set_option maxRecDepth 20000 in
theorem gX3_excludes_X3_asksPair : GoodIn wsX3_excludes (wsV RX3 123 RX3 yX3_asksPair wsX3_asksPair) := goodIn_app (goodIn_of _ (by decide +kernel)) ggX3_excludes_X3_asksPair
set_option maxRecDepth 20000 in
theorem ggX3_excludes_X3_isNever : GoodIn wsX3_excludes wsX3_isNever := goodIn_r _ [39, 17, 40, 41, 42, 4, 43, 19, 44, 45, 46, 47, 18, 48, 49, 50, 51, 52, 53, 54, 55, 56, 57, 58, 59, 60] (by decide +kernel) (by decide +kernel)
set_option maxRecDepth 20000 in
theorem gX3_excludes_X3_isNever : GoodIn wsX3_excludes (wsV RX3 126 RX3 yX3_isNever wsX3_isNever) := goodIn_app (goodIn_of _ (by decide +kernel)) ggX3_excludes_X3_isNever
theorem dX3_excludes_0 : decode cX3_excludes 0 = .ok (.aload_n 0, 1) := by decide +kernel
theorem dX3_excludes_1 : decode cX3_excludes 1 = .ok (.iload_n 1, 1) := by decide +kernel
theorem dX3_excludes_2 : decode cX3_excludes 2 = .ok (.iload_n 2, 1) := by decide +kernel
