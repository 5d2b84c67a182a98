theorem dX3_excludes_3 : decode cX3_excludes 3 = .ok (.invokevirtual 123, 3) := by decide +kernel
theorem dX3_excludes_6 : decode cX3_excludes 6 = .ok (.ifCond .eq 17, 3) := by decide +kernel
theorem dX3_excludes_9 : decode cX3_excludes 9 = .ok (.aload_n 0, 1) := by decide +kernel
theorem dX3_excludes_10 : decode cX3_excludes 10 = .ok (.iload_n 1, 1) := by decide +kernel
theorem dX3_excludes_11 : decode cX3_excludes 11 = .ok (.iload_n 2, 1) := by decide +kernel
theorem dX3_excludes_12 : decode cX3_excludes 12 = .ok (.iconst 1, 1) := by decide +kernel
theorem dX3_excludes_13 : decode cX3_excludes 13 = .ok (.invokevirtual 126, 3) := by decide +kernel
theorem dX3_excludes_16 : decode cX3_excludes 16 = .ok (.ifCond .eq 7, 3) := by decide +kernel
theorem dX3_excludes_19 : decode cX3_excludes 19 = .ok (.iconst 1, 1) := by decide +kernel
theorem dX3_excludes_20 : decode cX3_excludes 20 = .ok (.goto 4, 3) := by decide +kernel
theorem dX3_excludes_23 : decode cX3_excludes 23 = .ok (.iconst 0, 1) := by decide +kernel
theorem dX3_excludes_24 : decode cX3_excludes 24 = .ok (.ireturn, 1) := by decide +kernel
set_option maxRecDepth 20000 in
theorem ggX3_digestAll_X3_count : GoodIn wsX3_digestAll wsX3_count := goodIn_r _ [7, 2, 8, 9, 10, 6, 11, 12, 13, 14, 15, 16, 17, 18, 19, 20, 21, 22, 23, 24, 25, 26, 27, 28, 29, 30, 31, 32, 33, 34, 35, 36, 37, 38, 39, 40, 41, 42, 43, 44, 45] (by decide +kernel) (by decide +kernel)
set_option maxRecDepth 20000 in
theorem gX3_digestAll_X3_count : GoodIn wsX3_digestAll (wsV RX3 116 RX3 yX3_count wsX3_count) := goodIn_app (goodIn_of _ (by decide +kernel)) ggX3_digestAll_X3_count
set_option maxRecDepth 20000 in
theorem ggX3_digestAll_X3_isLabel : GoodIn wsX3_digestAll wsX3_isLabel := goodIn_r _ [11, 12, 13, 14, 6, 15, 16, 17, 18, 19, 20, 21, 22, 23, 24, 33, 34, 35, 36, 37, 38, 39, 40, 41, 42, 43, 44, 45] (by decide +kernel) (by decide +kernel)
set_option maxRecDepth 20000 in
theorem gX3_digestAll_X3_isLabel : GoodIn wsX3_digestAll (wsV RX3 104 RX3 yX3_isLabel wsX3_isLabel) := goodIn_app (goodIn_of _ (by decide +kernel)) ggX3_digestAll_X3_isLabel
set_option maxRecDepth 20000 in
theorem ggX3_digestAll_X3_isNogood : GoodIn wsX3_digestAll wsX3_isNogood := goodIn_r _ [28, 16, 22, 23, 6, 24, 33, 34, 35, 36, 37, 38, 39, 40, 41, 42, 43, 44, 45] (by decide +kernel) (by decide +kernel)
set_option maxRecDepth 20000 in
theorem gX3_digestAll_X3_isNogood : GoodIn wsX3_digestAll (wsV RX3 107 RX3 yX3_isNogood wsX3_isNogood) := goodIn_app (goodIn_of _ (by decide +kernel)) ggX3_digestAll_X3_isNogood
set_option maxRecDepth 20000 in
theorem ggX3_digestAll_X3_isWorld : GoodIn wsX3_digestAll wsX3_isWorld := goodIn_r _ [32, 16, 2, 22, 23, 6, 24, 33, 34, 35, 36, 37, 38, 39, 40, 41, 42, 43, 44, 45] (by decide +kernel) (by decide +kernel)
set_option maxRecDepth 20000 in
theorem gX3_digestAll_X3_isWorld : GoodIn wsX3_digestAll (wsV RX3 110 RX3 yX3_isWorld wsX3_isWorld) := goodIn_app (goodIn_of _ (by decide +kernel)) ggX3_digestAll_X3_isWorld
theorem dX3_digestAll_0 : decode cX3_digestAll 0 = .ok (.lload_n 1, 1) := by decide +kernel
theorem dX3_digestAll_1 : decode cX3_digestAll 1 = .ok (.ldc2_w 130, 3) := by decide +kernel
theorem dX3_digestAll_4 : decode cX3_digestAll 4 = .ok (.lmul, 1) := by decide +kernel
theorem dX3_digestAll_5 : decode cX3_digestAll 5 = .ok (.aload_n 0, 1) := by decide +kernel
theorem dX3_digestAll_6 : decode cX3_digestAll 6 = .ok (.iload_n 3, 1) := by decide +kernel
theorem dX3_digestAll_7 : decode cX3_digestAll 7 = .ok (.iload 4, 2) := by decide +kernel
theorem dX3_digestAll_9 : decode cX3_digestAll 9 = .ok (.invokevirtual 116, 3) := by decide +kernel
theorem dX3_digestAll_12 : decode cX3_digestAll 12 = .ok (.i2l, 1) := by decide +kernel
theorem dX3_digestAll_13 : decode cX3_digestAll 13 = .ok (.ladd, 1) := by decide +kernel
theorem dX3_digestAll_14 : decode cX3_digestAll 14 = .ok (.lstore 5, 2) := by decide +kernel
theorem dX3_digestAll_16 : decode cX3_digestAll 16 = .ok (.iconst 0, 1) := by decide +kernel
theorem dX3_digestAll_17 : decode cX3_digestAll 17 = .ok (.istore 7, 2) := by decide +kernel
theorem dX3_digestAll_19 : decode cX3_digestAll 19 = .ok (.iload 7, 2) := by decide +kernel
theorem dX3_digestAll_21 : decode cX3_digestAll 21 = .ok (.iconst 1, 1) := by decide +kernel
theorem dX3_digestAll_22 : decode cX3_digestAll 22 = .ok (.aload_n 0, 1) := by decide +kernel
theorem dX3_digestAll_23 : decode cX3_digestAll 23 = .ok (.getfield 42, 3) := by decide +kernel
theorem dX3_digestAll_26 : decode cX3_digestAll 26 = .ok (.ishl, 1) := by decide +kernel
theorem dX3_digestAll_27 : decode cX3_digestAll 27 = .ok (.if_icmp .ge 65, 3) := by decide +kernel
theorem dX3_digestAll_30 : decode cX3_digestAll 30 = .ok (.iload_n 3, 1) := by decide +kernel
theorem dX3_digestAll_31 : decode cX3_digestAll 31 = .ok (.ifCond .ne 17, 3) := by decide +kernel
theorem dX3_digestAll_34 : decode cX3_digestAll 34 = .ok (.aload_n 0, 1) := by decide +kernel
theorem dX3_digestAll_35 : decode cX3_digestAll 35 = .ok (.iload 4, 2) := by decide +kernel
theorem dX3_digestAll_37 : decode cX3_digestAll 37 = .ok (.iload 7, 2) := by decide +kernel
theorem dX3_digestAll_39 : decode cX3_digestAll 39 = .ok (.invokevirtual 104, 3) := by decide +kernel
theorem dX3_digestAll_42 : decode cX3_digestAll 42 = .ok (.ifCond .eq 44, 3) := by decide +kernel
theorem dX3_digestAll_45 : decode cX3_digestAll 45 = .ok (.goto 29, 3) := by decide +kernel
theorem dX3_digestAll_48 : decode cX3_digestAll 48 = .ok (.iload_n 3, 1) := by decide +kernel
theorem dX3_digestAll_49 : decode cX3_digestAll 49 = .ok (.iconst 1, 1) := by decide +kernel
theorem dX3_digestAll_50 : decode cX3_digestAll 50 = .ok (.if_icmp .ne 15, 3) := by decide +kernel
theorem dX3_digestAll_53 : decode cX3_digestAll 53 = .ok (.aload_n 0, 1) := by decide +kernel
theorem dX3_digestAll_54 : decode cX3_digestAll 54 = .ok (.iload 7, 2) := by decide +kernel
theorem dX3_digestAll_56 : decode cX3_digestAll 56 = .ok (.invokevirtual 107, 3) := by decide +kernel
theorem dX3_digestAll_59 : decode cX3_digestAll 59 = .ok (.ifCond .eq 27, 3) := by decide +kernel
theorem dX3_digestAll_62 : decode cX3_digestAll 62 = .ok (.goto 12, 3) := by decide +kernel
theorem dX3_digestAll_65 : decode cX3_digestAll 65 = .ok (.aload_n 0, 1) := by decide +kernel
theorem dX3_digestAll_66 : decode cX3_digestAll 66 = .ok (.iload 7, 2) := by decide +kernel
theorem dX3_digestAll_68 : decode cX3_digestAll 68 = .ok (.invokevirtual 110, 3) := by decide +kernel
theorem dX3_digestAll_71 : decode cX3_digestAll 71 = .ok (.ifCond .eq 15, 3) := by decide +kernel
theorem dX3_digestAll_74 : decode cX3_digestAll 74 = .ok (.lload 5, 2) := by decide +kernel
theorem dX3_digestAll_76 : decode cX3_digestAll 76 = .ok (.ldc2_w 130, 3) := by decide +kernel
theorem dX3_digestAll_79 : decode cX3_digestAll 79 = .ok (.lmul, 1) := by decide +kernel
theorem dX3_digestAll_80 : decode cX3_digestAll 80 = .ok (.iload 7, 2) := by decide +kernel
theorem dX3_digestAll_82 : decode cX3_digestAll 82 = .ok (.i2l, 1) := by decide +kernel
theorem dX3_digestAll_83 : decode cX3_digestAll 83 = .ok (.ladd, 1) := by decide +kernel
theorem dX3_digestAll_84 : decode cX3_digestAll 84 = .ok (.lstore 5, 2) := by decide +kernel
theorem dX3_digestAll_86 : decode cX3_digestAll 86 = .ok (.iinc 7 1, 3) := by decide +kernel
theorem dX3_digestAll_89 : decode cX3_digestAll 89 = .ok (.goto (-70), 3) := by decide +kernel
theorem dX3_digestAll_92 : decode cX3_digestAll 92 = .ok (.lload 5, 2) := by decide +kernel
theorem dX3_digestAll_94 : decode cX3_digestAll 94 = .ok (.lreturn, 1) := by decide +kernel
set_option maxRecDepth 20000 in
theorem ggX3_digest_X3_know : GoodIn wsX3_digest wsX3_know := goodIn_r _ [16, 17, 6, 18, 19, 8, 11, 10, 9, 20, 21, 22, 15, 23, 24, 25, 26, 27, 28, 29, 30, 31, 60, 61, 62, 63, 64, 65, 66, 67, 68, 69, 70, 71, 72] (by decide +kernel) (by decide +kernel)
set_option maxRecDepth 20000 in
theorem gX3_digest_X3_know : GoodIn wsX3_digest (wsV RX3 82 RX3 yX3_know wsX3_know) := goodIn_app (goodIn_of _ (by decide +kernel)) ggX3_digest_X3_know
set_option maxRecDepth 20000 in
theorem ggX3_digest_X3_digestAll : GoodIn wsX3_digest wsX3_digestAll := goodIn_r _ [35, 4, 6, 36, 37, 38, 15, 39, 40, 41, 42, 43, 44, 45, 46, 47, 19, 48, 49, 50, 51, 18, 29, 30, 31, 52, 53, 54, 55, 56, 57, 58, 59, 60, 61, 62, 63, 64, 65, 66, 67, 68, 69, 70, 71, 72] (by decide +kernel) (by decide +kernel)
set_option maxRecDepth 20000 in
theorem gX3_digest_X3_digestAll : GoodIn wsX3_digest (wsV RX3 134 RX3 yX3_digestAll wsX3_digestAll) := goodIn_app (goodIn_of _ (by decide +kernel)) ggX3_digest_X3_digestAll
theorem dX3_digest_0 : decode cX3_digest 0 = .ok (.aload_n 0, 1) := by decide +kernel
theorem dX3_digest_1 : decode cX3_digest 1 = .ok (.iconst 0, 1) := by decide +kernel
theorem dX3_digest_2 : decode cX3_digest 2 = .ok (.putfield 35, 3) := by decide +kernel
theorem dX3_digest_5 : decode cX3_digest 5 = .ok (.aload_n 0, 1) := by decide +kernel
theorem dX3_digest_6 : decode cX3_digest 6 = .ok (.invokevirtual 82, 3) := by decide +kernel
theorem dX3_digest_9 : decode cX3_digest 9 = .ok (.ldc2_w 132, 3) := by decide +kernel
theorem dX3_digest_12 : decode cX3_digest 12 = .ok (.aload_n 0, 1) := by decide +kernel
theorem dX3_digest_13 : decode cX3_digest 13 = .ok (.getfield 39, 3) := by decide +kernel
theorem dX3_digest_16 : decode cX3_digest 16 = .ok (.i2l, 1) := by decide +kernel
theorem dX3_digest_17 : decode cX3_digest 17 = .ok (.ladd, 1) := by decide +kernel
theorem dX3_digest_18 : decode cX3_digest 18 = .ok (.lstore_n 1, 1) := by decide +kernel
theorem dX3_digest_19 : decode cX3_digest 19 = .ok (.iconst 0, 1) := by decide +kernel
theorem dX3_digest_20 : decode cX3_digest 20 = .ok (.istore_n 3, 1) := by decide +kernel
theorem dX3_digest_21 : decode cX3_digest 21 = .ok (.iload_n 3, 1) := by decide +kernel
theorem dX3_digest_22 : decode cX3_digest 22 = .ok (.aload_n 0, 1) := by decide +kernel
theorem dX3_digest_23 : decode cX3_digest 23 = .ok (.getfield 39, 3) := by decide +kernel
theorem dX3_digest_26 : decode cX3_digest 26 = .ok (.if_icmp .ge 29, 3) := by decide +kernel
theorem dX3_digest_29 : decode cX3_digest 29 = .ok (.aload_n 0, 1) := by decide +kernel
theorem dX3_digest_30 : decode cX3_digest 30 = .ok (.lload_n 1, 1) := by decide +kernel
theorem dX3_digest_31 : decode cX3_digest 31 = .ok (.ldc2_w 130, 3) := by decide +kernel
theorem dX3_digest_34 : decode cX3_digest 34 = .ok (.lmul, 1) := by decide +kernel
theorem dX3_digest_35 : decode cX3_digest 35 = .ok (.aload_n 0, 1) := by decide +kernel
theorem dX3_digest_36 : decode cX3_digest 36 = .ok (.getfield 9, 3) := by decide +kernel
theorem dX3_digest_39 : decode cX3_digest 39 = .ok (.iload_n 3, 1) := by decide +kernel
theorem dX3_digest_40 : decode cX3_digest 40 = .ok (.iaload, 1) := by decide +kernel
theorem dX3_digest_41 : decode cX3_digest 41 = .ok (.i2l, 1) := by decide +kernel
theorem dX3_digest_42 : decode cX3_digest 42 = .ok (.ladd, 1) := by decide +kernel
theorem dX3_digest_43 : decode cX3_digest 43 = .ok (.iconst 0, 1) := by decide +kernel
theorem dX3_digest_44 : decode cX3_digest 44 = .ok (.iload_n 3, 1) := by decide +kernel
theorem dX3_digest_45 : decode cX3_digest 45 = .ok (.invokevirtual 134, 3) := by decide +kernel
theorem dX3_digest_48 : decode cX3_digest 48 = .ok (.lstore_n 1, 1) := by decide +kernel
theorem dX3_digest_49 : decode cX3_digest 49 = .ok (.iinc 3 1, 3) := by decide +kernel
theorem dX3_digest_52 : decode cX3_digest 52 = .ok (.goto (-31), 3) := by decide +kernel
theorem dX3_digest_55 : decode cX3_digest 55 = .ok (.lload_n 1, 1) := by decide +kernel
theorem dX3_digest_56 : decode cX3_digest 56 = .ok (.ldc2_w 130, 3) := by decide +kernel
theorem dX3_digest_59 : decode cX3_digest 59 = .ok (.lmul, 1) := by decide +kernel
theorem dX3_digest_60 : decode cX3_digest 60 = .ok (.aload_n 0, 1) := by decide +kernel
theorem dX3_digest_61 : decode cX3_digest 61 = .ok (.getfield 42, 3) := by decide +kernel
theorem dX3_digest_64 : decode cX3_digest 64 = .ok (.i2l, 1) := by decide +kernel
theorem dX3_digest_65 : decode cX3_digest 65 = .ok (.ladd, 1) := by decide +kernel
theorem dX3_digest_66 : decode cX3_digest 66 = .ok (.lstore_n 1, 1) := by decide +kernel
theorem dX3_digest_67 : decode cX3_digest 67 = .ok (.iconst 0, 1) := by decide +kernel
theorem dX3_digest_68 : decode cX3_digest 68 = .ok (.istore_n 3, 1) := by decide +kernel
theorem dX3_digest_69 : decode cX3_digest 69 = .ok (.iload_n 3, 1) := by decide +kernel
theorem dX3_digest_70 : decode cX3_digest 70 = .ok (.aload_n 0, 1) := by decide +kernel
theorem dX3_digest_71 : decode cX3_digest 71 = .ok (.getfield 42, 3) := by decide +kernel
theorem dX3_digest_74 : decode cX3_digest 74 = .ok (.if_icmp .ge 23, 3) := by decide +kernel
theorem dX3_digest_77 : decode cX3_digest 77 = .ok (.lload_n 1, 1) := by decide +kernel
theorem dX3_digest_78 : decode cX3_digest 78 = .ok (.ldc2_w 130, 3) := by decide +kernel
theorem dX3_digest_81 : decode cX3_digest 81 = .ok (.lmul, 1) := by decide +kernel
theorem dX3_digest_82 : decode cX3_digest 82 = .ok (.aload_n 0, 1) := by decide +kernel
theorem dX3_digest_83 : decode cX3_digest 83 = .ok (.getfield 16, 3) := by decide +kernel
theorem dX3_digest_86 : decode cX3_digest 86 = .ok (.iload_n 3, 1) := by decide +kernel
theorem dX3_digest_87 : decode cX3_digest 87 = .ok (.iaload, 1) := by decide +kernel
theorem dX3_digest_88 : decode cX3_digest 88 = .ok (.i2l, 1) := by decide +kernel
theorem dX3_digest_89 : decode cX3_digest 89 = .ok (.ladd, 1) := by decide +kernel
theorem dX3_digest_90 : decode cX3_digest 90 = .ok (.lstore_n 1, 1) := by decide +kernel
theorem dX3_digest_91 : decode cX3_digest 91 = .ok (.iinc 3 1, 3) := by decide +kernel
theorem dX3_digest_94 : decode cX3_digest 94 = .ok (.goto (-25), 3) := by decide +kernel
theorem dX3_digest_97 : decode cX3_digest 97 = .ok (.lload_n 1, 1) := by decide +kernel
theorem dX3_digest_98 : decode cX3_digest 98 = .ok (.ldc2_w 130, 3) := by decide +kernel
theorem dX3_digest_101 : decode cX3_digest 101 = .ok (.lmul, 1) := by decide +kernel
theorem dX3_digest_102 : decode cX3_digest 102 = .ok (.aload_n 0, 1) := by decide +kernel
theorem dX3_digest_103 : decode cX3_digest 103 = .ok (.getfield 66, 3) := by decide +kernel
theorem dX3_digest_106 : decode cX3_digest 106 = .ok (.i2l, 1) := by decide +kernel
theorem dX3_digest_107 : decode cX3_digest 107 = .ok (.ladd, 1) := by decide +kernel
theorem dX3_digest_108 : decode cX3_digest 108 = .ok (.lstore_n 1, 1) := by decide +kernel
theorem dX3_digest_109 : decode cX3_digest 109 = .ok (.iconst 0, 1) := by decide +kernel
theorem dX3_digest_110 : decode cX3_digest 110 = .ok (.istore_n 3, 1) := by decide +kernel
theorem dX3_digest_111 : decode cX3_digest 111 = .ok (.iload_n 3, 1) := by decide +kernel
theorem dX3_digest_112 : decode cX3_digest 112 = .ok (.aload_n 0, 1) := by decide +kernel
theorem dX3_digest_113 : decode cX3_digest 113 = .ok (.getfield 66, 3) := by decide +kernel
theorem dX3_digest_116 : decode cX3_digest 116 = .ok (.if_icmp .ge 54, 3) := by decide +kernel
theorem dX3_digest_119 : decode cX3_digest 119 = .ok (.lload_n 1, 1) := by decide +kernel
theorem dX3_digest_120 : decode cX3_digest 120 = .ok (.ldc2_w 130, 3) := by decide +kernel
theorem dX3_digest_123 : decode cX3_digest 123 = .ok (.lmul, 1) := by decide +kernel
theorem dX3_digest_124 : decode cX3_digest 124 = .ok (.aload_n 0, 1) := by decide +kernel
theorem dX3_digest_125 : decode cX3_digest 125 = .ok (.getfield 19, 3) := by decide +kernel
theorem dX3_digest_128 : decode cX3_digest 128 = .ok (.iload_n 3, 1) := by decide +kernel
theorem dX3_digest_129 : decode cX3_digest 129 = .ok (.iaload, 1) := by decide +kernel
theorem dX3_digest_130 : decode cX3_digest 130 = .ok (.i2l, 1) := by decide +kernel
theorem dX3_digest_131 : decode cX3_digest 131 = .ok (.ladd, 1) := by decide +kernel
theorem dX3_digest_132 : decode cX3_digest 132 = .ok (.ldc2_w 130, 3) := by decide +kernel
theorem dX3_digest_135 : decode cX3_digest 135 = .ok (.lmul, 1) := by decide +kernel
theorem dX3_digest_136 : decode cX3_digest 136 = .ok (.aload_n 0, 1) := by decide +kernel
theorem dX3_digest_137 : decode cX3_digest 137 = .ok (.getfield 22, 3) := by decide +kernel
theorem dX3_digest_140 : decode cX3_digest 140 = .ok (.iload_n 3, 1) := by decide +kernel
theorem dX3_digest_141 : decode cX3_digest 141 = .ok (.iaload, 1) := by decide +kernel
theorem dX3_digest_142 : decode cX3_digest 142 = .ok (.i2l, 1) := by decide +kernel
theorem dX3_digest_143 : decode cX3_digest 143 = .ok (.ladd, 1) := by decide +kernel
theorem dX3_digest_144 : decode cX3_digest 144 = .ok (.ldc2_w 130, 3) := by decide +kernel
theorem dX3_digest_147 : decode cX3_digest 147 = .ok (.lmul, 1) := by decide +kernel
theorem dX3_digest_148 : decode cX3_digest 148 = .ok (.aload_n 0, 1) := by decide +kernel
theorem dX3_digest_149 : decode cX3_digest 149 = .ok (.getfield 25, 3) := by decide +kernel
theorem dX3_digest_152 : decode cX3_digest 152 = .ok (.iload_n 3, 1) := by decide +kernel
theorem dX3_digest_153 : decode cX3_digest 153 = .ok (.baload, 1) := by decide +kernel
theorem dX3_digest_154 : decode cX3_digest 154 = .ok (.ifCond .eq 7, 3) := by decide +kernel
theorem dX3_digest_157 : decode cX3_digest 157 = .ok (.lconst 1, 1) := by decide +kernel
theorem dX3_digest_158 : decode cX3_digest 158 = .ok (.goto 4, 3) := by decide +kernel
theorem dX3_digest_161 : decode cX3_digest 161 = .ok (.lconst 0, 1) := by decide +kernel
theorem dX3_digest_162 : decode cX3_digest 162 = .ok (.ladd, 1) := by decide +kernel
theorem dX3_digest_163 : decode cX3_digest 163 = .ok (.lstore_n 1, 1) := by decide +kernel
theorem dX3_digest_164 : decode cX3_digest 164 = .ok (.iinc 3 1, 3) := by decide +kernel
theorem dX3_digest_167 : decode cX3_digest 167 = .ok (.goto (-56), 3) := by decide +kernel
theorem dX3_digest_170 : decode cX3_digest 170 = .ok (.aload_n 0, 1) := by decide +kernel
theorem dX3_digest_171 : decode cX3_digest 171 = .ok (.aload_n 0, 1) := by decide +kernel
theorem dX3_digest_172 : decode cX3_digest 172 = .ok (.lload_n 1, 1) := by decide +kernel
theorem dX3_digest_173 : decode cX3_digest 173 = .ok (.iconst 1, 1) := by decide +kernel
theorem dX3_digest_174 : decode cX3_digest 174 = .ok (.iconst 0, 1) := by decide +kernel
theorem dX3_digest_175 : decode cX3_digest 175 = .ok (.invokevirtual 134, 3) := by decide +kernel
theorem dX3_digest_178 : decode cX3_digest 178 = .ok (.iconst 2, 1) := by decide +kernel
theorem dX3_digest_179 : decode cX3_digest 179 = .ok (.iconst 0, 1) := by decide +kernel
theorem dX3_digest_180 : decode cX3_digest 180 = .ok (.invokevirtual 134, 3) := by decide +kernel
theorem dX3_digest_183 : decode cX3_digest 183 = .ok (.lreturn, 1) := by decide +kernel
theorem dJ6_bitCount_0f7a4_0 : decode cJ6_bitCount_0f7a4 0 = .ok (.iload_n 0, 1) := by decide +kernel
theorem dJ6_bitCount_0f7a4_1 : decode cJ6_bitCount_0f7a4 1 = .ok (.iload_n 0, 1) := by decide +kernel
theorem dJ6_bitCount_0f7a4_2 : decode cJ6_bitCount_0f7a4 2 = .ok (.iconst 1, 1) := by decide +kernel
theorem dJ6_bitCount_0f7a4_3 : decode cJ6_bitCount_0f7a4 3 = .ok (.iushr, 1) := by decide +kernel
theorem dJ6_bitCount_0f7a4_4 : decode cJ6_bitCount_0f7a4 4 = .ok (.ldc_w 265, 3) := by decide +kernel
theorem dJ6_bitCount_0f7a4_7 : decode cJ6_bitCount_0f7a4 7 = .ok (.iand, 1) := by decide +kernel
theorem dJ6_bitCount_0f7a4_8 : decode cJ6_bitCount_0f7a4 8 = .ok (.isub, 1) := by decide +kernel
theorem dJ6_bitCount_0f7a4_9 : decode cJ6_bitCount_0f7a4 9 = .ok (.istore_n 0, 1) := by decide +kernel
theorem dJ6_bitCount_0f7a4_10 : decode cJ6_bitCount_0f7a4 10 = .ok (.iload_n 0, 1) := by decide +kernel
theorem dJ6_bitCount_0f7a4_11 : decode cJ6_bitCount_0f7a4 11 = .ok (.ldc_w 266, 3) := by decide +kernel
theorem dJ6_bitCount_0f7a4_14 : decode cJ6_bitCount_0f7a4 14 = .ok (.iand, 1) := by decide +kernel
theorem dJ6_bitCount_0f7a4_15 : decode cJ6_bitCount_0f7a4 15 = .ok (.iload_n 0, 1) := by decide +kernel
theorem dJ6_bitCount_0f7a4_16 : decode cJ6_bitCount_0f7a4 16 = .ok (.iconst 2, 1) := by decide +kernel
theorem dJ6_bitCount_0f7a4_17 : decode cJ6_bitCount_0f7a4 17 = .ok (.iushr, 1) := by decide +kernel
theorem dJ6_bitCount_0f7a4_18 : decode cJ6_bitCount_0f7a4 18 = .ok (.ldc_w 266, 3) := by decide +kernel
theorem dJ6_bitCount_0f7a4_21 : decode cJ6_bitCount_0f7a4 21 = .ok (.iand, 1) := by decide +kernel
theorem dJ6_bitCount_0f7a4_22 : decode cJ6_bitCount_0f7a4 22 = .ok (.iadd, 1) := by decide +kernel
theorem dJ6_bitCount_0f7a4_23 : decode cJ6_bitCount_0f7a4 23 = .ok (.istore_n 0, 1) := by decide +kernel
theorem dJ6_bitCount_0f7a4_24 : decode cJ6_bitCount_0f7a4 24 = .ok (.iload_n 0, 1) := by decide +kernel
theorem dJ6_bitCount_0f7a4_25 : decode cJ6_bitCount_0f7a4 25 = .ok (.iload_n 0, 1) := by decide +kernel
theorem dJ6_bitCount_0f7a4_26 : decode cJ6_bitCount_0f7a4 26 = .ok (.iconst 4, 1) := by decide +kernel
theorem dJ6_bitCount_0f7a4_27 : decode cJ6_bitCount_0f7a4 27 = .ok (.iushr, 1) := by decide +kernel
theorem dJ6_bitCount_0f7a4_28 : decode cJ6_bitCount_0f7a4 28 = .ok (.iadd, 1) := by decide +kernel
theorem dJ6_bitCount_0f7a4_29 : decode cJ6_bitCount_0f7a4 29 = .ok (.ldc_w 267, 3) := by decide +kernel
theorem dJ6_bitCount_0f7a4_32 : decode cJ6_bitCount_0f7a4 32 = .ok (.iand, 1) := by decide +kernel
theorem dJ6_bitCount_0f7a4_33 : decode cJ6_bitCount_0f7a4 33 = .ok (.istore_n 0, 1) := by decide +kernel
theorem dJ6_bitCount_0f7a4_34 : decode cJ6_bitCount_0f7a4 34 = .ok (.iload_n 0, 1) := by decide +kernel
theorem dJ6_bitCount_0f7a4_35 : decode cJ6_bitCount_0f7a4 35 = .ok (.iload_n 0, 1) := by decide +kernel
theorem dJ6_bitCount_0f7a4_36 : decode cJ6_bitCount_0f7a4 36 = .ok (.bipush 8, 2) := by decide +kernel
theorem dJ6_bitCount_0f7a4_38 : decode cJ6_bitCount_0f7a4 38 = .ok (.iushr, 1) := by decide +kernel
theorem dJ6_bitCount_0f7a4_39 : decode cJ6_bitCount_0f7a4 39 = .ok (.iadd, 1) := by decide +kernel
theorem dJ6_bitCount_0f7a4_40 : decode cJ6_bitCount_0f7a4 40 = .ok (.istore_n 0, 1) := by decide +kernel
theorem dJ6_bitCount_0f7a4_41 : decode cJ6_bitCount_0f7a4 41 = .ok (.iload_n 0, 1) := by decide +kernel
theorem dJ6_bitCount_0f7a4_42 : decode cJ6_bitCount_0f7a4 42 = .ok (.iload_n 0, 1) := by decide +kernel
theorem dJ6_bitCount_0f7a4_43 : decode cJ6_bitCount_0f7a4 43 = .ok (.bipush 16, 2) := by decide +kernel
theorem dJ6_bitCount_0f7a4_45 : decode cJ6_bitCount_0f7a4 45 = .ok (.iushr, 1) := by decide +kernel
theorem dJ6_bitCount_0f7a4_46 : decode cJ6_bitCount_0f7a4 46 = .ok (.iadd, 1) := by decide +kernel
theorem dJ6_bitCount_0f7a4_47 : decode cJ6_bitCount_0f7a4 47 = .ok (.istore_n 0, 1) := by decide +kernel
theorem dJ6_bitCount_0f7a4_48 : decode cJ6_bitCount_0f7a4 48 = .ok (.iload_n 0, 1) := by decide +kernel
theorem dJ6_bitCount_0f7a4_49 : decode cJ6_bitCount_0f7a4 49 = .ok (.bipush 63, 2) := by decide +kernel
theorem dJ6_bitCount_0f7a4_51 : decode cJ6_bitCount_0f7a4 51 = .ok (.iand, 1) := by decide +kernel
theorem dJ6_bitCount_0f7a4_52 : decode cJ6_bitCount_0f7a4 52 = .ok (.ireturn, 1) := by decide +kernel
set_option maxRecDepth 20000 in
theorem ggL_addStatement_X2_addStatement : GoodIn wsL_addStatement wsX2_addStatement := goodIn_ca (goodIn_r _ [6, 7, 8, 9, 10, 11, 12, 5, 13, 14, 15, 16, 17, 18, 19, 20, 21, 22, 23] (by decide +kernel) (by decide +kernel)) (goodIn_sub (fun _ h => List.mem_cons_of_mem _ (List.mem_append_right _ h)) (by decide +kernel))
set_option maxRecDepth 20000 in
theorem gL_addStatement_X2_addStatement : GoodIn wsL_addStatement (wsV RL 7 RX2 yX2_addStatement wsX2_addStatement) := goodIn_app (goodIn_of _ (by decide +kernel)) ggL_addStatement_X2_addStatement
