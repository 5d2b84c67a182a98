theorem dX2_extend_44 : decode cX2_extend 44 = .ok (.istore 5, 2) := by decide +kernel
theorem dX2_extend_46 : decode cX2_extend 46 = .ok (.iload 5, 2) := by decide +kernel
theorem dX2_extend_48 : decode cX2_extend 48 = .ok (.iconst (-1), 1) := by decide +kernel
theorem dX2_extend_49 : decode cX2_extend 49 = .ok (.if_icmp .ne 6, 3) := by decide +kernel
theorem dX2_extend_52 : decode cX2_extend 52 = .ok (.goto 36, 3) := by decide +kernel
theorem dX2_extend_55 : decode cX2_extend 55 = .ok (.iload_n 3, 1) := by decide +kernel
theorem dX2_extend_56 : decode cX2_extend 56 = .ok (.iconst 1, 1) := by decide +kernel
theorem dX2_extend_57 : decode cX2_extend 57 = .ok (.iload 5, 2) := by decide +kernel
theorem dX2_extend_59 : decode cX2_extend 59 = .ok (.ishl, 1) := by decide +kernel
theorem dX2_extend_60 : decode cX2_extend 60 = .ok (.ior, 1) := by decide +kernel
theorem dX2_extend_61 : decode cX2_extend 61 = .ok (.istore_n 3, 1) := by decide +kernel
theorem dX2_extend_62 : decode cX2_extend 62 = .ok (.aload_n 0, 1) := by decide +kernel
theorem dX2_extend_63 : decode cX2_extend 63 = .ok (.iload_n 2, 1) := by decide +kernel
theorem dX2_extend_64 : decode cX2_extend 64 = .ok (.iconst 1, 1) := by decide +kernel
theorem dX2_extend_65 : decode cX2_extend 65 = .ok (.iload 5, 2) := by decide +kernel
theorem dX2_extend_67 : decode cX2_extend 67 = .ok (.ishl, 1) := by decide +kernel
theorem dX2_extend_68 : decode cX2_extend 68 = .ok (.ior, 1) := by decide +kernel
theorem dX2_extend_69 : decode cX2_extend 69 = .ok (.invokevirtual 127, 3) := by decide +kernel
theorem dX2_extend_72 : decode cX2_extend 72 = .ok (.ifCond .eq 10, 3) := by decide +kernel
theorem dX2_extend_75 : decode cX2_extend 75 = .ok (.iload_n 2, 1) := by decide +kernel
theorem dX2_extend_76 : decode cX2_extend 76 = .ok (.iconst 1, 1) := by decide +kernel
theorem dX2_extend_77 : decode cX2_extend 77 = .ok (.iload 5, 2) := by decide +kernel
theorem dX2_extend_79 : decode cX2_extend 79 = .ok (.ishl, 1) := by decide +kernel
theorem dX2_extend_80 : decode cX2_extend 80 = .ok (.ior, 1) := by decide +kernel
theorem dX2_extend_81 : decode cX2_extend 81 = .ok (.istore_n 2, 1) := by decide +kernel
theorem dX2_extend_82 : decode cX2_extend 82 = .ok (.iinc 4 1, 3) := by decide +kernel
theorem dX2_extend_85 : decode cX2_extend 85 = .ok (.goto (-55), 3) := by decide +kernel
theorem dX2_extend_88 : decode cX2_extend 88 = .ok (.iload_n 2, 1) := by decide +kernel
theorem dX2_extend_89 : decode cX2_extend 89 = .ok (.ireturn, 1) := by decide +kernel
set_option maxRecDepth 20000 in
theorem ggX2_labelSize_X2_requireNode : GoodIn wsX2_labelSize wsX2_requireNode := goodIn_ca (goodIn_r _ [5, 6, 7, 8, 77, 78, 79, 80, 81, 82, 83, 84] (by decide +kernel) (by decide +kernel)) (goodIn_sub (fun _ h => List.mem_cons_of_mem _ (List.mem_append_right _ h)) (by decide +kernel))
set_option maxRecDepth 20000 in
theorem gX2_labelSize_X2_requireNode : GoodIn wsX2_labelSize (wsV RX2 73 RX2 yX2_requireNode wsX2_requireNode) := goodIn_app (goodIn_of _ (by decide +kernel)) ggX2_labelSize_X2_requireNode
set_option maxRecDepth 20000 in
theorem ggX2_labelSize_X2_surveyNow : GoodIn wsX2_labelSize wsX2_surveyNow := goodIn_r _ [12, 13, 14, 15, 16, 17, 18, 19, 20, 21, 22, 23, 24, 25, 26, 27, 28, 29, 30, 31, 32, 33, 34, 35, 36, 37, 38, 39, 40, 41, 42, 43, 44, 45, 46, 47, 48, 49, 50, 51, 52, 53, 54, 55, 56, 57, 58, 59, 4, 60, 61, 62, 63, 64, 65, 66, 67, 68, 77, 78, 79, 80, 81, 82, 83, 84, 85, 86, 87, 88, 89, 90, 91, 92, 93, 94, 95] (by decide +kernel) (by decide +kernel)
set_option maxRecDepth 20000 in
theorem gX2_labelSize_X2_surveyNow : GoodIn wsX2_labelSize (wsV RX2 139 RX2 yX2_surveyNow wsX2_surveyNow) := goodIn_app (goodIn_of _ (by decide +kernel)) ggX2_labelSize_X2_surveyNow
set_option maxRecDepth 20000 in
theorem ggX2_labelSize_X1_sizeOfLabel : GoodIn wsX2_labelSize wsX1_sizeOfLabel := goodIn_r _ [72, 24, 73, 74, 75, 21, 76, 27, 59, 4, 60, 85, 86, 87, 88, 89, 90, 91] (by decide +kernel) (by decide +kernel)
set_option maxRecDepth 20000 in
theorem gX2_labelSize_X1_sizeOfLabel : GoodIn wsX2_labelSize (wsV RX2 143 RX1 yX1_sizeOfLabel wsX1_sizeOfLabel) := goodIn_app (goodIn_of _ (by decide +kernel)) ggX2_labelSize_X1_sizeOfLabel
theorem dX2_labelSize_0 : decode cX2_labelSize 0 = .ok (.aload_n 0, 1) := by decide +kernel
theorem dX2_labelSize_1 : decode cX2_labelSize 1 = .ok (.iload_n 1, 1) := by decide +kernel
theorem dX2_labelSize_2 : decode cX2_labelSize 2 = .ok (.invokevirtual 73, 3) := by decide +kernel
theorem dX2_labelSize_5 : decode cX2_labelSize 5 = .ok (.aload_n 0, 1) := by decide +kernel
theorem dX2_labelSize_6 : decode cX2_labelSize 6 = .ok (.invokevirtual 139, 3) := by decide +kernel
theorem dX2_labelSize_9 : decode cX2_labelSize 9 = .ok (.iload_n 1, 1) := by decide +kernel
theorem dX2_labelSize_10 : decode cX2_labelSize 10 = .ok (.invokevirtual 143, 3) := by decide +kernel
theorem dX2_labelSize_13 : decode cX2_labelSize 13 = .ok (.ireturn, 1) := by decide +kernel
set_option maxRecDepth 20000 in
theorem ggX2_label_X2_requireNode : GoodIn wsX2_label wsX2_requireNode := goodIn_ca (goodIn_r _ [5, 6, 7, 8, 80, 81, 82, 83, 84, 85, 86, 87] (by decide +kernel) (by decide +kernel)) (goodIn_sub (fun _ h => List.mem_cons_of_mem _ (List.mem_append_right _ h)) (by decide +kernel))
set_option maxRecDepth 20000 in
theorem gX2_label_X2_requireNode : GoodIn wsX2_label (wsV RX2 73 RX2 yX2_requireNode wsX2_requireNode) := goodIn_app (goodIn_of _ (by decide +kernel)) ggX2_label_X2_requireNode
set_option maxRecDepth 20000 in
theorem ggX2_label_X2_surveyNow : GoodIn wsX2_label wsX2_surveyNow := goodIn_r _ [12, 13, 14, 15, 16, 17, 18, 19, 20, 21, 22, 23, 24, 25, 26, 27, 28, 29, 30, 31, 32, 33, 34, 35, 36, 37, 38, 39, 40, 41, 42, 43, 44, 45, 46, 47, 48, 49, 50, 51, 52, 53, 54, 55, 56, 57, 58, 59, 4, 60, 61, 62, 63, 64, 65, 66, 67, 68, 80, 81, 82, 83, 84, 85, 86, 87, 88, 89, 90, 91, 92, 93, 94, 95, 96, 97, 98] (by decide +kernel) (by decide +kernel)
set_option maxRecDepth 20000 in
theorem gX2_label_X2_surveyNow : GoodIn wsX2_label (wsV RX2 139 RX2 yX2_surveyNow wsX2_surveyNow) := goodIn_app (goodIn_of _ (by decide +kernel)) ggX2_label_X2_surveyNow
set_option maxRecDepth 20000 in
theorem ggX2_label_X1_memberOfLabel : GoodIn wsX2_label wsX1_memberOfLabel := goodIn_r _ [72, 24, 73, 74, 75, 21, 76, 27, 59, 4, 60, 88, 89, 90, 91, 92, 93, 94] (by decide +kernel) (by decide +kernel)
set_option maxRecDepth 20000 in
theorem gX2_label_X1_memberOfLabel : GoodIn wsX2_label (wsV RX2 146 RX1 yX1_memberOfLabel wsX1_memberOfLabel) := goodIn_app (goodIn_of _ (by decide +kernel)) ggX2_label_X1_memberOfLabel
set_option maxRecDepth 20000 in
theorem ggX2_label_X2_requireFound : GoodIn wsX2_label wsX2_requireFound := goodIn_ca (goodIn_r _ [79, 6, 7] (by decide +kernel) (by decide +kernel)) (goodIn_sub (fun _ h => List.mem_cons_of_mem _ (List.mem_append_right _ h)) (by decide +kernel))
set_option maxRecDepth 20000 in
theorem gX2_label_X2_requireFound : GoodIn wsX2_label (va_wsS RX2 149 yX2_requireFound wsX2_requireFound) := goodIn_app (goodIn_of _ (by decide +kernel)) ggX2_label_X2_requireFound
theorem dX2_label_0 : decode cX2_label 0 = .ok (.aload_n 0, 1) := by decide +kernel
theorem dX2_label_1 : decode cX2_label 1 = .ok (.iload_n 1, 1) := by decide +kernel
theorem dX2_label_2 : decode cX2_label 2 = .ok (.invokevirtual 73, 3) := by decide +kernel
theorem dX2_label_5 : decode cX2_label 5 = .ok (.aload_n 0, 1) := by decide +kernel
theorem dX2_label_6 : decode cX2_label 6 = .ok (.invokevirtual 139, 3) := by decide +kernel
theorem dX2_label_9 : decode cX2_label 9 = .ok (.iload_n 1, 1) := by decide +kernel
theorem dX2_label_10 : decode cX2_label 10 = .ok (.iload_n 2, 1) := by decide +kernel
theorem dX2_label_11 : decode cX2_label 11 = .ok (.invokevirtual 146, 3) := by decide +kernel
theorem dX2_label_14 : decode cX2_label 14 = .ok (.invokestatic 149, 3) := by decide +kernel
theorem dX2_label_17 : decode cX2_label 17 = .ok (.ireturn, 1) := by decide +kernel
set_option maxRecDepth 20000 in
theorem ggX2_cheapest_X2_requireNode : GoodIn wsX2_cheapest wsX2_requireNode := goodIn_ca (goodIn_r _ [5, 6, 7, 8, 83, 84, 85, 86, 87, 88, 89, 90] (by decide +kernel) (by decide +kernel)) (goodIn_sub (fun _ h => List.mem_cons_of_mem _ (List.mem_append_right _ h)) (by decide +kernel))
set_option maxRecDepth 20000 in
theorem gX2_cheapest_X2_requireNode : GoodIn wsX2_cheapest (wsV RX2 73 RX2 yX2_requireNode wsX2_requireNode) := goodIn_app (goodIn_of _ (by decide +kernel)) ggX2_cheapest_X2_requireNode
set_option maxRecDepth 20000 in
theorem ggX2_cheapest_X2_surveyNow : GoodIn wsX2_cheapest wsX2_surveyNow := goodIn_r _ [12, 13, 14, 15, 16, 17, 18, 19, 20, 21, 22, 23, 24, 25, 26, 27, 28, 29, 30, 31, 32, 33, 34, 35, 36, 37, 38, 39, 40, 41, 42, 43, 44, 45, 46, 47, 48, 49, 50, 51, 52, 53, 54, 55, 56, 57, 58, 59, 4, 60, 61, 62, 63, 64, 65, 66, 67, 68, 83, 84, 85, 86, 87, 88, 89, 90, 91, 92, 93, 94, 95, 96, 97, 98, 99, 100, 101] (by decide +kernel) (by decide +kernel)
set_option maxRecDepth 20000 in
theorem gX2_cheapest_X2_surveyNow : GoodIn wsX2_cheapest (wsV RX2 139 RX2 yX2_surveyNow wsX2_surveyNow) := goodIn_app (goodIn_of _ (by decide +kernel)) ggX2_cheapest_X2_surveyNow
set_option maxRecDepth 20000 in
theorem ggX2_cheapest_X1_environmentCount : GoodIn wsX2_cheapest wsX1_environmentCount := goodIn_r _ [72, 24, 91, 92, 93, 94, 95, 96, 97] (by decide +kernel) (by decide +kernel)
set_option maxRecDepth 20000 in
theorem gX2_cheapest_X1_environmentCount : GoodIn wsX2_cheapest (wsV RX2 152 RX1 yX1_environmentCount wsX1_environmentCount) := goodIn_app (goodIn_of _ (by decide +kernel)) ggX2_cheapest_X1_environmentCount
set_option maxRecDepth 20000 in
theorem ggX2_cheapest_X1_isInLabel : GoodIn wsX2_cheapest wsX1_isInLabel := goodIn_r _ [76, 27, 59, 4, 60, 91, 92, 93, 94, 95, 96, 97] (by decide +kernel) (by decide +kernel)
set_option maxRecDepth 20000 in
theorem gX2_cheapest_X1_isInLabel : GoodIn wsX2_cheapest (wsV RX2 155 RX1 yX1_isInLabel wsX1_isInLabel) := goodIn_app (goodIn_of _ (by decide +kernel)) ggX2_cheapest_X1_isInLabel
set_option maxRecDepth 20000 in
theorem ggX2_cheapest_X2_weightOf : GoodIn wsX2_cheapest wsX2_weightOf := goodIn_r _ [80, 17, 81, 82, 59, 4, 60, 83, 84, 85, 86, 87, 88, 89, 90] (by decide +kernel) (by decide +kernel)
set_option maxRecDepth 20000 in
theorem gX2_cheapest_X2_weightOf : GoodIn wsX2_cheapest (wsV RX2 131 RX2 yX2_weightOf wsX2_weightOf) := goodIn_app (goodIn_of _ (by decide +kernel)) ggX2_cheapest_X2_weightOf
theorem dX2_cheapest_0 : decode cX2_cheapest 0 = .ok (.aload_n 0, 1) := by decide +kernel
theorem dX2_cheapest_1 : decode cX2_cheapest 1 = .ok (.iload_n 1, 1) := by decide +kernel
theorem dX2_cheapest_2 : decode cX2_cheapest 2 = .ok (.invokevirtual 73, 3) := by decide +kernel
theorem dX2_cheapest_5 : decode cX2_cheapest 5 = .ok (.aload_n 0, 1) := by decide +kernel
theorem dX2_cheapest_6 : decode cX2_cheapest 6 = .ok (.invokevirtual 139, 3) := by decide +kernel
theorem dX2_cheapest_9 : decode cX2_cheapest 9 = .ok (.astore_n 2, 1) := by decide +kernel
theorem dX2_cheapest_10 : decode cX2_cheapest 10 = .ok (.iconst (-1), 1) := by decide +kernel
theorem dX2_cheapest_11 : decode cX2_cheapest 11 = .ok (.istore_n 3, 1) := by decide +kernel
theorem dX2_cheapest_12 : decode cX2_cheapest 12 = .ok (.iconst 0, 1) := by decide +kernel
theorem dX2_cheapest_13 : decode cX2_cheapest 13 = .ok (.istore 4, 2) := by decide +kernel
theorem dX2_cheapest_15 : decode cX2_cheapest 15 = .ok (.iconst 0, 1) := by decide +kernel
theorem dX2_cheapest_16 : decode cX2_cheapest 16 = .ok (.istore 5, 2) := by decide +kernel
theorem dX2_cheapest_18 : decode cX2_cheapest 18 = .ok (.iload 5, 2) := by decide +kernel
theorem dX2_cheapest_20 : decode cX2_cheapest 20 = .ok (.aload_n 2, 1) := by decide +kernel
theorem dX2_cheapest_21 : decode cX2_cheapest 21 = .ok (.invokevirtual 152, 3) := by decide +kernel
theorem dX2_cheapest_24 : decode cX2_cheapest 24 = .ok (.if_icmp .ge 46, 3) := by decide +kernel
theorem dX2_cheapest_27 : decode cX2_cheapest 27 = .ok (.aload_n 2, 1) := by decide +kernel
theorem dX2_cheapest_28 : decode cX2_cheapest 28 = .ok (.iload_n 1, 1) := by decide +kernel
theorem dX2_cheapest_29 : decode cX2_cheapest 29 = .ok (.iload 5, 2) := by decide +kernel
theorem dX2_cheapest_31 : decode cX2_cheapest 31 = .ok (.invokevirtual 155, 3) := by decide +kernel
theorem dX2_cheapest_34 : decode cX2_cheapest 34 = .ok (.ifCond .eq 30, 3) := by decide +kernel
theorem dX2_cheapest_37 : decode cX2_cheapest 37 = .ok (.aload_n 0, 1) := by decide +kernel
theorem dX2_cheapest_38 : decode cX2_cheapest 38 = .ok (.iload 5, 2) := by decide +kernel
theorem dX2_cheapest_40 : decode cX2_cheapest 40 = .ok (.invokevirtual 131, 3) := by decide +kernel
theorem dX2_cheapest_43 : decode cX2_cheapest 43 = .ok (.istore 6, 2) := by decide +kernel
theorem dX2_cheapest_45 : decode cX2_cheapest 45 = .ok (.iload_n 3, 1) := by decide +kernel
theorem dX2_cheapest_46 : decode cX2_cheapest 46 = .ok (.iconst (-1), 1) := by decide +kernel
theorem dX2_cheapest_47 : decode cX2_cheapest 47 = .ok (.if_icmp .eq 10, 3) := by decide +kernel
theorem dX2_cheapest_50 : decode cX2_cheapest 50 = .ok (.iload 6, 2) := by decide +kernel
theorem dX2_cheapest_52 : decode cX2_cheapest 52 = .ok (.iload 4, 2) := by decide +kernel
theorem dX2_cheapest_54 : decode cX2_cheapest 54 = .ok (.if_icmp .ge 10, 3) := by decide +kernel
theorem dX2_cheapest_57 : decode cX2_cheapest 57 = .ok (.iload 5, 2) := by decide +kernel
theorem dX2_cheapest_59 : decode cX2_cheapest 59 = .ok (.istore_n 3, 1) := by decide +kernel
theorem dX2_cheapest_60 : decode cX2_cheapest 60 = .ok (.iload 6, 2) := by decide +kernel
theorem dX2_cheapest_62 : decode cX2_cheapest 62 = .ok (.istore 4, 2) := by decide +kernel
theorem dX2_cheapest_64 : decode cX2_cheapest 64 = .ok (.iinc 5 1, 3) := by decide +kernel
theorem dX2_cheapest_67 : decode cX2_cheapest 67 = .ok (.goto (-49), 3) := by decide +kernel
theorem dX2_cheapest_70 : decode cX2_cheapest 70 = .ok (.iload_n 3, 1) := by decide +kernel
theorem dX2_cheapest_71 : decode cX2_cheapest 71 = .ok (.ireturn, 1) := by decide +kernel
set_option maxRecDepth 20000 in
theorem ggX2_needed_X2_requireNode : GoodIn wsX2_needed wsX2_requireNode := goodIn_ca (goodIn_r _ [5, 6, 7, 8, 77, 78, 79, 80, 81, 82, 83, 84] (by decide +kernel) (by decide +kernel)) (goodIn_sub (fun _ h => List.mem_cons_of_mem _ (List.mem_append_right _ h)) (by decide +kernel))
set_option maxRecDepth 20000 in
theorem gX2_needed_X2_requireNode : GoodIn wsX2_needed (wsV RX2 73 RX2 yX2_requireNode wsX2_requireNode) := goodIn_app (goodIn_of _ (by decide +kernel)) ggX2_needed_X2_requireNode
set_option maxRecDepth 20000 in
theorem ggX2_needed_X2_surveyNow : GoodIn wsX2_needed wsX2_surveyNow := goodIn_r _ [12, 13, 14, 15, 16, 17, 18, 19, 20, 21, 22, 23, 24, 25, 26, 27, 28, 29, 30, 31, 32, 33, 34, 35, 36, 37, 38, 39, 40, 41, 42, 43, 44, 45, 46, 47, 48, 49, 50, 51, 52, 53, 54, 55, 56, 57, 58, 59, 4, 60, 61, 62, 63, 64, 65, 66, 67, 68, 77, 78, 79, 80, 81, 82, 83, 84, 85, 86, 87, 88, 89, 90, 91, 92, 93, 94, 95] (by decide +kernel) (by decide +kernel)
set_option maxRecDepth 20000 in
theorem gX2_needed_X2_surveyNow : GoodIn wsX2_needed (wsV RX2 139 RX2 yX2_surveyNow wsX2_surveyNow) := goodIn_app (goodIn_of _ (by decide +kernel)) ggX2_needed_X2_surveyNow
set_option maxRecDepth 20000 in
theorem ggX2_needed_X1_environmentCount : GoodIn wsX2_needed wsX1_environmentCount := goodIn_r _ [72, 24, 85, 86, 87, 88, 89, 90, 91] (by decide +kernel) (by decide +kernel)
set_option maxRecDepth 20000 in
theorem gX2_needed_X1_environmentCount : GoodIn wsX2_needed (wsV RX2 152 RX1 yX1_environmentCount wsX1_environmentCount) := goodIn_app (goodIn_of _ (by decide +kernel)) ggX2_needed_X1_environmentCount
set_option maxRecDepth 20000 in
theorem ggX2_needed_X1_isInLabel : GoodIn wsX2_needed wsX1_isInLabel := goodIn_r _ [76, 27, 59, 4, 60, 85, 86, 87, 88, 89, 90, 91] (by decide +kernel) (by decide +kernel)
set_option maxRecDepth 20000 in
theorem gX2_needed_X1_isInLabel : GoodIn wsX2_needed (wsV RX2 155 RX1 yX1_isInLabel wsX1_isInLabel) := goodIn_app (goodIn_of _ (by decide +kernel)) ggX2_needed_X1_isInLabel
theorem dX2_needed_0 : decode cX2_needed 0 = .ok (.aload_n 0, 1) := by decide +kernel
theorem dX2_needed_1 : decode cX2_needed 1 = .ok (.iload_n 1, 1) := by decide +kernel
theorem dX2_needed_2 : decode cX2_needed 2 = .ok (.invokevirtual 73, 3) := by decide +kernel
theorem dX2_needed_5 : decode cX2_needed 5 = .ok (.aload_n 0, 1) := by decide +kernel
theorem dX2_needed_6 : decode cX2_needed 6 = .ok (.invokevirtual 139, 3) := by decide +kernel
theorem dX2_needed_9 : decode cX2_needed 9 = .ok (.astore_n 2, 1) := by decide +kernel
theorem dX2_needed_10 : decode cX2_needed 10 = .ok (.aload_n 2, 1) := by decide +kernel
theorem dX2_needed_11 : decode cX2_needed 11 = .ok (.invokevirtual 152, 3) := by decide +kernel
theorem dX2_needed_14 : decode cX2_needed 14 = .ok (.iconst 1, 1) := by decide +kernel
theorem dX2_needed_15 : decode cX2_needed 15 = .ok (.isub, 1) := by decide +kernel
theorem dX2_needed_16 : decode cX2_needed 16 = .ok (.istore_n 3, 1) := by decide +kernel
theorem dX2_needed_17 : decode cX2_needed 17 = .ok (.iconst 0, 1) := by decide +kernel
theorem dX2_needed_18 : decode cX2_needed 18 = .ok (.istore 4, 2) := by decide +kernel
theorem dX2_needed_20 : decode cX2_needed 20 = .ok (.iload 4, 2) := by decide +kernel
theorem dX2_needed_22 : decode cX2_needed 22 = .ok (.aload_n 2, 1) := by decide +kernel
theorem dX2_needed_23 : decode cX2_needed 23 = .ok (.invokevirtual 152, 3) := by decide +kernel
theorem dX2_needed_26 : decode cX2_needed 26 = .ok (.if_icmp .ge 24, 3) := by decide +kernel
theorem dX2_needed_29 : decode cX2_needed 29 = .ok (.aload_n 2, 1) := by decide +kernel
theorem dX2_needed_30 : decode cX2_needed 30 = .ok (.iload_n 1, 1) := by decide +kernel
theorem dX2_needed_31 : decode cX2_needed 31 = .ok (.iload 4, 2) := by decide +kernel
theorem dX2_needed_33 : decode cX2_needed 33 = .ok (.invokevirtual 155, 3) := by decide +kernel
theorem dX2_needed_36 : decode cX2_needed 36 = .ok (.ifCond .eq 8, 3) := by decide +kernel
theorem dX2_needed_39 : decode cX2_needed 39 = .ok (.iload_n 3, 1) := by decide +kernel
theorem dX2_needed_40 : decode cX2_needed 40 = .ok (.iload 4, 2) := by decide +kernel
theorem dX2_needed_42 : decode cX2_needed 42 = .ok (.iand, 1) := by decide +kernel
theorem dX2_needed_43 : decode cX2_needed 43 = .ok (.istore_n 3, 1) := by decide +kernel
theorem dX2_needed_44 : decode cX2_needed 44 = .ok (.iinc 4 1, 3) := by decide +kernel
theorem dX2_needed_47 : decode cX2_needed 47 = .ok (.goto (-27), 3) := by decide +kernel
theorem dX2_needed_50 : decode cX2_needed 50 = .ok (.iload_n 3, 1) := by decide +kernel
theorem dX2_needed_51 : decode cX2_needed 51 = .ok (.ireturn, 1) := by decide +kernel
set_option maxRecDepth 20000 in
theorem ggX2_useful_X2_requireNode : GoodIn wsX2_useful wsX2_requireNode := goodIn_ca (goodIn_r _ [5, 6, 7, 8, 77, 78, 79, 80, 81, 82, 83, 84] (by decide +kernel) (by decide +kernel)) (goodIn_sub (fun _ h => List.mem_cons_of_mem _ (List.mem_append_right _ h)) (by decide +kernel))
set_option maxRecDepth 20000 in
theorem gX2_useful_X2_requireNode : GoodIn wsX2_useful (wsV RX2 73 RX2 yX2_requireNode wsX2_requireNode) := goodIn_app (goodIn_of _ (by decide +kernel)) ggX2_useful_X2_requireNode
set_option maxRecDepth 20000 in
theorem ggX2_useful_X2_surveyNow : GoodIn wsX2_useful wsX2_surveyNow := goodIn_r _ [12, 13, 14, 15, 16, 17, 18, 19, 20, 21, 22, 23, 24, 25, 26, 27, 28, 29, 30, 31, 32, 33, 34, 35, 36, 37, 38, 39, 40, 41, 42, 43, 44, 45, 46, 47, 48, 49, 50, 51, 52, 53, 54, 55, 56, 57, 58, 59, 4, 60, 61, 62, 63, 64, 65, 66, 67, 68, 77, 78, 79, 80, 81, 82, 83, 84, 85, 86, 87, 88, 89, 90, 91, 92, 93, 94, 95] (by decide +kernel) (by decide +kernel)
set_option maxRecDepth 20000 in
theorem gX2_useful_X2_surveyNow : GoodIn wsX2_useful (wsV RX2 139 RX2 yX2_surveyNow wsX2_surveyNow) := goodIn_app (goodIn_of _ (by decide +kernel)) ggX2_useful_X2_surveyNow
set_option maxRecDepth 20000 in
theorem ggX2_useful_X1_environmentCount : GoodIn wsX2_useful wsX1_environmentCount := goodIn_r _ [72, 24, 85, 86, 87, 88, 89, 90, 91] (by decide +kernel) (by decide +kernel)
set_option maxRecDepth 20000 in
theorem gX2_useful_X1_environmentCount : GoodIn wsX2_useful (wsV RX2 152 RX1 yX1_environmentCount wsX1_environmentCount) := goodIn_app (goodIn_of _ (by decide +kernel)) ggX2_useful_X1_environmentCount
set_option maxRecDepth 20000 in
theorem ggX2_useful_X1_isInLabel : GoodIn wsX2_useful wsX1_isInLabel := goodIn_r _ [76, 27, 59, 4, 60, 85, 86, 87, 88, 89, 90, 91] (by decide +kernel) (by decide +kernel)
set_option maxRecDepth 20000 in
theorem gX2_useful_X1_isInLabel : GoodIn wsX2_useful (wsV RX2 155 RX1 yX1_isInLabel wsX1_isInLabel) := goodIn_app (goodIn_of _ (by decide +kernel)) ggX2_useful_X1_isInLabel
theorem dX2_useful_0 : decode cX2_useful 0 = .ok (.aload_n 0, 1) := by decide +kernel
theorem dX2_useful_1 : decode cX2_useful 1 = .ok (.iload_n 1, 1) := by decide +kernel
theorem dX2_useful_2 : decode cX2_useful 2 = .ok (.invokevirtual 73, 3) := by decide +kernel
theorem dX2_useful_5 : decode cX2_useful 5 = .ok (.aload_n 0, 1) := by decide +kernel
theorem dX2_useful_6 : decode cX2_useful 6 = .ok (.invokevirtual 139, 3) := by decide +kernel
theorem dX2_useful_9 : decode cX2_useful 9 = .ok (.astore_n 2, 1) := by decide +kernel
theorem dX2_useful_10 : decode cX2_useful 10 = .ok (.iconst 0, 1) := by decide +kernel
theorem dX2_useful_11 : decode cX2_useful 11 = .ok (.istore_n 3, 1) := by decide +kernel
theorem dX2_useful_12 : decode cX2_useful 12 = .ok (.iconst 0, 1) := by decide +kernel
theorem dX2_useful_13 : decode cX2_useful 13 = .ok (.istore 4, 2) := by decide +kernel
theorem dX2_useful_15 : decode cX2_useful 15 = .ok (.iload 4, 2) := by decide +kernel
theorem dX2_useful_17 : decode cX2_useful 17 = .ok (.aload_n 2, 1) := by decide +kernel
theorem dX2_useful_18 : decode cX2_useful 18 = .ok (.invokevirtual 152, 3) := by decide +kernel
theorem dX2_useful_21 : decode cX2_useful 21 = .ok (.if_icmp .ge 24, 3) := by decide +kernel
theorem dX2_useful_24 : decode cX2_useful 24 = .ok (.aload_n 2, 1) := by decide +kernel
theorem dX2_useful_25 : decode cX2_useful 25 = .ok (.iload_n 1, 1) := by decide +kernel
theorem dX2_useful_26 : decode cX2_useful 26 = .ok (.iload 4, 2) := by decide +kernel
theorem dX2_useful_28 : decode cX2_useful 28 = .ok (.invokevirtual 155, 3) := by decide +kernel
theorem dX2_useful_31 : decode cX2_useful 31 = .ok (.ifCond .eq 8, 3) := by decide +kernel
theorem dX2_useful_34 : decode cX2_useful 34 = .ok (.iload_n 3, 1) := by decide +kernel
theorem dX2_useful_35 : decode cX2_useful 35 = .ok (.iload 4, 2) := by decide +kernel
theorem dX2_useful_37 : decode cX2_useful 37 = .ok (.ior, 1) := by decide +kernel
theorem dX2_useful_38 : decode cX2_useful 38 = .ok (.istore_n 3, 1) := by decide +kernel
theorem dX2_useful_39 : decode cX2_useful 39 = .ok (.iinc 4 1, 3) := by decide +kernel
theorem dX2_useful_42 : decode cX2_useful 42 = .ok (.goto (-27), 3) := by decide +kernel
theorem dX2_useful_45 : decode cX2_useful 45 = .ok (.iload_n 3, 1) := by decide +kernel
theorem dX2_useful_46 : decode cX2_useful 46 = .ok (.ireturn, 1) := by decide +kernel
set_option maxRecDepth 20000 in
theorem ggX2_nogoodCount_X2_surveyNow : GoodIn wsX2_nogoodCount wsX2_surveyNow := goodIn_r _ [5, 6, 7, 8, 9, 10, 11, 12, 13, 14, 15, 16, 17, 18, 19, 20, 21, 22, 23, 24, 25, 26, 27, 28, 29, 30, 31, 32, 33, 34, 35, 36, 37, 38, 39, 40, 41, 42, 43, 44, 45, 46, 47, 48, 49, 50, 51, 52, 4, 53, 54, 55, 56, 57, 58, 59, 60, 61, 70, 71, 72, 73, 74, 75, 76, 77, 78, 79, 80, 81, 82, 83, 84, 85, 86, 87, 88] (by decide +kernel) (by decide +kernel)
set_option maxRecDepth 20000 in
theorem gX2_nogoodCount_X2_surveyNow : GoodIn wsX2_nogoodCount (wsV RX2 139 RX2 yX2_surveyNow wsX2_surveyNow) := goodIn_app (goodIn_of _ (by decide +kernel)) ggX2_nogoodCount_X2_surveyNow
set_option maxRecDepth 20000 in
theorem ggX2_nogoodCount_X1_countNogoods : GoodIn wsX2_nogoodCount wsX1_countNogoods := goodIn_r _ [65, 21, 66, 67, 68, 14, 69, 17, 78, 79, 80, 81, 82, 83, 84] (by decide +kernel) (by decide +kernel)
set_option maxRecDepth 20000 in
theorem gX2_nogoodCount_X1_countNogoods : GoodIn wsX2_nogoodCount (wsV RX2 158 RX1 yX1_countNogoods wsX1_countNogoods) := goodIn_app (goodIn_of _ (by decide +kernel)) ggX2_nogoodCount_X1_countNogoods
theorem dX2_nogoodCount_0 : decode cX2_nogoodCount 0 = .ok (.aload_n 0, 1) := by decide +kernel
theorem dX2_nogoodCount_1 : decode cX2_nogoodCount 1 = .ok (.invokevirtual 139, 3) := by decide +kernel
theorem dX2_nogoodCount_4 : decode cX2_nogoodCount 4 = .ok (.invokevirtual 158, 3) := by decide +kernel
theorem dX2_nogoodCount_7 : decode cX2_nogoodCount 7 = .ok (.ireturn, 1) := by decide +kernel
set_option maxRecDepth 20000 in
theorem ggX2_nogood_X2_surveyNow : GoodIn wsX2_nogood wsX2_surveyNow := goodIn_r _ [5, 6, 7, 8, 9, 10, 11, 12, 13, 14, 15, 16, 17, 18, 19, 20, 21, 22, 23, 24, 25, 26, 27, 28, 29, 30, 31, 32, 33, 34, 35, 36, 37, 38, 39, 40, 41, 42, 43, 44, 45, 46, 47, 48, 49, 50, 51, 52, 4, 53, 54, 55, 56, 57, 58, 59, 60, 61, 75, 76, 77, 78, 79, 80, 81, 82, 83, 84, 85, 86, 87, 88, 89, 90, 91, 92, 93] (by decide +kernel) (by decide +kernel)
set_option maxRecDepth 20000 in
theorem gX2_nogood_X2_surveyNow : GoodIn wsX2_nogood (wsV RX2 139 RX2 yX2_surveyNow wsX2_surveyNow) := goodIn_app (goodIn_of _ (by decide +kernel)) ggX2_nogood_X2_surveyNow
set_option maxRecDepth 20000 in
theorem ggX2_nogood_X1_nogoodAt : GoodIn wsX2_nogood wsX1_nogoodAt := goodIn_r _ [65, 21, 66, 67, 68, 14, 69, 17, 83, 84, 85, 86, 87, 88, 89] (by decide +kernel) (by decide +kernel)
set_option maxRecDepth 20000 in
theorem gX2_nogood_X1_nogoodAt : GoodIn wsX2_nogood (wsV RX2 161 RX1 yX1_nogoodAt wsX1_nogoodAt) := goodIn_app (goodIn_of _ (by decide +kernel)) ggX2_nogood_X1_nogoodAt
set_option maxRecDepth 20000 in
theorem ggX2_nogood_X2_requireFound : GoodIn wsX2_nogood wsX2_requireFound := goodIn_ca (goodIn_r _ [72, 73, 74] (by decide +kernel) (by decide +kernel)) (goodIn_sub (fun _ h => List.mem_cons_of_mem _ (List.mem_append_right _ h)) (by decide +kernel))
set_option maxRecDepth 20000 in
theorem gX2_nogood_X2_requireFound : GoodIn wsX2_nogood (va_wsS RX2 149 yX2_requireFound wsX2_requireFound) := goodIn_app (goodIn_of _ (by decide +kernel)) ggX2_nogood_X2_requireFound
theorem dX2_nogood_0 : decode cX2_nogood 0 = .ok (.aload_n 0, 1) := by decide +kernel
theorem dX2_nogood_1 : decode cX2_nogood 1 = .ok (.invokevirtual 139, 3) := by decide +kernel
theorem dX2_nogood_4 : decode cX2_nogood 4 = .ok (.iload_n 1, 1) := by decide +kernel
theorem dX2_nogood_5 : decode cX2_nogood 5 = .ok (.invokevirtual 161, 3) := by decide +kernel
theorem dX2_nogood_8 : decode cX2_nogood 8 = .ok (.invokestatic 149, 3) := by decide +kernel
theorem dX2_nogood_11 : decode cX2_nogood 11 = .ok (.ireturn, 1) := by decide +kernel
set_option maxRecDepth 20000 in
theorem ggX2_worldCount_X2_surveyNow : GoodIn wsX2_worldCount wsX2_surveyNow := goodIn_r _ [5, 6, 7, 8, 9, 10, 11, 12, 13, 14, 15, 16, 17, 18, 19, 20, 21, 22, 23, 24, 25, 26, 27, 28, 29, 30, 31, 32, 33, 34, 35, 36, 37, 38, 39, 40, 41, 42, 43, 44, 45, 46, 47, 48, 49, 50, 51, 52, 4, 53, 54, 55, 56, 57, 58, 59, 60, 61, 70, 71, 72, 73, 74, 75, 76, 77, 78, 79, 80, 81, 82, 83, 84, 85, 86, 87, 88] (by decide +kernel) (by decide +kernel)
set_option maxRecDepth 20000 in
theorem gX2_worldCount_X2_surveyNow : GoodIn wsX2_worldCount (wsV RX2 139 RX2 yX2_surveyNow wsX2_surveyNow) := goodIn_app (goodIn_of _ (by decide +kernel)) ggX2_worldCount_X2_surveyNow
set_option maxRecDepth 20000 in
theorem ggX2_worldCount_X1_countWorlds : GoodIn wsX2_worldCount wsX1_countWorlds := goodIn_r _ [65, 22, 66, 67, 68, 14, 69, 17, 78, 79, 80, 81, 82, 83, 84] (by decide +kernel) (by decide +kernel)
set_option maxRecDepth 20000 in
theorem gX2_worldCount_X1_countWorlds : GoodIn wsX2_worldCount (wsV RX2 164 RX1 yX1_countWorlds wsX1_countWorlds) := goodIn_app (goodIn_of _ (by decide +kernel)) ggX2_worldCount_X1_countWorlds
theorem dX2_worldCount_0 : decode cX2_worldCount 0 = .ok (.aload_n 0, 1) := by decide +kernel
theorem dX2_worldCount_1 : decode cX2_worldCount 1 = .ok (.invokevirtual 139, 3) := by decide +kernel
theorem dX2_worldCount_4 : decode cX2_worldCount 4 = .ok (.invokevirtual 164, 3) := by decide +kernel
theorem dX2_worldCount_7 : decode cX2_worldCount 7 = .ok (.ireturn, 1) := by decide +kernel
set_option maxRecDepth 20000 in
theorem ggX2_world_X2_surveyNow : GoodIn wsX2_world wsX2_surveyNow := goodIn_r _ [5, 6, 7, 8, 9, 10, 11, 12, 13, 14, 15, 16, 17, 18, 19, 20, 21, 22, 23, 24, 25, 26, 27, 28, 29, 30, 31, 32, 33, 34, 35, 36, 37, 38, 39, 40, 41, 42, 43, 44, 45, 46, 47, 48, 49, 50, 51, 52, 4, 53, 54, 55, 56, 57, 58, 59, 60, 61, 75, 76, 77, 78, 79, 80, 81, 82, 83, 84, 85, 86, 87, 88, 89, 90, 91, 92, 93] (by decide +kernel) (by decide +kernel)
set_option maxRecDepth 20000 in
theorem gX2_world_X2_surveyNow : GoodIn wsX2_world (wsV RX2 139 RX2 yX2_surveyNow wsX2_surveyNow) := goodIn_app (goodIn_of _ (by decide +kernel)) ggX2_world_X2_surveyNow
set_option maxRecDepth 20000 in
theorem ggX2_world_X1_worldAt : GoodIn wsX2_world wsX1_worldAt := goodIn_r _ [65, 22, 66, 67, 68, 14, 69, 17, 83, 84, 85, 86, 87, 88, 89] (by decide +kernel) (by decide +kernel)
set_option maxRecDepth 20000 in
theorem gX2_world_X1_worldAt : GoodIn wsX2_world (wsV RX2 167 RX1 yX1_worldAt wsX1_worldAt) := goodIn_app (goodIn_of _ (by decide +kernel)) ggX2_world_X1_worldAt
set_option maxRecDepth 20000 in
theorem ggX2_world_X2_requireFound : GoodIn wsX2_world wsX2_requireFound := goodIn_ca (goodIn_r _ [72, 73, 74] (by decide +kernel) (by decide +kernel)) (goodIn_sub (fun _ h => List.mem_cons_of_mem _ (List.mem_append_right _ h)) (by decide +kernel))
set_option maxRecDepth 20000 in
theorem gX2_world_X2_requireFound : GoodIn wsX2_world (va_wsS RX2 149 yX2_requireFound wsX2_requireFound) := goodIn_app (goodIn_of _ (by decide +kernel)) ggX2_world_X2_requireFound
theorem dX2_world_0 : decode cX2_world 0 = .ok (.aload_n 0, 1) := by decide +kernel
theorem dX2_world_1 : decode cX2_world 1 = .ok (.invokevirtual 139, 3) := by decide +kernel
theorem dX2_world_4 : decode cX2_world 4 = .ok (.iload_n 1, 1) := by decide +kernel
theorem dX2_world_5 : decode cX2_world 5 = .ok (.invokevirtual 167, 3) := by decide +kernel
theorem dX2_world_8 : decode cX2_world 8 = .ok (.invokestatic 149, 3) := by decide +kernel
theorem dX2_world_11 : decode cX2_world 11 = .ok (.ireturn, 1) := by decide +kernel
set_option maxRecDepth 20000 in
theorem ggX2_worldsWith_X2_requireNode : GoodIn wsX2_worldsWith wsX2_requireNode := goodIn_ca (goodIn_r _ [5, 6, 7, 8, 81, 82, 83, 84, 85, 86, 87, 88] (by decide +kernel) (by decide +kernel)) (goodIn_sub (fun _ h => List.mem_cons_of_mem _ (List.mem_append_right _ h)) (by decide +kernel))
set_option maxRecDepth 20000 in
theorem gX2_worldsWith_X2_requireNode : GoodIn wsX2_worldsWith (wsV RX2 73 RX2 yX2_requireNode wsX2_requireNode) := goodIn_app (goodIn_of _ (by decide +kernel)) ggX2_worldsWith_X2_requireNode
set_option maxRecDepth 20000 in
theorem ggX2_worldsWith_X2_surveyNow : GoodIn wsX2_worldsWith wsX2_surveyNow := goodIn_r _ [12, 13, 14, 15, 16, 17, 18, 19, 20, 21, 22, 23, 24, 25, 26, 27, 28, 29, 30, 31, 32, 33, 34, 35, 36, 37, 38, 39, 40, 41, 42, 43, 44, 45, 46, 47, 48, 49, 50, 51, 52, 53, 54, 55, 56, 57, 58, 59, 4, 60, 61, 62, 63, 64, 65, 66, 67, 68, 81, 82, 83, 84, 85, 86, 87, 88, 89, 90, 91, 92, 93, 94, 95, 96, 97, 98, 99] (by decide +kernel) (by decide +kernel)
set_option maxRecDepth 20000 in
theorem gX2_worldsWith_X2_surveyNow : GoodIn wsX2_worldsWith (wsV RX2 139 RX2 yX2_surveyNow wsX2_surveyNow) := goodIn_app (goodIn_of _ (by decide +kernel)) ggX2_worldsWith_X2_surveyNow
set_option maxRecDepth 20000 in
theorem ggX2_worldsWith_X1_environmentCount : GoodIn wsX2_worldsWith wsX1_environmentCount := goodIn_r _ [72, 24, 89, 90, 91, 92, 93, 94, 95] (by decide +kernel) (by decide +kernel)
set_option maxRecDepth 20000 in
theorem gX2_worldsWith_X1_environmentCount : GoodIn wsX2_worldsWith (wsV RX2 152 RX1 yX1_environmentCount wsX1_environmentCount) := goodIn_app (goodIn_of _ (by decide +kernel)) ggX2_worldsWith_X1_environmentCount
set_option maxRecDepth 20000 in
theorem ggX2_worldsWith_X1_isWorld : GoodIn wsX2_worldsWith wsX1_isWorld := goodIn_r _ [76, 29, 89, 90, 91, 92, 93, 94, 95] (by decide +kernel) (by decide +kernel)
set_option maxRecDepth 20000 in
theorem gX2_worldsWith_X1_isWorld : GoodIn wsX2_worldsWith (wsV RX2 170 RX1 yX1_isWorld wsX1_isWorld) := goodIn_app (goodIn_of _ (by decide +kernel)) ggX2_worldsWith_X1_isWorld
set_option maxRecDepth 20000 in
theorem ggX2_worldsWith_X1_isHeld : GoodIn wsX2_worldsWith wsX1_isHeld := goodIn_r _ [80, 26, 59, 4, 60, 89, 90, 91, 92, 93, 94, 95] (by decide +kernel) (by decide +kernel)
set_option maxRecDepth 20000 in
theorem gX2_worldsWith_X1_isHeld : GoodIn wsX2_worldsWith (wsV RX2 173 RX1 yX1_isHeld wsX1_isHeld) := goodIn_app (goodIn_of _ (by decide +kernel)) ggX2_worldsWith_X1_isHeld
theorem dX2_worldsWith_0 : decode cX2_worldsWith 0 = .ok (.aload_n 0, 1) := by decide +kernel
theorem dX2_worldsWith_1 : decode cX2_worldsWith 1 = .ok (.iload_n 1, 1) := by decide +kernel
theorem dX2_worldsWith_2 : decode cX2_worldsWith 2 = .ok (.invokevirtual 73, 3) := by decide +kernel
theorem dX2_worldsWith_5 : decode cX2_worldsWith 5 = .ok (.aload_n 0, 1) := by decide +kernel
theorem dX2_worldsWith_6 : decode cX2_worldsWith 6 = .ok (.invokevirtual 139, 3) := by decide +kernel
theorem dX2_worldsWith_9 : decode cX2_worldsWith 9 = .ok (.astore_n 2, 1) := by decide +kernel
theorem dX2_worldsWith_10 : decode cX2_worldsWith 10 = .ok (.iconst 0, 1) := by decide +kernel
theorem dX2_worldsWith_11 : decode cX2_worldsWith 11 = .ok (.istore_n 3, 1) := by decide +kernel
theorem dX2_worldsWith_12 : decode cX2_worldsWith 12 = .ok (.iconst 0, 1) := by decide +kernel
theorem dX2_worldsWith_13 : decode cX2_worldsWith 13 = .ok (.istore 4, 2) := by decide +kernel
theorem dX2_worldsWith_15 : decode cX2_worldsWith 15 = .ok (.iload 4, 2) := by decide +kernel
theorem dX2_worldsWith_17 : decode cX2_worldsWith 17 = .ok (.aload_n 2, 1) := by decide +kernel
theorem dX2_worldsWith_18 : decode cX2_worldsWith 18 = .ok (.invokevirtual 152, 3) := by decide +kernel
theorem dX2_worldsWith_21 : decode cX2_worldsWith 21 = .ok (.if_icmp .ge 31, 3) := by decide +kernel
theorem dX2_worldsWith_24 : decode cX2_worldsWith 24 = .ok (.aload_n 2, 1) := by decide +kernel
theorem dX2_worldsWith_25 : decode cX2_worldsWith 25 = .ok (.iload 4, 2) := by decide +kernel
theorem dX2_worldsWith_27 : decode cX2_worldsWith 27 = .ok (.invokevirtual 170, 3) := by decide +kernel
theorem dX2_worldsWith_30 : decode cX2_worldsWith 30 = .ok (.ifCond .eq 16, 3) := by decide +kernel
theorem dX2_worldsWith_33 : decode cX2_worldsWith 33 = .ok (.aload_n 2, 1) := by decide +kernel
theorem dX2_worldsWith_34 : decode cX2_worldsWith 34 = .ok (.iload_n 1, 1) := by decide +kernel
theorem dX2_worldsWith_35 : decode cX2_worldsWith 35 = .ok (.iload 4, 2) := by decide +kernel
theorem dX2_worldsWith_37 : decode cX2_worldsWith 37 = .ok (.invokevirtual 173, 3) := by decide +kernel
theorem dX2_worldsWith_40 : decode cX2_worldsWith 40 = .ok (.ifCond .eq 6, 3) := by decide +kernel
theorem dX2_worldsWith_43 : decode cX2_worldsWith 43 = .ok (.iinc 3 1, 3) := by decide +kernel
theorem dX2_worldsWith_46 : decode cX2_worldsWith 46 = .ok (.iinc 4 1, 3) := by decide +kernel
theorem dX2_worldsWith_49 : decode cX2_worldsWith 49 = .ok (.goto (-34), 3) := by decide +kernel
theorem dX2_worldsWith_52 : decode cX2_worldsWith 52 = .ok (.iload_n 3, 1) := by decide +kernel
theorem dX2_worldsWith_53 : decode cX2_worldsWith 53 = .ok (.ireturn, 1) := by decide +kernel
set_option maxRecDepth 20000 in
theorem ggX2_belief_X2_requireNode : GoodIn wsX2_belief wsX2_requireNode := goodIn_ca (goodIn_r _ [5, 6, 7, 8, 81, 82, 83, 84, 85, 86, 87, 88] (by decide +kernel) (by decide +kernel)) (goodIn_sub (fun _ h => List.mem_cons_of_mem _ (List.mem_append_right _ h)) (by decide +kernel))
set_option maxRecDepth 20000 in
theorem gX2_belief_X2_requireNode : GoodIn wsX2_belief (wsV RX2 73 RX2 yX2_requireNode wsX2_requireNode) := goodIn_app (goodIn_of _ (by decide +kernel)) ggX2_belief_X2_requireNode
set_option maxRecDepth 20000 in
theorem ggX2_belief_X2_surveyNow : GoodIn wsX2_belief wsX2_surveyNow := goodIn_r _ [12, 13, 14, 15, 16, 17, 18, 19, 20, 21, 22, 23, 24, 25, 26, 27, 28, 29, 30, 31, 32, 33, 34, 35, 36, 37, 38, 39, 40, 41, 42, 43, 44, 45, 46, 47, 48, 49, 50, 51, 52, 53, 54, 55, 56, 57, 58, 59, 4, 60, 61, 62, 63, 64, 65, 66, 67, 68, 81, 82, 83, 84, 85, 86, 87, 88, 89, 90, 91, 92, 93, 94, 95, 96, 97, 98, 99] (by decide +kernel) (by decide +kernel)
set_option maxRecDepth 20000 in
theorem gX2_belief_X2_surveyNow : GoodIn wsX2_belief (wsV RX2 139 RX2 yX2_surveyNow wsX2_surveyNow) := goodIn_app (goodIn_of _ (by decide +kernel)) ggX2_belief_X2_surveyNow
set_option maxRecDepth 20000 in
theorem ggX2_belief_X1_environmentCount : GoodIn wsX2_belief wsX1_environmentCount := goodIn_r _ [72, 24, 89, 90, 91, 92, 93, 94, 95] (by decide +kernel) (by decide +kernel)
set_option maxRecDepth 20000 in
theorem gX2_belief_X1_environmentCount : GoodIn wsX2_belief (wsV RX2 152 RX1 yX1_environmentCount wsX1_environmentCount) := goodIn_app (goodIn_of _ (by decide +kernel)) ggX2_belief_X1_environmentCount
set_option maxRecDepth 20000 in
theorem ggX2_belief_X1_isSound : GoodIn wsX2_belief wsX1_isSound := goodIn_r _ [76, 25, 89, 90, 91, 92, 93, 94, 95] (by decide +kernel) (by decide +kernel)
set_option maxRecDepth 20000 in
theorem gX2_belief_X1_isSound : GoodIn wsX2_belief (wsV RX2 176 RX1 yX1_isSound wsX1_isSound) := goodIn_app (goodIn_of _ (by decide +kernel)) ggX2_belief_X1_isSound
set_option maxRecDepth 20000 in
theorem ggX2_belief_X1_isHeld : GoodIn wsX2_belief wsX1_isHeld := goodIn_r _ [80, 26, 59, 4, 60, 89, 90, 91, 92, 93, 94, 95] (by decide +kernel) (by decide +kernel)
set_option maxRecDepth 20000 in
theorem gX2_belief_X1_isHeld : GoodIn wsX2_belief (wsV RX2 173 RX1 yX1_isHeld wsX1_isHeld) := goodIn_app (goodIn_of _ (by decide +kernel)) ggX2_belief_X1_isHeld
theorem dX2_belief_0 : decode cX2_belief 0 = .ok (.aload_n 0, 1) := by decide +kernel
theorem dX2_belief_1 : decode cX2_belief 1 = .ok (.iload_n 1, 1) := by decide +kernel
theorem dX2_belief_2 : decode cX2_belief 2 = .ok (.invokevirtual 73, 3) := by decide +kernel
theorem dX2_belief_5 : decode cX2_belief 5 = .ok (.aload_n 0, 1) := by decide +kernel
theorem dX2_belief_6 : decode cX2_belief 6 = .ok (.invokevirtual 139, 3) := by decide +kernel
theorem dX2_belief_9 : decode cX2_belief 9 = .ok (.astore_n 2, 1) := by decide +kernel
theorem dX2_belief_10 : decode cX2_belief 10 = .ok (.iconst 0, 1) := by decide +kernel
theorem dX2_belief_11 : decode cX2_belief 11 = .ok (.istore_n 3, 1) := by decide +kernel
theorem dX2_belief_12 : decode cX2_belief 12 = .ok (.iconst 0, 1) := by decide +kernel
theorem dX2_belief_13 : decode cX2_belief 13 = .ok (.istore 4, 2) := by decide +kernel
theorem dX2_belief_15 : decode cX2_belief 15 = .ok (.iconst 0, 1) := by decide +kernel
theorem dX2_belief_16 : decode cX2_belief 16 = .ok (.istore 5, 2) := by decide +kernel
theorem dX2_belief_18 : decode cX2_belief 18 = .ok (.iload 5, 2) := by decide +kernel
theorem dX2_belief_20 : decode cX2_belief 20 = .ok (.aload_n 2, 1) := by decide +kernel
theorem dX2_belief_21 : decode cX2_belief 21 = .ok (.invokevirtual 152, 3) := by decide +kernel
theorem dX2_belief_24 : decode cX2_belief 24 = .ok (.if_icmp .ge 34, 3) := by decide +kernel
theorem dX2_belief_27 : decode cX2_belief 27 = .ok (.aload_n 2, 1) := by decide +kernel
theorem dX2_belief_28 : decode cX2_belief 28 = .ok (.iload 5, 2) := by decide +kernel
theorem dX2_belief_30 : decode cX2_belief 30 = .ok (.invokevirtual 176, 3) := by decide +kernel
theorem dX2_belief_33 : decode cX2_belief 33 = .ok (.ifCond .eq 19, 3) := by decide +kernel
theorem dX2_belief_36 : decode cX2_belief 36 = .ok (.iinc 3 1, 3) := by decide +kernel
theorem dX2_belief_39 : decode cX2_belief 39 = .ok (.aload_n 2, 1) := by decide +kernel
theorem dX2_belief_40 : decode cX2_belief 40 = .ok (.iload_n 1, 1) := by decide +kernel
theorem dX2_belief_41 : decode cX2_belief 41 = .ok (.iload 5, 2) := by decide +kernel
theorem dX2_belief_43 : decode cX2_belief 43 = .ok (.invokevirtual 173, 3) := by decide +kernel
theorem dX2_belief_46 : decode cX2_belief 46 = .ok (.ifCond .eq 6, 3) := by decide +kernel
theorem dX2_belief_49 : decode cX2_belief 49 = .ok (.iinc 4 1, 3) := by decide +kernel
theorem dX2_belief_52 : decode cX2_belief 52 = .ok (.iinc 5 1, 3) := by decide +kernel
theorem dX2_belief_55 : decode cX2_belief 55 = .ok (.goto (-37), 3) := by decide +kernel
theorem dX2_belief_58 : decode cX2_belief 58 = .ok (.iload_n 3, 1) := by decide +kernel
theorem dX2_belief_59 : decode cX2_belief 59 = .ok (.ifCond .ne 5, 3) := by decide +kernel
theorem dX2_belief_62 : decode cX2_belief 62 = .ok (.dconst 0, 1) := by decide +kernel
theorem dX2_belief_63 : decode cX2_belief 63 = .ok (.dreturn, 1) := by decide +kernel
theorem dX2_belief_64 : decode cX2_belief 64 = .ok (.iload 4, 2) := by decide +kernel
theorem dX2_belief_66 : decode cX2_belief 66 = .ok (.i2d, 1) := by decide +kernel
theorem dX2_belief_67 : decode cX2_belief 67 = .ok (.iload_n 3, 1) := by decide +kernel
theorem dX2_belief_68 : decode cX2_belief 68 = .ok (.i2d, 1) := by decide +kernel
theorem dX2_belief_69 : decode cX2_belief 69 = .ok (.ddiv, 1) := by decide +kernel
theorem dX2_belief_70 : decode cX2_belief 70 = .ok (.dreturn, 1) := by decide +kernel
set_option maxRecDepth 20000 in
theorem ggX2_implies_X2_requireNode : GoodIn wsX2_implies wsX2_requireNode := goodIn_ca (goodIn_r _ [5, 6, 7, 8, 81, 82, 83, 84, 85, 86, 87, 88] (by decide +kernel) (by decide +kernel)) (goodIn_sub (fun _ h => List.mem_cons_of_mem _ (List.mem_append_right _ h)) (by decide +kernel))
set_option maxRecDepth 20000 in
theorem gX2_implies_X2_requireNode : GoodIn wsX2_implies (wsV RX2 73 RX2 yX2_requireNode wsX2_requireNode) := goodIn_app (goodIn_of _ (by decide +kernel)) ggX2_implies_X2_requireNode
set_option maxRecDepth 20000 in
theorem ggX2_implies_X2_surveyNow : GoodIn wsX2_implies wsX2_surveyNow := goodIn_r _ [12, 13, 14, 15, 16, 17, 18, 19, 20, 21, 22, 23, 24, 25, 26, 27, 28, 29, 30, 31, 32, 33, 34, 35, 36, 37, 38, 39, 40, 41, 42, 43, 44, 45, 46, 47, 48, 49, 50, 51, 52, 53, 54, 55, 56, 57, 58, 59, 4, 60, 61, 62, 63, 64, 65, 66, 67, 68, 81, 82, 83, 84, 85, 86, 87, 88, 89, 90, 91, 92, 93, 94, 95, 96, 97, 98, 99] (by decide +kernel) (by decide +kernel)
set_option maxRecDepth 20000 in
theorem gX2_implies_X2_surveyNow : GoodIn wsX2_implies (wsV RX2 139 RX2 yX2_surveyNow wsX2_surveyNow) := goodIn_app (goodIn_of _ (by decide +kernel)) ggX2_implies_X2_surveyNow
set_option maxRecDepth 20000 in
theorem ggX2_implies_X1_environmentCount : GoodIn wsX2_implies wsX1_environmentCount := goodIn_r _ [72, 24, 89, 90, 91, 92, 93, 94, 95] (by decide +kernel) (by decide +kernel)
set_option maxRecDepth 20000 in
theorem gX2_implies_X1_environmentCount : GoodIn wsX2_implies (wsV RX2 152 RX1 yX1_environmentCount wsX1_environmentCount) := goodIn_app (goodIn_of _ (by decide +kernel)) ggX2_implies_X1_environmentCount
set_option maxRecDepth 20000 in
theorem ggX2_implies_X1_isSound : GoodIn wsX2_implies wsX1_isSound := goodIn_r _ [76, 25, 89, 90, 91, 92, 93, 94, 95] (by decide +kernel) (by decide +kernel)
set_option maxRecDepth 20000 in
theorem gX2_implies_X1_isSound : GoodIn wsX2_implies (wsV RX2 176 RX1 yX1_isSound wsX1_isSound) := goodIn_app (goodIn_of _ (by decide +kernel)) ggX2_implies_X1_isSound
set_option maxRecDepth 20000 in
theorem ggX2_implies_X1_isHeld : GoodIn wsX2_implies wsX1_isHeld := goodIn_r _ [80, 26, 59, 4, 60, 89, 90, 91, 92, 93, 94, 95] (by decide +kernel) (by decide +kernel)
set_option maxRecDepth 20000 in
theorem gX2_implies_X1_isHeld : GoodIn wsX2_implies (wsV RX2 173 RX1 yX1_isHeld wsX1_isHeld) := goodIn_app (goodIn_of _ (by decide +kernel)) ggX2_implies_X1_isHeld
theorem dX2_implies_0 : decode cX2_implies 0 = .ok (.aload_n 0, 1) := by decide +kernel
theorem dX2_implies_1 : decode cX2_implies 1 = .ok (.iload_n 1, 1) := by decide +kernel
theorem dX2_implies_2 : decode cX2_implies 2 = .ok (.invokevirtual 73, 3) := by decide +kernel
theorem dX2_implies_5 : decode cX2_implies 5 = .ok (.aload_n 0, 1) := by decide +kernel
theorem dX2_implies_6 : decode cX2_implies 6 = .ok (.iload_n 2, 1) := by decide +kernel
theorem dX2_implies_7 : decode cX2_implies 7 = .ok (.invokevirtual 73, 3) := by decide +kernel
theorem dX2_implies_10 : decode cX2_implies 10 = .ok (.aload_n 0, 1) := by decide +kernel
theorem dX2_implies_11 : decode cX2_implies 11 = .ok (.invokevirtual 139, 3) := by decide +kernel
theorem dX2_implies_14 : decode cX2_implies 14 = .ok (.astore_n 3, 1) := by decide +kernel
theorem dX2_implies_15 : decode cX2_implies 15 = .ok (.iconst 0, 1) := by decide +kernel
theorem dX2_implies_16 : decode cX2_implies 16 = .ok (.istore 4, 2) := by decide +kernel
theorem dX2_implies_18 : decode cX2_implies 18 = .ok (.iload 4, 2) := by decide +kernel
theorem dX2_implies_20 : decode cX2_implies 20 = .ok (.aload_n 3, 1) := by decide +kernel
theorem dX2_implies_21 : decode cX2_implies 21 = .ok (.invokevirtual 152, 3) := by decide +kernel
theorem dX2_implies_24 : decode cX2_implies 24 = .ok (.if_icmp .ge 40, 3) := by decide +kernel
theorem dX2_implies_27 : decode cX2_implies 27 = .ok (.aload_n 3, 1) := by decide +kernel
theorem dX2_implies_28 : decode cX2_implies 28 = .ok (.iload 4, 2) := by decide +kernel
theorem dX2_implies_30 : decode cX2_implies 30 = .ok (.invokevirtual 176, 3) := by decide +kernel
theorem dX2_implies_33 : decode cX2_implies 33 = .ok (.ifCond .eq 25, 3) := by decide +kernel
theorem dX2_implies_36 : decode cX2_implies 36 = .ok (.aload_n 3, 1) := by decide +kernel
theorem dX2_implies_37 : decode cX2_implies 37 = .ok (.iload_n 1, 1) := by decide +kernel
theorem dX2_implies_38 : decode cX2_implies 38 = .ok (.iload 4, 2) := by decide +kernel
theorem dX2_implies_40 : decode cX2_implies 40 = .ok (.invokevirtual 173, 3) := by decide +kernel
theorem dX2_implies_43 : decode cX2_implies 43 = .ok (.ifCond .eq 15, 3) := by decide +kernel
theorem dX2_implies_46 : decode cX2_implies 46 = .ok (.aload_n 3, 1) := by decide +kernel
theorem dX2_implies_47 : decode cX2_implies 47 = .ok (.iload_n 2, 1) := by decide +kernel
theorem dX2_implies_48 : decode cX2_implies 48 = .ok (.iload 4, 2) := by decide +kernel
theorem dX2_implies_50 : decode cX2_implies 50 = .ok (.invokevirtual 173, 3) := by decide +kernel
theorem dX2_implies_53 : decode cX2_implies 53 = .ok (.ifCond .ne 5, 3) := by decide +kernel
theorem dX2_implies_56 : decode cX2_implies 56 = .ok (.iconst 0, 1) := by decide +kernel
theorem dX2_implies_57 : decode cX2_implies 57 = .ok (.ireturn, 1) := by decide +kernel
theorem dX2_implies_58 : decode cX2_implies 58 = .ok (.iinc 4 1, 3) := by decide +kernel
theorem dX2_implies_61 : decode cX2_implies 61 = .ok (.goto (-43), 3) := by decide +kernel
theorem dX2_implies_64 : decode cX2_implies 64 = .ok (.iconst 1, 1) := by decide +kernel
theorem dX2_implies_65 : decode cX2_implies 65 = .ok (.ireturn, 1) := by decide +kernel
set_option maxRecDepth 20000 in
theorem ggX2_excludes_X2_requireNode : GoodIn wsX2_excludes wsX2_requireNode := goodIn_ca (goodIn_r _ [5, 6, 7, 8, 81, 82, 83, 84, 85, 86, 87, 88] (by decide +kernel) (by decide +kernel)) (goodIn_sub (fun _ h => List.mem_cons_of_mem _ (List.mem_append_right _ h)) (by decide +kernel))
set_option maxRecDepth 20000 in
theorem gX2_excludes_X2_requireNode : GoodIn wsX2_excludes (wsV RX2 73 RX2 yX2_requireNode wsX2_requireNode) := goodIn_app (goodIn_of _ (by decide +kernel)) ggX2_excludes_X2_requireNode
set_option maxRecDepth 20000 in
theorem ggX2_excludes_X2_surveyNow : GoodIn wsX2_excludes wsX2_surveyNow := goodIn_r _ [12, 13, 14, 15, 16, 17, 18, 19, 20, 21, 22, 23, 24, 25, 26, 27, 28, 29, 30, 31, 32, 33, 34, 35, 36, 37, 38, 39, 40, 41, 42, 43, 44, 45, 46, 47, 48, 49, 50, 51, 52, 53, 54, 55, 56, 57, 58, 59, 4, 60, 61, 62, 63, 64, 65, 66, 67, 68, 81, 82, 83, 84, 85, 86, 87, 88, 89, 90, 91, 92, 93, 94, 95, 96, 97, 98, 99] (by decide +kernel) (by decide +kernel)
set_option maxRecDepth 20000 in
theorem gX2_excludes_X2_surveyNow : GoodIn wsX2_excludes (wsV RX2 139 RX2 yX2_surveyNow wsX2_surveyNow) := goodIn_app (goodIn_of _ (by decide +kernel)) ggX2_excludes_X2_surveyNow
set_option maxRecDepth 20000 in
theorem ggX2_excludes_X1_environmentCount : GoodIn wsX2_excludes wsX1_environmentCount := goodIn_r _ [72, 24, 89, 90, 91, 92, 93, 94, 95] (by decide +kernel) (by decide +kernel)
set_option maxRecDepth 20000 in
theorem gX2_excludes_X1_environmentCount : GoodIn wsX2_excludes (wsV RX2 152 RX1 yX1_environmentCount wsX1_environmentCount) := goodIn_app (goodIn_of _ (by decide +kernel)) ggX2_excludes_X1_environmentCount
set_option maxRecDepth 20000 in
theorem ggX2_excludes_X1_isSound : GoodIn wsX2_excludes wsX1_isSound := goodIn_r _ [76, 25, 89, 90, 91, 92, 93, 94, 95] (by decide +kernel) (by decide +kernel)
set_option maxRecDepth 20000 in
theorem gX2_excludes_X1_isSound : GoodIn wsX2_excludes (wsV RX2 176 RX1 yX1_isSound wsX1_isSound) := goodIn_app (goodIn_of _ (by decide +kernel)) ggX2_excludes_X1_isSound
set_option maxRecDepth 20000 in
theorem ggX2_excludes_X1_isHeld : GoodIn wsX2_excludes wsX1_isHeld := goodIn_r _ [80, 26, 59, 4, 60, 89, 90, 91, 92, 93, 94, 95] (by decide +kernel) (by decide +kernel)
set_option maxRecDepth 20000 in
theorem gX2_excludes_X1_isHeld : GoodIn wsX2_excludes (wsV RX2 173 RX1 yX1_isHeld wsX1_isHeld) := goodIn_app (goodIn_of _ (by decide +kernel)) ggX2_excludes_X1_isHeld
theorem dX2_excludes_0 : decode cX2_excludes 0 = .ok (.aload_n 0, 1) := by decide +kernel
theorem dX2_excludes_1 : decode cX2_excludes 1 = .ok (.iload_n 1, 1) := by decide +kernel
theorem dX2_excludes_2 : decode cX2_excludes 2 = .ok (.invokevirtual 73, 3) := by decide +kernel
theorem dX2_excludes_5 : decode cX2_excludes 5 = .ok (.aload_n 0, 1) := by decide +kernel
theorem dX2_excludes_6 : decode cX2_excludes 6 = .ok (.iload_n 2, 1) := by decide +kernel
theorem dX2_excludes_7 : decode cX2_excludes 7 = .ok (.invokevirtual 73, 3) := by decide +kernel
theorem dX2_excludes_10 : decode cX2_excludes 10 = .ok (.aload_n 0, 1) := by decide +kernel
theorem dX2_excludes_11 : decode cX2_excludes 11 = .ok (.invokevirtual 139, 3) := by decide +kernel
theorem dX2_excludes_14 : decode cX2_excludes 14 = .ok (.astore_n 3, 1) := by decide +kernel
theorem dX2_excludes_15 : decode cX2_excludes 15 = .ok (.iconst 0, 1) := by decide +kernel
theorem dX2_excludes_16 : decode cX2_excludes 16 = .ok (.istore 4, 2) := by decide +kernel
theorem dX2_excludes_18 : decode cX2_excludes 18 = .ok (.iload 4, 2) := by decide +kernel
theorem dX2_excludes_20 : decode cX2_excludes 20 = .ok (.aload_n 3, 1) := by decide +kernel
theorem dX2_excludes_21 : decode cX2_excludes 21 = .ok (.invokevirtual 152, 3) := by decide +kernel
theorem dX2_excludes_24 : decode cX2_excludes 24 = .ok (.if_icmp .ge 40, 3) := by decide +kernel
theorem dX2_excludes_27 : decode cX2_excludes 27 = .ok (.aload_n 3, 1) := by decide +kernel
theorem dX2_excludes_28 : decode cX2_excludes 28 = .ok (.iload 4, 2) := by decide +kernel
theorem dX2_excludes_30 : decode cX2_excludes 30 = .ok (.invokevirtual 176, 3) := by decide +kernel
theorem dX2_excludes_33 : decode cX2_excludes 33 = .ok (.ifCond .eq 25, 3) := by decide +kernel
theorem dX2_excludes_36 : decode cX2_excludes 36 = .ok (.aload_n 3, 1) := by decide +kernel
theorem dX2_excludes_37 : decode cX2_excludes 37 = .ok (.iload_n 1, 1) := by decide +kernel
theorem dX2_excludes_38 : decode cX2_excludes 38 = .ok (.iload 4, 2) := by decide +kernel
theorem dX2_excludes_40 : decode cX2_excludes 40 = .ok (.invokevirtual 173, 3) := by decide +kernel
theorem dX2_excludes_43 : decode cX2_excludes 43 = .ok (.ifCond .eq 15, 3) := by decide +kernel
theorem dX2_excludes_46 : decode cX2_excludes 46 = .ok (.aload_n 3, 1) := by decide +kernel
theorem dX2_excludes_47 : decode cX2_excludes 47 = .ok (.iload_n 2, 1) := by decide +kernel
theorem dX2_excludes_48 : decode cX2_excludes 48 = .ok (.iload 4, 2) := by decide +kernel
theorem dX2_excludes_50 : decode cX2_excludes 50 = .ok (.invokevirtual 173, 3) := by decide +kernel
theorem dX2_excludes_53 : decode cX2_excludes 53 = .ok (.ifCond .eq 5, 3) := by decide +kernel
theorem dX2_excludes_56 : decode cX2_excludes 56 = .ok (.iconst 0, 1) := by decide +kernel
theorem dX2_excludes_57 : decode cX2_excludes 57 = .ok (.ireturn, 1) := by decide +kernel
theorem dX2_excludes_58 : decode cX2_excludes 58 = .ok (.iinc 4 1, 3) := by decide +kernel
theorem dX2_excludes_61 : decode cX2_excludes 61 = .ok (.goto (-43), 3) := by decide +kernel
theorem dX2_excludes_64 : decode cX2_excludes 64 = .ok (.iconst 1, 1) := by decide +kernel
theorem dX2_excludes_65 : decode cX2_excludes 65 = .ok (.ireturn, 1) := by decide +kernel
set_option maxRecDepth 20000 in
theorem ggX2_digest_X2_surveyNow : GoodIn wsX2_digest wsX2_surveyNow := goodIn_r _ [11, 12, 13, 6, 14, 4, 15, 16, 17, 18, 19, 20, 21, 22, 23, 24, 25, 26, 27, 28, 29, 30, 31, 32, 33, 34, 35, 36, 37, 38, 39, 40, 41, 42, 43, 44, 45, 46, 47, 48, 49, 50, 51, 52, 53, 54, 55, 56, 10, 57, 58, 59, 60, 61, 62, 63, 64, 65, 102, 103, 104, 105, 106, 107, 108, 109, 110, 111, 112, 113, 114, 115, 116, 117, 118, 119, 120] (by decide +kernel) (by decide +kernel)
set_option maxRecDepth 20000 in
theorem gX2_digest_X2_surveyNow : GoodIn wsX2_digest (wsV RX2 139 RX2 yX2_surveyNow wsX2_surveyNow) := goodIn_app (goodIn_of _ (by decide +kernel)) ggX2_digest_X2_surveyNow
set_option maxRecDepth 20000 in
theorem ggX2_digest_X2_mix : GoodIn wsX2_digest wsX2_mix := goodIn_r _ [68, 69] (by decide +kernel) (by decide +kernel)
set_option maxRecDepth 20000 in
theorem gX2_digest_X2_mix : GoodIn wsX2_digest (va_wsS RX2 181 yX2_mix wsX2_mix) := goodIn_app (goodIn_of _ (by decide +kernel)) ggX2_digest_X2_mix
set_option maxRecDepth 20000 in
theorem ggX2_digest_X1_mixLabel : GoodIn wsX2_digest wsX1_mixLabel := goodIn_r _ [73, 21, 74, 75, 76, 18, 77, 78, 79, 80, 81, 24, 56, 10, 57, 67, 68, 69, 110, 111, 112, 113, 114, 115, 116] (by decide +kernel) (by decide +kernel)
set_option maxRecDepth 20000 in
theorem gX2_digest_X1_mixLabel : GoodIn wsX2_digest (wsV RX2 185 RX1 yX1_mixLabel wsX1_mixLabel) := goodIn_app (goodIn_of _ (by decide +kernel)) ggX2_digest_X1_mixLabel
set_option maxRecDepth 20000 in
theorem ggX2_digest_X0_mixRules : GoodIn wsX2_digest wsX0_mixRules := goodIn_r _ [85, 40, 47, 41, 46, 67, 10, 68, 69, 117, 118, 119, 120] (by decide +kernel) (by decide +kernel)
set_option maxRecDepth 20000 in
theorem gX2_digest_X0_mixRules : GoodIn wsX2_digest (wsV RX2 189 RX0 yX0_mixRules wsX0_mixRules) := goodIn_app (goodIn_of _ (by decide +kernel)) ggX2_digest_X0_mixRules
set_option maxRecDepth 20000 in
theorem ggX2_digest_X1_mixNogoods : GoodIn wsX2_digest wsX1_mixNogoods := goodIn_r _ [89, 25, 90, 91, 92, 18, 93, 21, 94, 95, 96, 97, 67, 10, 68, 69, 110, 111, 112, 113, 114, 115, 116] (by decide +kernel) (by decide +kernel)
set_option maxRecDepth 20000 in
theorem gX2_digest_X1_mixNogoods : GoodIn wsX2_digest (wsV RX2 193 RX1 yX1_mixNogoods wsX1_mixNogoods) := goodIn_app (goodIn_of _ (by decide +kernel)) ggX2_digest_X1_mixNogoods
set_option maxRecDepth 20000 in
theorem ggX2_digest_X1_mixWorlds : GoodIn wsX2_digest wsX1_mixWorlds := goodIn_r _ [101, 26, 90, 91, 92, 18, 93, 21, 94, 95, 96, 97, 67, 10, 68, 69, 110, 111, 112, 113, 114, 115, 116] (by decide +kernel) (by decide +kernel)
set_option maxRecDepth 20000 in
theorem gX2_digest_X1_mixWorlds : GoodIn wsX2_digest (wsV RX2 196 RX1 yX1_mixWorlds wsX1_mixWorlds) := goodIn_app (goodIn_of _ (by decide +kernel)) ggX2_digest_X1_mixWorlds
theorem dX2_digest_0 : decode cX2_digest 0 = .ok (.aload_n 0, 1) := by decide +kernel
theorem dX2_digest_1 : decode cX2_digest 1 = .ok (.invokevirtual 139, 3) := by decide +kernel
theorem dX2_digest_4 : decode cX2_digest 4 = .ok (.astore_n 1, 1) := by decide +kernel
theorem dX2_digest_5 : decode cX2_digest 5 = .ok (.ldc2_w 179, 3) := by decide +kernel
theorem dX2_digest_8 : decode cX2_digest 8 = .ok (.aload_n 0, 1) := by decide +kernel
theorem dX2_digest_9 : decode cX2_digest 9 = .ok (.getfield 33, 3) := by decide +kernel
theorem dX2_digest_12 : decode cX2_digest 12 = .ok (.i2l, 1) := by decide +kernel
theorem dX2_digest_13 : decode cX2_digest 13 = .ok (.invokestatic 181, 3) := by decide +kernel
theorem dX2_digest_16 : decode cX2_digest 16 = .ok (.lstore_n 2, 1) := by decide +kernel
theorem dX2_digest_17 : decode cX2_digest 17 = .ok (.iconst 0, 1) := by decide +kernel
theorem dX2_digest_18 : decode cX2_digest 18 = .ok (.istore 4, 2) := by decide +kernel
theorem dX2_digest_20 : decode cX2_digest 20 = .ok (.iload 4, 2) := by decide +kernel
theorem dX2_digest_22 : decode cX2_digest 22 = .ok (.aload_n 0, 1) := by decide +kernel
theorem dX2_digest_23 : decode cX2_digest 23 = .ok (.getfield 33, 3) := by decide +kernel
theorem dX2_digest_26 : decode cX2_digest 26 = .ok (.if_icmp .ge 30, 3) := by decide +kernel
theorem dX2_digest_29 : decode cX2_digest 29 = .ok (.lload_n 2, 1) := by decide +kernel
theorem dX2_digest_30 : decode cX2_digest 30 = .ok (.aload_n 0, 1) := by decide +kernel
theorem dX2_digest_31 : decode cX2_digest 31 = .ok (.getfield 9, 3) := by decide +kernel
theorem dX2_digest_34 : decode cX2_digest 34 = .ok (.iload 4, 2) := by decide +kernel
theorem dX2_digest_36 : decode cX2_digest 36 = .ok (.iaload, 1) := by decide +kernel
theorem dX2_digest_37 : decode cX2_digest 37 = .ok (.i2l, 1) := by decide +kernel
theorem dX2_digest_38 : decode cX2_digest 38 = .ok (.invokestatic 181, 3) := by decide +kernel
theorem dX2_digest_41 : decode cX2_digest 41 = .ok (.lstore_n 2, 1) := by decide +kernel
theorem dX2_digest_42 : decode cX2_digest 42 = .ok (.aload_n 1, 1) := by decide +kernel
theorem dX2_digest_43 : decode cX2_digest 43 = .ok (.lload_n 2, 1) := by decide +kernel
theorem dX2_digest_44 : decode cX2_digest 44 = .ok (.iload 4, 2) := by decide +kernel
theorem dX2_digest_46 : decode cX2_digest 46 = .ok (.invokevirtual 185, 3) := by decide +kernel
theorem dX2_digest_49 : decode cX2_digest 49 = .ok (.lstore_n 2, 1) := by decide +kernel
theorem dX2_digest_50 : decode cX2_digest 50 = .ok (.iinc 4 1, 3) := by decide +kernel
theorem dX2_digest_53 : decode cX2_digest 53 = .ok (.goto (-33), 3) := by decide +kernel
theorem dX2_digest_56 : decode cX2_digest 56 = .ok (.lload_n 2, 1) := by decide +kernel
theorem dX2_digest_57 : decode cX2_digest 57 = .ok (.aload_n 0, 1) := by decide +kernel
theorem dX2_digest_58 : decode cX2_digest 58 = .ok (.getfield 37, 3) := by decide +kernel
theorem dX2_digest_61 : decode cX2_digest 61 = .ok (.i2l, 1) := by decide +kernel
theorem dX2_digest_62 : decode cX2_digest 62 = .ok (.invokestatic 181, 3) := by decide +kernel
theorem dX2_digest_65 : decode cX2_digest 65 = .ok (.lstore_n 2, 1) := by decide +kernel
theorem dX2_digest_66 : decode cX2_digest 66 = .ok (.iconst 0, 1) := by decide +kernel
theorem dX2_digest_67 : decode cX2_digest 67 = .ok (.istore 4, 2) := by decide +kernel
theorem dX2_digest_69 : decode cX2_digest 69 = .ok (.iload 4, 2) := by decide +kernel
theorem dX2_digest_71 : decode cX2_digest 71 = .ok (.aload_n 0, 1) := by decide +kernel
theorem dX2_digest_72 : decode cX2_digest 72 = .ok (.getfield 37, 3) := by decide +kernel
theorem dX2_digest_75 : decode cX2_digest 75 = .ok (.if_icmp .ge 22, 3) := by decide +kernel
theorem dX2_digest_78 : decode cX2_digest 78 = .ok (.lload_n 2, 1) := by decide +kernel
theorem dX2_digest_79 : decode cX2_digest 79 = .ok (.aload_n 0, 1) := by decide +kernel
theorem dX2_digest_80 : decode cX2_digest 80 = .ok (.getfield 16, 3) := by decide +kernel
theorem dX2_digest_83 : decode cX2_digest 83 = .ok (.iload 4, 2) := by decide +kernel
theorem dX2_digest_85 : decode cX2_digest 85 = .ok (.iaload, 1) := by decide +kernel
theorem dX2_digest_86 : decode cX2_digest 86 = .ok (.i2l, 1) := by decide +kernel
theorem dX2_digest_87 : decode cX2_digest 87 = .ok (.invokestatic 181, 3) := by decide +kernel
theorem dX2_digest_90 : decode cX2_digest 90 = .ok (.lstore_n 2, 1) := by decide +kernel
theorem dX2_digest_91 : decode cX2_digest 91 = .ok (.iinc 4 1, 3) := by decide +kernel
theorem dX2_digest_94 : decode cX2_digest 94 = .ok (.goto (-25), 3) := by decide +kernel
theorem dX2_digest_97 : decode cX2_digest 97 = .ok (.aload_n 0, 1) := by decide +kernel
theorem dX2_digest_98 : decode cX2_digest 98 = .ok (.getfield 22, 3) := by decide +kernel
theorem dX2_digest_101 : decode cX2_digest 101 = .ok (.lload_n 2, 1) := by decide +kernel
theorem dX2_digest_102 : decode cX2_digest 102 = .ok (.invokevirtual 189, 3) := by decide +kernel
theorem dX2_digest_105 : decode cX2_digest 105 = .ok (.lstore_n 2, 1) := by decide +kernel
theorem dX2_digest_106 : decode cX2_digest 106 = .ok (.aload_n 1, 1) := by decide +kernel
theorem dX2_digest_107 : decode cX2_digest 107 = .ok (.lload_n 2, 1) := by decide +kernel
theorem dX2_digest_108 : decode cX2_digest 108 = .ok (.invokevirtual 193, 3) := by decide +kernel
theorem dX2_digest_111 : decode cX2_digest 111 = .ok (.lstore_n 2, 1) := by decide +kernel
theorem dX2_digest_112 : decode cX2_digest 112 = .ok (.aload_n 1, 1) := by decide +kernel
theorem dX2_digest_113 : decode cX2_digest 113 = .ok (.lload_n 2, 1) := by decide +kernel
theorem dX2_digest_114 : decode cX2_digest 114 = .ok (.invokevirtual 196, 3) := by decide +kernel
theorem dX2_digest_117 : decode cX2_digest 117 = .ok (.lreturn, 1) := by decide +kernel
theorem dX2_appendNode_0 : decode cX2_appendNode 0 = .ok (.aload_n 0, 1) := by decide +kernel
theorem dX2_appendNode_1 : decode cX2_appendNode 1 = .ok (.getfield 33, 3) := by decide +kernel
theorem dX2_appendNode_4 : decode cX2_appendNode 4 = .ok (.istore_n 2, 1) := by decide +kernel
theorem dX2_appendNode_5 : decode cX2_appendNode 5 = .ok (.aload_n 0, 1) := by decide +kernel
theorem dX2_appendNode_6 : decode cX2_appendNode 6 = .ok (.getfield 9, 3) := by decide +kernel
theorem dX2_appendNode_9 : decode cX2_appendNode 9 = .ok (.iload_n 2, 1) := by decide +kernel
theorem dX2_appendNode_10 : decode cX2_appendNode 10 = .ok (.iload_n 1, 1) := by decide +kernel
theorem dX2_appendNode_11 : decode cX2_appendNode 11 = .ok (.iastore, 1) := by decide +kernel
theorem dX2_appendNode_12 : decode cX2_appendNode 12 = .ok (.aload_n 0, 1) := by decide +kernel
theorem dX2_appendNode_13 : decode cX2_appendNode 13 = .ok (.iload_n 2, 1) := by decide +kernel
theorem dX2_appendNode_14 : decode cX2_appendNode 14 = .ok (.iconst 1, 1) := by decide +kernel
theorem dX2_appendNode_15 : decode cX2_appendNode 15 = .ok (.iadd, 1) := by decide +kernel
theorem dX2_appendNode_16 : decode cX2_appendNode 16 = .ok (.putfield 33, 3) := by decide +kernel
theorem dX2_appendNode_19 : decode cX2_appendNode 19 = .ok (.aload_n 0, 1) := by decide +kernel
theorem dX2_appendNode_20 : decode cX2_appendNode 20 = .ok (.iconst 0, 1) := by decide +kernel
theorem dX2_appendNode_21 : decode cX2_appendNode 21 = .ok (.putfield 40, 3) := by decide +kernel
theorem dX2_appendNode_24 : decode cX2_appendNode 24 = .ok (.iload_n 2, 1) := by decide +kernel
theorem dX2_appendNode_25 : decode cX2_appendNode 25 = .ok (.ireturn, 1) := by decide +kernel
theorem dX2_requireNode_0 : decode cX2_requireNode 0 = .ok (.iload_n 1, 1) := by decide +kernel
theorem dX2_requireNode_1 : decode cX2_requireNode 1 = .ok (.ifCond .lt 11, 3) := by decide +kernel
theorem dX2_requireNode_4 : decode cX2_requireNode 4 = .ok (.iload_n 1, 1) := by decide +kernel
theorem dX2_requireNode_5 : decode cX2_requireNode 5 = .ok (.aload_n 0, 1) := by decide +kernel
theorem dX2_requireNode_6 : decode cX2_requireNode 6 = .ok (.getfield 33, 3) := by decide +kernel
theorem dX2_requireNode_9 : decode cX2_requireNode 9 = .ok (.if_icmp .lt 13, 3) := by decide +kernel
theorem dX2_requireNode_12 : decode cX2_requireNode 12 = .ok (.new 90, 3) := by decide +kernel
theorem dX2_requireNode_15 : decode cX2_requireNode 15 = .ok (.dup, 1) := by decide +kernel
theorem dX2_requireNode_16 : decode cX2_requireNode 16 = .ok (.ldc 199, 2) := by decide +kernel
theorem dX2_requireNode_18 : decode cX2_requireNode 18 = .ok (.invokespecial 94, 3) := by decide +kernel
theorem dX2_requireNode_21 : decode cX2_requireNode 21 = .ok (.athrow, 1) := by decide +kernel
theorem dX2_requireNode_22 : decode cX2_requireNode 22 = .ok (.return_, 1) := by decide +kernel
theorem dX2_requireAssumption_0 : decode cX2_requireAssumption 0 = .ok (.iload_n 1, 1) := by decide +kernel
theorem dX2_requireAssumption_1 : decode cX2_requireAssumption 1 = .ok (.ifCond .lt 11, 3) := by decide +kernel
theorem dX2_requireAssumption_4 : decode cX2_requireAssumption 4 = .ok (.iload_n 1, 1) := by decide +kernel
theorem dX2_requireAssumption_5 : decode cX2_requireAssumption 5 = .ok (.aload_n 0, 1) := by decide +kernel
theorem dX2_requireAssumption_6 : decode cX2_requireAssumption 6 = .ok (.getfield 37, 3) := by decide +kernel
theorem dX2_requireAssumption_9 : decode cX2_requireAssumption 9 = .ok (.if_icmp .lt 13, 3) := by decide +kernel
theorem dX2_requireAssumption_12 : decode cX2_requireAssumption 12 = .ok (.new 90, 3) := by decide +kernel
theorem dX2_requireAssumption_15 : decode cX2_requireAssumption 15 = .ok (.dup, 1) := by decide +kernel
theorem dX2_requireAssumption_16 : decode cX2_requireAssumption 16 = .ok (.ldc 201, 2) := by decide +kernel
theorem dX2_requireAssumption_18 : decode cX2_requireAssumption 18 = .ok (.invokespecial 94, 3) := by decide +kernel
theorem dX2_requireAssumption_21 : decode cX2_requireAssumption 21 = .ok (.athrow, 1) := by decide +kernel
theorem dX2_requireAssumption_22 : decode cX2_requireAssumption 22 = .ok (.return_, 1) := by decide +kernel
set_option maxRecDepth 20000 in
theorem ggX2_requireEnvironment_X2_isSetOf : GoodIn wsX2_requireEnvironment wsX2_isSetOf := goodIn_r _ [7] (by decide +kernel) (by decide +kernel)
set_option maxRecDepth 20000 in
theorem gX2_requireEnvironment_X2_isSetOf : GoodIn wsX2_requireEnvironment (va_wsS RX2 64 yX2_isSetOf wsX2_isSetOf) := goodIn_app (goodIn_of _ (by decide +kernel)) ggX2_requireEnvironment_X2_isSetOf
theorem dX2_requireEnvironment_0 : decode cX2_requireEnvironment 0 = .ok (.aload_n 0, 1) := by decide +kernel
theorem dX2_requireEnvironment_1 : decode cX2_requireEnvironment 1 = .ok (.getfield 37, 3) := by decide +kernel
theorem dX2_requireEnvironment_4 : decode cX2_requireEnvironment 4 = .ok (.iload_n 1, 1) := by decide +kernel
theorem dX2_requireEnvironment_5 : decode cX2_requireEnvironment 5 = .ok (.invokestatic 64, 3) := by decide +kernel
theorem dX2_requireEnvironment_8 : decode cX2_requireEnvironment 8 = .ok (.ifCond .ne 13, 3) := by decide +kernel
theorem dX2_requireEnvironment_11 : decode cX2_requireEnvironment 11 = .ok (.new 68, 3) := by decide +kernel
theorem dX2_requireEnvironment_14 : decode cX2_requireEnvironment 14 = .ok (.dup, 1) := by decide +kernel
theorem dX2_requireEnvironment_15 : decode cX2_requireEnvironment 15 = .ok (.ldc 203, 2) := by decide +kernel
theorem dX2_requireEnvironment_17 : decode cX2_requireEnvironment 17 = .ok (.invokespecial 72, 3) := by decide +kernel
theorem dX2_requireEnvironment_20 : decode cX2_requireEnvironment 20 = .ok (.athrow, 1) := by decide +kernel
theorem dX2_requireEnvironment_21 : decode cX2_requireEnvironment 21 = .ok (.return_, 1) := by decide +kernel
theorem dX2_requireWeight_0 : decode cX2_requireWeight 0 = .ok (.iload_n 0, 1) := by decide +kernel
theorem dX2_requireWeight_1 : decode cX2_requireWeight 1 = .ok (.iconst 1, 1) := by decide +kernel
theorem dX2_requireWeight_2 : decode cX2_requireWeight 2 = .ok (.if_icmp .lt 9, 3) := by decide +kernel
theorem dX2_requireWeight_5 : decode cX2_requireWeight 5 = .ok (.iload_n 0, 1) := by decide +kernel
theorem dX2_requireWeight_6 : decode cX2_requireWeight 6 = .ok (.bipush 100, 2) := by decide +kernel
theorem dX2_requireWeight_8 : decode cX2_requireWeight 8 = .ok (.if_icmp .le 13, 3) := by decide +kernel
theorem dX2_requireWeight_11 : decode cX2_requireWeight 11 = .ok (.new 68, 3) := by decide +kernel
theorem dX2_requireWeight_14 : decode cX2_requireWeight 14 = .ok (.dup, 1) := by decide +kernel
theorem dX2_requireWeight_15 : decode cX2_requireWeight 15 = .ok (.ldc 205, 2) := by decide +kernel
theorem dX2_requireWeight_17 : decode cX2_requireWeight 17 = .ok (.invokespecial 72, 3) := by decide +kernel
theorem dX2_requireWeight_20 : decode cX2_requireWeight 20 = .ok (.athrow, 1) := by decide +kernel
theorem dX2_requireWeight_21 : decode cX2_requireWeight 21 = .ok (.return_, 1) := by decide +kernel
theorem dX2_requireFound_0 : decode cX2_requireFound 0 = .ok (.iload_n 0, 1) := by decide +kernel
theorem dX2_requireFound_1 : decode cX2_requireFound 1 = .ok (.iconst (-1), 1) := by decide +kernel
theorem dX2_requireFound_2 : decode cX2_requireFound 2 = .ok (.if_icmp .ne 13, 3) := by decide +kernel
theorem dX2_requireFound_5 : decode cX2_requireFound 5 = .ok (.new 90, 3) := by decide +kernel
theorem dX2_requireFound_8 : decode cX2_requireFound 8 = .ok (.dup, 1) := by decide +kernel
theorem dX2_requireFound_9 : decode cX2_requireFound 9 = .ok (.ldc 207, 2) := by decide +kernel
theorem dX2_requireFound_11 : decode cX2_requireFound 11 = .ok (.invokespecial 94, 3) := by decide +kernel
theorem dX2_requireFound_14 : decode cX2_requireFound 14 = .ok (.athrow, 1) := by decide +kernel
theorem dX2_requireFound_15 : decode cX2_requireFound 15 = .ok (.iload_n 0, 1) := by decide +kernel
theorem dX2_requireFound_16 : decode cX2_requireFound 16 = .ok (.ireturn, 1) := by decide +kernel
theorem dX2_isSetOf_0 : decode cX2_isSetOf 0 = .ok (.iload_n 1, 1) := by decide +kernel
theorem dX2_isSetOf_1 : decode cX2_isSetOf 1 = .ok (.ifCond .lt 14, 3) := by decide +kernel
theorem dX2_isSetOf_4 : decode cX2_isSetOf 4 = .ok (.iload_n 1, 1) := by decide +kernel
theorem dX2_isSetOf_5 : decode cX2_isSetOf 5 = .ok (.iconst 1, 1) := by decide +kernel
theorem dX2_isSetOf_6 : decode cX2_isSetOf 6 = .ok (.iload_n 0, 1) := by decide +kernel
theorem dX2_isSetOf_7 : decode cX2_isSetOf 7 = .ok (.ishl, 1) := by decide +kernel
theorem dX2_isSetOf_8 : decode cX2_isSetOf 8 = .ok (.if_icmp .ge 7, 3) := by decide +kernel
theorem dX2_isSetOf_11 : decode cX2_isSetOf 11 = .ok (.iconst 1, 1) := by decide +kernel
theorem dX2_isSetOf_12 : decode cX2_isSetOf 12 = .ok (.goto 4, 3) := by decide +kernel
theorem dX2_isSetOf_15 : decode cX2_isSetOf 15 = .ok (.iconst 0, 1) := by decide +kernel
theorem dX2_isSetOf_16 : decode cX2_isSetOf 16 = .ok (.ireturn, 1) := by decide +kernel
theorem dX2_contains_0 : decode cX2_contains 0 = .ok (.iload_n 0, 1) := by decide +kernel
theorem dX2_contains_1 : decode cX2_contains 1 = .ok (.iload_n 1, 1) := by decide +kernel
theorem dX2_contains_2 : decode cX2_contains 2 = .ok (.ishr, 1) := by decide +kernel
theorem dX2_contains_3 : decode cX2_contains 3 = .ok (.iconst 1, 1) := by decide +kernel
theorem dX2_contains_4 : decode cX2_contains 4 = .ok (.iand, 1) := by decide +kernel
theorem dX2_contains_5 : decode cX2_contains 5 = .ok (.ifCond .eq 7, 3) := by decide +kernel
theorem dX2_contains_8 : decode cX2_contains 8 = .ok (.iconst 1, 1) := by decide +kernel
theorem dX2_contains_9 : decode cX2_contains 9 = .ok (.goto 4, 3) := by decide +kernel
theorem dX2_contains_12 : decode cX2_contains 12 = .ok (.iconst 0, 1) := by decide +kernel
theorem dX2_contains_13 : decode cX2_contains 13 = .ok (.ireturn, 1) := by decide +kernel
theorem dX2_mix_0 : decode cX2_mix 0 = .ok (.lload_n 0, 1) := by decide +kernel
theorem dX2_mix_1 : decode cX2_mix 1 = .ok (.ldc2_w 209, 3) := by decide +kernel
theorem dX2_mix_4 : decode cX2_mix 4 = .ok (.lmul, 1) := by decide +kernel
theorem dX2_mix_5 : decode cX2_mix 5 = .ok (.lload_n 2, 1) := by decide +kernel
theorem dX2_mix_6 : decode cX2_mix 6 = .ok (.ladd, 1) := by decide +kernel
theorem dX2_mix_7 : decode cX2_mix 7 = .ok (.lreturn, 1) := by decide +kernel
set_option maxRecDepth 20000 in
theorem ggX2_nodesOf_X2_contains : GoodIn wsX2_nodesOf wsX2_contains := goodIn_r _ [6] (by decide +kernel) (by decide +kernel)
set_option maxRecDepth 20000 in
theorem gX2_nodesOf_X2_contains : GoodIn wsX2_nodesOf (va_wsS RX2 113 yX2_contains wsX2_contains) := goodIn_app (goodIn_of _ (by decide +kernel)) ggX2_nodesOf_X2_contains
theorem dX2_nodesOf_0 : decode cX2_nodesOf 0 = .ok (.iconst 0, 1) := by decide +kernel
theorem dX2_nodesOf_1 : decode cX2_nodesOf 1 = .ok (.istore_n 2, 1) := by decide +kernel
theorem dX2_nodesOf_2 : decode cX2_nodesOf 2 = .ok (.iconst 0, 1) := by decide +kernel
theorem dX2_nodesOf_3 : decode cX2_nodesOf 3 = .ok (.istore_n 3, 1) := by decide +kernel
theorem dX2_nodesOf_4 : decode cX2_nodesOf 4 = .ok (.iload_n 3, 1) := by decide +kernel
theorem dX2_nodesOf_5 : decode cX2_nodesOf 5 = .ok (.aload_n 0, 1) := by decide +kernel
theorem dX2_nodesOf_6 : decode cX2_nodesOf 6 = .ok (.getfield 37, 3) := by decide +kernel
theorem dX2_nodesOf_9 : decode cX2_nodesOf 9 = .ok (.if_icmp .ge 28, 3) := by decide +kernel
theorem dX2_nodesOf_12 : decode cX2_nodesOf 12 = .ok (.iload_n 1, 1) := by decide +kernel
theorem dX2_nodesOf_13 : decode cX2_nodesOf 13 = .ok (.iload_n 3, 1) := by decide +kernel
theorem dX2_nodesOf_14 : decode cX2_nodesOf 14 = .ok (.invokestatic 113, 3) := by decide +kernel
theorem dX2_nodesOf_17 : decode cX2_nodesOf 17 = .ok (.ifCond .eq 14, 3) := by decide +kernel
theorem dX2_nodesOf_20 : decode cX2_nodesOf 20 = .ok (.iload_n 2, 1) := by decide +kernel
theorem dX2_nodesOf_21 : decode cX2_nodesOf 21 = .ok (.iconst 1, 1) := by decide +kernel
theorem dX2_nodesOf_22 : decode cX2_nodesOf 22 = .ok (.aload_n 0, 1) := by decide +kernel
theorem dX2_nodesOf_23 : decode cX2_nodesOf 23 = .ok (.getfield 13, 3) := by decide +kernel
theorem dX2_nodesOf_26 : decode cX2_nodesOf 26 = .ok (.iload_n 3, 1) := by decide +kernel
theorem dX2_nodesOf_27 : decode cX2_nodesOf 27 = .ok (.iaload, 1) := by decide +kernel
theorem dX2_nodesOf_28 : decode cX2_nodesOf 28 = .ok (.ishl, 1) := by decide +kernel
theorem dX2_nodesOf_29 : decode cX2_nodesOf 29 = .ok (.ior, 1) := by decide +kernel
theorem dX2_nodesOf_30 : decode cX2_nodesOf 30 = .ok (.istore_n 2, 1) := by decide +kernel
theorem dX2_nodesOf_31 : decode cX2_nodesOf 31 = .ok (.iinc 3 1, 3) := by decide +kernel
theorem dX2_nodesOf_34 : decode cX2_nodesOf 34 = .ok (.goto (-30), 3) := by decide +kernel
theorem dX2_nodesOf_37 : decode cX2_nodesOf 37 = .ok (.iload_n 2, 1) := by decide +kernel
theorem dX2_nodesOf_38 : decode cX2_nodesOf 38 = .ok (.ireturn, 1) := by decide +kernel
set_option maxRecDepth 20000 in
theorem ggX2_isFreeOfContradiction_X2_nodesOf : GoodIn wsX2_isFreeOfContradiction wsX2_nodesOf := goodIn_r _ [6, 7, 8, 9, 10, 5, 11, 33, 34, 35, 36, 37, 38, 39, 40] (by decide +kernel) (by decide +kernel)
set_option maxRecDepth 20000 in
theorem gX2_isFreeOfContradiction_X2_nodesOf : GoodIn wsX2_isFreeOfContradiction (wsV RX2 107 RX2 yX2_nodesOf wsX2_nodesOf) := goodIn_app (goodIn_of _ (by decide +kernel)) ggX2_isFreeOfContradiction_X2_nodesOf
set_option maxRecDepth 20000 in
theorem ggX2_isFreeOfContradiction_X0_closure : GoodIn wsX2_isFreeOfContradiction wsX0_closure := goodIn_r _ [16, 17, 18, 19, 15, 20, 21, 22, 23, 24, 25, 26, 27, 28, 41, 42, 43, 44] (by decide +kernel) (by decide +kernel)
set_option maxRecDepth 20000 in
theorem gX2_isFreeOfContradiction_X0_closure : GoodIn wsX2_isFreeOfContradiction (wsV RX2 110 RX0 yX0_closure wsX0_closure) := goodIn_app (goodIn_of _ (by decide +kernel)) ggX2_isFreeOfContradiction_X0_closure
set_option maxRecDepth 20000 in
theorem ggX2_isFreeOfContradiction_X0_contradict : GoodIn wsX2_isFreeOfContradiction wsX0_contradict := goodIn_r _ [32, 21, 22, 23, 24, 25, 15, 26, 27, 28, 41, 42, 43, 44] (by decide +kernel) (by decide +kernel)
set_option maxRecDepth 20000 in
theorem gX2_isFreeOfContradiction_X0_contradict : GoodIn wsX2_isFreeOfContradiction (wsV RX2 211 RX0 yX0_contradict wsX0_contradict) := goodIn_app (goodIn_of _ (by decide +kernel)) ggX2_isFreeOfContradiction_X0_contradict
theorem dX2_isFreeOfContradiction_0 : decode cX2_isFreeOfContradiction 0 = .ok (.aload_n 0, 1) := by decide +kernel
theorem dX2_isFreeOfContradiction_1 : decode cX2_isFreeOfContradiction 1 = .ok (.getfield 22, 3) := by decide +kernel
theorem dX2_isFreeOfContradiction_4 : decode cX2_isFreeOfContradiction 4 = .ok (.aload_n 0, 1) := by decide +kernel
theorem dX2_isFreeOfContradiction_5 : decode cX2_isFreeOfContradiction 5 = .ok (.getfield 22, 3) := by decide +kernel
theorem dX2_isFreeOfContradiction_8 : decode cX2_isFreeOfContradiction 8 = .ok (.aload_n 0, 1) := by decide +kernel
theorem dX2_isFreeOfContradiction_9 : decode cX2_isFreeOfContradiction 9 = .ok (.iload_n 1, 1) := by decide +kernel
theorem dX2_isFreeOfContradiction_10 : decode cX2_isFreeOfContradiction 10 = .ok (.invokevirtual 107, 3) := by decide +kernel
theorem dX2_isFreeOfContradiction_13 : decode cX2_isFreeOfContradiction 13 = .ok (.invokevirtual 110, 3) := by decide +kernel
theorem dX2_isFreeOfContradiction_16 : decode cX2_isFreeOfContradiction 16 = .ok (.invokevirtual 211, 3) := by decide +kernel
theorem dX2_isFreeOfContradiction_19 : decode cX2_isFreeOfContradiction 19 = .ok (.ifCond .ne 7, 3) := by decide +kernel
theorem dX2_isFreeOfContradiction_22 : decode cX2_isFreeOfContradiction 22 = .ok (.iconst 1, 1) := by decide +kernel
theorem dX2_isFreeOfContradiction_23 : decode cX2_isFreeOfContradiction 23 = .ok (.goto 4, 3) := by decide +kernel
theorem dX2_isFreeOfContradiction_26 : decode cX2_isFreeOfContradiction 26 = .ok (.iconst 0, 1) := by decide +kernel
theorem dX2_isFreeOfContradiction_27 : decode cX2_isFreeOfContradiction 27 = .ok (.ireturn, 1) := by decide +kernel
set_option maxRecDepth 20000 in
theorem ggX2_weightOf_X2_contains : GoodIn wsX2_weightOf wsX2_contains := goodIn_r _ [6] (by decide +kernel) (by decide +kernel)
set_option maxRecDepth 20000 in
theorem gX2_weightOf_X2_contains : GoodIn wsX2_weightOf (va_wsS RX2 113 yX2_contains wsX2_contains) := goodIn_app (goodIn_of _ (by decide +kernel)) ggX2_weightOf_X2_contains
theorem dX2_weightOf_0 : decode cX2_weightOf 0 = .ok (.iconst 0, 1) := by decide +kernel
theorem dX2_weightOf_1 : decode cX2_weightOf 1 = .ok (.istore_n 2, 1) := by decide +kernel
theorem dX2_weightOf_2 : decode cX2_weightOf 2 = .ok (.iconst 0, 1) := by decide +kernel
theorem dX2_weightOf_3 : decode cX2_weightOf 3 = .ok (.istore_n 3, 1) := by decide +kernel
theorem dX2_weightOf_4 : decode cX2_weightOf 4 = .ok (.iload_n 3, 1) := by decide +kernel
theorem dX2_weightOf_5 : decode cX2_weightOf 5 = .ok (.aload_n 0, 1) := by decide +kernel
theorem dX2_weightOf_6 : decode cX2_weightOf 6 = .ok (.getfield 37, 3) := by decide +kernel
theorem dX2_weightOf_9 : decode cX2_weightOf 9 = .ok (.if_icmp .ge 26, 3) := by decide +kernel
theorem dX2_weightOf_12 : decode cX2_weightOf 12 = .ok (.iload_n 1, 1) := by decide +kernel
theorem dX2_weightOf_13 : decode cX2_weightOf 13 = .ok (.iload_n 3, 1) := by decide +kernel
theorem dX2_weightOf_14 : decode cX2_weightOf 14 = .ok (.invokestatic 113, 3) := by decide +kernel
theorem dX2_weightOf_17 : decode cX2_weightOf 17 = .ok (.ifCond .eq 12, 3) := by decide +kernel
theorem dX2_weightOf_20 : decode cX2_weightOf 20 = .ok (.iload_n 2, 1) := by decide +kernel
theorem dX2_weightOf_21 : decode cX2_weightOf 21 = .ok (.aload_n 0, 1) := by decide +kernel
theorem dX2_weightOf_22 : decode cX2_weightOf 22 = .ok (.getfield 16, 3) := by decide +kernel
theorem dX2_weightOf_25 : decode cX2_weightOf 25 = .ok (.iload_n 3, 1) := by decide +kernel
theorem dX2_weightOf_26 : decode cX2_weightOf 26 = .ok (.iaload, 1) := by decide +kernel
theorem dX2_weightOf_27 : decode cX2_weightOf 27 = .ok (.iadd, 1) := by decide +kernel
theorem dX2_weightOf_28 : decode cX2_weightOf 28 = .ok (.istore_n 2, 1) := by decide +kernel
theorem dX2_weightOf_29 : decode cX2_weightOf 29 = .ok (.iinc 3 1, 3) := by decide +kernel
theorem dX2_weightOf_32 : decode cX2_weightOf 32 = .ok (.goto (-28), 3) := by decide +kernel
theorem dX2_weightOf_35 : decode cX2_weightOf 35 = .ok (.iload_n 2, 1) := by decide +kernel
theorem dX2_weightOf_36 : decode cX2_weightOf 36 = .ok (.ireturn, 1) := by decide +kernel
set_option maxRecDepth 20000 in
theorem ggX2_heaviestOutside_X2_contains : GoodIn wsX2_heaviestOutside wsX2_contains := goodIn_r _ [6] (by decide +kernel) (by decide +kernel)
set_option maxRecDepth 20000 in
theorem gX2_heaviestOutside_X2_contains : GoodIn wsX2_heaviestOutside (va_wsS RX2 113 yX2_contains wsX2_contains) := goodIn_app (goodIn_of _ (by decide +kernel)) ggX2_heaviestOutside_X2_contains
theorem dX2_heaviestOutside_0 : decode cX2_heaviestOutside 0 = .ok (.iconst (-1), 1) := by decide +kernel
theorem dX2_heaviestOutside_1 : decode cX2_heaviestOutside 1 = .ok (.istore_n 2, 1) := by decide +kernel
theorem dX2_heaviestOutside_2 : decode cX2_heaviestOutside 2 = .ok (.iconst 0, 1) := by decide +kernel
theorem dX2_heaviestOutside_3 : decode cX2_heaviestOutside 3 = .ok (.istore_n 3, 1) := by decide +kernel
theorem dX2_heaviestOutside_4 : decode cX2_heaviestOutside 4 = .ok (.iconst 0, 1) := by decide +kernel
theorem dX2_heaviestOutside_5 : decode cX2_heaviestOutside 5 = .ok (.istore 4, 2) := by decide +kernel
theorem dX2_heaviestOutside_7 : decode cX2_heaviestOutside 7 = .ok (.iload 4, 2) := by decide +kernel
theorem dX2_heaviestOutside_9 : decode cX2_heaviestOutside 9 = .ok (.aload_n 0, 1) := by decide +kernel
theorem dX2_heaviestOutside_10 : decode cX2_heaviestOutside 10 = .ok (.getfield 37, 3) := by decide +kernel
theorem dX2_heaviestOutside_13 : decode cX2_heaviestOutside 13 = .ok (.if_icmp .ge 40, 3) := by decide +kernel
theorem dX2_heaviestOutside_16 : decode cX2_heaviestOutside 16 = .ok (.iload_n 1, 1) := by decide +kernel
theorem dX2_heaviestOutside_17 : decode cX2_heaviestOutside 17 = .ok (.iload 4, 2) := by decide +kernel
theorem dX2_heaviestOutside_19 : decode cX2_heaviestOutside 19 = .ok (.invokestatic 113, 3) := by decide +kernel
theorem dX2_heaviestOutside_22 : decode cX2_heaviestOutside 22 = .ok (.ifCond .ne 25, 3) := by decide +kernel
theorem dX2_heaviestOutside_25 : decode cX2_heaviestOutside 25 = .ok (.aload_n 0, 1) := by decide +kernel
theorem dX2_heaviestOutside_26 : decode cX2_heaviestOutside 26 = .ok (.getfield 16, 3) := by decide +kernel
theorem dX2_heaviestOutside_29 : decode cX2_heaviestOutside 29 = .ok (.iload 4, 2) := by decide +kernel
theorem dX2_heaviestOutside_31 : decode cX2_heaviestOutside 31 = .ok (.iaload, 1) := by decide +kernel
theorem dX2_heaviestOutside_32 : decode cX2_heaviestOutside 32 = .ok (.iload_n 3, 1) := by decide +kernel
theorem dX2_heaviestOutside_33 : decode cX2_heaviestOutside 33 = .ok (.if_icmp .le 14, 3) := by decide +kernel
theorem dX2_heaviestOutside_36 : decode cX2_heaviestOutside 36 = .ok (.iload 4, 2) := by decide +kernel
theorem dX2_heaviestOutside_38 : decode cX2_heaviestOutside 38 = .ok (.istore_n 2, 1) := by decide +kernel
theorem dX2_heaviestOutside_39 : decode cX2_heaviestOutside 39 = .ok (.aload_n 0, 1) := by decide +kernel
theorem dX2_heaviestOutside_40 : decode cX2_heaviestOutside 40 = .ok (.getfield 16, 3) := by decide +kernel
theorem dX2_heaviestOutside_43 : decode cX2_heaviestOutside 43 = .ok (.iload 4, 2) := by decide +kernel
theorem dX2_heaviestOutside_45 : decode cX2_heaviestOutside 45 = .ok (.iaload, 1) := by decide +kernel
theorem dX2_heaviestOutside_46 : decode cX2_heaviestOutside 46 = .ok (.istore_n 3, 1) := by decide +kernel
theorem dX2_heaviestOutside_47 : decode cX2_heaviestOutside 47 = .ok (.iinc 4 1, 3) := by decide +kernel
theorem dX2_heaviestOutside_50 : decode cX2_heaviestOutside 50 = .ok (.goto (-43), 3) := by decide +kernel
theorem dX2_heaviestOutside_53 : decode cX2_heaviestOutside 53 = .ok (.iload_n 2, 1) := by decide +kernel
theorem dX2_heaviestOutside_54 : decode cX2_heaviestOutside 54 = .ok (.ireturn, 1) := by decide +kernel
set_option maxRecDepth 20000 in
theorem ggX2_surveyNow_X1_make : GoodIn wsX2_surveyNow wsX1_make := goodIn_r _ [10, 11, 12, 13, 14, 15, 16, 17, 18, 19, 20, 9, 21, 22, 23, 24, 25, 26, 27, 28, 29, 30, 31, 32, 33, 34, 35, 36, 37, 38, 39, 40, 41, 42, 43, 44, 45, 46, 47, 48, 49, 50, 51, 52, 53, 54, 55, 56, 57, 66, 67, 68, 69, 70, 71, 72, 73, 74, 75, 76] (by decide +kernel) (by decide +kernel)
set_option maxRecDepth 20000 in
theorem gX2_surveyNow_X1_make : GoodIn wsX2_surveyNow (wsV RX2 214 RX1 yX1_make wsX1_make) := goodIn_app (goodIn_of _ (by decide +kernel)) ggX2_surveyNow_X1_make
theorem dX2_surveyNow_0 : decode cX2_surveyNow 0 = .ok (.aload_n 0, 1) := by decide +kernel
theorem dX2_surveyNow_1 : decode cX2_surveyNow 1 = .ok (.getfield 40, 3) := by decide +kernel
theorem dX2_surveyNow_4 : decode cX2_surveyNow 4 = .ok (.ifCond .ne 27, 3) := by decide +kernel
theorem dX2_surveyNow_7 : decode cX2_surveyNow 7 = .ok (.aload_n 0, 1) := by decide +kernel
theorem dX2_surveyNow_8 : decode cX2_surveyNow 8 = .ok (.getfield 29, 3) := by decide +kernel
theorem dX2_surveyNow_11 : decode cX2_surveyNow 11 = .ok (.aload_n 0, 1) := by decide +kernel
theorem dX2_surveyNow_12 : decode cX2_surveyNow 12 = .ok (.getfield 22, 3) := by decide +kernel
theorem dX2_surveyNow_15 : decode cX2_surveyNow 15 = .ok (.aload_n 0, 1) := by decide +kernel
theorem dX2_surveyNow_16 : decode cX2_surveyNow 16 = .ok (.getfield 13, 3) := by decide +kernel
theorem dX2_surveyNow_19 : decode cX2_surveyNow 19 = .ok (.aload_n 0, 1) := by decide +kernel
theorem dX2_surveyNow_20 : decode cX2_surveyNow 20 = .ok (.getfield 37, 3) := by decide +kernel
theorem dX2_surveyNow_23 : decode cX2_surveyNow 23 = .ok (.invokevirtual 214, 3) := by decide +kernel
theorem dX2_surveyNow_26 : decode cX2_surveyNow 26 = .ok (.aload_n 0, 1) := by decide +kernel
theorem dX2_surveyNow_27 : decode cX2_surveyNow 27 = .ok (.iconst 1, 1) := by decide +kernel
theorem dX2_surveyNow_28 : decode cX2_surveyNow 28 = .ok (.putfield 40, 3) := by decide +kernel
theorem dX2_surveyNow_31 : decode cX2_surveyNow 31 = .ok (.aload_n 0, 1) := by decide +kernel
theorem dX2_surveyNow_32 : decode cX2_surveyNow 32 = .ok (.getfield 29, 3) := by decide +kernel
theorem dX2_surveyNow_35 : decode cX2_surveyNow 35 = .ok (.areturn, 1) := by decide +kernel
theorem dX3_init_0 : decode cX3_init 0 = .ok (.aload_n 0, 1) := by decide +kernel
theorem dX3_init_1 : decode cX3_init 1 = .ok (.invokespecial 1, 3) := by decide +kernel
theorem dX3_init_4 : decode cX3_init 4 = .ok (.aload_n 0, 1) := by decide +kernel
theorem dX3_init_5 : decode cX3_init 5 = .ok (.bipush 24, 2) := by decide +kernel
theorem dX3_init_7 : decode cX3_init 7 = .ok (.newarray .int, 2) := by decide +kernel
theorem dX3_init_9 : decode cX3_init 9 = .ok (.putfield 9, 3) := by decide +kernel
theorem dX3_init_12 : decode cX3_init 12 = .ok (.aload_n 0, 1) := by decide +kernel
theorem dX3_init_13 : decode cX3_init 13 = .ok (.bipush 9, 2) := by decide +kernel
theorem dX3_init_15 : decode cX3_init 15 = .ok (.newarray .int, 2) := by decide +kernel
theorem dX3_init_17 : decode cX3_init 17 = .ok (.putfield 13, 3) := by decide +kernel
theorem dX3_init_20 : decode cX3_init 20 = .ok (.aload_n 0, 1) := by decide +kernel
theorem dX3_init_21 : decode cX3_init 21 = .ok (.bipush 9, 2) := by decide +kernel
theorem dX3_init_23 : decode cX3_init 23 = .ok (.newarray .int, 2) := by decide +kernel
theorem dX3_init_25 : decode cX3_init 25 = .ok (.putfield 16, 3) := by decide +kernel
theorem dX3_init_28 : decode cX3_init 28 = .ok (.aload_n 0, 1) := by decide +kernel
theorem dX3_init_29 : decode cX3_init 29 = .ok (.bipush 40, 2) := by decide +kernel
theorem dX3_init_31 : decode cX3_init 31 = .ok (.newarray .int, 2) := by decide +kernel
theorem dX3_init_33 : decode cX3_init 33 = .ok (.putfield 19, 3) := by decide +kernel
theorem dX3_init_36 : decode cX3_init 36 = .ok (.aload_n 0, 1) := by decide +kernel
theorem dX3_init_37 : decode cX3_init 37 = .ok (.bipush 40, 2) := by decide +kernel
theorem dX3_init_39 : decode cX3_init 39 = .ok (.newarray .int, 2) := by decide +kernel
theorem dX3_init_41 : decode cX3_init 41 = .ok (.putfield 22, 3) := by decide +kernel
theorem dX3_init_44 : decode cX3_init 44 = .ok (.aload_n 0, 1) := by decide +kernel
theorem dX3_init_45 : decode cX3_init 45 = .ok (.bipush 40, 2) := by decide +kernel
theorem dX3_init_47 : decode cX3_init 47 = .ok (.newarray .boolean, 2) := by decide +kernel
theorem dX3_init_49 : decode cX3_init 49 = .ok (.putfield 25, 3) := by decide +kernel
theorem dX3_init_52 : decode cX3_init 52 = .ok (.aload_n 0, 1) := by decide +kernel
theorem dX3_init_53 : decode cX3_init 53 = .ok (.sipush 512, 3) := by decide +kernel
theorem dX3_init_56 : decode cX3_init 56 = .ok (.newarray .int, 2) := by decide +kernel
theorem dX3_init_58 : decode cX3_init 58 = .ok (.putfield 29, 3) := by decide +kernel
theorem dX3_init_61 : decode cX3_init 61 = .ok (.aload_n 0, 1) := by decide +kernel
theorem dX3_init_62 : decode cX3_init 62 = .ok (.sipush 512, 3) := by decide +kernel
theorem dX3_init_65 : decode cX3_init 65 = .ok (.newarray .boolean, 2) := by decide +kernel
theorem dX3_init_67 : decode cX3_init 67 = .ok (.putfield 32, 3) := by decide +kernel
theorem dX3_init_70 : decode cX3_init 70 = .ok (.return_, 1) := by decide +kernel
theorem dX3_thrown_0 : decode cX3_thrown 0 = .ok (.aload_n 0, 1) := by decide +kernel
theorem dX3_thrown_1 : decode cX3_thrown 1 = .ok (.getfield 35, 3) := by decide +kernel
theorem dX3_thrown_4 : decode cX3_thrown 4 = .ok (.ireturn, 1) := by decide +kernel
theorem dX3_no_0 : decode cX3_no 0 = .ok (.aload_n 0, 1) := by decide +kernel
theorem dX3_no_1 : decode cX3_no 1 = .ok (.iload_n 1, 1) := by decide +kernel
theorem dX3_no_2 : decode cX3_no 2 = .ok (.putfield 35, 3) := by decide +kernel
theorem dX3_no_5 : decode cX3_no 5 = .ok (.iconst 0, 1) := by decide +kernel
theorem dX3_no_6 : decode cX3_no 6 = .ok (.ireturn, 1) := by decide +kernel
theorem dX3_isNode_0 : decode cX3_isNode 0 = .ok (.iload_n 1, 1) := by decide +kernel
theorem dX3_isNode_1 : decode cX3_isNode 1 = .ok (.ifCond .lt 15, 3) := by decide +kernel
theorem dX3_isNode_4 : decode cX3_isNode 4 = .ok (.iload_n 1, 1) := by decide +kernel
theorem dX3_isNode_5 : decode cX3_isNode 5 = .ok (.aload_n 0, 1) := by decide +kernel
theorem dX3_isNode_6 : decode cX3_isNode 6 = .ok (.getfield 39, 3) := by decide +kernel
theorem dX3_isNode_9 : decode cX3_isNode 9 = .ok (.if_icmp .ge 7, 3) := by decide +kernel
theorem dX3_isNode_12 : decode cX3_isNode 12 = .ok (.iconst 1, 1) := by decide +kernel
theorem dX3_isNode_13 : decode cX3_isNode 13 = .ok (.goto 4, 3) := by decide +kernel
theorem dX3_isNode_16 : decode cX3_isNode 16 = .ok (.iconst 0, 1) := by decide +kernel
theorem dX3_isNode_17 : decode cX3_isNode 17 = .ok (.ireturn, 1) := by decide +kernel
theorem dX3_isAssumption_0 : decode cX3_isAssumption 0 = .ok (.iload_n 1, 1) := by decide +kernel
theorem dX3_isAssumption_1 : decode cX3_isAssumption 1 = .ok (.ifCond .lt 15, 3) := by decide +kernel
theorem dX3_isAssumption_4 : decode cX3_isAssumption 4 = .ok (.iload_n 1, 1) := by decide +kernel
theorem dX3_isAssumption_5 : decode cX3_isAssumption 5 = .ok (.aload_n 0, 1) := by decide +kernel
theorem dX3_isAssumption_6 : decode cX3_isAssumption 6 = .ok (.getfield 42, 3) := by decide +kernel
theorem dX3_isAssumption_9 : decode cX3_isAssumption 9 = .ok (.if_icmp .ge 7, 3) := by decide +kernel
theorem dX3_isAssumption_12 : decode cX3_isAssumption 12 = .ok (.iconst 1, 1) := by decide +kernel
theorem dX3_isAssumption_13 : decode cX3_isAssumption 13 = .ok (.goto 4, 3) := by decide +kernel
theorem dX3_isAssumption_16 : decode cX3_isAssumption 16 = .ok (.iconst 0, 1) := by decide +kernel
theorem dX3_isAssumption_17 : decode cX3_isAssumption 17 = .ok (.ireturn, 1) := by decide +kernel
theorem dX3_isEnvironment_0 : decode cX3_isEnvironment 0 = .ok (.iload_n 1, 1) := by decide +kernel
theorem dX3_isEnvironment_1 : decode cX3_isEnvironment 1 = .ok (.ifCond .lt 17, 3) := by decide +kernel
theorem dX3_isEnvironment_4 : decode cX3_isEnvironment 4 = .ok (.iload_n 1, 1) := by decide +kernel
theorem dX3_isEnvironment_5 : decode cX3_isEnvironment 5 = .ok (.iconst 1, 1) := by decide +kernel
theorem dX3_isEnvironment_6 : decode cX3_isEnvironment 6 = .ok (.aload_n 0, 1) := by decide +kernel
theorem dX3_isEnvironment_7 : decode cX3_isEnvironment 7 = .ok (.getfield 42, 3) := by decide +kernel
theorem dX3_isEnvironment_10 : decode cX3_isEnvironment 10 = .ok (.ishl, 1) := by decide +kernel
theorem dX3_isEnvironment_11 : decode cX3_isEnvironment 11 = .ok (.if_icmp .ge 7, 3) := by decide +kernel
theorem dX3_isEnvironment_14 : decode cX3_isEnvironment 14 = .ok (.iconst 1, 1) := by decide +kernel
theorem dX3_isEnvironment_15 : decode cX3_isEnvironment 15 = .ok (.goto 4, 3) := by decide +kernel
theorem dX3_isEnvironment_18 : decode cX3_isEnvironment 18 = .ok (.iconst 0, 1) := by decide +kernel
theorem dX3_isEnvironment_19 : decode cX3_isEnvironment 19 = .ok (.ireturn, 1) := by decide +kernel
theorem dX3_isWeight_0 : decode cX3_isWeight 0 = .ok (.iload_n 0, 1) := by decide +kernel
theorem dX3_isWeight_1 : decode cX3_isWeight 1 = .ok (.iconst 1, 1) := by decide +kernel
theorem dX3_isWeight_2 : decode cX3_isWeight 2 = .ok (.if_icmp .lt 13, 3) := by decide +kernel
theorem dX3_isWeight_5 : decode cX3_isWeight 5 = .ok (.iload_n 0, 1) := by decide +kernel
theorem dX3_isWeight_6 : decode cX3_isWeight 6 = .ok (.bipush 100, 2) := by decide +kernel
theorem dX3_isWeight_8 : decode cX3_isWeight 8 = .ok (.if_icmp .gt 7, 3) := by decide +kernel
theorem dX3_isWeight_11 : decode cX3_isWeight 11 = .ok (.iconst 1, 1) := by decide +kernel
theorem dX3_isWeight_12 : decode cX3_isWeight 12 = .ok (.goto 4, 3) := by decide +kernel
theorem dX3_isWeight_15 : decode cX3_isWeight 15 = .ok (.iconst 0, 1) := by decide +kernel
theorem dX3_isWeight_16 : decode cX3_isWeight 16 = .ok (.ireturn, 1) := by decide +kernel
theorem dX3_isIn_0 : decode cX3_isIn 0 = .ok (.iload_n 0, 1) := by decide +kernel
theorem dX3_isIn_1 : decode cX3_isIn 1 = .ok (.iload_n 1, 1) := by decide +kernel
theorem dX3_isIn_2 : decode cX3_isIn 2 = .ok (.iconst (-1), 1) := by decide +kernel
theorem dX3_isIn_3 : decode cX3_isIn 3 = .ok (.ixor, 1) := by decide +kernel
theorem dX3_isIn_4 : decode cX3_isIn 4 = .ok (.iand, 1) := by decide +kernel
theorem dX3_isIn_5 : decode cX3_isIn 5 = .ok (.ifCond .ne 7, 3) := by decide +kernel
theorem dX3_isIn_8 : decode cX3_isIn 8 = .ok (.iconst 1, 1) := by decide +kernel
theorem dX3_isIn_9 : decode cX3_isIn 9 = .ok (.goto 4, 3) := by decide +kernel
theorem dX3_isIn_12 : decode cX3_isIn 12 = .ok (.iconst 0, 1) := by decide +kernel
theorem dX3_isIn_13 : decode cX3_isIn 13 = .ok (.ireturn, 1) := by decide +kernel
theorem dX3_add_0 : decode cX3_add 0 = .ok (.aload_n 0, 1) := by decide +kernel
theorem dX3_add_1 : decode cX3_add 1 = .ok (.getfield 9, 3) := by decide +kernel
theorem dX3_add_4 : decode cX3_add 4 = .ok (.aload_n 0, 1) := by decide +kernel
theorem dX3_add_5 : decode cX3_add 5 = .ok (.getfield 39, 3) := by decide +kernel
theorem dX3_add_8 : decode cX3_add 8 = .ok (.iload_n 1, 1) := by decide +kernel
theorem dX3_add_9 : decode cX3_add 9 = .ok (.iastore, 1) := by decide +kernel
theorem dX3_add_10 : decode cX3_add 10 = .ok (.aload_n 0, 1) := by decide +kernel
theorem dX3_add_11 : decode cX3_add 11 = .ok (.dup, 1) := by decide +kernel
theorem dX3_add_12 : decode cX3_add 12 = .ok (.getfield 39, 3) := by decide +kernel
theorem dX3_add_15 : decode cX3_add 15 = .ok (.iconst 1, 1) := by decide +kernel
theorem dX3_add_16 : decode cX3_add 16 = .ok (.iadd, 1) := by decide +kernel
theorem dX3_add_17 : decode cX3_add 17 = .ok (.putfield 39, 3) := by decide +kernel
theorem dX3_add_20 : decode cX3_add 20 = .ok (.aload_n 0, 1) := by decide +kernel
theorem dX3_add_21 : decode cX3_add 21 = .ok (.iconst 0, 1) := by decide +kernel
theorem dX3_add_22 : decode cX3_add 22 = .ok (.putfield 45, 3) := by decide +kernel
theorem dX3_add_25 : decode cX3_add 25 = .ok (.aload_n 0, 1) := by decide +kernel
theorem dX3_add_26 : decode cX3_add 26 = .ok (.getfield 39, 3) := by decide +kernel
theorem dX3_add_29 : decode cX3_add 29 = .ok (.iconst 1, 1) := by decide +kernel
theorem dX3_add_30 : decode cX3_add 30 = .ok (.isub, 1) := by decide +kernel
theorem dX3_add_31 : decode cX3_add 31 = .ok (.ireturn, 1) := by decide +kernel
set_option maxRecDepth 20000 in
theorem ggX3_addStatement_X3_no : GoodIn wsX3_addStatement wsX3_no := goodIn_r _ [7, 1, 14, 15, 16, 17, 18, 19, 20, 21, 22, 23, 24, 25, 26] (by decide +kernel) (by decide +kernel)
set_option maxRecDepth 20000 in
theorem gX3_addStatement_X3_no : GoodIn wsX3_addStatement (wsV RX3 49 RX3 yX3_no wsX3_no) := goodIn_app (goodIn_of _ (by decide +kernel)) ggX3_addStatement_X3_no
set_option maxRecDepth 20000 in
theorem ggX3_addStatement_X3_add : GoodIn wsX3_addStatement wsX3_add := goodIn_r _ [11, 12, 2, 13, 14, 15, 16, 17, 18, 19, 20, 21, 22, 23, 24, 25, 26] (by decide +kernel) (by decide +kernel)
set_option maxRecDepth 20000 in
theorem gX3_addStatement_X3_add : GoodIn wsX3_addStatement (wsV RX3 53 RX3 yX3_add wsX3_add) := goodIn_app (goodIn_of _ (by decide +kernel)) ggX3_addStatement_X3_add
theorem dX3_addStatement_0 : decode cX3_addStatement 0 = .ok (.aload_n 0, 1) := by decide +kernel
theorem dX3_addStatement_1 : decode cX3_addStatement 1 = .ok (.iconst 0, 1) := by decide +kernel
theorem dX3_addStatement_2 : decode cX3_addStatement 2 = .ok (.putfield 35, 3) := by decide +kernel
theorem dX3_addStatement_5 : decode cX3_addStatement 5 = .ok (.aload_n 0, 1) := by decide +kernel
theorem dX3_addStatement_6 : decode cX3_addStatement 6 = .ok (.getfield 39, 3) := by decide +kernel
theorem dX3_addStatement_9 : decode cX3_addStatement 9 = .ok (.bipush 24, 2) := by decide +kernel
theorem dX3_addStatement_11 : decode cX3_addStatement 11 = .ok (.if_icmp .ne 11, 3) := by decide +kernel
theorem dX3_addStatement_14 : decode cX3_addStatement 14 = .ok (.aload_n 0, 1) := by decide +kernel
theorem dX3_addStatement_15 : decode cX3_addStatement 15 = .ok (.iconst 1, 1) := by decide +kernel
theorem dX3_addStatement_16 : decode cX3_addStatement 16 = .ok (.invokevirtual 49, 3) := by decide +kernel
theorem dX3_addStatement_19 : decode cX3_addStatement 19 = .ok (.goto 8, 3) := by decide +kernel
theorem dX3_addStatement_22 : decode cX3_addStatement 22 = .ok (.aload_n 0, 1) := by decide +kernel
theorem dX3_addStatement_23 : decode cX3_addStatement 23 = .ok (.iconst (-1), 1) := by decide +kernel
theorem dX3_addStatement_24 : decode cX3_addStatement 24 = .ok (.invokevirtual 53, 3) := by decide +kernel
theorem dX3_addStatement_27 : decode cX3_addStatement 27 = .ok (.ireturn, 1) := by decide +kernel
set_option maxRecDepth 20000 in
theorem ggX3_addAssumption_X3_isWeight : GoodIn wsX3_addAssumption wsX3_isWeight := goodIn_r _ [9] (by decide +kernel) (by decide +kernel)
set_option maxRecDepth 20000 in
theorem gX3_addAssumption_X3_isWeight : GoodIn wsX3_addAssumption (va_wsS RX3 56 yX3_isWeight wsX3_isWeight) := goodIn_app (goodIn_of _ (by decide +kernel)) ggX3_addAssumption_X3_isWeight
set_option maxRecDepth 20000 in
theorem ggX3_addAssumption_X3_no : GoodIn wsX3_addAssumption wsX3_no := goodIn_r _ [13, 1, 20, 21, 22, 23, 24, 25, 26, 27, 28, 29, 30, 31, 32] (by decide +kernel) (by decide +kernel)
set_option maxRecDepth 20000 in
theorem gX3_addAssumption_X3_no : GoodIn wsX3_addAssumption (wsV RX3 49 RX3 yX3_no wsX3_no) := goodIn_app (goodIn_of _ (by decide +kernel)) ggX3_addAssumption_X3_no
set_option maxRecDepth 20000 in
theorem ggX3_addAssumption_X3_add : GoodIn wsX3_addAssumption wsX3_add := goodIn_r _ [17, 18, 2, 19, 20, 21, 22, 23, 24, 25, 26, 27, 28, 29, 30, 31, 32] (by decide +kernel) (by decide +kernel)
set_option maxRecDepth 20000 in
theorem gX3_addAssumption_X3_add : GoodIn wsX3_addAssumption (wsV RX3 53 RX3 yX3_add wsX3_add) := goodIn_app (goodIn_of _ (by decide +kernel)) ggX3_addAssumption_X3_add
theorem dX3_addAssumption_0 : decode cX3_addAssumption 0 = .ok (.aload_n 0, 1) := by decide +kernel
theorem dX3_addAssumption_1 : decode cX3_addAssumption 1 = .ok (.iconst 0, 1) := by decide +kernel
theorem dX3_addAssumption_2 : decode cX3_addAssumption 2 = .ok (.putfield 35, 3) := by decide +kernel
theorem dX3_addAssumption_5 : decode cX3_addAssumption 5 = .ok (.iload_n 1, 1) := by decide +kernel
theorem dX3_addAssumption_6 : decode cX3_addAssumption 6 = .ok (.invokestatic 56, 3) := by decide +kernel
theorem dX3_addAssumption_9 : decode cX3_addAssumption 9 = .ok (.ifCond .ne 9, 3) := by decide +kernel
theorem dX3_addAssumption_12 : decode cX3_addAssumption 12 = .ok (.aload_n 0, 1) := by decide +kernel
theorem dX3_addAssumption_13 : decode cX3_addAssumption 13 = .ok (.iconst 1, 1) := by decide +kernel
theorem dX3_addAssumption_14 : decode cX3_addAssumption 14 = .ok (.invokevirtual 49, 3) := by decide +kernel
theorem dX3_addAssumption_17 : decode cX3_addAssumption 17 = .ok (.ireturn, 1) := by decide +kernel
theorem dX3_addAssumption_18 : decode cX3_addAssumption 18 = .ok (.aload_n 0, 1) := by decide +kernel
theorem dX3_addAssumption_19 : decode cX3_addAssumption 19 = .ok (.getfield 39, 3) := by decide +kernel
theorem dX3_addAssumption_22 : decode cX3_addAssumption 22 = .ok (.bipush 24, 2) := by decide +kernel
theorem dX3_addAssumption_24 : decode cX3_addAssumption 24 = .ok (.if_icmp .eq 12, 3) := by decide +kernel
theorem dX3_addAssumption_27 : decode cX3_addAssumption 27 = .ok (.aload_n 0, 1) := by decide +kernel
theorem dX3_addAssumption_28 : decode cX3_addAssumption 28 = .ok (.getfield 42, 3) := by decide +kernel
theorem dX3_addAssumption_31 : decode cX3_addAssumption 31 = .ok (.bipush 9, 2) := by decide +kernel
theorem dX3_addAssumption_33 : decode cX3_addAssumption 33 = .ok (.if_icmp .ne 9, 3) := by decide +kernel
theorem dX3_addAssumption_36 : decode cX3_addAssumption 36 = .ok (.aload_n 0, 1) := by decide +kernel
theorem dX3_addAssumption_37 : decode cX3_addAssumption 37 = .ok (.iconst 2, 1) := by decide +kernel
theorem dX3_addAssumption_38 : decode cX3_addAssumption 38 = .ok (.invokevirtual 49, 3) := by decide +kernel
theorem dX3_addAssumption_41 : decode cX3_addAssumption 41 = .ok (.ireturn, 1) := by decide +kernel
theorem dX3_addAssumption_42 : decode cX3_addAssumption 42 = .ok (.aload_n 0, 1) := by decide +kernel
theorem dX3_addAssumption_43 : decode cX3_addAssumption 43 = .ok (.getfield 13, 3) := by decide +kernel
theorem dX3_addAssumption_46 : decode cX3_addAssumption 46 = .ok (.aload_n 0, 1) := by decide +kernel
theorem dX3_addAssumption_47 : decode cX3_addAssumption 47 = .ok (.getfield 42, 3) := by decide +kernel
theorem dX3_addAssumption_50 : decode cX3_addAssumption 50 = .ok (.aload_n 0, 1) := by decide +kernel
theorem dX3_addAssumption_51 : decode cX3_addAssumption 51 = .ok (.getfield 39, 3) := by decide +kernel
theorem dX3_addAssumption_54 : decode cX3_addAssumption 54 = .ok (.iastore, 1) := by decide +kernel
theorem dX3_addAssumption_55 : decode cX3_addAssumption 55 = .ok (.aload_n 0, 1) := by decide +kernel
theorem dX3_addAssumption_56 : decode cX3_addAssumption 56 = .ok (.getfield 16, 3) := by decide +kernel
theorem dX3_addAssumption_59 : decode cX3_addAssumption 59 = .ok (.aload_n 0, 1) := by decide +kernel
theorem dX3_addAssumption_60 : decode cX3_addAssumption 60 = .ok (.getfield 42, 3) := by decide +kernel
theorem dX3_addAssumption_63 : decode cX3_addAssumption 63 = .ok (.iload_n 1, 1) := by decide +kernel
theorem dX3_addAssumption_64 : decode cX3_addAssumption 64 = .ok (.iastore, 1) := by decide +kernel
theorem dX3_addAssumption_65 : decode cX3_addAssumption 65 = .ok (.aload_n 0, 1) := by decide +kernel
theorem dX3_addAssumption_66 : decode cX3_addAssumption 66 = .ok (.dup, 1) := by decide +kernel
theorem dX3_addAssumption_67 : decode cX3_addAssumption 67 = .ok (.getfield 42, 3) := by decide +kernel
theorem dX3_addAssumption_70 : decode cX3_addAssumption 70 = .ok (.iconst 1, 1) := by decide +kernel
theorem dX3_addAssumption_71 : decode cX3_addAssumption 71 = .ok (.iadd, 1) := by decide +kernel
theorem dX3_addAssumption_72 : decode cX3_addAssumption 72 = .ok (.putfield 42, 3) := by decide +kernel
theorem dX3_addAssumption_75 : decode cX3_addAssumption 75 = .ok (.aload_n 0, 1) := by decide +kernel
theorem dX3_addAssumption_76 : decode cX3_addAssumption 76 = .ok (.aload_n 0, 1) := by decide +kernel
theorem dX3_addAssumption_77 : decode cX3_addAssumption 77 = .ok (.getfield 42, 3) := by decide +kernel
theorem dX3_addAssumption_80 : decode cX3_addAssumption 80 = .ok (.iconst 1, 1) := by decide +kernel
theorem dX3_addAssumption_81 : decode cX3_addAssumption 81 = .ok (.isub, 1) := by decide +kernel
theorem dX3_addAssumption_82 : decode cX3_addAssumption 82 = .ok (.invokevirtual 53, 3) := by decide +kernel
theorem dX3_addAssumption_85 : decode cX3_addAssumption 85 = .ok (.ireturn, 1) := by decide +kernel
set_option maxRecDepth 20000 in
theorem ggX3_setWeight_X3_isAssumption : GoodIn wsX3_setWeight wsX3_isAssumption := goodIn_r _ [7, 8, 16, 17, 18, 19, 20, 21, 22, 23, 24, 25, 26, 27, 28] (by decide +kernel) (by decide +kernel)
set_option maxRecDepth 20000 in
theorem gX3_setWeight_X3_isAssumption : GoodIn wsX3_setWeight (wsV RX3 60 RX3 yX3_isAssumption wsX3_isAssumption) := goodIn_app (goodIn_of _ (by decide +kernel)) ggX3_setWeight_X3_isAssumption
set_option maxRecDepth 20000 in
theorem ggX3_setWeight_X3_no : GoodIn wsX3_setWeight wsX3_no := goodIn_r _ [12, 1, 16, 17, 18, 19, 20, 21, 22, 23, 24, 25, 26, 27, 28] (by decide +kernel) (by decide +kernel)
set_option maxRecDepth 20000 in
theorem gX3_setWeight_X3_no : GoodIn wsX3_setWeight (wsV RX3 49 RX3 yX3_no wsX3_no) := goodIn_app (goodIn_of _ (by decide +kernel)) ggX3_setWeight_X3_no
set_option maxRecDepth 20000 in
theorem ggX3_setWeight_X3_isWeight : GoodIn wsX3_setWeight wsX3_isWeight := goodIn_r _ [15] (by decide +kernel) (by decide +kernel)
set_option maxRecDepth 20000 in
theorem gX3_setWeight_X3_isWeight : GoodIn wsX3_setWeight (va_wsS RX3 56 yX3_isWeight wsX3_isWeight) := goodIn_app (goodIn_of _ (by decide +kernel)) ggX3_setWeight_X3_isWeight
theorem dX3_setWeight_0 : decode cX3_setWeight 0 = .ok (.aload_n 0, 1) := by decide +kernel
theorem dX3_setWeight_1 : decode cX3_setWeight 1 = .ok (.iconst 0, 1) := by decide +kernel
theorem dX3_setWeight_2 : decode cX3_setWeight 2 = .ok (.putfield 35, 3) := by decide +kernel
theorem dX3_setWeight_5 : decode cX3_setWeight 5 = .ok (.aload_n 0, 1) := by decide +kernel
theorem dX3_setWeight_6 : decode cX3_setWeight 6 = .ok (.iload_n 1, 1) := by decide +kernel
theorem dX3_setWeight_7 : decode cX3_setWeight 7 = .ok (.invokevirtual 60, 3) := by decide +kernel
theorem dX3_setWeight_10 : decode cX3_setWeight 10 = .ok (.ifCond .ne 9, 3) := by decide +kernel
theorem dX3_setWeight_13 : decode cX3_setWeight 13 = .ok (.aload_n 0, 1) := by decide +kernel
theorem dX3_setWeight_14 : decode cX3_setWeight 14 = .ok (.iconst 1, 1) := by decide +kernel
theorem dX3_setWeight_15 : decode cX3_setWeight 15 = .ok (.invokevirtual 49, 3) := by decide +kernel
theorem dX3_setWeight_18 : decode cX3_setWeight 18 = .ok (.ireturn, 1) := by decide +kernel
theorem dX3_setWeight_19 : decode cX3_setWeight 19 = .ok (.iload_n 2, 1) := by decide +kernel
theorem dX3_setWeight_20 : decode cX3_setWeight 20 = .ok (.invokestatic 56, 3) := by decide +kernel
theorem dX3_setWeight_23 : decode cX3_setWeight 23 = .ok (.ifCond .ne 9, 3) := by decide +kernel
theorem dX3_setWeight_26 : decode cX3_setWeight 26 = .ok (.aload_n 0, 1) := by decide +kernel
theorem dX3_setWeight_27 : decode cX3_setWeight 27 = .ok (.iconst 2, 1) := by decide +kernel
theorem dX3_setWeight_28 : decode cX3_setWeight 28 = .ok (.invokevirtual 49, 3) := by decide +kernel
theorem dX3_setWeight_31 : decode cX3_setWeight 31 = .ok (.ireturn, 1) := by decide +kernel
theorem dX3_setWeight_32 : decode cX3_setWeight 32 = .ok (.aload_n 0, 1) := by decide +kernel
theorem dX3_setWeight_33 : decode cX3_setWeight 33 = .ok (.getfield 16, 3) := by decide +kernel
theorem dX3_setWeight_36 : decode cX3_setWeight 36 = .ok (.iload_n 1, 1) := by decide +kernel
theorem dX3_setWeight_37 : decode cX3_setWeight 37 = .ok (.iaload, 1) := by decide +kernel
theorem dX3_setWeight_38 : decode cX3_setWeight 38 = .ok (.istore_n 3, 1) := by decide +kernel
theorem dX3_setWeight_39 : decode cX3_setWeight 39 = .ok (.aload_n 0, 1) := by decide +kernel
theorem dX3_setWeight_40 : decode cX3_setWeight 40 = .ok (.getfield 16, 3) := by decide +kernel
theorem dX3_setWeight_43 : decode cX3_setWeight 43 = .ok (.iload_n 1, 1) := by decide +kernel
theorem dX3_setWeight_44 : decode cX3_setWeight 44 = .ok (.iload_n 2, 1) := by decide +kernel
theorem dX3_setWeight_45 : decode cX3_setWeight 45 = .ok (.iastore, 1) := by decide +kernel
theorem dX3_setWeight_46 : decode cX3_setWeight 46 = .ok (.iload_n 3, 1) := by decide +kernel
theorem dX3_setWeight_47 : decode cX3_setWeight 47 = .ok (.ireturn, 1) := by decide +kernel
set_option maxRecDepth 20000 in
theorem ggX3_addRule_X3_no : GoodIn wsX3_addRule wsX3_no := goodIn_r _ [12, 1, 17, 18, 19, 20, 21, 22, 23, 24, 25, 26, 27, 28, 29] (by decide +kernel) (by decide +kernel)
set_option maxRecDepth 20000 in
theorem gX3_addRule_X3_no : GoodIn wsX3_addRule (wsV RX3 49 RX3 yX3_no wsX3_no) := goodIn_app (goodIn_of _ (by decide +kernel)) ggX3_addRule_X3_no
set_option maxRecDepth 20000 in
theorem ggX3_addRule_X3_isNode : GoodIn wsX3_addRule wsX3_isNode := goodIn_r _ [16, 2, 17, 18, 19, 20, 21, 22, 23, 24, 25, 26, 27, 28, 29] (by decide +kernel) (by decide +kernel)
set_option maxRecDepth 20000 in
theorem gX3_addRule_X3_isNode : GoodIn wsX3_addRule (wsV RX3 63 RX3 yX3_isNode wsX3_isNode) := goodIn_app (goodIn_of _ (by decide +kernel)) ggX3_addRule_X3_isNode
theorem dX3_addRule_0 : decode cX3_addRule 0 = .ok (.aload_n 0, 1) := by decide +kernel
theorem dX3_addRule_1 : decode cX3_addRule 1 = .ok (.iconst 0, 1) := by decide +kernel
theorem dX3_addRule_2 : decode cX3_addRule 2 = .ok (.putfield 35, 3) := by decide +kernel
theorem dX3_addRule_5 : decode cX3_addRule 5 = .ok (.iload_n 1, 1) := by decide +kernel
theorem dX3_addRule_6 : decode cX3_addRule 6 = .ok (.ifCond .lt 12, 3) := by decide +kernel
theorem dX3_addRule_9 : decode cX3_addRule 9 = .ok (.iload_n 1, 1) := by decide +kernel
theorem dX3_addRule_10 : decode cX3_addRule 10 = .ok (.aload_n 0, 1) := by decide +kernel
theorem dX3_addRule_11 : decode cX3_addRule 11 = .ok (.getfield 39, 3) := by decide +kernel
theorem dX3_addRule_14 : decode cX3_addRule 14 = .ok (.ishr, 1) := by decide +kernel
theorem dX3_addRule_15 : decode cX3_addRule 15 = .ok (.ifCond .eq 9, 3) := by decide +kernel
theorem dX3_addRule_18 : decode cX3_addRule 18 = .ok (.aload_n 0, 1) := by decide +kernel
theorem dX3_addRule_19 : decode cX3_addRule 19 = .ok (.iconst 1, 1) := by decide +kernel
theorem dX3_addRule_20 : decode cX3_addRule 20 = .ok (.invokevirtual 49, 3) := by decide +kernel
theorem dX3_addRule_23 : decode cX3_addRule 23 = .ok (.ireturn, 1) := by decide +kernel
theorem dX3_addRule_24 : decode cX3_addRule 24 = .ok (.iload_n 2, 1) := by decide +kernel
theorem dX3_addRule_25 : decode cX3_addRule 25 = .ok (.iconst (-1), 1) := by decide +kernel
theorem dX3_addRule_26 : decode cX3_addRule 26 = .ok (.if_icmp .eq 17, 3) := by decide +kernel
theorem dX3_addRule_29 : decode cX3_addRule 29 = .ok (.aload_n 0, 1) := by decide +kernel
theorem dX3_addRule_30 : decode cX3_addRule 30 = .ok (.iload_n 2, 1) := by decide +kernel
theorem dX3_addRule_31 : decode cX3_addRule 31 = .ok (.invokevirtual 63, 3) := by decide +kernel
theorem dX3_addRule_34 : decode cX3_addRule 34 = .ok (.ifCond .ne 9, 3) := by decide +kernel
theorem dX3_addRule_37 : decode cX3_addRule 37 = .ok (.aload_n 0, 1) := by decide +kernel
theorem dX3_addRule_38 : decode cX3_addRule 38 = .ok (.iconst 2, 1) := by decide +kernel
theorem dX3_addRule_39 : decode cX3_addRule 39 = .ok (.invokevirtual 49, 3) := by decide +kernel
theorem dX3_addRule_42 : decode cX3_addRule 42 = .ok (.ireturn, 1) := by decide +kernel
theorem dX3_addRule_43 : decode cX3_addRule 43 = .ok (.aload_n 0, 1) := by decide +kernel
theorem dX3_addRule_44 : decode cX3_addRule 44 = .ok (.getfield 66, 3) := by decide +kernel
theorem dX3_addRule_47 : decode cX3_addRule 47 = .ok (.bipush 40, 2) := by decide +kernel
theorem dX3_addRule_49 : decode cX3_addRule 49 = .ok (.if_icmp .ne 9, 3) := by decide +kernel
theorem dX3_addRule_52 : decode cX3_addRule 52 = .ok (.aload_n 0, 1) := by decide +kernel
theorem dX3_addRule_53 : decode cX3_addRule 53 = .ok (.iconst 3, 1) := by decide +kernel
theorem dX3_addRule_54 : decode cX3_addRule 54 = .ok (.invokevirtual 49, 3) := by decide +kernel
theorem dX3_addRule_57 : decode cX3_addRule 57 = .ok (.ireturn, 1) := by decide +kernel
theorem dX3_addRule_58 : decode cX3_addRule 58 = .ok (.aload_n 0, 1) := by decide +kernel
theorem dX3_addRule_59 : decode cX3_addRule 59 = .ok (.getfield 19, 3) := by decide +kernel
theorem dX3_addRule_62 : decode cX3_addRule 62 = .ok (.aload_n 0, 1) := by decide +kernel
theorem dX3_addRule_63 : decode cX3_addRule 63 = .ok (.getfield 66, 3) := by decide +kernel
theorem dX3_addRule_66 : decode cX3_addRule 66 = .ok (.iload_n 1, 1) := by decide +kernel
theorem dX3_addRule_67 : decode cX3_addRule 67 = .ok (.iastore, 1) := by decide +kernel
theorem dX3_addRule_68 : decode cX3_addRule 68 = .ok (.aload_n 0, 1) := by decide +kernel
theorem dX3_addRule_69 : decode cX3_addRule 69 = .ok (.getfield 22, 3) := by decide +kernel
theorem dX3_addRule_72 : decode cX3_addRule 72 = .ok (.aload_n 0, 1) := by decide +kernel
theorem dX3_addRule_73 : decode cX3_addRule 73 = .ok (.getfield 66, 3) := by decide +kernel
theorem dX3_addRule_76 : decode cX3_addRule 76 = .ok (.iload_n 2, 1) := by decide +kernel
theorem dX3_addRule_77 : decode cX3_addRule 77 = .ok (.iastore, 1) := by decide +kernel
theorem dX3_addRule_78 : decode cX3_addRule 78 = .ok (.aload_n 0, 1) := by decide +kernel
theorem dX3_addRule_79 : decode cX3_addRule 79 = .ok (.getfield 25, 3) := by decide +kernel
theorem dX3_addRule_82 : decode cX3_addRule 82 = .ok (.aload_n 0, 1) := by decide +kernel
theorem dX3_addRule_83 : decode cX3_addRule 83 = .ok (.getfield 66, 3) := by decide +kernel
theorem dX3_addRule_86 : decode cX3_addRule 86 = .ok (.iconst 1, 1) := by decide +kernel
theorem dX3_addRule_87 : decode cX3_addRule 87 = .ok (.bastore, 1) := by decide +kernel
theorem dX3_addRule_88 : decode cX3_addRule 88 = .ok (.aload_n 0, 1) := by decide +kernel
theorem dX3_addRule_89 : decode cX3_addRule 89 = .ok (.dup, 1) := by decide +kernel
theorem dX3_addRule_90 : decode cX3_addRule 90 = .ok (.getfield 66, 3) := by decide +kernel
theorem dX3_addRule_93 : decode cX3_addRule 93 = .ok (.iconst 1, 1) := by decide +kernel
theorem dX3_addRule_94 : decode cX3_addRule 94 = .ok (.iadd, 1) := by decide +kernel
theorem dX3_addRule_95 : decode cX3_addRule 95 = .ok (.putfield 66, 3) := by decide +kernel
theorem dX3_addRule_98 : decode cX3_addRule 98 = .ok (.aload_n 0, 1) := by decide +kernel
theorem dX3_addRule_99 : decode cX3_addRule 99 = .ok (.iconst 0, 1) := by decide +kernel
theorem dX3_addRule_100 : decode cX3_addRule 100 = .ok (.putfield 45, 3) := by decide +kernel
theorem dX3_addRule_103 : decode cX3_addRule 103 = .ok (.aload_n 0, 1) := by decide +kernel
theorem dX3_addRule_104 : decode cX3_addRule 104 = .ok (.getfield 66, 3) := by decide +kernel
theorem dX3_addRule_107 : decode cX3_addRule 107 = .ok (.iconst 1, 1) := by decide +kernel
theorem dX3_addRule_108 : decode cX3_addRule 108 = .ok (.isub, 1) := by decide +kernel
theorem dX3_addRule_109 : decode cX3_addRule 109 = .ok (.ireturn, 1) := by decide +kernel
theorem dX3_turn_0 : decode cX3_turn 0 = .ok (.aload_n 0, 1) := by decide +kernel
theorem dX3_turn_1 : decode cX3_turn 1 = .ok (.iload_n 1, 1) := by decide +kernel
theorem dX3_turn_2 : decode cX3_turn 2 = .ok (.ifCond .lt 11, 3) := by decide +kernel
theorem dX3_turn_5 : decode cX3_turn 5 = .ok (.iload_n 1, 1) := by decide +kernel
theorem dX3_turn_6 : decode cX3_turn 6 = .ok (.aload_n 0, 1) := by decide +kernel
theorem dX3_turn_7 : decode cX3_turn 7 = .ok (.getfield 66, 3) := by decide +kernel
theorem dX3_turn_10 : decode cX3_turn 10 = .ok (.if_icmp .lt 7, 3) := by decide +kernel
theorem dX3_turn_13 : decode cX3_turn 13 = .ok (.iconst 1, 1) := by decide +kernel
theorem dX3_turn_14 : decode cX3_turn 14 = .ok (.goto 4, 3) := by decide +kernel
theorem dX3_turn_17 : decode cX3_turn 17 = .ok (.iconst 0, 1) := by decide +kernel
theorem dX3_turn_18 : decode cX3_turn 18 = .ok (.putfield 35, 3) := by decide +kernel
theorem dX3_turn_21 : decode cX3_turn 21 = .ok (.aload_n 0, 1) := by decide +kernel
theorem dX3_turn_22 : decode cX3_turn 22 = .ok (.getfield 35, 3) := by decide +kernel
theorem dX3_turn_25 : decode cX3_turn 25 = .ok (.ifCond .eq 5, 3) := by decide +kernel
theorem dX3_turn_28 : decode cX3_turn 28 = .ok (.iconst 0, 1) := by decide +kernel
theorem dX3_turn_29 : decode cX3_turn 29 = .ok (.ireturn, 1) := by decide +kernel
theorem dX3_turn_30 : decode cX3_turn 30 = .ok (.aload_n 0, 1) := by decide +kernel
theorem dX3_turn_31 : decode cX3_turn 31 = .ok (.getfield 25, 3) := by decide +kernel
theorem dX3_turn_34 : decode cX3_turn 34 = .ok (.iload_n 1, 1) := by decide +kernel
theorem dX3_turn_35 : decode cX3_turn 35 = .ok (.baload, 1) := by decide +kernel
theorem dX3_turn_36 : decode cX3_turn 36 = .ok (.istore_n 3, 1) := by decide +kernel
theorem dX3_turn_37 : decode cX3_turn 37 = .ok (.aload_n 0, 1) := by decide +kernel
theorem dX3_turn_38 : decode cX3_turn 38 = .ok (.getfield 25, 3) := by decide +kernel
theorem dX3_turn_41 : decode cX3_turn 41 = .ok (.iload_n 1, 1) := by decide +kernel
theorem dX3_turn_42 : decode cX3_turn 42 = .ok (.iload_n 2, 1) := by decide +kernel
theorem dX3_turn_43 : decode cX3_turn 43 = .ok (.bastore, 1) := by decide +kernel
theorem dX3_turn_44 : decode cX3_turn 44 = .ok (.aload_n 0, 1) := by decide +kernel
theorem dX3_turn_45 : decode cX3_turn 45 = .ok (.iconst 0, 1) := by decide +kernel
theorem dX3_turn_46 : decode cX3_turn 46 = .ok (.putfield 45, 3) := by decide +kernel
theorem dX3_turn_49 : decode cX3_turn 49 = .ok (.iload_n 3, 1) := by decide +kernel
theorem dX3_turn_50 : decode cX3_turn 50 = .ok (.ireturn, 1) := by decide +kernel
set_option maxRecDepth 20000 in
theorem ggX3_drop_X3_no : GoodIn wsX3_drop wsX3_no := goodIn_r _ [8, 1, 9, 10, 11, 12, 13, 14, 15, 16, 17, 18, 19, 20, 21] (by decide +kernel) (by decide +kernel)
set_option maxRecDepth 20000 in
theorem gX3_drop_X3_no : GoodIn wsX3_drop (wsV RX3 49 RX3 yX3_no wsX3_no) := goodIn_app (goodIn_of _ (by decide +kernel)) ggX3_drop_X3_no
theorem dX3_drop_0 : decode cX3_drop 0 = .ok (.aload_n 0, 1) := by decide +kernel
theorem dX3_drop_1 : decode cX3_drop 1 = .ok (.iconst 0, 1) := by decide +kernel
theorem dX3_drop_2 : decode cX3_drop 2 = .ok (.putfield 35, 3) := by decide +kernel
theorem dX3_drop_5 : decode cX3_drop 5 = .ok (.aload_n 0, 1) := by decide +kernel
theorem dX3_drop_6 : decode cX3_drop 6 = .ok (.getfield 66, 3) := by decide +kernel
theorem dX3_drop_9 : decode cX3_drop 9 = .ok (.ifCond .ne 9, 3) := by decide +kernel
theorem dX3_drop_12 : decode cX3_drop 12 = .ok (.aload_n 0, 1) := by decide +kernel
theorem dX3_drop_13 : decode cX3_drop 13 = .ok (.iconst 1, 1) := by decide +kernel
theorem dX3_drop_14 : decode cX3_drop 14 = .ok (.invokevirtual 49, 3) := by decide +kernel
theorem dX3_drop_17 : decode cX3_drop 17 = .ok (.ireturn, 1) := by decide +kernel
theorem dX3_drop_18 : decode cX3_drop 18 = .ok (.aload_n 0, 1) := by decide +kernel
theorem dX3_drop_19 : decode cX3_drop 19 = .ok (.dup, 1) := by decide +kernel
theorem dX3_drop_20 : decode cX3_drop 20 = .ok (.getfield 66, 3) := by decide +kernel
theorem dX3_drop_23 : decode cX3_drop 23 = .ok (.iconst 1, 1) := by decide +kernel
theorem dX3_drop_24 : decode cX3_drop 24 = .ok (.isub, 1) := by decide +kernel
theorem dX3_drop_25 : decode cX3_drop 25 = .ok (.putfield 66, 3) := by decide +kernel
theorem dX3_drop_28 : decode cX3_drop 28 = .ok (.aload_n 0, 1) := by decide +kernel
theorem dX3_drop_29 : decode cX3_drop 29 = .ok (.iconst 0, 1) := by decide +kernel
theorem dX3_drop_30 : decode cX3_drop 30 = .ok (.putfield 45, 3) := by decide +kernel
theorem dX3_drop_33 : decode cX3_drop 33 = .ok (.aload_n 0, 1) := by decide +kernel
theorem dX3_drop_34 : decode cX3_drop 34 = .ok (.getfield 66, 3) := by decide +kernel
theorem dX3_drop_37 : decode cX3_drop 37 = .ok (.ireturn, 1) := by decide +kernel
theorem dX3_nodeCount_0 : decode cX3_nodeCount 0 = .ok (.aload_n 0, 1) := by decide +kernel
theorem dX3_nodeCount_1 : decode cX3_nodeCount 1 = .ok (.iconst 0, 1) := by decide +kernel
theorem dX3_nodeCount_2 : decode cX3_nodeCount 2 = .ok (.putfield 35, 3) := by decide +kernel
theorem dX3_nodeCount_5 : decode cX3_nodeCount 5 = .ok (.aload_n 0, 1) := by decide +kernel
theorem dX3_nodeCount_6 : decode cX3_nodeCount 6 = .ok (.getfield 39, 3) := by decide +kernel
theorem dX3_nodeCount_9 : decode cX3_nodeCount 9 = .ok (.ireturn, 1) := by decide +kernel
theorem dX3_assumptionCount_0 : decode cX3_assumptionCount 0 = .ok (.aload_n 0, 1) := by decide +kernel
theorem dX3_assumptionCount_1 : decode cX3_assumptionCount 1 = .ok (.iconst 0, 1) := by decide +kernel
theorem dX3_assumptionCount_2 : decode cX3_assumptionCount 2 = .ok (.putfield 35, 3) := by decide +kernel
theorem dX3_assumptionCount_5 : decode cX3_assumptionCount 5 = .ok (.aload_n 0, 1) := by decide +kernel
theorem dX3_assumptionCount_6 : decode cX3_assumptionCount 6 = .ok (.getfield 42, 3) := by decide +kernel
theorem dX3_assumptionCount_9 : decode cX3_assumptionCount 9 = .ok (.ireturn, 1) := by decide +kernel
set_option maxRecDepth 20000 in
theorem ggX3_assumptionOf_X3_isNode : GoodIn wsX3_assumptionOf wsX3_isNode := goodIn_r _ [7, 8, 13, 14, 15, 16, 17, 18, 19, 20, 21, 22, 23, 24, 25] (by decide +kernel) (by decide +kernel)
set_option maxRecDepth 20000 in
theorem gX3_assumptionOf_X3_isNode : GoodIn wsX3_assumptionOf (wsV RX3 63 RX3 yX3_isNode wsX3_isNode) := goodIn_app (goodIn_of _ (by decide +kernel)) ggX3_assumptionOf_X3_isNode
set_option maxRecDepth 20000 in
theorem ggX3_assumptionOf_X3_no : GoodIn wsX3_assumptionOf wsX3_no := goodIn_r _ [12, 1, 13, 14, 15, 16, 17, 18, 19, 20, 21, 22, 23, 24, 25] (by decide +kernel) (by decide +kernel)
set_option maxRecDepth 20000 in
theorem gX3_assumptionOf_X3_no : GoodIn wsX3_assumptionOf (wsV RX3 49 RX3 yX3_no wsX3_no) := goodIn_app (goodIn_of _ (by decide +kernel)) ggX3_assumptionOf_X3_no
theorem dX3_assumptionOf_0 : decode cX3_assumptionOf 0 = .ok (.aload_n 0, 1) := by decide +kernel
theorem dX3_assumptionOf_1 : decode cX3_assumptionOf 1 = .ok (.iconst 0, 1) := by decide +kernel
theorem dX3_assumptionOf_2 : decode cX3_assumptionOf 2 = .ok (.putfield 35, 3) := by decide +kernel
theorem dX3_assumptionOf_5 : decode cX3_assumptionOf 5 = .ok (.aload_n 0, 1) := by decide +kernel
theorem dX3_assumptionOf_6 : decode cX3_assumptionOf 6 = .ok (.iload_n 1, 1) := by decide +kernel
theorem dX3_assumptionOf_7 : decode cX3_assumptionOf 7 = .ok (.invokevirtual 63, 3) := by decide +kernel
theorem dX3_assumptionOf_10 : decode cX3_assumptionOf 10 = .ok (.ifCond .eq 12, 3) := by decide +kernel
theorem dX3_assumptionOf_13 : decode cX3_assumptionOf 13 = .ok (.aload_n 0, 1) := by decide +kernel
theorem dX3_assumptionOf_14 : decode cX3_assumptionOf 14 = .ok (.getfield 9, 3) := by decide +kernel
theorem dX3_assumptionOf_17 : decode cX3_assumptionOf 17 = .ok (.iload_n 1, 1) := by decide +kernel
theorem dX3_assumptionOf_18 : decode cX3_assumptionOf 18 = .ok (.iaload, 1) := by decide +kernel
theorem dX3_assumptionOf_19 : decode cX3_assumptionOf 19 = .ok (.goto 8, 3) := by decide +kernel
theorem dX3_assumptionOf_22 : decode cX3_assumptionOf 22 = .ok (.aload_n 0, 1) := by decide +kernel
theorem dX3_assumptionOf_23 : decode cX3_assumptionOf 23 = .ok (.iconst 1, 1) := by decide +kernel
theorem dX3_assumptionOf_24 : decode cX3_assumptionOf 24 = .ok (.invokevirtual 49, 3) := by decide +kernel
theorem dX3_assumptionOf_27 : decode cX3_assumptionOf 27 = .ok (.ireturn, 1) := by decide +kernel
set_option maxRecDepth 20000 in
theorem ggX3_nodeOf_X3_isAssumption : GoodIn wsX3_nodeOf wsX3_isAssumption := goodIn_r _ [7, 8, 13, 14, 15, 16, 17, 18, 19, 20, 21, 22, 23, 24, 25] (by decide +kernel) (by decide +kernel)
set_option maxRecDepth 20000 in
theorem gX3_nodeOf_X3_isAssumption : GoodIn wsX3_nodeOf (wsV RX3 60 RX3 yX3_isAssumption wsX3_isAssumption) := goodIn_app (goodIn_of _ (by decide +kernel)) ggX3_nodeOf_X3_isAssumption
set_option maxRecDepth 20000 in
theorem ggX3_nodeOf_X3_no : GoodIn wsX3_nodeOf wsX3_no := goodIn_r _ [12, 1, 13, 14, 15, 16, 17, 18, 19, 20, 21, 22, 23, 24, 25] (by decide +kernel) (by decide +kernel)
set_option maxRecDepth 20000 in
theorem gX3_nodeOf_X3_no : GoodIn wsX3_nodeOf (wsV RX3 49 RX3 yX3_no wsX3_no) := goodIn_app (goodIn_of _ (by decide +kernel)) ggX3_nodeOf_X3_no
theorem dX3_nodeOf_0 : decode cX3_nodeOf 0 = .ok (.aload_n 0, 1) := by decide +kernel
theorem dX3_nodeOf_1 : decode cX3_nodeOf 1 = .ok (.iconst 0, 1) := by decide +kernel
theorem dX3_nodeOf_2 : decode cX3_nodeOf 2 = .ok (.putfield 35, 3) := by decide +kernel
theorem dX3_nodeOf_5 : decode cX3_nodeOf 5 = .ok (.aload_n 0, 1) := by decide +kernel
theorem dX3_nodeOf_6 : decode cX3_nodeOf 6 = .ok (.iload_n 1, 1) := by decide +kernel
theorem dX3_nodeOf_7 : decode cX3_nodeOf 7 = .ok (.invokevirtual 60, 3) := by decide +kernel
theorem dX3_nodeOf_10 : decode cX3_nodeOf 10 = .ok (.ifCond .eq 12, 3) := by decide +kernel
theorem dX3_nodeOf_13 : decode cX3_nodeOf 13 = .ok (.aload_n 0, 1) := by decide +kernel
theorem dX3_nodeOf_14 : decode cX3_nodeOf 14 = .ok (.getfield 13, 3) := by decide +kernel
theorem dX3_nodeOf_17 : decode cX3_nodeOf 17 = .ok (.iload_n 1, 1) := by decide +kernel
theorem dX3_nodeOf_18 : decode cX3_nodeOf 18 = .ok (.iaload, 1) := by decide +kernel
theorem dX3_nodeOf_19 : decode cX3_nodeOf 19 = .ok (.goto 8, 3) := by decide +kernel
theorem dX3_nodeOf_22 : decode cX3_nodeOf 22 = .ok (.aload_n 0, 1) := by decide +kernel
theorem dX3_nodeOf_23 : decode cX3_nodeOf 23 = .ok (.iconst 1, 1) := by decide +kernel
theorem dX3_nodeOf_24 : decode cX3_nodeOf 24 = .ok (.invokevirtual 49, 3) := by decide +kernel
theorem dX3_nodeOf_27 : decode cX3_nodeOf 27 = .ok (.ireturn, 1) := by decide +kernel
theorem dX3_begin_0 : decode cX3_begin 0 = .ok (.iconst 0, 1) := by decide +kernel
theorem dX3_begin_1 : decode cX3_begin 1 = .ok (.istore_n 2, 1) := by decide +kernel
theorem dX3_begin_2 : decode cX3_begin 2 = .ok (.iconst 0, 1) := by decide +kernel
theorem dX3_begin_3 : decode cX3_begin 3 = .ok (.istore_n 3, 1) := by decide +kernel
theorem dX3_begin_4 : decode cX3_begin 4 = .ok (.iload_n 3, 1) := by decide +kernel
theorem dX3_begin_5 : decode cX3_begin 5 = .ok (.aload_n 0, 1) := by decide +kernel
theorem dX3_begin_6 : decode cX3_begin 6 = .ok (.getfield 42, 3) := by decide +kernel
theorem dX3_begin_9 : decode cX3_begin 9 = .ok (.if_icmp .ge 29, 3) := by decide +kernel
theorem dX3_begin_12 : decode cX3_begin 12 = .ok (.iload_n 1, 1) := by decide +kernel
theorem dX3_begin_13 : decode cX3_begin 13 = .ok (.iload_n 3, 1) := by decide +kernel
theorem dX3_begin_14 : decode cX3_begin 14 = .ok (.ishr, 1) := by decide +kernel
theorem dX3_begin_15 : decode cX3_begin 15 = .ok (.iconst 1, 1) := by decide +kernel
theorem dX3_begin_16 : decode cX3_begin 16 = .ok (.iand, 1) := by decide +kernel
theorem dX3_begin_17 : decode cX3_begin 17 = .ok (.iconst 1, 1) := by decide +kernel
theorem dX3_begin_18 : decode cX3_begin 18 = .ok (.if_icmp .ne 14, 3) := by decide +kernel
theorem dX3_begin_21 : decode cX3_begin 21 = .ok (.iload_n 2, 1) := by decide +kernel
theorem dX3_begin_22 : decode cX3_begin 22 = .ok (.iconst 1, 1) := by decide +kernel
theorem dX3_begin_23 : decode cX3_begin 23 = .ok (.aload_n 0, 1) := by decide +kernel
theorem dX3_begin_24 : decode cX3_begin 24 = .ok (.getfield 13, 3) := by decide +kernel
theorem dX3_begin_27 : decode cX3_begin 27 = .ok (.iload_n 3, 1) := by decide +kernel
theorem dX3_begin_28 : decode cX3_begin 28 = .ok (.iaload, 1) := by decide +kernel
theorem dX3_begin_29 : decode cX3_begin 29 = .ok (.ishl, 1) := by decide +kernel
theorem dX3_begin_30 : decode cX3_begin 30 = .ok (.ior, 1) := by decide +kernel
theorem dX3_begin_31 : decode cX3_begin 31 = .ok (.istore_n 2, 1) := by decide +kernel
theorem dX3_begin_32 : decode cX3_begin 32 = .ok (.iinc 3 1, 3) := by decide +kernel
theorem dX3_begin_35 : decode cX3_begin 35 = .ok (.goto (-31), 3) := by decide +kernel
theorem dX3_begin_38 : decode cX3_begin 38 = .ok (.iload_n 2, 1) := by decide +kernel
theorem dX3_begin_39 : decode cX3_begin 39 = .ok (.ireturn, 1) := by decide +kernel
set_option maxRecDepth 20000 in
theorem ggX3_goOn_X3_isIn : GoodIn wsX3_goOn wsX3_isIn := goodIn_r _ [8] (by decide +kernel) (by decide +kernel)
set_option maxRecDepth 20000 in
theorem gX3_goOn_X3_isIn : GoodIn wsX3_goOn (va_wsS RX3 69 yX3_isIn wsX3_isIn) := goodIn_app (goodIn_of _ (by decide +kernel)) ggX3_goOn_X3_isIn
theorem dX3_goOn_0 : decode cX3_goOn 0 = .ok (.iload_n 1, 1) := by decide +kernel
theorem dX3_goOn_1 : decode cX3_goOn 1 = .ok (.istore_n 2, 1) := by decide +kernel
theorem dX3_goOn_2 : decode cX3_goOn 2 = .ok (.iconst 0, 1) := by decide +kernel
theorem dX3_goOn_3 : decode cX3_goOn 3 = .ok (.istore_n 3, 1) := by decide +kernel
