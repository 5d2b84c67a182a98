theorem dL_addStatement_0 : decode cL_addStatement 0 = .ok (.aload_n 1, 1) := by decide +kernel
theorem dL_addStatement_1 : decode cL_addStatement 1 = .ok (.iconst 0, 1) := by decide +kernel
theorem dL_addStatement_2 : decode cL_addStatement 2 = .ok (.aload_n 0, 1) := by decide +kernel
theorem dL_addStatement_3 : decode cL_addStatement 3 = .ok (.invokevirtual 7, 3) := by decide +kernel
theorem dL_addStatement_6 : decode cL_addStatement 6 = .ok (.i2l, 1) := by decide +kernel
theorem dL_addStatement_7 : decode cL_addStatement 7 = .ok (.lastore, 1) := by decide +kernel
theorem dL_addStatement_8 : decode cL_addStatement 8 = .ok (.goto 6, 3) := by decide +kernel
theorem dL_addStatement_11 : decode cL_addStatement 11 = .ok (.astore_n 2, 1) := by decide +kernel
theorem dL_addStatement_12 : decode cL_addStatement 12 = .ok (.iconst 1, 1) := by decide +kernel
theorem dL_addStatement_13 : decode cL_addStatement 13 = .ok (.ireturn, 1) := by decide +kernel
theorem dL_addStatement_14 : decode cL_addStatement 14 = .ok (.iconst 0, 1) := by decide +kernel
theorem dL_addStatement_15 : decode cL_addStatement 15 = .ok (.ireturn, 1) := by decide +kernel
set_option maxRecDepth 20000 in
theorem ggL_addAssumption_X2_addAssumption : GoodIn wsL_addAssumption wsX2_addAssumption := goodIn_ca (goodIn_ca (goodIn_r _ [7, 8, 9, 10, 11, 12, 13, 14, 15, 6, 16, 17, 18, 19, 20, 21, 22, 23, 24, 25, 26, 27, 28, 29, 30, 31, 32] (by decide +kernel) (by decide +kernel)) (goodIn_sub (fun _ h => List.mem_cons_of_mem _ (List.mem_append_left _ (List.mem_append_right _ h))) (by decide +kernel))) (goodIn_sub (fun _ h => List.mem_cons_of_mem _ (List.mem_append_right _ h)) (by decide +kernel))
set_option maxRecDepth 20000 in
theorem gL_addAssumption_X2_addAssumption : GoodIn wsL_addAssumption (wsV RL 15 RX2 yX2_addAssumption wsX2_addAssumption) := goodIn_app (goodIn_of _ (by decide +kernel)) ggL_addAssumption_X2_addAssumption
theorem dL_addAssumption_0 : decode cL_addAssumption 0 = .ok (.aload_n 2, 1) := by decide +kernel
theorem dL_addAssumption_1 : decode cL_addAssumption 1 = .ok (.iconst 0, 1) := by decide +kernel
theorem dL_addAssumption_2 : decode cL_addAssumption 2 = .ok (.aload_n 0, 1) := by decide +kernel
theorem dL_addAssumption_3 : decode cL_addAssumption 3 = .ok (.iload_n 1, 1) := by decide +kernel
theorem dL_addAssumption_4 : decode cL_addAssumption 4 = .ok (.invokevirtual 15, 3) := by decide +kernel
theorem dL_addAssumption_7 : decode cL_addAssumption 7 = .ok (.i2l, 1) := by decide +kernel
theorem dL_addAssumption_8 : decode cL_addAssumption 8 = .ok (.lastore, 1) := by decide +kernel
theorem dL_addAssumption_9 : decode cL_addAssumption 9 = .ok (.goto 9, 3) := by decide +kernel
theorem dL_addAssumption_12 : decode cL_addAssumption 12 = .ok (.astore_n 3, 1) := by decide +kernel
theorem dL_addAssumption_13 : decode cL_addAssumption 13 = .ok (.iconst 1, 1) := by decide +kernel
theorem dL_addAssumption_14 : decode cL_addAssumption 14 = .ok (.ireturn, 1) := by decide +kernel
theorem dL_addAssumption_15 : decode cL_addAssumption 15 = .ok (.astore_n 3, 1) := by decide +kernel
theorem dL_addAssumption_16 : decode cL_addAssumption 16 = .ok (.iconst 2, 1) := by decide +kernel
theorem dL_addAssumption_17 : decode cL_addAssumption 17 = .ok (.ireturn, 1) := by decide +kernel
theorem dL_addAssumption_18 : decode cL_addAssumption 18 = .ok (.iconst 0, 1) := by decide +kernel
theorem dL_addAssumption_19 : decode cL_addAssumption 19 = .ok (.ireturn, 1) := by decide +kernel
set_option maxRecDepth 20000 in
theorem ggL_setWeight_X2_setWeight : GoodIn wsL_setWeight wsX2_setWeight := goodIn_ca (goodIn_ca (goodIn_r _ [7, 8, 9, 10, 11, 6, 12, 13, 14, 15, 16, 17, 18, 19, 20, 21, 22, 23, 24, 25, 26, 27, 28] (by decide +kernel) (by decide +kernel)) (goodIn_sub (fun _ h => List.mem_cons_of_mem _ (List.mem_append_left _ (List.mem_append_right _ h))) (by decide +kernel))) (goodIn_sub (fun _ h => List.mem_cons_of_mem _ (List.mem_append_right _ h)) (by decide +kernel))
set_option maxRecDepth 20000 in
theorem gL_setWeight_X2_setWeight : GoodIn wsL_setWeight (wsV RL 21 RX2 yX2_setWeight wsX2_setWeight) := goodIn_app (goodIn_of _ (by decide +kernel)) ggL_setWeight_X2_setWeight
theorem dL_setWeight_0 : decode cL_setWeight 0 = .ok (.aload_n 3, 1) := by decide +kernel
theorem dL_setWeight_1 : decode cL_setWeight 1 = .ok (.iconst 0, 1) := by decide +kernel
theorem dL_setWeight_2 : decode cL_setWeight 2 = .ok (.aload_n 0, 1) := by decide +kernel
theorem dL_setWeight_3 : decode cL_setWeight 3 = .ok (.iload_n 1, 1) := by decide +kernel
theorem dL_setWeight_4 : decode cL_setWeight 4 = .ok (.iload_n 2, 1) := by decide +kernel
theorem dL_setWeight_5 : decode cL_setWeight 5 = .ok (.invokevirtual 21, 3) := by decide +kernel
theorem dL_setWeight_8 : decode cL_setWeight 8 = .ok (.i2l, 1) := by decide +kernel
theorem dL_setWeight_9 : decode cL_setWeight 9 = .ok (.lastore, 1) := by decide +kernel
theorem dL_setWeight_10 : decode cL_setWeight 10 = .ok (.goto 11, 3) := by decide +kernel
theorem dL_setWeight_13 : decode cL_setWeight 13 = .ok (.astore 4, 2) := by decide +kernel
theorem dL_setWeight_15 : decode cL_setWeight 15 = .ok (.iconst 1, 1) := by decide +kernel
theorem dL_setWeight_16 : decode cL_setWeight 16 = .ok (.ireturn, 1) := by decide +kernel
theorem dL_setWeight_17 : decode cL_setWeight 17 = .ok (.astore 4, 2) := by decide +kernel
theorem dL_setWeight_19 : decode cL_setWeight 19 = .ok (.iconst 2, 1) := by decide +kernel
theorem dL_setWeight_20 : decode cL_setWeight 20 = .ok (.ireturn, 1) := by decide +kernel
theorem dL_setWeight_21 : decode cL_setWeight 21 = .ok (.iconst 0, 1) := by decide +kernel
theorem dL_setWeight_22 : decode cL_setWeight 22 = .ok (.ireturn, 1) := by decide +kernel
set_option maxRecDepth 20000 in
theorem ggL_addRule_X2_addRule : GoodIn wsL_addRule wsX2_addRule := goodIn_ca (goodIn_ca (goodIn_ca (goodIn_r _ [8, 9, 10, 11, 12, 13, 14, 15, 16, 17, 7, 18, 19, 20, 21, 22, 23, 24, 25, 26, 27, 28, 29, 30, 31, 32, 33, 34, 35, 36, 37, 38, 39, 40, 41, 42, 43, 44, 45, 46, 47, 48, 49] (by decide +kernel) (by decide +kernel)) (goodIn_sub (fun _ h => List.mem_cons_of_mem _ (List.mem_append_left _ (List.mem_append_left _ (List.mem_append_right _ h)))) (by decide +kernel))) (goodIn_sub (fun _ h => List.mem_cons_of_mem _ (List.mem_append_left _ (List.mem_append_right _ h))) (by decide +kernel))) (goodIn_sub (fun _ h => List.mem_cons_of_mem _ (List.mem_append_right _ h)) (by decide +kernel))
set_option maxRecDepth 20000 in
theorem gL_addRule_X2_addRule : GoodIn wsL_addRule (wsV RL 27 RX2 yX2_addRule wsX2_addRule) := goodIn_app (goodIn_of _ (by decide +kernel)) ggL_addRule_X2_addRule
theorem dL_addRule_0 : decode cL_addRule 0 = .ok (.aload_n 3, 1) := by decide +kernel
theorem dL_addRule_1 : decode cL_addRule 1 = .ok (.iconst 0, 1) := by decide +kernel
theorem dL_addRule_2 : decode cL_addRule 2 = .ok (.aload_n 0, 1) := by decide +kernel
theorem dL_addRule_3 : decode cL_addRule 3 = .ok (.iload_n 1, 1) := by decide +kernel
theorem dL_addRule_4 : decode cL_addRule 4 = .ok (.iload_n 2, 1) := by decide +kernel
theorem dL_addRule_5 : decode cL_addRule 5 = .ok (.invokevirtual 27, 3) := by decide +kernel
theorem dL_addRule_8 : decode cL_addRule 8 = .ok (.i2l, 1) := by decide +kernel
theorem dL_addRule_9 : decode cL_addRule 9 = .ok (.lastore, 1) := by decide +kernel
theorem dL_addRule_10 : decode cL_addRule 10 = .ok (.goto 15, 3) := by decide +kernel
theorem dL_addRule_13 : decode cL_addRule 13 = .ok (.astore 4, 2) := by decide +kernel
theorem dL_addRule_15 : decode cL_addRule 15 = .ok (.iconst 1, 1) := by decide +kernel
theorem dL_addRule_16 : decode cL_addRule 16 = .ok (.ireturn, 1) := by decide +kernel
theorem dL_addRule_17 : decode cL_addRule 17 = .ok (.astore 4, 2) := by decide +kernel
theorem dL_addRule_19 : decode cL_addRule 19 = .ok (.iconst 2, 1) := by decide +kernel
theorem dL_addRule_20 : decode cL_addRule 20 = .ok (.ireturn, 1) := by decide +kernel
theorem dL_addRule_21 : decode cL_addRule 21 = .ok (.astore 4, 2) := by decide +kernel
theorem dL_addRule_23 : decode cL_addRule 23 = .ok (.iconst 3, 1) := by decide +kernel
theorem dL_addRule_24 : decode cL_addRule 24 = .ok (.ireturn, 1) := by decide +kernel
theorem dL_addRule_25 : decode cL_addRule 25 = .ok (.iconst 0, 1) := by decide +kernel
theorem dL_addRule_26 : decode cL_addRule 26 = .ok (.ireturn, 1) := by decide +kernel
set_option maxRecDepth 20000 in
theorem ggL_turn_X2_turn : GoodIn wsL_turn wsX2_turn := goodIn_ca (goodIn_r _ [6, 7, 8, 9, 10, 11, 12, 13, 14, 15, 16, 17, 18, 19, 20, 21, 22, 23, 24, 25, 26, 27, 28, 29, 30, 31, 32, 33] (by decide +kernel) (by decide +kernel)) (goodIn_sub (fun _ h => List.mem_cons_of_mem _ (List.mem_append_right _ h)) (by decide +kernel))
set_option maxRecDepth 20000 in
theorem gL_turn_X2_turn : GoodIn wsL_turn (wsV RL 30 RX2 yX2_turn wsX2_turn) := goodIn_app (goodIn_of _ (by decide +kernel)) ggL_turn_X2_turn
theorem dL_turn_0 : decode cL_turn 0 = .ok (.aload_n 3, 1) := by decide +kernel
theorem dL_turn_1 : decode cL_turn 1 = .ok (.iconst 0, 1) := by decide +kernel
theorem dL_turn_2 : decode cL_turn 2 = .ok (.aload_n 0, 1) := by decide +kernel
theorem dL_turn_3 : decode cL_turn 3 = .ok (.iload_n 1, 1) := by decide +kernel
theorem dL_turn_4 : decode cL_turn 4 = .ok (.iload_n 2, 1) := by decide +kernel
theorem dL_turn_5 : decode cL_turn 5 = .ok (.invokevirtual 30, 3) := by decide +kernel
theorem dL_turn_8 : decode cL_turn 8 = .ok (.ifCond .eq 7, 3) := by decide +kernel
theorem dL_turn_11 : decode cL_turn 11 = .ok (.lconst 1, 1) := by decide +kernel
theorem dL_turn_12 : decode cL_turn 12 = .ok (.goto 4, 3) := by decide +kernel
theorem dL_turn_15 : decode cL_turn 15 = .ok (.lconst 0, 1) := by decide +kernel
theorem dL_turn_16 : decode cL_turn 16 = .ok (.lastore, 1) := by decide +kernel
theorem dL_turn_17 : decode cL_turn 17 = .ok (.goto 7, 3) := by decide +kernel
theorem dL_turn_20 : decode cL_turn 20 = .ok (.astore 4, 2) := by decide +kernel
theorem dL_turn_22 : decode cL_turn 22 = .ok (.iconst 1, 1) := by decide +kernel
theorem dL_turn_23 : decode cL_turn 23 = .ok (.ireturn, 1) := by decide +kernel
theorem dL_turn_24 : decode cL_turn 24 = .ok (.iconst 0, 1) := by decide +kernel
theorem dL_turn_25 : decode cL_turn 25 = .ok (.ireturn, 1) := by decide +kernel
set_option maxRecDepth 20000 in
theorem ggL_drop_X2_drop : GoodIn wsL_drop wsX2_drop := goodIn_ca (goodIn_r _ [6, 7, 8, 9, 10, 11, 12, 13, 14, 15, 16, 17, 18, 19, 20, 21, 22, 23, 24, 25, 26, 27, 28, 29, 30, 31, 32] (by decide +kernel) (by decide +kernel)) (goodIn_sub (fun _ h => List.mem_cons_of_mem _ (List.mem_append_right _ h)) (by decide +kernel))
set_option maxRecDepth 20000 in
theorem gL_drop_X2_drop : GoodIn wsL_drop (wsV RL 34 RX2 yX2_drop wsX2_drop) := goodIn_app (goodIn_of _ (by decide +kernel)) ggL_drop_X2_drop
theorem dL_drop_0 : decode cL_drop 0 = .ok (.aload_n 1, 1) := by decide +kernel
theorem dL_drop_1 : decode cL_drop 1 = .ok (.iconst 0, 1) := by decide +kernel
theorem dL_drop_2 : decode cL_drop 2 = .ok (.aload_n 0, 1) := by decide +kernel
theorem dL_drop_3 : decode cL_drop 3 = .ok (.invokevirtual 34, 3) := by decide +kernel
theorem dL_drop_6 : decode cL_drop 6 = .ok (.i2l, 1) := by decide +kernel
theorem dL_drop_7 : decode cL_drop 7 = .ok (.lastore, 1) := by decide +kernel
theorem dL_drop_8 : decode cL_drop 8 = .ok (.goto 6, 3) := by decide +kernel
theorem dL_drop_11 : decode cL_drop 11 = .ok (.astore_n 2, 1) := by decide +kernel
theorem dL_drop_12 : decode cL_drop 12 = .ok (.iconst 1, 1) := by decide +kernel
theorem dL_drop_13 : decode cL_drop 13 = .ok (.ireturn, 1) := by decide +kernel
theorem dL_drop_14 : decode cL_drop 14 = .ok (.iconst 0, 1) := by decide +kernel
theorem dL_drop_15 : decode cL_drop 15 = .ok (.ireturn, 1) := by decide +kernel
set_option maxRecDepth 20000 in
theorem ggL_assumptionOf_X2_assumptionOf : GoodIn wsL_assumptionOf wsX2_assumptionOf := goodIn_ca (goodIn_r _ [6, 7, 8, 9, 10, 5, 11, 12, 13, 14, 15, 16, 17, 18, 19, 20, 21, 22] (by decide +kernel) (by decide +kernel)) (goodIn_sub (fun _ h => List.mem_cons_of_mem _ (List.mem_append_right _ h)) (by decide +kernel))
set_option maxRecDepth 20000 in
theorem gL_assumptionOf_X2_assumptionOf : GoodIn wsL_assumptionOf (wsV RL 37 RX2 yX2_assumptionOf wsX2_assumptionOf) := goodIn_app (goodIn_of _ (by decide +kernel)) ggL_assumptionOf_X2_assumptionOf
theorem dL_assumptionOf_0 : decode cL_assumptionOf 0 = .ok (.aload_n 2, 1) := by decide +kernel
theorem dL_assumptionOf_1 : decode cL_assumptionOf 1 = .ok (.iconst 0, 1) := by decide +kernel
theorem dL_assumptionOf_2 : decode cL_assumptionOf 2 = .ok (.aload_n 0, 1) := by decide +kernel
theorem dL_assumptionOf_3 : decode cL_assumptionOf 3 = .ok (.iload_n 1, 1) := by decide +kernel
theorem dL_assumptionOf_4 : decode cL_assumptionOf 4 = .ok (.invokevirtual 37, 3) := by decide +kernel
theorem dL_assumptionOf_7 : decode cL_assumptionOf 7 = .ok (.i2l, 1) := by decide +kernel
theorem dL_assumptionOf_8 : decode cL_assumptionOf 8 = .ok (.lastore, 1) := by decide +kernel
theorem dL_assumptionOf_9 : decode cL_assumptionOf 9 = .ok (.goto 6, 3) := by decide +kernel
theorem dL_assumptionOf_12 : decode cL_assumptionOf 12 = .ok (.astore_n 3, 1) := by decide +kernel
theorem dL_assumptionOf_13 : decode cL_assumptionOf 13 = .ok (.iconst 1, 1) := by decide +kernel
theorem dL_assumptionOf_14 : decode cL_assumptionOf 14 = .ok (.ireturn, 1) := by decide +kernel
theorem dL_assumptionOf_15 : decode cL_assumptionOf 15 = .ok (.iconst 0, 1) := by decide +kernel
theorem dL_assumptionOf_16 : decode cL_assumptionOf 16 = .ok (.ireturn, 1) := by decide +kernel
set_option maxRecDepth 20000 in
theorem ggL_nodeOf_X2_nodeOf : GoodIn wsL_nodeOf wsX2_nodeOf := goodIn_ca (goodIn_r _ [6, 7, 8, 9, 10, 5, 11, 12, 13, 14, 15, 16, 17, 18, 19, 20, 21, 22] (by decide +kernel) (by decide +kernel)) (goodIn_sub (fun _ h => List.mem_cons_of_mem _ (List.mem_append_right _ h)) (by decide +kernel))
set_option maxRecDepth 20000 in
theorem gL_nodeOf_X2_nodeOf : GoodIn wsL_nodeOf (wsV RL 40 RX2 yX2_nodeOf wsX2_nodeOf) := goodIn_app (goodIn_of _ (by decide +kernel)) ggL_nodeOf_X2_nodeOf
theorem dL_nodeOf_0 : decode cL_nodeOf 0 = .ok (.aload_n 2, 1) := by decide +kernel
theorem dL_nodeOf_1 : decode cL_nodeOf 1 = .ok (.iconst 0, 1) := by decide +kernel
theorem dL_nodeOf_2 : decode cL_nodeOf 2 = .ok (.aload_n 0, 1) := by decide +kernel
theorem dL_nodeOf_3 : decode cL_nodeOf 3 = .ok (.iload_n 1, 1) := by decide +kernel
theorem dL_nodeOf_4 : decode cL_nodeOf 4 = .ok (.invokevirtual 40, 3) := by decide +kernel
theorem dL_nodeOf_7 : decode cL_nodeOf 7 = .ok (.i2l, 1) := by decide +kernel
theorem dL_nodeOf_8 : decode cL_nodeOf 8 = .ok (.lastore, 1) := by decide +kernel
theorem dL_nodeOf_9 : decode cL_nodeOf 9 = .ok (.goto 6, 3) := by decide +kernel
theorem dL_nodeOf_12 : decode cL_nodeOf 12 = .ok (.astore_n 3, 1) := by decide +kernel
theorem dL_nodeOf_13 : decode cL_nodeOf 13 = .ok (.iconst 1, 1) := by decide +kernel
theorem dL_nodeOf_14 : decode cL_nodeOf 14 = .ok (.ireturn, 1) := by decide +kernel
theorem dL_nodeOf_15 : decode cL_nodeOf 15 = .ok (.iconst 0, 1) := by decide +kernel
theorem dL_nodeOf_16 : decode cL_nodeOf 16 = .ok (.ireturn, 1) := by decide +kernel
set_option maxRecDepth 20000 in
theorem ggL_holds_X2_holds : GoodIn wsL_holds wsX2_holds := goodIn_ca (goodIn_ca (goodIn_r _ [7, 8, 9, 10, 11, 6, 12, 13, 14, 15, 16, 17, 18, 19, 20, 21, 22, 23, 24, 25, 26, 27, 28, 29, 30, 31, 32, 33, 34, 35, 36, 37, 38, 39, 40, 41, 42, 43, 44, 45, 46, 47, 48, 49, 50, 51, 52, 53, 54, 55, 56, 57, 58, 59, 60, 61, 62] (by decide +kernel) (by decide +kernel)) (goodIn_sub (fun _ h => List.mem_cons_of_mem _ (List.mem_append_left _ (List.mem_append_right _ h))) (by decide +kernel))) (goodIn_sub (fun _ h => List.mem_cons_of_mem _ (List.mem_append_right _ h)) (by decide +kernel))
set_option maxRecDepth 20000 in
theorem gL_holds_X2_holds : GoodIn wsL_holds (wsV RL 43 RX2 yX2_holds wsX2_holds) := goodIn_app (goodIn_of _ (by decide +kernel)) ggL_holds_X2_holds
theorem dL_holds_0 : decode cL_holds 0 = .ok (.aload_n 3, 1) := by decide +kernel
theorem dL_holds_1 : decode cL_holds 1 = .ok (.iconst 0, 1) := by decide +kernel
theorem dL_holds_2 : decode cL_holds 2 = .ok (.aload_n 0, 1) := by decide +kernel
theorem dL_holds_3 : decode cL_holds 3 = .ok (.iload_n 1, 1) := by decide +kernel
theorem dL_holds_4 : decode cL_holds 4 = .ok (.iload_n 2, 1) := by decide +kernel
theorem dL_holds_5 : decode cL_holds 5 = .ok (.invokevirtual 43, 3) := by decide +kernel
theorem dL_holds_8 : decode cL_holds 8 = .ok (.ifCond .eq 7, 3) := by decide +kernel
theorem dL_holds_11 : decode cL_holds 11 = .ok (.lconst 1, 1) := by decide +kernel
theorem dL_holds_12 : decode cL_holds 12 = .ok (.goto 4, 3) := by decide +kernel
theorem dL_holds_15 : decode cL_holds 15 = .ok (.lconst 0, 1) := by decide +kernel
theorem dL_holds_16 : decode cL_holds 16 = .ok (.lastore, 1) := by decide +kernel
theorem dL_holds_17 : decode cL_holds 17 = .ok (.goto 11, 3) := by decide +kernel
theorem dL_holds_20 : decode cL_holds 20 = .ok (.astore 4, 2) := by decide +kernel
theorem dL_holds_22 : decode cL_holds 22 = .ok (.iconst 1, 1) := by decide +kernel
theorem dL_holds_23 : decode cL_holds 23 = .ok (.ireturn, 1) := by decide +kernel
theorem dL_holds_24 : decode cL_holds 24 = .ok (.astore 4, 2) := by decide +kernel
theorem dL_holds_26 : decode cL_holds 26 = .ok (.iconst 2, 1) := by decide +kernel
theorem dL_holds_27 : decode cL_holds 27 = .ok (.ireturn, 1) := by decide +kernel
theorem dL_holds_28 : decode cL_holds 28 = .ok (.iconst 0, 1) := by decide +kernel
theorem dL_holds_29 : decode cL_holds 29 = .ok (.ireturn, 1) := by decide +kernel
set_option maxRecDepth 20000 in
theorem ggL_depth_X2_depth : GoodIn wsL_depth wsX2_depth := goodIn_ca (goodIn_ca (goodIn_r _ [7, 8, 9, 10, 11, 6, 12, 13, 14, 15, 16, 17, 18, 19, 20, 21, 22, 23, 24, 25, 26, 27, 28, 29, 30, 31, 32, 33, 34, 35, 36, 37, 38, 39, 40, 41, 42, 43, 44, 45, 46, 47, 48, 49, 50, 51, 52, 53, 54, 55, 56, 57, 58] (by decide +kernel) (by decide +kernel)) (goodIn_sub (fun _ h => List.mem_cons_of_mem _ (List.mem_append_left _ (List.mem_append_right _ h))) (by decide +kernel))) (goodIn_sub (fun _ h => List.mem_cons_of_mem _ (List.mem_append_right _ h)) (by decide +kernel))
set_option maxRecDepth 20000 in
theorem gL_depth_X2_depth : GoodIn wsL_depth (wsV RL 47 RX2 yX2_depth wsX2_depth) := goodIn_app (goodIn_of _ (by decide +kernel)) ggL_depth_X2_depth
theorem dL_depth_0 : decode cL_depth 0 = .ok (.aload_n 3, 1) := by decide +kernel
theorem dL_depth_1 : decode cL_depth 1 = .ok (.iconst 0, 1) := by decide +kernel
theorem dL_depth_2 : decode cL_depth 2 = .ok (.aload_n 0, 1) := by decide +kernel
theorem dL_depth_3 : decode cL_depth 3 = .ok (.iload_n 1, 1) := by decide +kernel
theorem dL_depth_4 : decode cL_depth 4 = .ok (.iload_n 2, 1) := by decide +kernel
theorem dL_depth_5 : decode cL_depth 5 = .ok (.invokevirtual 47, 3) := by decide +kernel
theorem dL_depth_8 : decode cL_depth 8 = .ok (.i2l, 1) := by decide +kernel
theorem dL_depth_9 : decode cL_depth 9 = .ok (.lastore, 1) := by decide +kernel
theorem dL_depth_10 : decode cL_depth 10 = .ok (.goto 11, 3) := by decide +kernel
theorem dL_depth_13 : decode cL_depth 13 = .ok (.astore 4, 2) := by decide +kernel
theorem dL_depth_15 : decode cL_depth 15 = .ok (.iconst 1, 1) := by decide +kernel
theorem dL_depth_16 : decode cL_depth 16 = .ok (.ireturn, 1) := by decide +kernel
theorem dL_depth_17 : decode cL_depth 17 = .ok (.astore 4, 2) := by decide +kernel
theorem dL_depth_19 : decode cL_depth 19 = .ok (.iconst 2, 1) := by decide +kernel
theorem dL_depth_20 : decode cL_depth 20 = .ok (.ireturn, 1) := by decide +kernel
theorem dL_depth_21 : decode cL_depth 21 = .ok (.iconst 0, 1) := by decide +kernel
theorem dL_depth_22 : decode cL_depth 22 = .ok (.ireturn, 1) := by decide +kernel
set_option maxRecDepth 20000 in
theorem ggL_support_X2_support : GoodIn wsL_support wsX2_support := goodIn_ca (goodIn_ca (goodIn_r _ [7, 8, 9, 10, 11, 6, 12, 13, 14, 15, 16, 17, 18, 19, 20, 21, 22, 23, 24, 25, 26, 27, 28, 29, 30, 31, 32, 33, 34, 35, 36, 37, 38, 39, 40, 41, 42, 43, 44, 45, 46, 47, 48, 49, 50, 51, 52, 53, 54, 55, 56, 57, 58, 59, 60, 61, 62] (by decide +kernel) (by decide +kernel)) (goodIn_sub (fun _ h => List.mem_cons_of_mem _ (List.mem_append_left _ (List.mem_append_right _ h))) (by decide +kernel))) (goodIn_sub (fun _ h => List.mem_cons_of_mem _ (List.mem_append_right _ h)) (by decide +kernel))
set_option maxRecDepth 20000 in
theorem gL_support_X2_support : GoodIn wsL_support (wsV RL 50 RX2 yX2_support wsX2_support) := goodIn_app (goodIn_of _ (by decide +kernel)) ggL_support_X2_support
theorem dL_support_0 : decode cL_support 0 = .ok (.aload_n 3, 1) := by decide +kernel
theorem dL_support_1 : decode cL_support 1 = .ok (.iconst 0, 1) := by decide +kernel
theorem dL_support_2 : decode cL_support 2 = .ok (.aload_n 0, 1) := by decide +kernel
theorem dL_support_3 : decode cL_support 3 = .ok (.iload_n 1, 1) := by decide +kernel
theorem dL_support_4 : decode cL_support 4 = .ok (.iload_n 2, 1) := by decide +kernel
theorem dL_support_5 : decode cL_support 5 = .ok (.invokevirtual 50, 3) := by decide +kernel
theorem dL_support_8 : decode cL_support 8 = .ok (.i2l, 1) := by decide +kernel
theorem dL_support_9 : decode cL_support 9 = .ok (.lastore, 1) := by decide +kernel
theorem dL_support_10 : decode cL_support 10 = .ok (.goto 11, 3) := by decide +kernel
theorem dL_support_13 : decode cL_support 13 = .ok (.astore 4, 2) := by decide +kernel
theorem dL_support_15 : decode cL_support 15 = .ok (.iconst 1, 1) := by decide +kernel
theorem dL_support_16 : decode cL_support 16 = .ok (.ireturn, 1) := by decide +kernel
theorem dL_support_17 : decode cL_support 17 = .ok (.astore 4, 2) := by decide +kernel
theorem dL_support_19 : decode cL_support 19 = .ok (.iconst 2, 1) := by decide +kernel
theorem dL_support_20 : decode cL_support 20 = .ok (.ireturn, 1) := by decide +kernel
theorem dL_support_21 : decode cL_support 21 = .ok (.iconst 0, 1) := by decide +kernel
theorem dL_support_22 : decode cL_support 22 = .ok (.ireturn, 1) := by decide +kernel
set_option maxRecDepth 20000 in
theorem ggL_heldCount_X2_heldCount : GoodIn wsL_heldCount wsX2_heldCount := goodIn_ca (goodIn_r _ [6, 7, 8, 9, 10, 5, 11, 12, 13, 14, 15, 16, 17, 18, 19, 20, 21, 22, 23, 24, 25, 26, 27, 28, 29, 30, 31, 32, 33, 34, 35, 36, 37, 38, 39, 40, 41, 42, 43, 44, 45, 46, 47, 48, 49, 50, 51, 52, 53, 54, 55, 56, 57, 58, 59, 60, 61] (by decide +kernel) (by decide +kernel)) (goodIn_sub (fun _ h => List.mem_cons_of_mem _ (List.mem_append_right _ h)) (by decide +kernel))
set_option maxRecDepth 20000 in
theorem gL_heldCount_X2_heldCount : GoodIn wsL_heldCount (wsV RL 53 RX2 yX2_heldCount wsX2_heldCount) := goodIn_app (goodIn_of _ (by decide +kernel)) ggL_heldCount_X2_heldCount
theorem dL_heldCount_0 : decode cL_heldCount 0 = .ok (.aload_n 2, 1) := by decide +kernel
theorem dL_heldCount_1 : decode cL_heldCount 1 = .ok (.iconst 0, 1) := by decide +kernel
theorem dL_heldCount_2 : decode cL_heldCount 2 = .ok (.aload_n 0, 1) := by decide +kernel
theorem dL_heldCount_3 : decode cL_heldCount 3 = .ok (.iload_n 1, 1) := by decide +kernel
theorem dL_heldCount_4 : decode cL_heldCount 4 = .ok (.invokevirtual 53, 3) := by decide +kernel
theorem dL_heldCount_7 : decode cL_heldCount 7 = .ok (.i2l, 1) := by decide +kernel
theorem dL_heldCount_8 : decode cL_heldCount 8 = .ok (.lastore, 1) := by decide +kernel
theorem dL_heldCount_9 : decode cL_heldCount 9 = .ok (.goto 6, 3) := by decide +kernel
theorem dL_heldCount_12 : decode cL_heldCount 12 = .ok (.astore_n 3, 1) := by decide +kernel
theorem dL_heldCount_13 : decode cL_heldCount 13 = .ok (.iconst 1, 1) := by decide +kernel
theorem dL_heldCount_14 : decode cL_heldCount 14 = .ok (.ireturn, 1) := by decide +kernel
theorem dL_heldCount_15 : decode cL_heldCount 15 = .ok (.iconst 0, 1) := by decide +kernel
theorem dL_heldCount_16 : decode cL_heldCount 16 = .ok (.ireturn, 1) := by decide +kernel
set_option maxRecDepth 20000 in
theorem ggL_isConsistent_X2_isConsistent : GoodIn wsL_isConsistent wsX2_isConsistent := goodIn_ca (goodIn_r _ [6, 7, 8, 9, 5, 10, 11, 12, 13, 14, 15, 16, 17, 18, 19, 20, 21, 22, 23, 24, 25, 26, 27, 28, 29, 30, 31, 32, 33, 34, 35, 36, 37, 38, 39, 40, 41, 42, 43, 44, 45, 46, 47, 48, 49, 50, 51, 52, 53, 54, 55, 56, 57, 58, 59, 60, 61, 62] (by decide +kernel) (by decide +kernel)) (goodIn_sub (fun _ h => List.mem_cons_of_mem _ (List.mem_append_right _ h)) (by decide +kernel))
set_option maxRecDepth 20000 in
theorem gL_isConsistent_X2_isConsistent : GoodIn wsL_isConsistent (wsV RL 56 RX2 yX2_isConsistent wsX2_isConsistent) := goodIn_app (goodIn_of _ (by decide +kernel)) ggL_isConsistent_X2_isConsistent
theorem dL_isConsistent_0 : decode cL_isConsistent 0 = .ok (.aload_n 2, 1) := by decide +kernel
theorem dL_isConsistent_1 : decode cL_isConsistent 1 = .ok (.iconst 0, 1) := by decide +kernel
theorem dL_isConsistent_2 : decode cL_isConsistent 2 = .ok (.aload_n 0, 1) := by decide +kernel
theorem dL_isConsistent_3 : decode cL_isConsistent 3 = .ok (.iload_n 1, 1) := by decide +kernel
theorem dL_isConsistent_4 : decode cL_isConsistent 4 = .ok (.invokevirtual 56, 3) := by decide +kernel
theorem dL_isConsistent_7 : decode cL_isConsistent 7 = .ok (.ifCond .eq 7, 3) := by decide +kernel
theorem dL_isConsistent_10 : decode cL_isConsistent 10 = .ok (.lconst 1, 1) := by decide +kernel
theorem dL_isConsistent_11 : decode cL_isConsistent 11 = .ok (.goto 4, 3) := by decide +kernel
theorem dL_isConsistent_14 : decode cL_isConsistent 14 = .ok (.lconst 0, 1) := by decide +kernel
theorem dL_isConsistent_15 : decode cL_isConsistent 15 = .ok (.lastore, 1) := by decide +kernel
theorem dL_isConsistent_16 : decode cL_isConsistent 16 = .ok (.goto 6, 3) := by decide +kernel
theorem dL_isConsistent_19 : decode cL_isConsistent 19 = .ok (.astore_n 3, 1) := by decide +kernel
theorem dL_isConsistent_20 : decode cL_isConsistent 20 = .ok (.iconst 1, 1) := by decide +kernel
theorem dL_isConsistent_21 : decode cL_isConsistent 21 = .ok (.ireturn, 1) := by decide +kernel
theorem dL_isConsistent_22 : decode cL_isConsistent 22 = .ok (.iconst 0, 1) := by decide +kernel
theorem dL_isConsistent_23 : decode cL_isConsistent 23 = .ok (.ireturn, 1) := by decide +kernel
set_option maxRecDepth 20000 in
theorem ggL_cost_X2_cost : GoodIn wsL_cost wsX2_cost := goodIn_ca (goodIn_r _ [6, 7, 8, 9, 5, 10, 11, 12, 13, 14, 15, 16, 17, 18, 19, 20, 21, 22, 23, 24, 25, 26, 27, 28, 29, 30, 31, 32] (by decide +kernel) (by decide +kernel)) (goodIn_sub (fun _ h => List.mem_cons_of_mem _ (List.mem_append_right _ h)) (by decide +kernel))
set_option maxRecDepth 20000 in
theorem gL_cost_X2_cost : GoodIn wsL_cost (wsV RL 60 RX2 yX2_cost wsX2_cost) := goodIn_app (goodIn_of _ (by decide +kernel)) ggL_cost_X2_cost
theorem dL_cost_0 : decode cL_cost 0 = .ok (.aload_n 2, 1) := by decide +kernel
theorem dL_cost_1 : decode cL_cost 1 = .ok (.iconst 0, 1) := by decide +kernel
theorem dL_cost_2 : decode cL_cost 2 = .ok (.aload_n 0, 1) := by decide +kernel
theorem dL_cost_3 : decode cL_cost 3 = .ok (.iload_n 1, 1) := by decide +kernel
theorem dL_cost_4 : decode cL_cost 4 = .ok (.invokevirtual 60, 3) := by decide +kernel
theorem dL_cost_7 : decode cL_cost 7 = .ok (.i2l, 1) := by decide +kernel
theorem dL_cost_8 : decode cL_cost 8 = .ok (.lastore, 1) := by decide +kernel
theorem dL_cost_9 : decode cL_cost 9 = .ok (.goto 6, 3) := by decide +kernel
theorem dL_cost_12 : decode cL_cost 12 = .ok (.astore_n 3, 1) := by decide +kernel
theorem dL_cost_13 : decode cL_cost 13 = .ok (.iconst 1, 1) := by decide +kernel
theorem dL_cost_14 : decode cL_cost 14 = .ok (.ireturn, 1) := by decide +kernel
theorem dL_cost_15 : decode cL_cost 15 = .ok (.iconst 0, 1) := by decide +kernel
theorem dL_cost_16 : decode cL_cost 16 = .ok (.ireturn, 1) := by decide +kernel
set_option maxRecDepth 20000 in
theorem ggL_extend_X2_extend : GoodIn wsL_extend wsX2_extend := goodIn_ca (goodIn_ca (goodIn_r _ [7, 8, 9, 10, 11, 12, 13, 6, 14, 15, 16, 17, 18, 19, 20, 21, 22, 23, 24, 25, 26, 27, 28, 29, 30, 31, 32, 33, 34, 35, 36, 37, 38, 39, 40, 41, 42, 43, 44, 45, 46, 47, 48, 49, 50, 51, 52, 53, 54, 55, 56, 57, 58, 59, 60, 61, 62, 63, 64, 65, 66, 67, 68, 69, 70] (by decide +kernel) (by decide +kernel)) (goodIn_sub (fun _ h => List.mem_cons_of_mem _ (List.mem_append_left _ (List.mem_append_right _ h))) (by decide +kernel))) (goodIn_sub (fun _ h => List.mem_cons_of_mem _ (List.mem_append_right _ h)) (by decide +kernel))
set_option maxRecDepth 20000 in
theorem gL_extend_X2_extend : GoodIn wsL_extend (wsV RL 63 RX2 yX2_extend wsX2_extend) := goodIn_app (goodIn_of _ (by decide +kernel)) ggL_extend_X2_extend
theorem dL_extend_0 : decode cL_extend 0 = .ok (.aload_n 2, 1) := by decide +kernel
theorem dL_extend_1 : decode cL_extend 1 = .ok (.iconst 0, 1) := by decide +kernel
theorem dL_extend_2 : decode cL_extend 2 = .ok (.aload_n 0, 1) := by decide +kernel
theorem dL_extend_3 : decode cL_extend 3 = .ok (.iload_n 1, 1) := by decide +kernel
theorem dL_extend_4 : decode cL_extend 4 = .ok (.invokevirtual 63, 3) := by decide +kernel
theorem dL_extend_7 : decode cL_extend 7 = .ok (.i2l, 1) := by decide +kernel
theorem dL_extend_8 : decode cL_extend 8 = .ok (.lastore, 1) := by decide +kernel
theorem dL_extend_9 : decode cL_extend 9 = .ok (.goto 9, 3) := by decide +kernel
theorem dL_extend_12 : decode cL_extend 12 = .ok (.astore_n 3, 1) := by decide +kernel
theorem dL_extend_13 : decode cL_extend 13 = .ok (.iconst 1, 1) := by decide +kernel
theorem dL_extend_14 : decode cL_extend 14 = .ok (.ireturn, 1) := by decide +kernel
theorem dL_extend_15 : decode cL_extend 15 = .ok (.astore_n 3, 1) := by decide +kernel
theorem dL_extend_16 : decode cL_extend 16 = .ok (.iconst 2, 1) := by decide +kernel
theorem dL_extend_17 : decode cL_extend 17 = .ok (.ireturn, 1) := by decide +kernel
theorem dL_extend_18 : decode cL_extend 18 = .ok (.iconst 0, 1) := by decide +kernel
theorem dL_extend_19 : decode cL_extend 19 = .ok (.ireturn, 1) := by decide +kernel
set_option maxRecDepth 20000 in
theorem ggL_labelSize_X2_labelSize : GoodIn wsL_labelSize wsX2_labelSize := goodIn_ca (goodIn_r _ [6, 7, 8, 9, 5, 10, 11, 12, 13, 14, 15, 16, 17, 18, 19, 20, 21, 22, 23, 24, 25, 26, 27, 28, 29, 30, 31, 32, 33, 34, 35, 36, 37, 38, 39, 40, 41, 42, 43, 44, 45, 46, 47, 48, 49, 50, 51, 52, 53, 54, 55, 56, 57, 58, 59, 60, 61, 62, 63, 64, 65, 66, 67, 68, 69, 70, 71, 72, 73, 74, 75, 76, 77, 78, 79, 80, 81, 82, 83, 84, 85, 86, 87, 88, 89, 90, 91, 92, 93, 94, 95, 96, 97, 98, 99, 100] (by decide +kernel) (by decide +kernel)) (goodIn_sub (fun _ h => List.mem_cons_of_mem _ (List.mem_append_right _ h)) (by decide +kernel))
set_option maxRecDepth 20000 in
theorem gL_labelSize_X2_labelSize : GoodIn wsL_labelSize (wsV RL 66 RX2 yX2_labelSize wsX2_labelSize) := goodIn_app (goodIn_of _ (by decide +kernel)) ggL_labelSize_X2_labelSize
theorem dL_labelSize_0 : decode cL_labelSize 0 = .ok (.aload_n 2, 1) := by decide +kernel
theorem dL_labelSize_1 : decode cL_labelSize 1 = .ok (.iconst 0, 1) := by decide +kernel
theorem dL_labelSize_2 : decode cL_labelSize 2 = .ok (.aload_n 0, 1) := by decide +kernel
theorem dL_labelSize_3 : decode cL_labelSize 3 = .ok (.iload_n 1, 1) := by decide +kernel
theorem dL_labelSize_4 : decode cL_labelSize 4 = .ok (.invokevirtual 66, 3) := by decide +kernel
theorem dL_labelSize_7 : decode cL_labelSize 7 = .ok (.i2l, 1) := by decide +kernel
theorem dL_labelSize_8 : decode cL_labelSize 8 = .ok (.lastore, 1) := by decide +kernel
theorem dL_labelSize_9 : decode cL_labelSize 9 = .ok (.goto 6, 3) := by decide +kernel
theorem dL_labelSize_12 : decode cL_labelSize 12 = .ok (.astore_n 3, 1) := by decide +kernel
theorem dL_labelSize_13 : decode cL_labelSize 13 = .ok (.iconst 1, 1) := by decide +kernel
theorem dL_labelSize_14 : decode cL_labelSize 14 = .ok (.ireturn, 1) := by decide +kernel
theorem dL_labelSize_15 : decode cL_labelSize 15 = .ok (.iconst 0, 1) := by decide +kernel
theorem dL_labelSize_16 : decode cL_labelSize 16 = .ok (.ireturn, 1) := by decide +kernel
set_option maxRecDepth 20000 in
theorem ggL_label_X2_label : GoodIn wsL_label wsX2_label := goodIn_ca (goodIn_r _ [6, 7, 8, 9, 5, 10, 11, 12, 13, 14, 15, 16, 17, 18, 19, 20, 21, 22, 23, 24, 25, 26, 27, 28, 29, 30, 31, 32, 33, 34, 35, 36, 37, 38, 39, 40, 41, 42, 43, 44, 45, 46, 47, 48, 49, 50, 51, 52, 53, 54, 55, 56, 57, 58, 59, 60, 61, 62, 63, 64, 65, 66, 67, 68, 69, 70, 71, 72, 73, 74, 75, 76, 77, 78, 79, 80, 81, 82, 83, 84, 85, 86, 87, 88, 89, 90, 91, 92, 93, 94, 95, 96, 97, 98, 99, 100, 101, 102, 103] (by decide +kernel) (by decide +kernel)) (goodIn_sub (fun _ h => List.mem_cons_of_mem _ (List.mem_append_right _ h)) (by decide +kernel))
set_option maxRecDepth 20000 in
theorem gL_label_X2_label : GoodIn wsL_label (wsV RL 69 RX2 yX2_label wsX2_label) := goodIn_app (goodIn_of _ (by decide +kernel)) ggL_label_X2_label
theorem dL_label_0 : decode cL_label 0 = .ok (.aload_n 3, 1) := by decide +kernel
theorem dL_label_1 : decode cL_label 1 = .ok (.iconst 0, 1) := by decide +kernel
theorem dL_label_2 : decode cL_label 2 = .ok (.aload_n 0, 1) := by decide +kernel
theorem dL_label_3 : decode cL_label 3 = .ok (.iload_n 1, 1) := by decide +kernel
theorem dL_label_4 : decode cL_label 4 = .ok (.iload_n 2, 1) := by decide +kernel
theorem dL_label_5 : decode cL_label 5 = .ok (.invokevirtual 69, 3) := by decide +kernel
theorem dL_label_8 : decode cL_label 8 = .ok (.i2l, 1) := by decide +kernel
theorem dL_label_9 : decode cL_label 9 = .ok (.lastore, 1) := by decide +kernel
theorem dL_label_10 : decode cL_label 10 = .ok (.goto 7, 3) := by decide +kernel
theorem dL_label_13 : decode cL_label 13 = .ok (.astore 4, 2) := by decide +kernel
theorem dL_label_15 : decode cL_label 15 = .ok (.iconst 1, 1) := by decide +kernel
theorem dL_label_16 : decode cL_label 16 = .ok (.ireturn, 1) := by decide +kernel
theorem dL_label_17 : decode cL_label 17 = .ok (.iconst 0, 1) := by decide +kernel
theorem dL_label_18 : decode cL_label 18 = .ok (.ireturn, 1) := by decide +kernel
set_option maxRecDepth 20000 in
theorem ggL_cheapest_X2_cheapest : GoodIn wsL_cheapest wsX2_cheapest := goodIn_ca (goodIn_r _ [6, 7, 8, 9, 5, 10, 11, 12, 13, 14, 15, 16, 17, 18, 19, 20, 21, 22, 23, 24, 25, 26, 27, 28, 29, 30, 31, 32, 33, 34, 35, 36, 37, 38, 39, 40, 41, 42, 43, 44, 45, 46, 47, 48, 49, 50, 51, 52, 53, 54, 55, 56, 57, 58, 59, 60, 61, 62, 63, 64, 65, 66, 67, 68, 69, 70, 71, 72, 73, 74, 75, 76, 77, 78, 79, 80, 81, 82, 83, 84, 85, 86, 87, 88, 89, 90, 91, 92, 93, 94, 95, 96, 97, 98, 99, 100, 101, 102, 103, 104, 105, 106] (by decide +kernel) (by decide +kernel)) (goodIn_sub (fun _ h => List.mem_cons_of_mem _ (List.mem_append_right _ h)) (by decide +kernel))
set_option maxRecDepth 20000 in
theorem gL_cheapest_X2_cheapest : GoodIn wsL_cheapest (wsV RL 72 RX2 yX2_cheapest wsX2_cheapest) := goodIn_app (goodIn_of _ (by decide +kernel)) ggL_cheapest_X2_cheapest
theorem dL_cheapest_0 : decode cL_cheapest 0 = .ok (.aload_n 2, 1) := by decide +kernel
theorem dL_cheapest_1 : decode cL_cheapest 1 = .ok (.iconst 0, 1) := by decide +kernel
theorem dL_cheapest_2 : decode cL_cheapest 2 = .ok (.aload_n 0, 1) := by decide +kernel
theorem dL_cheapest_3 : decode cL_cheapest 3 = .ok (.iload_n 1, 1) := by decide +kernel
theorem dL_cheapest_4 : decode cL_cheapest 4 = .ok (.invokevirtual 72, 3) := by decide +kernel
theorem dL_cheapest_7 : decode cL_cheapest 7 = .ok (.i2l, 1) := by decide +kernel
theorem dL_cheapest_8 : decode cL_cheapest 8 = .ok (.lastore, 1) := by decide +kernel
theorem dL_cheapest_9 : decode cL_cheapest 9 = .ok (.goto 6, 3) := by decide +kernel
theorem dL_cheapest_12 : decode cL_cheapest 12 = .ok (.astore_n 3, 1) := by decide +kernel
theorem dL_cheapest_13 : decode cL_cheapest 13 = .ok (.iconst 1, 1) := by decide +kernel
theorem dL_cheapest_14 : decode cL_cheapest 14 = .ok (.ireturn, 1) := by decide +kernel
theorem dL_cheapest_15 : decode cL_cheapest 15 = .ok (.iconst 0, 1) := by decide +kernel
theorem dL_cheapest_16 : decode cL_cheapest 16 = .ok (.ireturn, 1) := by decide +kernel
set_option maxRecDepth 20000 in
theorem ggL_needed_X2_needed : GoodIn wsL_needed wsX2_needed := goodIn_ca (goodIn_r _ [6, 7, 8, 9, 5, 10, 11, 12, 13, 14, 15, 16, 17, 18, 19, 20, 21, 22, 23, 24, 25, 26, 27, 28, 29, 30, 31, 32, 33, 34, 35, 36, 37, 38, 39, 40, 41, 42, 43, 44, 45, 46, 47, 48, 49, 50, 51, 52, 53, 54, 55, 56, 57, 58, 59, 60, 61, 62, 63, 64, 65, 66, 67, 68, 69, 70, 71, 72, 73, 74, 75, 76, 77, 78, 79, 80, 81, 82, 83, 84, 85, 86, 87, 88, 89, 90, 91, 92, 93, 94, 95, 96, 97, 98, 99, 100] (by decide +kernel) (by decide +kernel)) (goodIn_sub (fun _ h => List.mem_cons_of_mem _ (List.mem_append_right _ h)) (by decide +kernel))
set_option maxRecDepth 20000 in
theorem gL_needed_X2_needed : GoodIn wsL_needed (wsV RL 75 RX2 yX2_needed wsX2_needed) := goodIn_app (goodIn_of _ (by decide +kernel)) ggL_needed_X2_needed
theorem dL_needed_0 : decode cL_needed 0 = .ok (.aload_n 2, 1) := by decide +kernel
theorem dL_needed_1 : decode cL_needed 1 = .ok (.iconst 0, 1) := by decide +kernel
theorem dL_needed_2 : decode cL_needed 2 = .ok (.aload_n 0, 1) := by decide +kernel
theorem dL_needed_3 : decode cL_needed 3 = .ok (.iload_n 1, 1) := by decide +kernel
theorem dL_needed_4 : decode cL_needed 4 = .ok (.invokevirtual 75, 3) := by decide +kernel
theorem dL_needed_7 : decode cL_needed 7 = .ok (.i2l, 1) := by decide +kernel
theorem dL_needed_8 : decode cL_needed 8 = .ok (.lastore, 1) := by decide +kernel
theorem dL_needed_9 : decode cL_needed 9 = .ok (.goto 6, 3) := by decide +kernel
theorem dL_needed_12 : decode cL_needed 12 = .ok (.astore_n 3, 1) := by decide +kernel
theorem dL_needed_13 : decode cL_needed 13 = .ok (.iconst 1, 1) := by decide +kernel
theorem dL_needed_14 : decode cL_needed 14 = .ok (.ireturn, 1) := by decide +kernel
theorem dL_needed_15 : decode cL_needed 15 = .ok (.iconst 0, 1) := by decide +kernel
theorem dL_needed_16 : decode cL_needed 16 = .ok (.ireturn, 1) := by decide +kernel
set_option maxRecDepth 20000 in
theorem ggL_useful_X2_useful : GoodIn wsL_useful wsX2_useful := goodIn_ca (goodIn_r _ [6, 7, 8, 9, 5, 10, 11, 12, 13, 14, 15, 16, 17, 18, 19, 20, 21, 22, 23, 24, 25, 26, 27, 28, 29, 30, 31, 32, 33, 34, 35, 36, 37, 38, 39, 40, 41, 42, 43, 44, 45, 46, 47, 48, 49, 50, 51, 52, 53, 54, 55, 56, 57, 58, 59, 60, 61, 62, 63, 64, 65, 66, 67, 68, 69, 70, 71, 72, 73, 74, 75, 76, 77, 78, 79, 80, 81, 82, 83, 84, 85, 86, 87, 88, 89, 90, 91, 92, 93, 94, 95, 96, 97, 98, 99, 100] (by decide +kernel) (by decide +kernel)) (goodIn_sub (fun _ h => List.mem_cons_of_mem _ (List.mem_append_right _ h)) (by decide +kernel))
set_option maxRecDepth 20000 in
theorem gL_useful_X2_useful : GoodIn wsL_useful (wsV RL 78 RX2 yX2_useful wsX2_useful) := goodIn_app (goodIn_of _ (by decide +kernel)) ggL_useful_X2_useful
theorem dL_useful_0 : decode cL_useful 0 = .ok (.aload_n 2, 1) := by decide +kernel
theorem dL_useful_1 : decode cL_useful 1 = .ok (.iconst 0, 1) := by decide +kernel
theorem dL_useful_2 : decode cL_useful 2 = .ok (.aload_n 0, 1) := by decide +kernel
theorem dL_useful_3 : decode cL_useful 3 = .ok (.iload_n 1, 1) := by decide +kernel
theorem dL_useful_4 : decode cL_useful 4 = .ok (.invokevirtual 78, 3) := by decide +kernel
theorem dL_useful_7 : decode cL_useful 7 = .ok (.i2l, 1) := by decide +kernel
theorem dL_useful_8 : decode cL_useful 8 = .ok (.lastore, 1) := by decide +kernel
theorem dL_useful_9 : decode cL_useful 9 = .ok (.goto 6, 3) := by decide +kernel
theorem dL_useful_12 : decode cL_useful 12 = .ok (.astore_n 3, 1) := by decide +kernel
theorem dL_useful_13 : decode cL_useful 13 = .ok (.iconst 1, 1) := by decide +kernel
theorem dL_useful_14 : decode cL_useful 14 = .ok (.ireturn, 1) := by decide +kernel
theorem dL_useful_15 : decode cL_useful 15 = .ok (.iconst 0, 1) := by decide +kernel
theorem dL_useful_16 : decode cL_useful 16 = .ok (.ireturn, 1) := by decide +kernel
set_option maxRecDepth 20000 in
theorem ggL_nogood_X2_nogood : GoodIn wsL_nogood wsX2_nogood := goodIn_ca (goodIn_r _ [6, 7, 8, 9, 5, 10, 11, 12, 13, 14, 15, 16, 17, 18, 19, 20, 21, 22, 23, 24, 25, 26, 27, 28, 29, 30, 31, 32, 33, 34, 35, 36, 37, 38, 39, 40, 41, 42, 43, 44, 45, 46, 47, 48, 49, 50, 51, 52, 53, 54, 55, 56, 57, 58, 59, 60, 61, 62, 63, 64, 65, 66, 67, 68, 69, 70, 71, 72, 73, 74, 75, 76, 77, 78, 79, 80, 81, 82, 83, 84, 85, 86, 87, 88, 89, 90, 91, 92, 93, 94, 95, 96, 97, 98] (by decide +kernel) (by decide +kernel)) (goodIn_sub (fun _ h => List.mem_cons_of_mem _ (List.mem_append_right _ h)) (by decide +kernel))
set_option maxRecDepth 20000 in
theorem gL_nogood_X2_nogood : GoodIn wsL_nogood (wsV RL 81 RX2 yX2_nogood wsX2_nogood) := goodIn_app (goodIn_of _ (by decide +kernel)) ggL_nogood_X2_nogood
theorem dL_nogood_0 : decode cL_nogood 0 = .ok (.aload_n 2, 1) := by decide +kernel
theorem dL_nogood_1 : decode cL_nogood 1 = .ok (.iconst 0, 1) := by decide +kernel
theorem dL_nogood_2 : decode cL_nogood 2 = .ok (.aload_n 0, 1) := by decide +kernel
theorem dL_nogood_3 : decode cL_nogood 3 = .ok (.iload_n 1, 1) := by decide +kernel
theorem dL_nogood_4 : decode cL_nogood 4 = .ok (.invokevirtual 81, 3) := by decide +kernel
theorem dL_nogood_7 : decode cL_nogood 7 = .ok (.i2l, 1) := by decide +kernel
theorem dL_nogood_8 : decode cL_nogood 8 = .ok (.lastore, 1) := by decide +kernel
theorem dL_nogood_9 : decode cL_nogood 9 = .ok (.goto 6, 3) := by decide +kernel
theorem dL_nogood_12 : decode cL_nogood 12 = .ok (.astore_n 3, 1) := by decide +kernel
theorem dL_nogood_13 : decode cL_nogood 13 = .ok (.iconst 1, 1) := by decide +kernel
theorem dL_nogood_14 : decode cL_nogood 14 = .ok (.ireturn, 1) := by decide +kernel
theorem dL_nogood_15 : decode cL_nogood 15 = .ok (.iconst 0, 1) := by decide +kernel
theorem dL_nogood_16 : decode cL_nogood 16 = .ok (.ireturn, 1) := by decide +kernel
set_option maxRecDepth 20000 in
theorem ggL_world_X2_world : GoodIn wsL_world wsX2_world := goodIn_ca (goodIn_r _ [6, 7, 8, 9, 5, 10, 11, 12, 13, 14, 15, 16, 17, 18, 19, 20, 21, 22, 23, 24, 25, 26, 27, 28, 29, 30, 31, 32, 33, 34, 35, 36, 37, 38, 39, 40, 41, 42, 43, 44, 45, 46, 47, 48, 49, 50, 51, 52, 53, 54, 55, 56, 57, 58, 59, 60, 61, 62, 63, 64, 65, 66, 67, 68, 69, 70, 71, 72, 73, 74, 75, 76, 77, 78, 79, 80, 81, 82, 83, 84, 85, 86, 87, 88, 89, 90, 91, 92, 93, 94, 95, 96, 97, 98] (by decide +kernel) (by decide +kernel)) (goodIn_sub (fun _ h => List.mem_cons_of_mem _ (List.mem_append_right _ h)) (by decide +kernel))
set_option maxRecDepth 20000 in
theorem gL_world_X2_world : GoodIn wsL_world (wsV RL 84 RX2 yX2_world wsX2_world) := goodIn_app (goodIn_of _ (by decide +kernel)) ggL_world_X2_world
theorem dL_world_0 : decode cL_world 0 = .ok (.aload_n 2, 1) := by decide +kernel
theorem dL_world_1 : decode cL_world 1 = .ok (.iconst 0, 1) := by decide +kernel
theorem dL_world_2 : decode cL_world 2 = .ok (.aload_n 0, 1) := by decide +kernel
theorem dL_world_3 : decode cL_world 3 = .ok (.iload_n 1, 1) := by decide +kernel
theorem dL_world_4 : decode cL_world 4 = .ok (.invokevirtual 84, 3) := by decide +kernel
theorem dL_world_7 : decode cL_world 7 = .ok (.i2l, 1) := by decide +kernel
theorem dL_world_8 : decode cL_world 8 = .ok (.lastore, 1) := by decide +kernel
theorem dL_world_9 : decode cL_world 9 = .ok (.goto 6, 3) := by decide +kernel
theorem dL_world_12 : decode cL_world 12 = .ok (.astore_n 3, 1) := by decide +kernel
theorem dL_world_13 : decode cL_world 13 = .ok (.iconst 1, 1) := by decide +kernel
theorem dL_world_14 : decode cL_world 14 = .ok (.ireturn, 1) := by decide +kernel
theorem dL_world_15 : decode cL_world 15 = .ok (.iconst 0, 1) := by decide +kernel
theorem dL_world_16 : decode cL_world 16 = .ok (.ireturn, 1) := by decide +kernel
set_option maxRecDepth 20000 in
theorem ggL_worldsWith_X2_worldsWith : GoodIn wsL_worldsWith wsX2_worldsWith := goodIn_ca (goodIn_r _ [6, 7, 8, 9, 5, 10, 11, 12, 13, 14, 15, 16, 17, 18, 19, 20, 21, 22, 23, 24, 25, 26, 27, 28, 29, 30, 31, 32, 33, 34, 35, 36, 37, 38, 39, 40, 41, 42, 43, 44, 45, 46, 47, 48, 49, 50, 51, 52, 53, 54, 55, 56, 57, 58, 59, 60, 61, 62, 63, 64, 65, 66, 67, 68, 69, 70, 71, 72, 73, 74, 75, 76, 77, 78, 79, 80, 81, 82, 83, 84, 85, 86, 87, 88, 89, 90, 91, 92, 93, 94, 95, 96, 97, 98, 99, 100, 101, 102, 103, 104] (by decide +kernel) (by decide +kernel)) (goodIn_sub (fun _ h => List.mem_cons_of_mem _ (List.mem_append_right _ h)) (by decide +kernel))
set_option maxRecDepth 20000 in
theorem gL_worldsWith_X2_worldsWith : GoodIn wsL_worldsWith (wsV RL 87 RX2 yX2_worldsWith wsX2_worldsWith) := goodIn_app (goodIn_of _ (by decide +kernel)) ggL_worldsWith_X2_worldsWith
theorem dL_worldsWith_0 : decode cL_worldsWith 0 = .ok (.aload_n 2, 1) := by decide +kernel
theorem dL_worldsWith_1 : decode cL_worldsWith 1 = .ok (.iconst 0, 1) := by decide +kernel
theorem dL_worldsWith_2 : decode cL_worldsWith 2 = .ok (.aload_n 0, 1) := by decide +kernel
theorem dL_worldsWith_3 : decode cL_worldsWith 3 = .ok (.iload_n 1, 1) := by decide +kernel
theorem dL_worldsWith_4 : decode cL_worldsWith 4 = .ok (.invokevirtual 87, 3) := by decide +kernel
theorem dL_worldsWith_7 : decode cL_worldsWith 7 = .ok (.i2l, 1) := by decide +kernel
theorem dL_worldsWith_8 : decode cL_worldsWith 8 = .ok (.lastore, 1) := by decide +kernel
theorem dL_worldsWith_9 : decode cL_worldsWith 9 = .ok (.goto 6, 3) := by decide +kernel
theorem dL_worldsWith_12 : decode cL_worldsWith 12 = .ok (.astore_n 3, 1) := by decide +kernel
theorem dL_worldsWith_13 : decode cL_worldsWith 13 = .ok (.iconst 1, 1) := by decide +kernel
theorem dL_worldsWith_14 : decode cL_worldsWith 14 = .ok (.ireturn, 1) := by decide +kernel
theorem dL_worldsWith_15 : decode cL_worldsWith 15 = .ok (.iconst 0, 1) := by decide +kernel
theorem dL_worldsWith_16 : decode cL_worldsWith 16 = .ok (.ireturn, 1) := by decide +kernel
set_option maxRecDepth 20000 in
theorem ggL_belief_X2_belief : GoodIn wsL_belief wsX2_belief := goodIn_ca (goodIn_r _ [6, 7, 8, 9, 5, 10, 11, 12, 13, 14, 15, 16, 17, 18, 19, 20, 21, 22, 23, 24, 25, 26, 27, 28, 29, 30, 31, 32, 33, 34, 35, 36, 37, 38, 39, 40, 41, 42, 43, 44, 45, 46, 47, 48, 49, 50, 51, 52, 53, 54, 55, 56, 57, 58, 59, 60, 61, 62, 63, 64, 65, 66, 67, 68, 69, 70, 71, 72, 73, 74, 75, 76, 77, 78, 79, 80, 81, 82, 83, 84, 85, 86, 87, 88, 89, 90, 91, 92, 93, 94, 95, 96, 97, 98, 99, 100, 101, 102, 103, 104] (by decide +kernel) (by decide +kernel)) (goodIn_sub (fun _ h => List.mem_cons_of_mem _ (List.mem_append_right _ h)) (by decide +kernel))
set_option maxRecDepth 20000 in
theorem gL_belief_X2_belief : GoodIn wsL_belief (wsV RL 90 RX2 yX2_belief wsX2_belief) := goodIn_app (goodIn_of _ (by decide +kernel)) ggL_belief_X2_belief
theorem dL_belief_0 : decode cL_belief 0 = .ok (.aload_n 2, 1) := by decide +kernel
theorem dL_belief_1 : decode cL_belief 1 = .ok (.iconst 0, 1) := by decide +kernel
theorem dL_belief_2 : decode cL_belief 2 = .ok (.aload_n 0, 1) := by decide +kernel
theorem dL_belief_3 : decode cL_belief 3 = .ok (.iload_n 1, 1) := by decide +kernel
theorem dL_belief_4 : decode cL_belief 4 = .ok (.invokevirtual 90, 3) := by decide +kernel
theorem dL_belief_7 : decode cL_belief 7 = .ok (.dastore, 1) := by decide +kernel
theorem dL_belief_8 : decode cL_belief 8 = .ok (.goto 6, 3) := by decide +kernel
theorem dL_belief_11 : decode cL_belief 11 = .ok (.astore_n 3, 1) := by decide +kernel
theorem dL_belief_12 : decode cL_belief 12 = .ok (.iconst 1, 1) := by decide +kernel
theorem dL_belief_13 : decode cL_belief 13 = .ok (.ireturn, 1) := by decide +kernel
theorem dL_belief_14 : decode cL_belief 14 = .ok (.iconst 0, 1) := by decide +kernel
theorem dL_belief_15 : decode cL_belief 15 = .ok (.ireturn, 1) := by decide +kernel
set_option maxRecDepth 20000 in
theorem ggL_implies_X2_implies : GoodIn wsL_implies wsX2_implies := goodIn_ca (goodIn_r _ [6, 7, 8, 9, 5, 10, 11, 12, 13, 14, 15, 16, 17, 18, 19, 20, 21, 22, 23, 24, 25, 26, 27, 28, 29, 30, 31, 32, 33, 34, 35, 36, 37, 38, 39, 40, 41, 42, 43, 44, 45, 46, 47, 48, 49, 50, 51, 52, 53, 54, 55, 56, 57, 58, 59, 60, 61, 62, 63, 64, 65, 66, 67, 68, 69, 70, 71, 72, 73, 74, 75, 76, 77, 78, 79, 80, 81, 82, 83, 84, 85, 86, 87, 88, 89, 90, 91, 92, 93, 94, 95, 96, 97, 98, 99, 100, 101, 102, 103, 104] (by decide +kernel) (by decide +kernel)) (goodIn_sub (fun _ h => List.mem_cons_of_mem _ (List.mem_append_right _ h)) (by decide +kernel))
set_option maxRecDepth 20000 in
theorem gL_implies_X2_implies : GoodIn wsL_implies (wsV RL 94 RX2 yX2_implies wsX2_implies) := goodIn_app (goodIn_of _ (by decide +kernel)) ggL_implies_X2_implies
theorem dL_implies_0 : decode cL_implies 0 = .ok (.aload_n 3, 1) := by decide +kernel
theorem dL_implies_1 : decode cL_implies 1 = .ok (.iconst 0, 1) := by decide +kernel
theorem dL_implies_2 : decode cL_implies 2 = .ok (.aload_n 0, 1) := by decide +kernel
theorem dL_implies_3 : decode cL_implies 3 = .ok (.iload_n 1, 1) := by decide +kernel
theorem dL_implies_4 : decode cL_implies 4 = .ok (.iload_n 2, 1) := by decide +kernel
theorem dL_implies_5 : decode cL_implies 5 = .ok (.invokevirtual 94, 3) := by decide +kernel
theorem dL_implies_8 : decode cL_implies 8 = .ok (.ifCond .eq 7, 3) := by decide +kernel
theorem dL_implies_11 : decode cL_implies 11 = .ok (.lconst 1, 1) := by decide +kernel
theorem dL_implies_12 : decode cL_implies 12 = .ok (.goto 4, 3) := by decide +kernel
theorem dL_implies_15 : decode cL_implies 15 = .ok (.lconst 0, 1) := by decide +kernel
theorem dL_implies_16 : decode cL_implies 16 = .ok (.lastore, 1) := by decide +kernel
theorem dL_implies_17 : decode cL_implies 17 = .ok (.goto 7, 3) := by decide +kernel
theorem dL_implies_20 : decode cL_implies 20 = .ok (.astore 4, 2) := by decide +kernel
theorem dL_implies_22 : decode cL_implies 22 = .ok (.iconst 1, 1) := by decide +kernel
theorem dL_implies_23 : decode cL_implies 23 = .ok (.ireturn, 1) := by decide +kernel
theorem dL_implies_24 : decode cL_implies 24 = .ok (.iconst 0, 1) := by decide +kernel
theorem dL_implies_25 : decode cL_implies 25 = .ok (.ireturn, 1) := by decide +kernel
set_option maxRecDepth 20000 in
theorem ggL_excludes_X2_excludes : GoodIn wsL_excludes wsX2_excludes := goodIn_ca (goodIn_r _ [6, 7, 8, 9, 5, 10, 11, 12, 13, 14, 15, 16, 17, 18, 19, 20, 21, 22, 23, 24, 25, 26, 27, 28, 29, 30, 31, 32, 33, 34, 35, 36, 37, 38, 39, 40, 41, 42, 43, 44, 45, 46, 47, 48, 49, 50, 51, 52, 53, 54, 55, 56, 57, 58, 59, 60, 61, 62, 63, 64, 65, 66, 67, 68, 69, 70, 71, 72, 73, 74, 75, 76, 77, 78, 79, 80, 81, 82, 83, 84, 85, 86, 87, 88, 89, 90, 91, 92, 93, 94, 95, 96, 97, 98, 99, 100, 101, 102, 103, 104] (by decide +kernel) (by decide +kernel)) (goodIn_sub (fun _ h => List.mem_cons_of_mem _ (List.mem_append_right _ h)) (by decide +kernel))
set_option maxRecDepth 20000 in
theorem gL_excludes_X2_excludes : GoodIn wsL_excludes (wsV RL 97 RX2 yX2_excludes wsX2_excludes) := goodIn_app (goodIn_of _ (by decide +kernel)) ggL_excludes_X2_excludes
theorem dL_excludes_0 : decode cL_excludes 0 = .ok (.aload_n 3, 1) := by decide +kernel
theorem dL_excludes_1 : decode cL_excludes 1 = .ok (.iconst 0, 1) := by decide +kernel
theorem dL_excludes_2 : decode cL_excludes 2 = .ok (.aload_n 0, 1) := by decide +kernel
theorem dL_excludes_3 : decode cL_excludes 3 = .ok (.iload_n 1, 1) := by decide +kernel
theorem dL_excludes_4 : decode cL_excludes 4 = .ok (.iload_n 2, 1) := by decide +kernel
theorem dL_excludes_5 : decode cL_excludes 5 = .ok (.invokevirtual 97, 3) := by decide +kernel
theorem dL_excludes_8 : decode cL_excludes 8 = .ok (.ifCond .eq 7, 3) := by decide +kernel
theorem dL_excludes_11 : decode cL_excludes 11 = .ok (.lconst 1, 1) := by decide +kernel
theorem dL_excludes_12 : decode cL_excludes 12 = .ok (.goto 4, 3) := by decide +kernel
theorem dL_excludes_15 : decode cL_excludes 15 = .ok (.lconst 0, 1) := by decide +kernel
theorem dL_excludes_16 : decode cL_excludes 16 = .ok (.lastore, 1) := by decide +kernel
theorem dL_excludes_17 : decode cL_excludes 17 = .ok (.goto 7, 3) := by decide +kernel
theorem dL_excludes_20 : decode cL_excludes 20 = .ok (.astore 4, 2) := by decide +kernel
theorem dL_excludes_22 : decode cL_excludes 22 = .ok (.iconst 1, 1) := by decide +kernel
theorem dL_excludes_23 : decode cL_excludes 23 = .ok (.ireturn, 1) := by decide +kernel
theorem dL_excludes_24 : decode cL_excludes 24 = .ok (.iconst 0, 1) := by decide +kernel
theorem dL_excludes_25 : decode cL_excludes 25 = .ok (.ireturn, 1) := by decide +kernel
set_option maxRecDepth 20000 in
theorem ggL_law_X2_init : GoodIn wsL_law wsX2_init := goodIn_r _ [10, 11, 12, 13, 14, 15, 16, 17, 18, 19, 20, 21, 22, 23, 24, 25, 26, 27, 28, 29, 30, 31, 32, 33, 34, 35, 36, 37, 38, 39, 40, 41, 42, 43, 44, 45, 46, 47, 48, 703, 704, 705, 706, 707, 708, 709, 710, 724, 725, 726, 727, 728, 729, 730, 731, 732, 733, 734] (by decide +kernel) (by decide +kernel)
set_option maxRecDepth 20000 in
theorem gL_law_X2_init : GoodIn wsL_law (wsX2_init) := ggL_law_X2_init
set_option maxRecDepth 20000 in
theorem ggL_law_X3_init : GoodIn wsL_law wsX3_init := goodIn_r _ [51, 52, 12, 13, 14, 53, 54, 55, 56, 57, 35, 58, 59, 60, 711, 712, 713, 714, 715, 716, 717, 718, 719, 720, 721, 722, 723] (by decide +kernel) (by decide +kernel)
set_option maxRecDepth 20000 in
theorem gL_law_X3_init : GoodIn wsL_law (wsX3_init) := ggL_law_X3_init
set_option maxRecDepth 20000 in
theorem ggL_law_L_addStatement : GoodIn wsL_law wsL_addStatement := goodIn_ca (goodIn_r _ [64, 65, 66, 67, 68, 2, 69, 70, 71, 26, 72, 73, 74, 75, 15, 28, 703, 704, 705, 706, 707, 708, 709, 710] (by decide +kernel) (by decide +kernel)) (goodIn_sub (fun _ h => List.mem_append_left _ (List.mem_append_left _ (List.mem_append_right _ h))) (by decide +kernel))
set_option maxRecDepth 20000 in
theorem gL_law_L_addStatement : GoodIn wsL_law (va_wsS RL 104 yL_addStatement wsL_addStatement) := goodIn_app (goodIn_of _ (by decide +kernel)) ggL_law_L_addStatement
set_option maxRecDepth 20000 in
theorem ggL_law_X3_addStatement : GoodIn wsL_law wsX3_addStatement := goodIn_r _ [79, 80, 81, 82, 83, 84, 5, 85, 86, 87, 88, 89, 53, 90, 711, 712, 713, 714, 715, 716, 717, 718, 719, 720, 721, 722, 723] (by decide +kernel) (by decide +kernel)
set_option maxRecDepth 20000 in
theorem gL_law_X3_addStatement : GoodIn wsL_law (wsV RL 109 RX3 yX3_addStatement wsX3_addStatement) := goodIn_app (goodIn_of _ (by decide +kernel)) ggL_law_X3_addStatement
set_option maxRecDepth 20000 in
theorem ggL_law_X3_thrown : GoodIn wsL_law wsX3_thrown := goodIn_r _ [94, 80, 711, 712, 713, 714, 715, 716, 717, 718, 719, 720, 721, 722, 723] (by decide +kernel) (by decide +kernel)
set_option maxRecDepth 20000 in
theorem gL_law_X3_thrown : GoodIn wsL_law (wsV RL 110 RX3 yX3_thrown wsX3_thrown) := goodIn_app (goodIn_of _ (by decide +kernel)) ggL_law_X3_thrown
set_option maxRecDepth 20000 in
theorem ggL_law_L_addAssumption : GoodIn wsL_law wsL_addAssumption := goodIn_ca (goodIn_ca (goodIn_r _ [97, 98, 65, 99, 100, 101, 2, 102, 70, 71, 26, 27, 16, 17, 103, 104, 105, 106, 107, 72, 73, 74, 75, 15, 28, 703, 704, 705, 706, 707, 708, 709, 710] (by decide +kernel) (by decide +kernel)) (goodIn_sub (fun _ h => List.mem_append_left _ (List.mem_append_left _ (List.mem_append_right _ h))) (by decide +kernel))) (goodIn_sub (fun _ h => List.mem_append_left _ (List.mem_append_right _ h)) (by decide +kernel))
set_option maxRecDepth 20000 in
theorem gL_law_L_addAssumption : GoodIn wsL_law (va_wsS RL 113 yL_addAssumption wsL_addAssumption) := goodIn_app (goodIn_of _ (by decide +kernel)) ggL_law_L_addAssumption
set_option maxRecDepth 20000 in
theorem ggL_law_X3_addAssumption : GoodIn wsL_law wsX3_addAssumption := goodIn_r _ [111, 80, 81, 112, 54, 55, 113, 114, 5, 115, 82, 83, 84, 85, 86, 87, 88, 89, 53, 90, 711, 712, 713, 714, 715, 716, 717, 718, 719, 720, 721, 722, 723] (by decide +kernel) (by decide +kernel)
set_option maxRecDepth 20000 in
theorem gL_law_X3_addAssumption : GoodIn wsL_law (wsV RL 116 RX3 yX3_addAssumption wsX3_addAssumption) := goodIn_app (goodIn_of _ (by decide +kernel)) ggL_law_X3_addAssumption
set_option maxRecDepth 20000 in
theorem ggL_law_L_setWeight : GoodIn wsL_law wsL_setWeight := goodIn_ca (goodIn_ca (goodIn_r _ [118, 119, 98, 120, 121, 122, 2, 123, 17, 124, 125, 126, 127, 128, 129, 27, 103, 104, 105, 106, 107, 703, 704, 705, 706, 707, 708, 709, 710] (by decide +kernel) (by decide +kernel)) (goodIn_sub (fun _ h => List.mem_append_right _ h) (by decide +kernel))) (goodIn_sub (fun _ h => List.mem_append_left _ (List.mem_append_right _ h)) (by decide +kernel))
set_option maxRecDepth 20000 in
theorem gL_law_L_setWeight : GoodIn wsL_law (va_wsS RL 117 yL_setWeight wsL_setWeight) := goodIn_app (goodIn_of _ (by decide +kernel)) ggL_law_L_setWeight
set_option maxRecDepth 20000 in
theorem ggL_law_X3_setWeight : GoodIn wsL_law wsX3_setWeight := goodIn_r _ [133, 80, 55, 134, 135, 136, 5, 137, 112, 82, 83, 84, 85, 113, 114, 115, 711, 712, 713, 714, 715, 716, 717, 718, 719, 720, 721, 722, 723] (by decide +kernel) (by decide +kernel)
set_option maxRecDepth 20000 in
theorem gL_law_X3_setWeight : GoodIn wsL_law (wsV RL 120 RX3 yX3_setWeight wsX3_setWeight) := goodIn_app (goodIn_of _ (by decide +kernel)) ggL_law_X3_setWeight
set_option maxRecDepth 20000 in
theorem ggL_law_L_addRule : GoodIn wsL_law wsL_addRule := goodIn_ca (goodIn_ca (goodIn_ca (goodIn_r _ [140, 98, 119, 65, 141, 142, 143, 2, 144, 106, 107, 70, 71, 26, 21, 28, 145, 146, 147, 148, 149, 150, 151, 128, 129, 152, 153, 154, 20, 155, 37, 156, 157, 158, 159, 33, 34, 36, 703, 704, 705, 706, 707, 708, 709, 710, 724, 725, 726, 727] (by decide +kernel) (by decide +kernel)) (goodIn_sub (fun _ h => List.mem_append_left _ (List.mem_append_right _ h)) (by decide +kernel))) (goodIn_sub (fun _ h => List.mem_append_left _ (List.mem_append_left _ (List.mem_append_right _ h))) (by decide +kernel))) (goodIn_sub (fun _ h => List.mem_append_right _ h) (by decide +kernel))
set_option maxRecDepth 20000 in
theorem gL_law_L_addRule : GoodIn wsL_law (va_wsS RL 121 yL_addRule wsL_addRule) := goodIn_app (goodIn_of _ (by decide +kernel)) ggL_law_L_addRule
set_option maxRecDepth 20000 in
theorem ggL_law_X3_addRule : GoodIn wsL_law wsX3_addRule := goodIn_r _ [163, 80, 81, 164, 56, 57, 58, 90, 82, 83, 84, 5, 85, 165, 166, 167, 168, 711, 712, 713, 714, 715, 716, 717, 718, 719, 720, 721, 722, 723] (by decide +kernel) (by decide +kernel)
set_option maxRecDepth 20000 in
theorem gL_law_X3_addRule : GoodIn wsL_law (wsV RL 123 RX3 yX3_addRule wsX3_addRule) := goodIn_app (goodIn_of _ (by decide +kernel)) ggL_law_X3_addRule
set_option maxRecDepth 20000 in
theorem ggL_law_L_turn : GoodIn wsL_law wsL_turn := goodIn_ca (goodIn_r _ [171, 119, 172, 173, 174, 2, 175, 128, 129, 21, 28, 176, 177, 178, 20, 179, 37, 180, 181, 182, 183, 36, 703, 704, 705, 706, 707, 708, 709, 710, 724, 725, 726, 727] (by decide +kernel) (by decide +kernel)) (goodIn_sub (fun _ h => List.mem_append_right _ h) (by decide +kernel))
set_option maxRecDepth 20000 in
theorem gL_law_L_turn : GoodIn wsL_law (va_wsS RL 124 yL_turn wsL_turn) := goodIn_app (goodIn_of _ (by decide +kernel)) ggL_law_L_turn
set_option maxRecDepth 20000 in
theorem ggL_law_X3_turn : GoodIn wsL_law wsX3_turn := goodIn_r _ [187, 164, 80, 58, 90, 711, 712, 713, 714, 715, 716, 717, 718, 719, 720, 721, 722, 723] (by decide +kernel) (by decide +kernel)
set_option maxRecDepth 20000 in
theorem gL_law_X3_turn : GoodIn wsL_law (wsV RL 127 RX3 yX3_turn wsX3_turn) := goodIn_app (goodIn_of _ (by decide +kernel)) ggL_law_X3_turn
set_option maxRecDepth 20000 in
theorem ggL_law_L_drop : GoodIn wsL_law wsL_drop := goodIn_ca (goodIn_r _ [190, 65, 191, 192, 193, 2, 194, 70, 71, 21, 28, 176, 177, 178, 20, 179, 37, 195, 196, 197, 198, 703, 704, 705, 706, 707, 708, 709, 710, 724, 725, 726, 727] (by decide +kernel) (by decide +kernel)) (goodIn_sub (fun _ h => List.mem_append_left _ (List.mem_append_left _ (List.mem_append_right _ h))) (by decide +kernel))
set_option maxRecDepth 20000 in
theorem gL_law_L_drop : GoodIn wsL_law (va_wsS RL 128 yL_drop wsL_drop) := goodIn_app (goodIn_of _ (by decide +kernel)) ggL_law_L_drop
set_option maxRecDepth 20000 in
theorem ggL_law_X3_drop : GoodIn wsL_law wsX3_drop := goodIn_r _ [202, 80, 164, 90, 82, 83, 84, 5, 85, 711, 712, 713, 714, 715, 716, 717, 718, 719, 720, 721, 722, 723] (by decide +kernel) (by decide +kernel)
set_option maxRecDepth 20000 in
theorem gL_law_X3_drop : GoodIn wsL_law (wsV RL 130 RX3 yX3_drop wsX3_drop) := goodIn_app (goodIn_of _ (by decide +kernel)) ggL_law_X3_drop
set_option maxRecDepth 20000 in
theorem ggL_law_X2_nodeCount : GoodIn wsL_law wsX2_nodeCount := goodIn_r _ [206, 26, 703, 704, 705, 706, 707, 708, 709, 710] (by decide +kernel) (by decide +kernel)
set_option maxRecDepth 20000 in
theorem gL_law_X2_nodeCount : GoodIn wsL_law (wsV RL 131 RX2 yX2_nodeCount wsX2_nodeCount) := goodIn_app (goodIn_of _ (by decide +kernel)) ggL_law_X2_nodeCount
set_option maxRecDepth 20000 in
theorem ggL_law_X3_nodeCount : GoodIn wsL_law wsX3_nodeCount := goodIn_r _ [210, 80, 81, 711, 712, 713, 714, 715, 716, 717, 718, 719, 720, 721, 722, 723] (by decide +kernel) (by decide +kernel)
set_option maxRecDepth 20000 in
theorem gL_law_X3_nodeCount : GoodIn wsL_law (wsV RL 134 RX3 yX3_nodeCount wsX3_nodeCount) := goodIn_app (goodIn_of _ (by decide +kernel)) ggL_law_X3_nodeCount
set_option maxRecDepth 20000 in
theorem ggL_law_X2_assumptionCount : GoodIn wsL_law wsX2_assumptionCount := goodIn_r _ [214, 27, 703, 704, 705, 706, 707, 708, 709, 710] (by decide +kernel) (by decide +kernel)
set_option maxRecDepth 20000 in
theorem gL_law_X2_assumptionCount : GoodIn wsL_law (wsV RL 135 RX2 yX2_assumptionCount wsX2_assumptionCount) := goodIn_app (goodIn_of _ (by decide +kernel)) ggL_law_X2_assumptionCount
set_option maxRecDepth 20000 in
theorem ggL_law_X3_assumptionCount : GoodIn wsL_law wsX3_assumptionCount := goodIn_r _ [218, 80, 112, 711, 712, 713, 714, 715, 716, 717, 718, 719, 720, 721, 722, 723] (by decide +kernel) (by decide +kernel)
set_option maxRecDepth 20000 in
theorem gL_law_X3_assumptionCount : GoodIn wsL_law (wsV RL 138 RX3 yX3_assumptionCount wsX3_assumptionCount) := goodIn_app (goodIn_of _ (by decide +kernel)) ggL_law_X3_assumptionCount
set_option maxRecDepth 20000 in
theorem ggL_law_L_assumptionOf : GoodIn wsL_law wsL_assumptionOf := goodIn_ca (goodIn_r _ [221, 119, 222, 223, 224, 2, 225, 15, 148, 149, 150, 151, 128, 129, 26, 703, 704, 705, 706, 707, 708, 709, 710] (by decide +kernel) (by decide +kernel)) (goodIn_sub (fun _ h => List.mem_append_right _ h) (by decide +kernel))
set_option maxRecDepth 20000 in
theorem gL_law_L_assumptionOf : GoodIn wsL_law (va_wsS RL 139 yL_assumptionOf wsL_assumptionOf) := goodIn_app (goodIn_of _ (by decide +kernel)) ggL_law_L_assumptionOf
set_option maxRecDepth 20000 in
theorem ggL_law_X3_assumptionOf : GoodIn wsL_law wsX3_assumptionOf := goodIn_r _ [229, 80, 53, 165, 166, 167, 5, 168, 81, 82, 83, 84, 85, 711, 712, 713, 714, 715, 716, 717, 718, 719, 720, 721, 722, 723] (by decide +kernel) (by decide +kernel)
set_option maxRecDepth 20000 in
theorem gL_law_X3_assumptionOf : GoodIn wsL_law (wsV RL 141 RX3 yX3_assumptionOf wsX3_assumptionOf) := goodIn_app (goodIn_of _ (by decide +kernel)) ggL_law_X3_assumptionOf
set_option maxRecDepth 20000 in
theorem ggL_law_L_nodeOf : GoodIn wsL_law wsL_nodeOf := goodIn_ca (goodIn_r _ [232, 119, 233, 234, 235, 2, 236, 16, 124, 125, 126, 127, 128, 129, 27, 703, 704, 705, 706, 707, 708, 709, 710] (by decide +kernel) (by decide +kernel)) (goodIn_sub (fun _ h => List.mem_append_right _ h) (by decide +kernel))
set_option maxRecDepth 20000 in
theorem gL_law_L_nodeOf : GoodIn wsL_law (va_wsS RL 142 yL_nodeOf wsL_nodeOf) := goodIn_app (goodIn_of _ (by decide +kernel)) ggL_law_L_nodeOf
set_option maxRecDepth 20000 in
theorem ggL_law_X3_nodeOf : GoodIn wsL_law wsX3_nodeOf := goodIn_r _ [240, 80, 54, 134, 135, 136, 5, 137, 112, 82, 83, 84, 85, 711, 712, 713, 714, 715, 716, 717, 718, 719, 720, 721, 722, 723] (by decide +kernel) (by decide +kernel)
set_option maxRecDepth 20000 in
theorem gL_law_X3_nodeOf : GoodIn wsL_law (wsV RL 144 RX3 yX3_nodeOf wsX3_nodeOf) := goodIn_app (goodIn_of _ (by decide +kernel)) ggL_law_X3_nodeOf
set_option maxRecDepth 20000 in
theorem ggL_law_L_holds : GoodIn wsL_law wsL_holds := goodIn_ca (goodIn_ca (goodIn_r _ [243, 119, 98, 244, 245, 246, 2, 247, 21, 148, 149, 150, 151, 128, 129, 26, 248, 249, 250, 251, 106, 107, 27, 145, 146, 147, 252, 253, 254, 255, 16, 256, 257, 258, 259, 260, 261, 20, 262, 263, 264, 265, 266, 37, 34, 267, 268, 269, 270, 36, 33, 703, 704, 705, 706, 707, 708, 709, 710, 724, 725, 726, 727] (by decide +kernel) (by decide +kernel)) (goodIn_sub (fun _ h => List.mem_append_right _ h) (by decide +kernel))) (goodIn_sub (fun _ h => List.mem_append_left _ (List.mem_append_right _ h)) (by decide +kernel))
set_option maxRecDepth 20000 in
theorem gL_law_L_holds : GoodIn wsL_law (va_wsS RL 145 yL_holds wsL_holds) := goodIn_app (goodIn_of _ (by decide +kernel)) ggL_law_L_holds
set_option maxRecDepth 20000 in
theorem ggL_law_X3_holds : GoodIn wsL_law wsX3_holds := goodIn_r _ [274, 275, 276, 277, 5, 278, 80, 165, 166, 167, 168, 81, 279, 280, 281, 282, 112, 283, 284, 285, 286, 90, 59, 60, 164, 58, 57, 56, 287, 288, 289, 290, 54, 291, 292, 293, 294, 295, 296, 297, 298, 299, 300, 301, 711, 712, 713, 714, 715, 716, 717, 718, 719, 720, 721, 722, 723] (by decide +kernel) (by decide +kernel)
set_option maxRecDepth 20000 in
theorem gL_law_X3_holds : GoodIn wsL_law (wsV RL 147 RX3 yX3_holds wsX3_holds) := goodIn_app (goodIn_of _ (by decide +kernel)) ggL_law_X3_holds
set_option maxRecDepth 20000 in
theorem ggL_law_L_depth : GoodIn wsL_law wsL_depth := goodIn_ca (goodIn_ca (goodIn_r _ [304, 119, 98, 305, 306, 307, 2, 308, 21, 148, 149, 150, 151, 128, 129, 26, 248, 249, 250, 251, 106, 107, 27, 145, 146, 147, 252, 253, 254, 255, 16, 256, 257, 258, 309, 264, 265, 20, 266, 37, 34, 267, 268, 269, 270, 36, 33, 703, 704, 705, 706, 707, 708, 709, 710, 724, 725, 726, 727] (by decide +kernel) (by decide +kernel)) (goodIn_sub (fun _ h => List.mem_append_right _ h) (by decide +kernel))) (goodIn_sub (fun _ h => List.mem_append_left _ (List.mem_append_right _ h)) (by decide +kernel))
set_option maxRecDepth 20000 in
theorem gL_law_L_depth : GoodIn wsL_law (va_wsS RL 148 yL_depth wsL_depth) := goodIn_app (goodIn_of _ (by decide +kernel)) ggL_law_L_depth
set_option maxRecDepth 20000 in
theorem ggL_law_X3_depth : GoodIn wsL_law wsX3_depth := goodIn_r _ [313, 275, 276, 277, 5, 278, 80, 165, 166, 167, 168, 81, 279, 280, 281, 282, 112, 283, 284, 285, 286, 90, 59, 60, 164, 58, 57, 56, 287, 288, 289, 290, 54, 291, 292, 293, 294, 295, 296, 297, 314, 315, 316, 317, 298, 299, 300, 301, 711, 712, 713, 714, 715, 716, 717, 718, 719, 720, 721, 722, 723] (by decide +kernel) (by decide +kernel)
set_option maxRecDepth 20000 in
theorem gL_law_X3_depth : GoodIn wsL_law (wsV RL 150 RX3 yX3_depth wsX3_depth) := goodIn_app (goodIn_of _ (by decide +kernel)) ggL_law_X3_depth
set_option maxRecDepth 20000 in
theorem ggL_law_L_support : GoodIn wsL_law wsL_support := goodIn_ca (goodIn_ca (goodIn_r _ [320, 119, 98, 321, 322, 323, 2, 324, 21, 148, 149, 150, 151, 128, 129, 26, 248, 249, 250, 251, 106, 107, 27, 145, 146, 147, 252, 253, 254, 255, 16, 256, 257, 258, 309, 264, 265, 20, 266, 37, 34, 267, 268, 269, 270, 36, 33, 325, 326, 327, 328, 703, 704, 705, 706, 707, 708, 709, 710, 724, 725, 726, 727] (by decide +kernel) (by decide +kernel)) (goodIn_sub (fun _ h => List.mem_append_right _ h) (by decide +kernel))) (goodIn_sub (fun _ h => List.mem_append_left _ (List.mem_append_right _ h)) (by decide +kernel))
set_option maxRecDepth 20000 in
theorem gL_law_L_support : GoodIn wsL_law (va_wsS RL 151 yL_support wsL_support) := goodIn_app (goodIn_of _ (by decide +kernel)) ggL_law_L_support
set_option maxRecDepth 20000 in
theorem ggL_law_X3_support : GoodIn wsL_law wsX3_support := goodIn_r _ [332, 58, 57, 56, 275, 276, 277, 5, 278, 80, 165, 166, 167, 168, 81, 279, 280, 281, 282, 112, 283, 284, 285, 286, 90, 59, 60, 164, 287, 288, 289, 290, 54, 291, 292, 293, 294, 295, 296, 297, 314, 315, 316, 317, 298, 299, 300, 301, 711, 712, 713, 714, 715, 716, 717, 718, 719, 720, 721, 722, 723] (by decide +kernel) (by decide +kernel)
set_option maxRecDepth 20000 in
theorem gL_law_X3_support : GoodIn wsL_law (wsV RL 153 RX3 yX3_support wsX3_support) := goodIn_app (goodIn_of _ (by decide +kernel)) ggL_law_X3_support
set_option maxRecDepth 20000 in
theorem ggL_law_L_heldCount : GoodIn wsL_law wsL_heldCount := goodIn_ca (goodIn_r _ [335, 98, 336, 337, 338, 2, 339, 21, 248, 249, 250, 251, 106, 107, 27, 145, 146, 147, 252, 253, 254, 255, 16, 256, 257, 258, 259, 260, 261, 20, 262, 263, 264, 265, 266, 37, 34, 267, 268, 269, 270, 36, 33, 340, 341, 342, 343, 344, 345, 346, 703, 704, 705, 706, 707, 708, 709, 710, 724, 725, 726, 727] (by decide +kernel) (by decide +kernel)) (goodIn_sub (fun _ h => List.mem_append_left _ (List.mem_append_right _ h)) (by decide +kernel))
set_option maxRecDepth 20000 in
theorem gL_law_L_heldCount : GoodIn wsL_law (va_wsS RL 154 yL_heldCount wsL_heldCount) := goodIn_app (goodIn_of _ (by decide +kernel)) ggL_law_L_heldCount
set_option maxRecDepth 20000 in
theorem ggL_law_X3_heldCount : GoodIn wsL_law wsX3_heldCount := goodIn_r _ [350, 81, 351, 352, 353, 5, 354, 80, 279, 280, 281, 282, 112, 283, 284, 285, 286, 90, 59, 60, 164, 58, 57, 56, 287, 288, 289, 290, 54, 291, 292, 293, 294, 295, 296, 297, 298, 299, 300, 301, 711, 712, 713, 714, 715, 716, 717, 718, 719, 720, 721, 722, 723] (by decide +kernel) (by decide +kernel)
set_option maxRecDepth 20000 in
theorem gL_law_X3_heldCount : GoodIn wsL_law (wsV RL 156 RX3 yX3_heldCount wsX3_heldCount) := goodIn_app (goodIn_of _ (by decide +kernel)) ggL_law_X3_heldCount
set_option maxRecDepth 20000 in
theorem ggL_law_L_isConsistent : GoodIn wsL_law wsL_isConsistent := goodIn_ca (goodIn_r _ [357, 98, 358, 359, 360, 2, 361, 248, 249, 250, 251, 106, 107, 27, 145, 146, 147, 362, 363, 364, 365, 21, 252, 253, 254, 255, 16, 256, 257, 258, 259, 260, 261, 20, 262, 263, 264, 265, 266, 37, 34, 267, 268, 269, 270, 36, 33, 366, 367, 368, 369, 703, 704, 705, 706, 707, 708, 709, 710, 724, 725, 726, 727] (by decide +kernel) (by decide +kernel)) (goodIn_sub (fun _ h => List.mem_append_left _ (List.mem_append_right _ h)) (by decide +kernel))
set_option maxRecDepth 20000 in
theorem gL_law_L_isConsistent : GoodIn wsL_law (va_wsS RL 157 yL_isConsistent wsL_isConsistent) := goodIn_app (goodIn_of _ (by decide +kernel)) ggL_law_L_isConsistent
set_option maxRecDepth 20000 in
theorem ggL_law_X3_isConsistent : GoodIn wsL_law wsX3_isConsistent := goodIn_r _ [373, 60, 351, 352, 353, 5, 354, 80, 279, 280, 281, 282, 112, 283, 284, 285, 286, 90, 59, 164, 58, 57, 56, 287, 288, 289, 290, 54, 291, 292, 293, 294, 295, 296, 297, 711, 712, 713, 714, 715, 716, 717, 718, 719, 720, 721, 722, 723] (by decide +kernel) (by decide +kernel)
set_option maxRecDepth 20000 in
theorem gL_law_X3_isConsistent : GoodIn wsL_law (wsV RL 159 RX3 yX3_isConsistent wsX3_isConsistent) := goodIn_app (goodIn_of _ (by decide +kernel)) ggL_law_X3_isConsistent
set_option maxRecDepth 20000 in
theorem ggL_law_L_cost : GoodIn wsL_law wsL_cost := goodIn_ca (goodIn_r _ [376, 98, 377, 378, 379, 2, 380, 248, 249, 250, 251, 106, 107, 27, 145, 146, 147, 381, 382, 383, 384, 17, 256, 257, 258, 703, 704, 705, 706, 707, 708, 709, 710] (by decide +kernel) (by decide +kernel)) (goodIn_sub (fun _ h => List.mem_append_left _ (List.mem_append_right _ h)) (by decide +kernel))
set_option maxRecDepth 20000 in
theorem gL_law_L_cost : GoodIn wsL_law (va_wsS RL 160 yL_cost wsL_cost) := goodIn_app (goodIn_of _ (by decide +kernel)) ggL_law_L_cost
set_option maxRecDepth 20000 in
theorem ggL_law_X3_cost : GoodIn wsL_law wsX3_cost := goodIn_r _ [388, 351, 352, 353, 5, 354, 80, 279, 280, 281, 282, 112, 283, 284, 285, 286, 90, 59, 60, 164, 58, 57, 56, 287, 288, 289, 290, 54, 291, 292, 293, 294, 295, 296, 297, 389, 390, 391, 392, 55, 711, 712, 713, 714, 715, 716, 717, 718, 719, 720, 721, 722, 723] (by decide +kernel) (by decide +kernel)
set_option maxRecDepth 20000 in
theorem gL_law_X3_cost : GoodIn wsL_law (wsV RL 162 RX3 yX3_cost wsX3_cost) := goodIn_app (goodIn_of _ (by decide +kernel)) ggL_law_X3_cost
set_option maxRecDepth 20000 in
theorem ggL_law_L_extend : GoodIn wsL_law wsL_extend := goodIn_ca (goodIn_ca (goodIn_r _ [395, 98, 65, 396, 397, 398, 2, 399, 70, 71, 27, 248, 249, 250, 251, 106, 107, 145, 146, 147, 362, 363, 364, 365, 21, 252, 253, 254, 255, 16, 256, 257, 258, 259, 260, 261, 20, 262, 263, 264, 265, 266, 37, 34, 267, 268, 269, 270, 36, 33, 366, 367, 368, 369, 400, 401, 402, 403, 17, 703, 704, 705, 706, 707, 708, 709, 710, 724, 725, 726, 727] (by decide +kernel) (by decide +kernel)) (goodIn_sub (fun _ h => List.mem_append_left _ (List.mem_append_left _ (List.mem_append_right _ h))) (by decide +kernel))) (goodIn_sub (fun _ h => List.mem_append_left _ (List.mem_append_right _ h)) (by decide +kernel))
set_option maxRecDepth 20000 in
theorem gL_law_L_extend : GoodIn wsL_law (va_wsS RL 163 yL_extend wsL_extend) := goodIn_app (goodIn_of _ (by decide +kernel)) ggL_law_L_extend
set_option maxRecDepth 20000 in
theorem ggL_law_X3_extend : GoodIn wsL_law wsX3_extend := goodIn_r _ [407, 60, 112, 55, 351, 352, 353, 5, 354, 80, 279, 280, 281, 282, 283, 284, 285, 286, 90, 59, 164, 58, 57, 56, 287, 288, 289, 290, 54, 291, 292, 293, 294, 295, 296, 297, 82, 83, 84, 85, 711, 712, 713, 714, 715, 716, 717, 718, 719, 720, 721, 722, 723] (by decide +kernel) (by decide +kernel)
set_option maxRecDepth 20000 in
theorem gL_law_X3_extend : GoodIn wsL_law (wsV RL 165 RX3 yX3_extend wsX3_extend) := goodIn_app (goodIn_of _ (by decide +kernel)) ggL_law_X3_extend
set_option maxRecDepth 20000 in
theorem ggL_law_L_labelSize : GoodIn wsL_law wsL_labelSize := goodIn_ca (goodIn_r _ [410, 119, 411, 412, 413, 2, 414, 148, 149, 150, 151, 128, 129, 26, 415, 416, 417, 418, 28, 25, 21, 16, 27, 419, 420, 421, 24, 422, 47, 48, 44, 42, 43, 45, 46, 423, 424, 425, 426, 427, 260, 261, 20, 262, 263, 264, 265, 266, 37, 34, 267, 268, 269, 270, 36, 33, 428, 367, 368, 369, 429, 430, 431, 432, 257, 258, 433, 434, 435, 436, 437, 438, 439, 440, 441, 442, 443, 444, 445, 446, 447, 448, 703, 704, 705, 706, 707, 708, 709, 710, 728, 729, 730, 731, 732, 733, 734, 724, 725, 726, 727] (by decide +kernel) (by decide +kernel)) (goodIn_sub (fun _ h => List.mem_append_right _ h) (by decide +kernel))
set_option maxRecDepth 20000 in
theorem gL_law_L_labelSize : GoodIn wsL_law (va_wsS RL 166 yL_labelSize wsL_labelSize) := goodIn_app (goodIn_of _ (by decide +kernel)) ggL_law_L_labelSize
set_option maxRecDepth 20000 in
theorem ggL_law_X3_labelSize : GoodIn wsL_law wsX3_labelSize := goodIn_r _ [452, 453, 454, 455, 5, 456, 80, 165, 166, 167, 168, 81, 283, 284, 285, 286, 90, 112, 59, 60, 164, 58, 57, 56, 287, 288, 289, 290, 54, 291, 292, 293, 294, 295, 296, 297, 457, 458, 459, 460, 461, 462, 463, 464, 465, 466, 467, 468, 298, 299, 300, 301, 469, 470, 471, 472, 473, 474, 475, 476, 711, 712, 713, 714, 715, 716, 717, 718, 719, 720, 721, 722, 723] (by decide +kernel) (by decide +kernel)
set_option maxRecDepth 20000 in
theorem gL_law_X3_labelSize : GoodIn wsL_law (wsV RL 168 RX3 yX3_labelSize wsX3_labelSize) := goodIn_app (goodIn_of _ (by decide +kernel)) ggL_law_X3_labelSize
set_option maxRecDepth 20000 in
theorem ggL_law_L_label : GoodIn wsL_law wsL_label := goodIn_ca (goodIn_r _ [479, 119, 480, 481, 482, 2, 483, 148, 149, 150, 151, 128, 129, 26, 415, 416, 417, 418, 28, 25, 21, 16, 27, 419, 420, 421, 24, 422, 47, 48, 44, 42, 43, 45, 46, 423, 424, 425, 426, 427, 260, 261, 20, 262, 263, 264, 265, 266, 37, 34, 267, 268, 269, 270, 36, 33, 428, 367, 368, 369, 429, 430, 431, 432, 257, 258, 433, 434, 435, 436, 437, 438, 439, 440, 484, 485, 486, 487, 445, 446, 447, 448, 488, 489, 490, 703, 704, 705, 706, 707, 708, 709, 710, 728, 729, 730, 731, 732, 733, 734, 724, 725, 726, 727] (by decide +kernel) (by decide +kernel)) (goodIn_sub (fun _ h => List.mem_append_right _ h) (by decide +kernel))
set_option maxRecDepth 20000 in
theorem gL_law_L_label : GoodIn wsL_law (va_wsS RL 169 yL_label wsL_label) := goodIn_app (goodIn_of _ (by decide +kernel)) ggL_law_L_label
set_option maxRecDepth 20000 in
theorem ggL_law_X3_label : GoodIn wsL_law wsX3_label := goodIn_r _ [494, 453, 454, 455, 5, 456, 80, 165, 166, 167, 168, 81, 283, 284, 285, 286, 90, 112, 59, 60, 164, 58, 57, 56, 287, 288, 289, 290, 54, 291, 292, 293, 294, 295, 296, 297, 495, 496, 497, 498, 461, 462, 463, 464, 465, 466, 467, 468, 298, 299, 300, 301, 469, 470, 471, 472, 473, 474, 475, 476, 82, 83, 84, 85, 711, 712, 713, 714, 715, 716, 717, 718, 719, 720, 721, 722, 723] (by decide +kernel) (by decide +kernel)
set_option maxRecDepth 20000 in
theorem gL_law_X3_label : GoodIn wsL_law (wsV RL 171 RX3 yX3_label wsX3_label) := goodIn_app (goodIn_of _ (by decide +kernel)) ggL_law_X3_label
set_option maxRecDepth 20000 in
theorem ggL_law_L_cheapest : GoodIn wsL_law wsL_cheapest := goodIn_ca (goodIn_r _ [501, 119, 502, 503, 504, 2, 505, 148, 149, 150, 151, 128, 129, 26, 415, 416, 417, 418, 28, 25, 21, 16, 27, 419, 420, 421, 24, 422, 47, 48, 44, 42, 43, 45, 46, 423, 424, 425, 426, 427, 260, 261, 20, 262, 263, 264, 265, 266, 37, 34, 267, 268, 269, 270, 36, 33, 428, 367, 368, 369, 429, 430, 431, 432, 257, 258, 433, 434, 435, 436, 437, 438, 439, 440, 506, 507, 508, 509, 510, 446, 447, 448, 381, 382, 383, 384, 17, 256, 703, 704, 705, 706, 707, 708, 709, 710, 728, 729, 730, 731, 732, 733, 734, 724, 725, 726, 727] (by decide +kernel) (by decide +kernel)) (goodIn_sub (fun _ h => List.mem_append_right _ h) (by decide +kernel))
set_option maxRecDepth 20000 in
theorem gL_law_L_cheapest : GoodIn wsL_law (va_wsS RL 172 yL_cheapest wsL_cheapest) := goodIn_app (goodIn_of _ (by decide +kernel)) ggL_law_L_cheapest
set_option maxRecDepth 20000 in
theorem ggL_law_X3_cheapest : GoodIn wsL_law wsX3_cheapest := goodIn_r _ [514, 112, 453, 454, 455, 5, 456, 80, 165, 166, 167, 168, 81, 283, 284, 285, 286, 90, 59, 60, 164, 58, 57, 56, 287, 288, 289, 290, 54, 291, 292, 293, 294, 295, 296, 297, 461, 462, 463, 464, 465, 466, 467, 468, 298, 299, 300, 301, 389, 390, 391, 392, 55, 711, 712, 713, 714, 715, 716, 717, 718, 719, 720, 721, 722, 723] (by decide +kernel) (by decide +kernel)
set_option maxRecDepth 20000 in
theorem gL_law_X3_cheapest : GoodIn wsL_law (wsV RL 174 RX3 yX3_cheapest wsX3_cheapest) := goodIn_app (goodIn_of _ (by decide +kernel)) ggL_law_X3_cheapest
set_option maxRecDepth 20000 in
theorem ggL_law_L_needed : GoodIn wsL_law wsL_needed := goodIn_ca (goodIn_r _ [517, 119, 518, 519, 520, 2, 521, 148, 149, 150, 151, 128, 129, 26, 415, 416, 417, 418, 28, 25, 21, 16, 27, 419, 420, 421, 24, 422, 47, 48, 44, 42, 43, 45, 46, 423, 424, 425, 426, 427, 260, 261, 20, 262, 263, 264, 265, 266, 37, 34, 267, 268, 269, 270, 36, 33, 428, 367, 368, 369, 429, 430, 431, 432, 257, 258, 433, 434, 435, 436, 437, 438, 439, 440, 506, 507, 508, 509, 510, 446, 447, 448, 703, 704, 705, 706, 707, 708, 709, 710, 728, 729, 730, 731, 732, 733, 734, 724, 725, 726, 727] (by decide +kernel) (by decide +kernel)) (goodIn_sub (fun _ h => List.mem_append_right _ h) (by decide +kernel))
set_option maxRecDepth 20000 in
theorem gL_law_L_needed : GoodIn wsL_law (va_wsS RL 175 yL_needed wsL_needed) := goodIn_app (goodIn_of _ (by decide +kernel)) ggL_law_L_needed
set_option maxRecDepth 20000 in
theorem ggL_law_X3_needed : GoodIn wsL_law wsX3_needed := goodIn_r _ [525, 112, 453, 454, 455, 5, 456, 80, 165, 166, 167, 168, 81, 283, 284, 285, 286, 90, 59, 60, 164, 58, 57, 56, 287, 288, 289, 290, 54, 291, 292, 293, 294, 295, 296, 297, 461, 462, 463, 464, 465, 466, 467, 468, 298, 299, 300, 301, 711, 712, 713, 714, 715, 716, 717, 718, 719, 720, 721, 722, 723] (by decide +kernel) (by decide +kernel)
set_option maxRecDepth 20000 in
theorem gL_law_X3_needed : GoodIn wsL_law (wsV RL 177 RX3 yX3_needed wsX3_needed) := goodIn_app (goodIn_of _ (by decide +kernel)) ggL_law_X3_needed
set_option maxRecDepth 20000 in
theorem ggL_law_L_useful : GoodIn wsL_law wsL_useful := goodIn_ca (goodIn_r _ [528, 119, 529, 530, 531, 2, 532, 148, 149, 150, 151, 128, 129, 26, 415, 416, 417, 418, 28, 25, 21, 16, 27, 419, 420, 421, 24, 422, 47, 48, 44, 42, 43, 45, 46, 423, 424, 425, 426, 427, 260, 261, 20, 262, 263, 264, 265, 266, 37, 34, 267, 268, 269, 270, 36, 33, 428, 367, 368, 369, 429, 430, 431, 432, 257, 258, 433, 434, 435, 436, 437, 438, 439, 440, 506, 507, 508, 509, 510, 446, 447, 448, 703, 704, 705, 706, 707, 708, 709, 710, 728, 729, 730, 731, 732, 733, 734, 724, 725, 726, 727] (by decide +kernel) (by decide +kernel)) (goodIn_sub (fun _ h => List.mem_append_right _ h) (by decide +kernel))
set_option maxRecDepth 20000 in
theorem gL_law_L_useful : GoodIn wsL_law (va_wsS RL 178 yL_useful wsL_useful) := goodIn_app (goodIn_of _ (by decide +kernel)) ggL_law_L_useful
set_option maxRecDepth 20000 in
theorem ggL_law_X3_useful : GoodIn wsL_law wsX3_useful := goodIn_r _ [536, 112, 453, 454, 455, 5, 456, 80, 165, 166, 167, 168, 81, 283, 284, 285, 286, 90, 59, 60, 164, 58, 57, 56, 287, 288, 289, 290, 54, 291, 292, 293, 294, 295, 296, 297, 461, 462, 463, 464, 465, 466, 467, 468, 298, 299, 300, 301, 711, 712, 713, 714, 715, 716, 717, 718, 719, 720, 721, 722, 723] (by decide +kernel) (by decide +kernel)
set_option maxRecDepth 20000 in
theorem gL_law_X3_useful : GoodIn wsL_law (wsV RL 180 RX3 yX3_useful wsX3_useful) := goodIn_app (goodIn_of _ (by decide +kernel)) ggL_law_X3_useful
set_option maxRecDepth 20000 in
theorem ggL_law_X2_nogoodCount : GoodIn wsL_law wsX2_nogoodCount := goodIn_r _ [540, 415, 416, 417, 2, 418, 28, 25, 21, 16, 27, 419, 420, 421, 24, 422, 47, 48, 44, 42, 43, 45, 46, 423, 424, 425, 426, 427, 260, 261, 20, 262, 263, 264, 265, 266, 37, 34, 267, 268, 269, 270, 36, 33, 428, 367, 368, 369, 429, 430, 431, 432, 257, 258, 433, 434, 435, 436, 437, 438, 439, 440, 541, 542, 543, 544, 545, 546, 547, 548, 703, 704, 705, 706, 707, 708, 709, 710, 728, 729, 730, 731, 732, 733, 734, 724, 725, 726, 727] (by decide +kernel) (by decide +kernel)
set_option maxRecDepth 20000 in
theorem gL_law_X2_nogoodCount : GoodIn wsL_law (wsV RL 181 RX2 yX2_nogoodCount wsX2_nogoodCount) := goodIn_app (goodIn_of _ (by decide +kernel)) ggL_law_X2_nogoodCount
set_option maxRecDepth 20000 in
theorem ggL_law_X3_nogoodCount : GoodIn wsL_law wsX3_nogoodCount := goodIn_r _ [552, 80, 283, 284, 285, 5, 286, 90, 112, 59, 60, 164, 58, 57, 56, 287, 288, 289, 290, 54, 291, 292, 293, 294, 295, 296, 297, 457, 458, 459, 460, 461, 462, 463, 464, 465, 466, 467, 468, 298, 299, 300, 301, 469, 470, 471, 472, 473, 474, 475, 476, 711, 712, 713, 714, 715, 716, 717, 718, 719, 720, 721, 722, 723] (by decide +kernel) (by decide +kernel)
set_option maxRecDepth 20000 in
theorem gL_law_X3_nogoodCount : GoodIn wsL_law (wsV RL 184 RX3 yX3_nogoodCount wsX3_nogoodCount) := goodIn_app (goodIn_of _ (by decide +kernel)) ggL_law_X3_nogoodCount
set_option maxRecDepth 20000 in
theorem ggL_law_L_nogood : GoodIn wsL_law wsL_nogood := goodIn_ca (goodIn_r _ [555, 119, 556, 557, 558, 2, 559, 415, 416, 417, 418, 28, 25, 21, 16, 27, 419, 420, 421, 24, 422, 47, 48, 44, 42, 43, 45, 46, 423, 424, 425, 426, 427, 260, 261, 20, 262, 263, 264, 265, 266, 37, 34, 267, 268, 269, 270, 36, 33, 428, 367, 368, 369, 429, 430, 431, 432, 257, 258, 433, 434, 435, 436, 437, 438, 439, 440, 560, 561, 562, 563, 564, 565, 566, 567, 488, 489, 490, 128, 129, 703, 704, 705, 706, 707, 708, 709, 710, 728, 729, 730, 731, 732, 733, 734, 724, 725, 726, 727] (by decide +kernel) (by decide +kernel)) (goodIn_sub (fun _ h => List.mem_append_right _ h) (by decide +kernel))
set_option maxRecDepth 20000 in
theorem gL_law_L_nogood : GoodIn wsL_law (va_wsS RL 185 yL_nogood wsL_nogood) := goodIn_app (goodIn_of _ (by decide +kernel)) ggL_law_L_nogood
set_option maxRecDepth 20000 in
theorem ggL_law_X3_nogood : GoodIn wsL_law wsX3_nogood := goodIn_r _ [571, 80, 283, 284, 285, 5, 286, 90, 112, 59, 60, 164, 58, 57, 56, 287, 288, 289, 290, 54, 291, 292, 293, 294, 295, 296, 297, 495, 496, 497, 498, 461, 462, 463, 464, 465, 466, 467, 468, 298, 299, 300, 301, 469, 470, 471, 472, 473, 474, 475, 476, 82, 83, 84, 85, 711, 712, 713, 714, 715, 716, 717, 718, 719, 720, 721, 722, 723] (by decide +kernel) (by decide +kernel)
set_option maxRecDepth 20000 in
theorem gL_law_X3_nogood : GoodIn wsL_law (wsV RL 187 RX3 yX3_nogood wsX3_nogood) := goodIn_app (goodIn_of _ (by decide +kernel)) ggL_law_X3_nogood
set_option maxRecDepth 20000 in
theorem ggL_law_X2_worldCount : GoodIn wsL_law wsX2_worldCount := goodIn_r _ [575, 415, 416, 417, 2, 418, 28, 25, 21, 16, 27, 419, 420, 421, 24, 422, 47, 48, 44, 42, 43, 45, 46, 423, 424, 425, 426, 427, 260, 261, 20, 262, 263, 264, 265, 266, 37, 34, 267, 268, 269, 270, 36, 33, 428, 367, 368, 369, 429, 430, 431, 432, 257, 258, 433, 434, 435, 436, 437, 438, 439, 440, 576, 577, 578, 579, 545, 546, 547, 548, 703, 704, 705, 706, 707, 708, 709, 710, 728, 729, 730, 731, 732, 733, 734, 724, 725, 726, 727] (by decide +kernel) (by decide +kernel)
set_option maxRecDepth 20000 in
theorem gL_law_X2_worldCount : GoodIn wsL_law (wsV RL 188 RX2 yX2_worldCount wsX2_worldCount) := goodIn_app (goodIn_of _ (by decide +kernel)) ggL_law_X2_worldCount
set_option maxRecDepth 20000 in
theorem ggL_law_X3_worldCount : GoodIn wsL_law wsX3_worldCount := goodIn_r _ [583, 80, 283, 284, 285, 5, 286, 90, 112, 59, 60, 164, 58, 57, 56, 287, 288, 289, 290, 54, 291, 292, 293, 294, 295, 296, 297, 457, 458, 459, 460, 461, 462, 463, 464, 465, 466, 467, 468, 298, 299, 300, 301, 469, 470, 471, 472, 473, 474, 475, 476, 711, 712, 713, 714, 715, 716, 717, 718, 719, 720, 721, 722, 723] (by decide +kernel) (by decide +kernel)
set_option maxRecDepth 20000 in
theorem gL_law_X3_worldCount : GoodIn wsL_law (wsV RL 191 RX3 yX3_worldCount wsX3_worldCount) := goodIn_app (goodIn_of _ (by decide +kernel)) ggL_law_X3_worldCount
set_option maxRecDepth 20000 in
theorem ggL_law_L_world : GoodIn wsL_law wsL_world := goodIn_ca (goodIn_r _ [586, 119, 587, 588, 589, 2, 590, 415, 416, 417, 418, 28, 25, 21, 16, 27, 419, 420, 421, 24, 422, 47, 48, 44, 42, 43, 45, 46, 423, 424, 425, 426, 427, 260, 261, 20, 262, 263, 264, 265, 266, 37, 34, 267, 268, 269, 270, 36, 33, 428, 367, 368, 369, 429, 430, 431, 432, 257, 258, 433, 434, 435, 436, 437, 438, 439, 440, 591, 592, 593, 594, 564, 565, 566, 567, 488, 489, 490, 128, 129, 703, 704, 705, 706, 707, 708, 709, 710, 728, 729, 730, 731, 732, 733, 734, 724, 725, 726, 727] (by decide +kernel) (by decide +kernel)) (goodIn_sub (fun _ h => List.mem_append_right _ h) (by decide +kernel))
set_option maxRecDepth 20000 in
theorem gL_law_L_world : GoodIn wsL_law (va_wsS RL 192 yL_world wsL_world) := goodIn_app (goodIn_of _ (by decide +kernel)) ggL_law_L_world
set_option maxRecDepth 20000 in
theorem ggL_law_X3_world : GoodIn wsL_law wsX3_world := goodIn_r _ [598, 80, 283, 284, 285, 5, 286, 90, 112, 59, 60, 164, 58, 57, 56, 287, 288, 289, 290, 54, 291, 292, 293, 294, 295, 296, 297, 495, 496, 497, 498, 461, 462, 463, 464, 465, 466, 467, 468, 298, 299, 300, 301, 469, 470, 471, 472, 473, 474, 475, 476, 82, 83, 84, 85, 711, 712, 713, 714, 715, 716, 717, 718, 719, 720, 721, 722, 723] (by decide +kernel) (by decide +kernel)
set_option maxRecDepth 20000 in
theorem gL_law_X3_world : GoodIn wsL_law (wsV RL 194 RX3 yX3_world wsX3_world) := goodIn_app (goodIn_of _ (by decide +kernel)) ggL_law_X3_world
set_option maxRecDepth 20000 in
theorem ggL_law_L_worldsWith : GoodIn wsL_law wsL_worldsWith := goodIn_ca (goodIn_r _ [601, 119, 602, 603, 604, 2, 605, 148, 149, 150, 151, 128, 129, 26, 415, 416, 417, 418, 28, 25, 21, 16, 27, 419, 420, 421, 24, 422, 47, 48, 44, 42, 43, 45, 46, 423, 424, 425, 426, 427, 260, 261, 20, 262, 263, 264, 265, 266, 37, 34, 267, 268, 269, 270, 36, 33, 428, 367, 368, 369, 429, 430, 431, 432, 257, 258, 433, 434, 435, 436, 437, 438, 439, 440, 506, 507, 508, 509, 606, 607, 608, 609, 610, 611, 612, 613, 703, 704, 705, 706, 707, 708, 709, 710, 728, 729, 730, 731, 732, 733, 734, 724, 725, 726, 727] (by decide +kernel) (by decide +kernel)) (goodIn_sub (fun _ h => List.mem_append_right _ h) (by decide +kernel))
set_option maxRecDepth 20000 in
theorem gL_law_L_worldsWith : GoodIn wsL_law (va_wsS RL 195 yL_worldsWith wsL_worldsWith) := goodIn_app (goodIn_of _ (by decide +kernel)) ggL_law_L_worldsWith
set_option maxRecDepth 20000 in
theorem ggL_law_X3_worldsWith : GoodIn wsL_law wsX3_worldsWith := goodIn_r _ [617, 112, 453, 454, 455, 5, 456, 80, 165, 166, 167, 168, 81, 283, 284, 285, 286, 90, 59, 60, 164, 58, 57, 56, 287, 288, 289, 290, 54, 291, 292, 293, 294, 295, 296, 297, 298, 299, 300, 301, 473, 474, 475, 476, 711, 712, 713, 714, 715, 716, 717, 718, 719, 720, 721, 722, 723] (by decide +kernel) (by decide +kernel)
set_option maxRecDepth 20000 in
theorem gL_law_X3_worldsWith : GoodIn wsL_law (wsV RL 197 RX3 yX3_worldsWith wsX3_worldsWith) := goodIn_app (goodIn_of _ (by decide +kernel)) ggL_law_X3_worldsWith
set_option maxRecDepth 20000 in
theorem ggL_law_L_belief : GoodIn wsL_law wsL_belief := goodIn_ca (goodIn_r _ [620, 119, 621, 622, 623, 2, 624, 148, 149, 150, 151, 128, 129, 26, 415, 416, 417, 418, 28, 25, 21, 16, 27, 419, 420, 421, 24, 422, 47, 48, 44, 42, 43, 45, 46, 423, 424, 425, 426, 427, 260, 261, 20, 262, 263, 264, 265, 266, 37, 34, 267, 268, 269, 270, 36, 33, 428, 367, 368, 369, 429, 430, 431, 432, 257, 258, 433, 434, 435, 436, 437, 438, 439, 440, 506, 507, 508, 509, 625, 626, 627, 628, 610, 611, 612, 613, 703, 704, 705, 706, 707, 708, 709, 710, 728, 729, 730, 731, 732, 733, 734, 724, 725, 726, 727] (by decide +kernel) (by decide +kernel)) (goodIn_sub (fun _ h => List.mem_append_right _ h) (by decide +kernel))
set_option maxRecDepth 20000 in
theorem gL_law_L_belief : GoodIn wsL_law (va_wsS RL 198 yL_belief wsL_belief) := goodIn_app (goodIn_of _ (by decide +kernel)) ggL_law_L_belief
set_option maxRecDepth 20000 in
theorem ggL_law_X3_belief : GoodIn wsL_law wsX3_belief := goodIn_r _ [632, 112, 60, 453, 454, 455, 5, 456, 80, 165, 166, 167, 168, 81, 283, 284, 285, 286, 90, 59, 164, 58, 57, 56, 287, 288, 289, 290, 54, 291, 292, 293, 294, 295, 296, 297, 465, 466, 467, 468, 298, 299, 300, 301, 711, 712, 713, 714, 715, 716, 717, 718, 719, 720, 721, 722, 723] (by decide +kernel) (by decide +kernel)
set_option maxRecDepth 20000 in
theorem gL_law_X3_belief : GoodIn wsL_law (wsV RL 201 RX3 yX3_belief wsX3_belief) := goodIn_app (goodIn_of _ (by decide +kernel)) ggL_law_X3_belief
set_option maxRecDepth 20000 in
theorem ggL_law_L_implies : GoodIn wsL_law wsL_implies := goodIn_ca (goodIn_r _ [635, 119, 636, 637, 638, 2, 639, 148, 149, 150, 151, 128, 129, 26, 415, 416, 417, 418, 28, 25, 21, 16, 27, 419, 420, 421, 24, 422, 47, 48, 44, 42, 43, 45, 46, 423, 424, 425, 426, 427, 260, 261, 20, 262, 263, 264, 265, 266, 37, 34, 267, 268, 269, 270, 36, 33, 428, 367, 368, 369, 429, 430, 431, 432, 257, 258, 433, 434, 435, 436, 437, 438, 439, 440, 506, 507, 508, 509, 625, 626, 627, 628, 610, 611, 612, 613, 703, 704, 705, 706, 707, 708, 709, 710, 728, 729, 730, 731, 732, 733, 734, 724, 725, 726, 727] (by decide +kernel) (by decide +kernel)) (goodIn_sub (fun _ h => List.mem_append_right _ h) (by decide +kernel))
set_option maxRecDepth 20000 in
theorem gL_law_L_implies : GoodIn wsL_law (va_wsS RL 202 yL_implies wsL_implies) := goodIn_app (goodIn_of _ (by decide +kernel)) ggL_law_L_implies
set_option maxRecDepth 20000 in
theorem ggL_law_X3_implies : GoodIn wsL_law wsX3_implies := goodIn_r _ [643, 644, 645, 646, 5, 647, 80, 165, 166, 167, 168, 81, 283, 284, 285, 286, 90, 112, 59, 60, 164, 58, 57, 56, 287, 288, 289, 290, 54, 291, 292, 293, 294, 295, 296, 297, 648, 649, 650, 651, 465, 466, 467, 468, 298, 299, 300, 301, 711, 712, 713, 714, 715, 716, 717, 718, 719, 720, 721, 722, 723] (by decide +kernel) (by decide +kernel)
set_option maxRecDepth 20000 in
theorem gL_law_X3_implies : GoodIn wsL_law (wsV RL 204 RX3 yX3_implies wsX3_implies) := goodIn_app (goodIn_of _ (by decide +kernel)) ggL_law_X3_implies
set_option maxRecDepth 20000 in
theorem ggL_law_L_excludes : GoodIn wsL_law wsL_excludes := goodIn_ca (goodIn_r _ [654, 119, 655, 656, 657, 2, 658, 148, 149, 150, 151, 128, 129, 26, 415, 416, 417, 418, 28, 25, 21, 16, 27, 419, 420, 421, 24, 422, 47, 48, 44, 42, 43, 45, 46, 423, 424, 425, 426, 427, 260, 261, 20, 262, 263, 264, 265, 266, 37, 34, 267, 268, 269, 270, 36, 33, 428, 367, 368, 369, 429, 430, 431, 432, 257, 258, 433, 434, 435, 436, 437, 438, 439, 440, 506, 507, 508, 509, 625, 626, 627, 628, 610, 611, 612, 613, 703, 704, 705, 706, 707, 708, 709, 710, 728, 729, 730, 731, 732, 733, 734, 724, 725, 726, 727] (by decide +kernel) (by decide +kernel)) (goodIn_sub (fun _ h => List.mem_append_right _ h) (by decide +kernel))
set_option maxRecDepth 20000 in
theorem gL_law_L_excludes : GoodIn wsL_law (va_wsS RL 205 yL_excludes wsL_excludes) := goodIn_app (goodIn_of _ (by decide +kernel)) ggL_law_L_excludes
set_option maxRecDepth 20000 in
theorem ggL_law_X3_excludes : GoodIn wsL_law wsX3_excludes := goodIn_r _ [662, 644, 645, 646, 5, 647, 80, 165, 166, 167, 168, 81, 283, 284, 285, 286, 90, 112, 59, 60, 164, 58, 57, 56, 287, 288, 289, 290, 54, 291, 292, 293, 294, 295, 296, 297, 648, 649, 650, 651, 465, 466, 467, 468, 298, 299, 300, 301, 711, 712, 713, 714, 715, 716, 717, 718, 719, 720, 721, 722, 723] (by decide +kernel) (by decide +kernel)
set_option maxRecDepth 20000 in
theorem gL_law_X3_excludes : GoodIn wsL_law (wsV RL 207 RX3 yX3_excludes wsX3_excludes) := goodIn_app (goodIn_of _ (by decide +kernel)) ggL_law_X3_excludes
set_option maxRecDepth 20000 in
theorem ggL_law_X2_digest : GoodIn wsL_law wsX2_digest := goodIn_r _ [666, 667, 26, 15, 27, 17, 21, 415, 416, 417, 2, 418, 28, 25, 16, 419, 420, 421, 24, 422, 47, 48, 44, 42, 43, 45, 46, 423, 424, 425, 426, 427, 260, 261, 20, 262, 263, 264, 265, 266, 37, 34, 267, 268, 269, 270, 36, 33, 428, 367, 368, 369, 429, 430, 431, 432, 257, 258, 433, 434, 435, 436, 437, 438, 439, 440, 668, 669, 670, 671, 672, 673, 674, 675, 676, 442, 443, 444, 445, 446, 447, 448, 677, 678, 679, 680, 681, 682, 683, 684, 685, 686, 687, 688, 545, 546, 547, 548, 689, 690, 691, 692, 703, 704, 705, 706, 707, 708, 709, 710, 728, 729, 730, 731, 732, 733, 734, 724, 725, 726, 727] (by decide +kernel) (by decide +kernel)
set_option maxRecDepth 20000 in
theorem gL_law_X2_digest : GoodIn wsL_law (wsV RL 208 RX2 yX2_digest wsX2_digest) := goodIn_app (goodIn_of _ (by decide +kernel)) ggL_law_X2_digest
set_option maxRecDepth 20000 in
theorem ggL_law_X3_digest : GoodIn wsL_law wsX3_digest := goodIn_r _ [696, 80, 697, 81, 698, 53, 112, 55, 164, 56, 57, 58, 283, 284, 285, 5, 286, 90, 59, 60, 287, 288, 289, 290, 54, 291, 292, 293, 294, 295, 296, 297, 699, 700, 701, 702, 457, 458, 459, 460, 461, 462, 463, 464, 465, 466, 467, 468, 298, 299, 300, 301, 469, 470, 471, 472, 473, 474, 475, 476, 711, 712, 713, 714, 715, 716, 717, 718, 719, 720, 721, 722, 723] (by decide +kernel) (by decide +kernel)
set_option maxRecDepth 20000 in
theorem gL_law_X3_digest : GoodIn wsL_law (wsV RL 212 RX3 yX3_digest wsX3_digest) := goodIn_app (goodIn_of _ (by decide +kernel)) ggL_law_X3_digest
theorem dL_law_0 : decode cL_law 0 = .ok (.new 8, 3) := by decide +kernel
theorem dL_law_3 : decode cL_law 3 = .ok (.dup, 1) := by decide +kernel
theorem dL_law_4 : decode cL_law 4 = .ok (.invokespecial 100, 3) := by decide +kernel
theorem dL_law_7 : decode cL_law 7 = .ok (.astore_n 1, 1) := by decide +kernel
theorem dL_law_8 : decode cL_law 8 = .ok (.new 101, 3) := by decide +kernel
theorem dL_law_11 : decode cL_law 11 = .ok (.dup, 1) := by decide +kernel
theorem dL_law_12 : decode cL_law 12 = .ok (.invokespecial 103, 3) := by decide +kernel
theorem dL_law_15 : decode cL_law 15 = .ok (.astore_n 2, 1) := by decide +kernel
theorem dL_law_16 : decode cL_law 16 = .ok (.iconst 1, 1) := by decide +kernel
theorem dL_law_17 : decode cL_law 17 = .ok (.newarray .long, 2) := by decide +kernel
theorem dL_law_19 : decode cL_law 19 = .ok (.astore_n 3, 1) := by decide +kernel
theorem dL_law_20 : decode cL_law 20 = .ok (.iconst 1, 1) := by decide +kernel
theorem dL_law_21 : decode cL_law 21 = .ok (.newarray .double, 2) := by decide +kernel
theorem dL_law_23 : decode cL_law 23 = .ok (.astore 4, 2) := by decide +kernel
theorem dL_law_25 : decode cL_law 25 = .ok (.iconst 0, 1) := by decide +kernel
theorem dL_law_26 : decode cL_law 26 = .ok (.istore 5, 2) := by decide +kernel
theorem dL_law_28 : decode cL_law 28 = .ok (.iload 5, 2) := by decide +kernel
theorem dL_law_30 : decode cL_law 30 = .ok (.aload_n 0, 1) := by decide +kernel
theorem dL_law_31 : decode cL_law 31 = .ok (.arraylength, 1) := by decide +kernel
theorem dL_law_32 : decode cL_law 32 = .ok (.iconst 3, 1) := by decide +kernel
theorem dL_law_33 : decode cL_law 33 = .ok (.isub, 1) := by decide +kernel
theorem dL_law_34 : decode cL_law 34 = .ok (.if_icmp .gt 1834, 3) := by decide +kernel
theorem dL_law_37 : decode cL_law 37 = .ok (.aload_n 0, 1) := by decide +kernel
theorem dL_law_38 : decode cL_law 38 = .ok (.iload 5, 2) := by decide +kernel
theorem dL_law_40 : decode cL_law 40 = .ok (.iaload, 1) := by decide +kernel
theorem dL_law_41 : decode cL_law 41 = .ok (.bipush 31, 2) := by decide +kernel
theorem dL_law_43 : decode cL_law 43 = .ok (.iand, 1) := by decide +kernel
theorem dL_law_44 : decode cL_law 44 = .ok (.tableswitch 1818 0 30 #[140, 184, 240, 308, 376, 467, 511, 524, 537, 593, 649, 724, 792, 860, 916, 979, 1035, 1091, 1147, 1215, 1271, 1327, 1383, 1396, 1452, 1465, 1521, 1577, 1654, 1729, 1804], 140) := by decide +kernel
theorem dL_law_184 : decode cL_law 184 = .ok (.aload_n 1, 1) := by decide +kernel
theorem dL_law_185 : decode cL_law 185 = .ok (.aload_n 3, 1) := by decide +kernel
theorem dL_law_186 : decode cL_law 186 = .ok (.invokestatic 104, 3) := by decide +kernel
theorem dL_law_189 : decode cL_law 189 = .ok (.istore 6, 2) := by decide +kernel
theorem dL_law_191 : decode cL_law 191 = .ok (.aload_n 2, 1) := by decide +kernel
theorem dL_law_192 : decode cL_law 192 = .ok (.invokevirtual 109, 3) := by decide +kernel
theorem dL_law_195 : decode cL_law 195 = .ok (.istore 7, 2) := by decide +kernel
theorem dL_law_197 : decode cL_law 197 = .ok (.aload_n 2, 1) := by decide +kernel
theorem dL_law_198 : decode cL_law 198 = .ok (.invokevirtual 110, 3) := by decide +kernel
theorem dL_law_201 : decode cL_law 201 = .ok (.iload 6, 2) := by decide +kernel
theorem dL_law_203 : decode cL_law 203 = .ok (.if_icmp .eq 5, 3) := by decide +kernel
theorem dL_law_206 : decode cL_law 206 = .ok (.iconst 0, 1) := by decide +kernel
theorem dL_law_207 : decode cL_law 207 = .ok (.ireturn, 1) := by decide +kernel
theorem dL_law_208 : decode cL_law 208 = .ok (.iload 6, 2) := by decide +kernel
theorem dL_law_210 : decode cL_law 210 = .ok (.ifCond .ne 15, 3) := by decide +kernel
theorem dL_law_213 : decode cL_law 213 = .ok (.aload_n 3, 1) := by decide +kernel
theorem dL_law_214 : decode cL_law 214 = .ok (.iconst 0, 1) := by decide +kernel
theorem dL_law_215 : decode cL_law 215 = .ok (.laload, 1) := by decide +kernel
theorem dL_law_216 : decode cL_law 216 = .ok (.iload 7, 2) := by decide +kernel
theorem dL_law_218 : decode cL_law 218 = .ok (.i2l, 1) := by decide +kernel
theorem dL_law_219 : decode cL_law 219 = .ok (.lcmp, 1) := by decide +kernel
theorem dL_law_220 : decode cL_law 220 = .ok (.ifCond .eq 5, 3) := by decide +kernel
theorem dL_law_223 : decode cL_law 223 = .ok (.iconst 0, 1) := by decide +kernel
theorem dL_law_224 : decode cL_law 224 = .ok (.ireturn, 1) := by decide +kernel
theorem dL_law_225 : decode cL_law 225 = .ok (.goto 1637, 3) := by decide +kernel
theorem dL_law_228 : decode cL_law 228 = .ok (.aload_n 1, 1) := by decide +kernel
theorem dL_law_229 : decode cL_law 229 = .ok (.aload_n 0, 1) := by decide +kernel
theorem dL_law_230 : decode cL_law 230 = .ok (.iload 5, 2) := by decide +kernel
theorem dL_law_232 : decode cL_law 232 = .ok (.iconst 1, 1) := by decide +kernel
theorem dL_law_233 : decode cL_law 233 = .ok (.iadd, 1) := by decide +kernel
theorem dL_law_234 : decode cL_law 234 = .ok (.iaload, 1) := by decide +kernel
theorem dL_law_235 : decode cL_law 235 = .ok (.aload_n 3, 1) := by decide +kernel
theorem dL_law_236 : decode cL_law 236 = .ok (.invokestatic 113, 3) := by decide +kernel
theorem dL_law_239 : decode cL_law 239 = .ok (.istore 6, 2) := by decide +kernel
theorem dL_law_241 : decode cL_law 241 = .ok (.aload_n 2, 1) := by decide +kernel
theorem dL_law_242 : decode cL_law 242 = .ok (.aload_n 0, 1) := by decide +kernel
theorem dL_law_243 : decode cL_law 243 = .ok (.iload 5, 2) := by decide +kernel
theorem dL_law_245 : decode cL_law 245 = .ok (.iconst 1, 1) := by decide +kernel
theorem dL_law_246 : decode cL_law 246 = .ok (.iadd, 1) := by decide +kernel
theorem dL_law_247 : decode cL_law 247 = .ok (.iaload, 1) := by decide +kernel
theorem dL_law_248 : decode cL_law 248 = .ok (.invokevirtual 116, 3) := by decide +kernel
theorem dL_law_251 : decode cL_law 251 = .ok (.istore 7, 2) := by decide +kernel
theorem dL_law_253 : decode cL_law 253 = .ok (.aload_n 2, 1) := by decide +kernel
theorem dL_law_254 : decode cL_law 254 = .ok (.invokevirtual 110, 3) := by decide +kernel
theorem dL_law_257 : decode cL_law 257 = .ok (.iload 6, 2) := by decide +kernel
theorem dL_law_259 : decode cL_law 259 = .ok (.if_icmp .eq 5, 3) := by decide +kernel
theorem dL_law_262 : decode cL_law 262 = .ok (.iconst 0, 1) := by decide +kernel
theorem dL_law_263 : decode cL_law 263 = .ok (.ireturn, 1) := by decide +kernel
theorem dL_law_264 : decode cL_law 264 = .ok (.iload 6, 2) := by decide +kernel
theorem dL_law_266 : decode cL_law 266 = .ok (.ifCond .ne 15, 3) := by decide +kernel
theorem dL_law_269 : decode cL_law 269 = .ok (.aload_n 3, 1) := by decide +kernel
theorem dL_law_270 : decode cL_law 270 = .ok (.iconst 0, 1) := by decide +kernel
theorem dL_law_271 : decode cL_law 271 = .ok (.laload, 1) := by decide +kernel
theorem dL_law_272 : decode cL_law 272 = .ok (.iload 7, 2) := by decide +kernel
theorem dL_law_274 : decode cL_law 274 = .ok (.i2l, 1) := by decide +kernel
theorem dL_law_275 : decode cL_law 275 = .ok (.lcmp, 1) := by decide +kernel
theorem dL_law_276 : decode cL_law 276 = .ok (.ifCond .eq 5, 3) := by decide +kernel
theorem dL_law_279 : decode cL_law 279 = .ok (.iconst 0, 1) := by decide +kernel
theorem dL_law_280 : decode cL_law 280 = .ok (.ireturn, 1) := by decide +kernel
theorem dL_law_281 : decode cL_law 281 = .ok (.goto 1581, 3) := by decide +kernel
theorem dL_law_284 : decode cL_law 284 = .ok (.aload_n 1, 1) := by decide +kernel
theorem dL_law_285 : decode cL_law 285 = .ok (.aload_n 0, 1) := by decide +kernel
theorem dL_law_286 : decode cL_law 286 = .ok (.iload 5, 2) := by decide +kernel
theorem dL_law_288 : decode cL_law 288 = .ok (.iconst 1, 1) := by decide +kernel
theorem dL_law_289 : decode cL_law 289 = .ok (.iadd, 1) := by decide +kernel
theorem dL_law_290 : decode cL_law 290 = .ok (.iaload, 1) := by decide +kernel
theorem dL_law_291 : decode cL_law 291 = .ok (.aload_n 0, 1) := by decide +kernel
theorem dL_law_292 : decode cL_law 292 = .ok (.iload 5, 2) := by decide +kernel
theorem dL_law_294 : decode cL_law 294 = .ok (.iconst 2, 1) := by decide +kernel
theorem dL_law_295 : decode cL_law 295 = .ok (.iadd, 1) := by decide +kernel
theorem dL_law_296 : decode cL_law 296 = .ok (.iaload, 1) := by decide +kernel
theorem dL_law_297 : decode cL_law 297 = .ok (.aload_n 3, 1) := by decide +kernel
theorem dL_law_298 : decode cL_law 298 = .ok (.invokestatic 117, 3) := by decide +kernel
theorem dL_law_301 : decode cL_law 301 = .ok (.istore 6, 2) := by decide +kernel
theorem dL_law_303 : decode cL_law 303 = .ok (.aload_n 2, 1) := by decide +kernel
theorem dL_law_304 : decode cL_law 304 = .ok (.aload_n 0, 1) := by decide +kernel
theorem dL_law_305 : decode cL_law 305 = .ok (.iload 5, 2) := by decide +kernel
theorem dL_law_307 : decode cL_law 307 = .ok (.iconst 1, 1) := by decide +kernel
theorem dL_law_308 : decode cL_law 308 = .ok (.iadd, 1) := by decide +kernel
theorem dL_law_309 : decode cL_law 309 = .ok (.iaload, 1) := by decide +kernel
theorem dL_law_310 : decode cL_law 310 = .ok (.aload_n 0, 1) := by decide +kernel
theorem dL_law_311 : decode cL_law 311 = .ok (.iload 5, 2) := by decide +kernel
theorem dL_law_313 : decode cL_law 313 = .ok (.iconst 2, 1) := by decide +kernel
theorem dL_law_314 : decode cL_law 314 = .ok (.iadd, 1) := by decide +kernel
theorem dL_law_315 : decode cL_law 315 = .ok (.iaload, 1) := by decide +kernel
theorem dL_law_316 : decode cL_law 316 = .ok (.invokevirtual 120, 3) := by decide +kernel
theorem dL_law_319 : decode cL_law 319 = .ok (.istore 7, 2) := by decide +kernel
theorem dL_law_321 : decode cL_law 321 = .ok (.aload_n 2, 1) := by decide +kernel
theorem dL_law_322 : decode cL_law 322 = .ok (.invokevirtual 110, 3) := by decide +kernel
theorem dL_law_325 : decode cL_law 325 = .ok (.iload 6, 2) := by decide +kernel
theorem dL_law_327 : decode cL_law 327 = .ok (.if_icmp .eq 5, 3) := by decide +kernel
theorem dL_law_330 : decode cL_law 330 = .ok (.iconst 0, 1) := by decide +kernel
theorem dL_law_331 : decode cL_law 331 = .ok (.ireturn, 1) := by decide +kernel
theorem dL_law_332 : decode cL_law 332 = .ok (.iload 6, 2) := by decide +kernel
theorem dL_law_334 : decode cL_law 334 = .ok (.ifCond .ne 15, 3) := by decide +kernel
theorem dL_law_337 : decode cL_law 337 = .ok (.aload_n 3, 1) := by decide +kernel
theorem dL_law_338 : decode cL_law 338 = .ok (.iconst 0, 1) := by decide +kernel
theorem dL_law_339 : decode cL_law 339 = .ok (.laload, 1) := by decide +kernel
theorem dL_law_340 : decode cL_law 340 = .ok (.iload 7, 2) := by decide +kernel
theorem dL_law_342 : decode cL_law 342 = .ok (.i2l, 1) := by decide +kernel
theorem dL_law_343 : decode cL_law 343 = .ok (.lcmp, 1) := by decide +kernel
theorem dL_law_344 : decode cL_law 344 = .ok (.ifCond .eq 5, 3) := by decide +kernel
theorem dL_law_347 : decode cL_law 347 = .ok (.iconst 0, 1) := by decide +kernel
theorem dL_law_348 : decode cL_law 348 = .ok (.ireturn, 1) := by decide +kernel
theorem dL_law_349 : decode cL_law 349 = .ok (.goto 1513, 3) := by decide +kernel
theorem dL_law_352 : decode cL_law 352 = .ok (.aload_n 1, 1) := by decide +kernel
theorem dL_law_353 : decode cL_law 353 = .ok (.aload_n 0, 1) := by decide +kernel
theorem dL_law_354 : decode cL_law 354 = .ok (.iload 5, 2) := by decide +kernel
theorem dL_law_356 : decode cL_law 356 = .ok (.iconst 1, 1) := by decide +kernel
theorem dL_law_357 : decode cL_law 357 = .ok (.iadd, 1) := by decide +kernel
theorem dL_law_358 : decode cL_law 358 = .ok (.iaload, 1) := by decide +kernel
theorem dL_law_359 : decode cL_law 359 = .ok (.aload_n 0, 1) := by decide +kernel
theorem dL_law_360 : decode cL_law 360 = .ok (.iload 5, 2) := by decide +kernel
theorem dL_law_362 : decode cL_law 362 = .ok (.iconst 2, 1) := by decide +kernel
theorem dL_law_363 : decode cL_law 363 = .ok (.iadd, 1) := by decide +kernel
theorem dL_law_364 : decode cL_law 364 = .ok (.iaload, 1) := by decide +kernel
theorem dL_law_365 : decode cL_law 365 = .ok (.aload_n 3, 1) := by decide +kernel
theorem dL_law_366 : decode cL_law 366 = .ok (.invokestatic 121, 3) := by decide +kernel
theorem dL_law_369 : decode cL_law 369 = .ok (.istore 6, 2) := by decide +kernel
theorem dL_law_371 : decode cL_law 371 = .ok (.aload_n 2, 1) := by decide +kernel
theorem dL_law_372 : decode cL_law 372 = .ok (.aload_n 0, 1) := by decide +kernel
theorem dL_law_373 : decode cL_law 373 = .ok (.iload 5, 2) := by decide +kernel
theorem dL_law_375 : decode cL_law 375 = .ok (.iconst 1, 1) := by decide +kernel
theorem dL_law_376 : decode cL_law 376 = .ok (.iadd, 1) := by decide +kernel
theorem dL_law_377 : decode cL_law 377 = .ok (.iaload, 1) := by decide +kernel
theorem dL_law_378 : decode cL_law 378 = .ok (.aload_n 0, 1) := by decide +kernel
theorem dL_law_379 : decode cL_law 379 = .ok (.iload 5, 2) := by decide +kernel
theorem dL_law_381 : decode cL_law 381 = .ok (.iconst 2, 1) := by decide +kernel
theorem dL_law_382 : decode cL_law 382 = .ok (.iadd, 1) := by decide +kernel
theorem dL_law_383 : decode cL_law 383 = .ok (.iaload, 1) := by decide +kernel
theorem dL_law_384 : decode cL_law 384 = .ok (.invokevirtual 123, 3) := by decide +kernel
theorem dL_law_387 : decode cL_law 387 = .ok (.istore 7, 2) := by decide +kernel
theorem dL_law_389 : decode cL_law 389 = .ok (.aload_n 2, 1) := by decide +kernel
theorem dL_law_390 : decode cL_law 390 = .ok (.invokevirtual 110, 3) := by decide +kernel
theorem dL_law_393 : decode cL_law 393 = .ok (.iload 6, 2) := by decide +kernel
theorem dL_law_395 : decode cL_law 395 = .ok (.if_icmp .eq 5, 3) := by decide +kernel
theorem dL_law_398 : decode cL_law 398 = .ok (.iconst 0, 1) := by decide +kernel
theorem dL_law_399 : decode cL_law 399 = .ok (.ireturn, 1) := by decide +kernel
theorem dL_law_400 : decode cL_law 400 = .ok (.iload 6, 2) := by decide +kernel
theorem dL_law_402 : decode cL_law 402 = .ok (.ifCond .ne 15, 3) := by decide +kernel
theorem dL_law_405 : decode cL_law 405 = .ok (.aload_n 3, 1) := by decide +kernel
theorem dL_law_406 : decode cL_law 406 = .ok (.iconst 0, 1) := by decide +kernel
theorem dL_law_407 : decode cL_law 407 = .ok (.laload, 1) := by decide +kernel
theorem dL_law_408 : decode cL_law 408 = .ok (.iload 7, 2) := by decide +kernel
theorem dL_law_410 : decode cL_law 410 = .ok (.i2l, 1) := by decide +kernel
theorem dL_law_411 : decode cL_law 411 = .ok (.lcmp, 1) := by decide +kernel
theorem dL_law_412 : decode cL_law 412 = .ok (.ifCond .eq 5, 3) := by decide +kernel
theorem dL_law_415 : decode cL_law 415 = .ok (.iconst 0, 1) := by decide +kernel
theorem dL_law_416 : decode cL_law 416 = .ok (.ireturn, 1) := by decide +kernel
theorem dL_law_417 : decode cL_law 417 = .ok (.goto 1445, 3) := by decide +kernel
theorem dL_law_420 : decode cL_law 420 = .ok (.aload_n 1, 1) := by decide +kernel
theorem dL_law_421 : decode cL_law 421 = .ok (.aload_n 0, 1) := by decide +kernel
theorem dL_law_422 : decode cL_law 422 = .ok (.iload 5, 2) := by decide +kernel
theorem dL_law_424 : decode cL_law 424 = .ok (.iconst 1, 1) := by decide +kernel
theorem dL_law_425 : decode cL_law 425 = .ok (.iadd, 1) := by decide +kernel
theorem dL_law_426 : decode cL_law 426 = .ok (.iaload, 1) := by decide +kernel
theorem dL_law_427 : decode cL_law 427 = .ok (.aload_n 0, 1) := by decide +kernel
theorem dL_law_428 : decode cL_law 428 = .ok (.iload 5, 2) := by decide +kernel
theorem dL_law_430 : decode cL_law 430 = .ok (.iconst 2, 1) := by decide +kernel
theorem dL_law_431 : decode cL_law 431 = .ok (.iadd, 1) := by decide +kernel
theorem dL_law_432 : decode cL_law 432 = .ok (.iaload, 1) := by decide +kernel
theorem dL_law_433 : decode cL_law 433 = .ok (.ifCond .eq 7, 3) := by decide +kernel
theorem dL_law_436 : decode cL_law 436 = .ok (.iconst 1, 1) := by decide +kernel
theorem dL_law_437 : decode cL_law 437 = .ok (.goto 4, 3) := by decide +kernel
theorem dL_law_440 : decode cL_law 440 = .ok (.iconst 0, 1) := by decide +kernel
theorem dL_law_441 : decode cL_law 441 = .ok (.aload_n 3, 1) := by decide +kernel
theorem dL_law_442 : decode cL_law 442 = .ok (.invokestatic 124, 3) := by decide +kernel
theorem dL_law_445 : decode cL_law 445 = .ok (.istore 6, 2) := by decide +kernel
theorem dL_law_447 : decode cL_law 447 = .ok (.aload_n 2, 1) := by decide +kernel
theorem dL_law_448 : decode cL_law 448 = .ok (.aload_n 0, 1) := by decide +kernel
theorem dL_law_449 : decode cL_law 449 = .ok (.iload 5, 2) := by decide +kernel
theorem dL_law_451 : decode cL_law 451 = .ok (.iconst 1, 1) := by decide +kernel
theorem dL_law_452 : decode cL_law 452 = .ok (.iadd, 1) := by decide +kernel
theorem dL_law_453 : decode cL_law 453 = .ok (.iaload, 1) := by decide +kernel
theorem dL_law_454 : decode cL_law 454 = .ok (.aload_n 0, 1) := by decide +kernel
theorem dL_law_455 : decode cL_law 455 = .ok (.iload 5, 2) := by decide +kernel
theorem dL_law_457 : decode cL_law 457 = .ok (.iconst 2, 1) := by decide +kernel
theorem dL_law_458 : decode cL_law 458 = .ok (.iadd, 1) := by decide +kernel
theorem dL_law_459 : decode cL_law 459 = .ok (.iaload, 1) := by decide +kernel
theorem dL_law_460 : decode cL_law 460 = .ok (.ifCond .eq 7, 3) := by decide +kernel
theorem dL_law_463 : decode cL_law 463 = .ok (.iconst 1, 1) := by decide +kernel
theorem dL_law_464 : decode cL_law 464 = .ok (.goto 4, 3) := by decide +kernel
theorem dL_law_467 : decode cL_law 467 = .ok (.iconst 0, 1) := by decide +kernel
theorem dL_law_468 : decode cL_law 468 = .ok (.invokevirtual 127, 3) := by decide +kernel
theorem dL_law_471 : decode cL_law 471 = .ok (.istore 7, 2) := by decide +kernel
theorem dL_law_473 : decode cL_law 473 = .ok (.aload_n 2, 1) := by decide +kernel
theorem dL_law_474 : decode cL_law 474 = .ok (.invokevirtual 110, 3) := by decide +kernel
theorem dL_law_477 : decode cL_law 477 = .ok (.iload 6, 2) := by decide +kernel
theorem dL_law_479 : decode cL_law 479 = .ok (.if_icmp .eq 5, 3) := by decide +kernel
theorem dL_law_482 : decode cL_law 482 = .ok (.iconst 0, 1) := by decide +kernel
theorem dL_law_483 : decode cL_law 483 = .ok (.ireturn, 1) := by decide +kernel
theorem dL_law_484 : decode cL_law 484 = .ok (.iload 6, 2) := by decide +kernel
theorem dL_law_486 : decode cL_law 486 = .ok (.ifCond .ne 22, 3) := by decide +kernel
theorem dL_law_489 : decode cL_law 489 = .ok (.aload_n 3, 1) := by decide +kernel
theorem dL_law_490 : decode cL_law 490 = .ok (.iconst 0, 1) := by decide +kernel
theorem dL_law_491 : decode cL_law 491 = .ok (.laload, 1) := by decide +kernel
theorem dL_law_492 : decode cL_law 492 = .ok (.iload 7, 2) := by decide +kernel
theorem dL_law_494 : decode cL_law 494 = .ok (.ifCond .eq 7, 3) := by decide +kernel
theorem dL_law_497 : decode cL_law 497 = .ok (.lconst 1, 1) := by decide +kernel
theorem dL_law_498 : decode cL_law 498 = .ok (.goto 4, 3) := by decide +kernel
theorem dL_law_501 : decode cL_law 501 = .ok (.lconst 0, 1) := by decide +kernel
theorem dL_law_502 : decode cL_law 502 = .ok (.lcmp, 1) := by decide +kernel
theorem dL_law_503 : decode cL_law 503 = .ok (.ifCond .eq 5, 3) := by decide +kernel
theorem dL_law_506 : decode cL_law 506 = .ok (.iconst 0, 1) := by decide +kernel
theorem dL_law_507 : decode cL_law 507 = .ok (.ireturn, 1) := by decide +kernel
theorem dL_law_508 : decode cL_law 508 = .ok (.goto 1354, 3) := by decide +kernel
theorem dL_law_511 : decode cL_law 511 = .ok (.aload_n 1, 1) := by decide +kernel
theorem dL_law_512 : decode cL_law 512 = .ok (.aload_n 3, 1) := by decide +kernel
theorem dL_law_513 : decode cL_law 513 = .ok (.invokestatic 128, 3) := by decide +kernel
theorem dL_law_516 : decode cL_law 516 = .ok (.istore 6, 2) := by decide +kernel
theorem dL_law_518 : decode cL_law 518 = .ok (.aload_n 2, 1) := by decide +kernel
theorem dL_law_519 : decode cL_law 519 = .ok (.invokevirtual 130, 3) := by decide +kernel
theorem dL_law_522 : decode cL_law 522 = .ok (.istore 7, 2) := by decide +kernel
theorem dL_law_524 : decode cL_law 524 = .ok (.aload_n 2, 1) := by decide +kernel
theorem dL_law_525 : decode cL_law 525 = .ok (.invokevirtual 110, 3) := by decide +kernel
theorem dL_law_528 : decode cL_law 528 = .ok (.iload 6, 2) := by decide +kernel
theorem dL_law_530 : decode cL_law 530 = .ok (.if_icmp .eq 5, 3) := by decide +kernel
theorem dL_law_533 : decode cL_law 533 = .ok (.iconst 0, 1) := by decide +kernel
theorem dL_law_534 : decode cL_law 534 = .ok (.ireturn, 1) := by decide +kernel
theorem dL_law_535 : decode cL_law 535 = .ok (.iload 6, 2) := by decide +kernel
theorem dL_law_537 : decode cL_law 537 = .ok (.ifCond .ne 15, 3) := by decide +kernel
theorem dL_law_540 : decode cL_law 540 = .ok (.aload_n 3, 1) := by decide +kernel
theorem dL_law_541 : decode cL_law 541 = .ok (.iconst 0, 1) := by decide +kernel
theorem dL_law_542 : decode cL_law 542 = .ok (.laload, 1) := by decide +kernel
theorem dL_law_543 : decode cL_law 543 = .ok (.iload 7, 2) := by decide +kernel
theorem dL_law_545 : decode cL_law 545 = .ok (.i2l, 1) := by decide +kernel
theorem dL_law_546 : decode cL_law 546 = .ok (.lcmp, 1) := by decide +kernel
theorem dL_law_547 : decode cL_law 547 = .ok (.ifCond .eq 5, 3) := by decide +kernel
theorem dL_law_550 : decode cL_law 550 = .ok (.iconst 0, 1) := by decide +kernel
theorem dL_law_551 : decode cL_law 551 = .ok (.ireturn, 1) := by decide +kernel
theorem dL_law_552 : decode cL_law 552 = .ok (.goto 1310, 3) := by decide +kernel
theorem dL_law_555 : decode cL_law 555 = .ok (.aload_n 1, 1) := by decide +kernel
theorem dL_law_556 : decode cL_law 556 = .ok (.invokevirtual 131, 3) := by decide +kernel
theorem dL_law_559 : decode cL_law 559 = .ok (.aload_n 2, 1) := by decide +kernel
theorem dL_law_560 : decode cL_law 560 = .ok (.invokevirtual 134, 3) := by decide +kernel
theorem dL_law_563 : decode cL_law 563 = .ok (.if_icmp .eq 1299, 3) := by decide +kernel
theorem dL_law_566 : decode cL_law 566 = .ok (.iconst 0, 1) := by decide +kernel
theorem dL_law_567 : decode cL_law 567 = .ok (.ireturn, 1) := by decide +kernel
theorem dL_law_568 : decode cL_law 568 = .ok (.aload_n 1, 1) := by decide +kernel
theorem dL_law_569 : decode cL_law 569 = .ok (.invokevirtual 135, 3) := by decide +kernel
theorem dL_law_572 : decode cL_law 572 = .ok (.aload_n 2, 1) := by decide +kernel
theorem dL_law_573 : decode cL_law 573 = .ok (.invokevirtual 138, 3) := by decide +kernel
theorem dL_law_576 : decode cL_law 576 = .ok (.if_icmp .eq 1286, 3) := by decide +kernel
theorem dL_law_579 : decode cL_law 579 = .ok (.iconst 0, 1) := by decide +kernel
theorem dL_law_580 : decode cL_law 580 = .ok (.ireturn, 1) := by decide +kernel
theorem dL_law_581 : decode cL_law 581 = .ok (.aload_n 1, 1) := by decide +kernel
theorem dL_law_582 : decode cL_law 582 = .ok (.aload_n 0, 1) := by decide +kernel
theorem dL_law_583 : decode cL_law 583 = .ok (.iload 5, 2) := by decide +kernel
theorem dL_law_585 : decode cL_law 585 = .ok (.iconst 1, 1) := by decide +kernel
theorem dL_law_586 : decode cL_law 586 = .ok (.iadd, 1) := by decide +kernel
theorem dL_law_587 : decode cL_law 587 = .ok (.iaload, 1) := by decide +kernel
theorem dL_law_588 : decode cL_law 588 = .ok (.aload_n 3, 1) := by decide +kernel
theorem dL_law_589 : decode cL_law 589 = .ok (.invokestatic 139, 3) := by decide +kernel
theorem dL_law_592 : decode cL_law 592 = .ok (.istore 6, 2) := by decide +kernel
theorem dL_law_594 : decode cL_law 594 = .ok (.aload_n 2, 1) := by decide +kernel
theorem dL_law_595 : decode cL_law 595 = .ok (.aload_n 0, 1) := by decide +kernel
theorem dL_law_596 : decode cL_law 596 = .ok (.iload 5, 2) := by decide +kernel
theorem dL_law_598 : decode cL_law 598 = .ok (.iconst 1, 1) := by decide +kernel
theorem dL_law_599 : decode cL_law 599 = .ok (.iadd, 1) := by decide +kernel
theorem dL_law_600 : decode cL_law 600 = .ok (.iaload, 1) := by decide +kernel
theorem dL_law_601 : decode cL_law 601 = .ok (.invokevirtual 141, 3) := by decide +kernel
theorem dL_law_604 : decode cL_law 604 = .ok (.istore 7, 2) := by decide +kernel
theorem dL_law_606 : decode cL_law 606 = .ok (.aload_n 2, 1) := by decide +kernel
theorem dL_law_607 : decode cL_law 607 = .ok (.invokevirtual 110, 3) := by decide +kernel
theorem dL_law_610 : decode cL_law 610 = .ok (.iload 6, 2) := by decide +kernel
theorem dL_law_612 : decode cL_law 612 = .ok (.if_icmp .eq 5, 3) := by decide +kernel
theorem dL_law_615 : decode cL_law 615 = .ok (.iconst 0, 1) := by decide +kernel
theorem dL_law_616 : decode cL_law 616 = .ok (.ireturn, 1) := by decide +kernel
theorem dL_law_617 : decode cL_law 617 = .ok (.iload 6, 2) := by decide +kernel
theorem dL_law_619 : decode cL_law 619 = .ok (.ifCond .ne 15, 3) := by decide +kernel
theorem dL_law_622 : decode cL_law 622 = .ok (.aload_n 3, 1) := by decide +kernel
theorem dL_law_623 : decode cL_law 623 = .ok (.iconst 0, 1) := by decide +kernel
theorem dL_law_624 : decode cL_law 624 = .ok (.laload, 1) := by decide +kernel
theorem dL_law_625 : decode cL_law 625 = .ok (.iload 7, 2) := by decide +kernel
theorem dL_law_627 : decode cL_law 627 = .ok (.i2l, 1) := by decide +kernel
theorem dL_law_628 : decode cL_law 628 = .ok (.lcmp, 1) := by decide +kernel
theorem dL_law_629 : decode cL_law 629 = .ok (.ifCond .eq 5, 3) := by decide +kernel
theorem dL_law_632 : decode cL_law 632 = .ok (.iconst 0, 1) := by decide +kernel
theorem dL_law_633 : decode cL_law 633 = .ok (.ireturn, 1) := by decide +kernel
theorem dL_law_634 : decode cL_law 634 = .ok (.goto 1228, 3) := by decide +kernel
theorem dL_law_637 : decode cL_law 637 = .ok (.aload_n 1, 1) := by decide +kernel
theorem dL_law_638 : decode cL_law 638 = .ok (.aload_n 0, 1) := by decide +kernel
theorem dL_law_639 : decode cL_law 639 = .ok (.iload 5, 2) := by decide +kernel
theorem dL_law_641 : decode cL_law 641 = .ok (.iconst 1, 1) := by decide +kernel
theorem dL_law_642 : decode cL_law 642 = .ok (.iadd, 1) := by decide +kernel
theorem dL_law_643 : decode cL_law 643 = .ok (.iaload, 1) := by decide +kernel
theorem dL_law_644 : decode cL_law 644 = .ok (.aload_n 3, 1) := by decide +kernel
theorem dL_law_645 : decode cL_law 645 = .ok (.invokestatic 142, 3) := by decide +kernel
theorem dL_law_648 : decode cL_law 648 = .ok (.istore 6, 2) := by decide +kernel
theorem dL_law_650 : decode cL_law 650 = .ok (.aload_n 2, 1) := by decide +kernel
theorem dL_law_651 : decode cL_law 651 = .ok (.aload_n 0, 1) := by decide +kernel
theorem dL_law_652 : decode cL_law 652 = .ok (.iload 5, 2) := by decide +kernel
theorem dL_law_654 : decode cL_law 654 = .ok (.iconst 1, 1) := by decide +kernel
theorem dL_law_655 : decode cL_law 655 = .ok (.iadd, 1) := by decide +kernel
theorem dL_law_656 : decode cL_law 656 = .ok (.iaload, 1) := by decide +kernel
theorem dL_law_657 : decode cL_law 657 = .ok (.invokevirtual 144, 3) := by decide +kernel
theorem dL_law_660 : decode cL_law 660 = .ok (.istore 7, 2) := by decide +kernel
theorem dL_law_662 : decode cL_law 662 = .ok (.aload_n 2, 1) := by decide +kernel
theorem dL_law_663 : decode cL_law 663 = .ok (.invokevirtual 110, 3) := by decide +kernel
theorem dL_law_666 : decode cL_law 666 = .ok (.iload 6, 2) := by decide +kernel
theorem dL_law_668 : decode cL_law 668 = .ok (.if_icmp .eq 5, 3) := by decide +kernel
theorem dL_law_671 : decode cL_law 671 = .ok (.iconst 0, 1) := by decide +kernel
theorem dL_law_672 : decode cL_law 672 = .ok (.ireturn, 1) := by decide +kernel
theorem dL_law_673 : decode cL_law 673 = .ok (.iload 6, 2) := by decide +kernel
theorem dL_law_675 : decode cL_law 675 = .ok (.ifCond .ne 15, 3) := by decide +kernel
theorem dL_law_678 : decode cL_law 678 = .ok (.aload_n 3, 1) := by decide +kernel
theorem dL_law_679 : decode cL_law 679 = .ok (.iconst 0, 1) := by decide +kernel
theorem dL_law_680 : decode cL_law 680 = .ok (.laload, 1) := by decide +kernel
theorem dL_law_681 : decode cL_law 681 = .ok (.iload 7, 2) := by decide +kernel
theorem dL_law_683 : decode cL_law 683 = .ok (.i2l, 1) := by decide +kernel
theorem dL_law_684 : decode cL_law 684 = .ok (.lcmp, 1) := by decide +kernel
theorem dL_law_685 : decode cL_law 685 = .ok (.ifCond .eq 5, 3) := by decide +kernel
theorem dL_law_688 : decode cL_law 688 = .ok (.iconst 0, 1) := by decide +kernel
theorem dL_law_689 : decode cL_law 689 = .ok (.ireturn, 1) := by decide +kernel
theorem dL_law_690 : decode cL_law 690 = .ok (.goto 1172, 3) := by decide +kernel
theorem dL_law_693 : decode cL_law 693 = .ok (.aload_n 1, 1) := by decide +kernel
theorem dL_law_694 : decode cL_law 694 = .ok (.aload_n 0, 1) := by decide +kernel
theorem dL_law_695 : decode cL_law 695 = .ok (.iload 5, 2) := by decide +kernel
theorem dL_law_697 : decode cL_law 697 = .ok (.iconst 1, 1) := by decide +kernel
theorem dL_law_698 : decode cL_law 698 = .ok (.iadd, 1) := by decide +kernel
theorem dL_law_699 : decode cL_law 699 = .ok (.iaload, 1) := by decide +kernel
theorem dL_law_700 : decode cL_law 700 = .ok (.aload_n 0, 1) := by decide +kernel
theorem dL_law_701 : decode cL_law 701 = .ok (.iload 5, 2) := by decide +kernel
theorem dL_law_703 : decode cL_law 703 = .ok (.iconst 2, 1) := by decide +kernel
theorem dL_law_704 : decode cL_law 704 = .ok (.iadd, 1) := by decide +kernel
theorem dL_law_705 : decode cL_law 705 = .ok (.iaload, 1) := by decide +kernel
theorem dL_law_706 : decode cL_law 706 = .ok (.aload_n 3, 1) := by decide +kernel
theorem dL_law_707 : decode cL_law 707 = .ok (.invokestatic 145, 3) := by decide +kernel
theorem dL_law_710 : decode cL_law 710 = .ok (.istore 6, 2) := by decide +kernel
theorem dL_law_712 : decode cL_law 712 = .ok (.aload_n 2, 1) := by decide +kernel
theorem dL_law_713 : decode cL_law 713 = .ok (.aload_n 0, 1) := by decide +kernel
theorem dL_law_714 : decode cL_law 714 = .ok (.iload 5, 2) := by decide +kernel
theorem dL_law_716 : decode cL_law 716 = .ok (.iconst 1, 1) := by decide +kernel
theorem dL_law_717 : decode cL_law 717 = .ok (.iadd, 1) := by decide +kernel
theorem dL_law_718 : decode cL_law 718 = .ok (.iaload, 1) := by decide +kernel
theorem dL_law_719 : decode cL_law 719 = .ok (.aload_n 0, 1) := by decide +kernel
theorem dL_law_720 : decode cL_law 720 = .ok (.iload 5, 2) := by decide +kernel
theorem dL_law_722 : decode cL_law 722 = .ok (.iconst 2, 1) := by decide +kernel
theorem dL_law_723 : decode cL_law 723 = .ok (.iadd, 1) := by decide +kernel
theorem dL_law_724 : decode cL_law 724 = .ok (.iaload, 1) := by decide +kernel
theorem dL_law_725 : decode cL_law 725 = .ok (.invokevirtual 147, 3) := by decide +kernel
theorem dL_law_728 : decode cL_law 728 = .ok (.istore 7, 2) := by decide +kernel
theorem dL_law_730 : decode cL_law 730 = .ok (.aload_n 2, 1) := by decide +kernel
theorem dL_law_731 : decode cL_law 731 = .ok (.invokevirtual 110, 3) := by decide +kernel
theorem dL_law_734 : decode cL_law 734 = .ok (.iload 6, 2) := by decide +kernel
theorem dL_law_736 : decode cL_law 736 = .ok (.if_icmp .eq 5, 3) := by decide +kernel
theorem dL_law_739 : decode cL_law 739 = .ok (.iconst 0, 1) := by decide +kernel
theorem dL_law_740 : decode cL_law 740 = .ok (.ireturn, 1) := by decide +kernel
theorem dL_law_741 : decode cL_law 741 = .ok (.iload 6, 2) := by decide +kernel
theorem dL_law_743 : decode cL_law 743 = .ok (.ifCond .ne 22, 3) := by decide +kernel
theorem dL_law_746 : decode cL_law 746 = .ok (.aload_n 3, 1) := by decide +kernel
theorem dL_law_747 : decode cL_law 747 = .ok (.iconst 0, 1) := by decide +kernel
theorem dL_law_748 : decode cL_law 748 = .ok (.laload, 1) := by decide +kernel
theorem dL_law_749 : decode cL_law 749 = .ok (.iload 7, 2) := by decide +kernel
theorem dL_law_751 : decode cL_law 751 = .ok (.ifCond .eq 7, 3) := by decide +kernel
theorem dL_law_754 : decode cL_law 754 = .ok (.lconst 1, 1) := by decide +kernel
theorem dL_law_755 : decode cL_law 755 = .ok (.goto 4, 3) := by decide +kernel
theorem dL_law_758 : decode cL_law 758 = .ok (.lconst 0, 1) := by decide +kernel
theorem dL_law_759 : decode cL_law 759 = .ok (.lcmp, 1) := by decide +kernel
theorem dL_law_760 : decode cL_law 760 = .ok (.ifCond .eq 5, 3) := by decide +kernel
theorem dL_law_763 : decode cL_law 763 = .ok (.iconst 0, 1) := by decide +kernel
theorem dL_law_764 : decode cL_law 764 = .ok (.ireturn, 1) := by decide +kernel
theorem dL_law_765 : decode cL_law 765 = .ok (.goto 1097, 3) := by decide +kernel
theorem dL_law_768 : decode cL_law 768 = .ok (.aload_n 1, 1) := by decide +kernel
theorem dL_law_769 : decode cL_law 769 = .ok (.aload_n 0, 1) := by decide +kernel
theorem dL_law_770 : decode cL_law 770 = .ok (.iload 5, 2) := by decide +kernel
theorem dL_law_772 : decode cL_law 772 = .ok (.iconst 1, 1) := by decide +kernel
theorem dL_law_773 : decode cL_law 773 = .ok (.iadd, 1) := by decide +kernel
theorem dL_law_774 : decode cL_law 774 = .ok (.iaload, 1) := by decide +kernel
theorem dL_law_775 : decode cL_law 775 = .ok (.aload_n 0, 1) := by decide +kernel
theorem dL_law_776 : decode cL_law 776 = .ok (.iload 5, 2) := by decide +kernel
theorem dL_law_778 : decode cL_law 778 = .ok (.iconst 2, 1) := by decide +kernel
theorem dL_law_779 : decode cL_law 779 = .ok (.iadd, 1) := by decide +kernel
theorem dL_law_780 : decode cL_law 780 = .ok (.iaload, 1) := by decide +kernel
theorem dL_law_781 : decode cL_law 781 = .ok (.aload_n 3, 1) := by decide +kernel
theorem dL_law_782 : decode cL_law 782 = .ok (.invokestatic 148, 3) := by decide +kernel
theorem dL_law_785 : decode cL_law 785 = .ok (.istore 6, 2) := by decide +kernel
theorem dL_law_787 : decode cL_law 787 = .ok (.aload_n 2, 1) := by decide +kernel
theorem dL_law_788 : decode cL_law 788 = .ok (.aload_n 0, 1) := by decide +kernel
theorem dL_law_789 : decode cL_law 789 = .ok (.iload 5, 2) := by decide +kernel
theorem dL_law_791 : decode cL_law 791 = .ok (.iconst 1, 1) := by decide +kernel
theorem dL_law_792 : decode cL_law 792 = .ok (.iadd, 1) := by decide +kernel
theorem dL_law_793 : decode cL_law 793 = .ok (.iaload, 1) := by decide +kernel
theorem dL_law_794 : decode cL_law 794 = .ok (.aload_n 0, 1) := by decide +kernel
theorem dL_law_795 : decode cL_law 795 = .ok (.iload 5, 2) := by decide +kernel
theorem dL_law_797 : decode cL_law 797 = .ok (.iconst 2, 1) := by decide +kernel
theorem dL_law_798 : decode cL_law 798 = .ok (.iadd, 1) := by decide +kernel
theorem dL_law_799 : decode cL_law 799 = .ok (.iaload, 1) := by decide +kernel
theorem dL_law_800 : decode cL_law 800 = .ok (.invokevirtual 150, 3) := by decide +kernel
theorem dL_law_803 : decode cL_law 803 = .ok (.istore 7, 2) := by decide +kernel
theorem dL_law_805 : decode cL_law 805 = .ok (.aload_n 2, 1) := by decide +kernel
theorem dL_law_806 : decode cL_law 806 = .ok (.invokevirtual 110, 3) := by decide +kernel
theorem dL_law_809 : decode cL_law 809 = .ok (.iload 6, 2) := by decide +kernel
theorem dL_law_811 : decode cL_law 811 = .ok (.if_icmp .eq 5, 3) := by decide +kernel
theorem dL_law_814 : decode cL_law 814 = .ok (.iconst 0, 1) := by decide +kernel
theorem dL_law_815 : decode cL_law 815 = .ok (.ireturn, 1) := by decide +kernel
theorem dL_law_816 : decode cL_law 816 = .ok (.iload 6, 2) := by decide +kernel
theorem dL_law_818 : decode cL_law 818 = .ok (.ifCond .ne 15, 3) := by decide +kernel
theorem dL_law_821 : decode cL_law 821 = .ok (.aload_n 3, 1) := by decide +kernel
theorem dL_law_822 : decode cL_law 822 = .ok (.iconst 0, 1) := by decide +kernel
theorem dL_law_823 : decode cL_law 823 = .ok (.laload, 1) := by decide +kernel
theorem dL_law_824 : decode cL_law 824 = .ok (.iload 7, 2) := by decide +kernel
theorem dL_law_826 : decode cL_law 826 = .ok (.i2l, 1) := by decide +kernel
theorem dL_law_827 : decode cL_law 827 = .ok (.lcmp, 1) := by decide +kernel
theorem dL_law_828 : decode cL_law 828 = .ok (.ifCond .eq 5, 3) := by decide +kernel
theorem dL_law_831 : decode cL_law 831 = .ok (.iconst 0, 1) := by decide +kernel
theorem dL_law_832 : decode cL_law 832 = .ok (.ireturn, 1) := by decide +kernel
theorem dL_law_833 : decode cL_law 833 = .ok (.goto 1029, 3) := by decide +kernel
theorem dL_law_836 : decode cL_law 836 = .ok (.aload_n 1, 1) := by decide +kernel
theorem dL_law_837 : decode cL_law 837 = .ok (.aload_n 0, 1) := by decide +kernel
theorem dL_law_838 : decode cL_law 838 = .ok (.iload 5, 2) := by decide +kernel
theorem dL_law_840 : decode cL_law 840 = .ok (.iconst 1, 1) := by decide +kernel
theorem dL_law_841 : decode cL_law 841 = .ok (.iadd, 1) := by decide +kernel
theorem dL_law_842 : decode cL_law 842 = .ok (.iaload, 1) := by decide +kernel
theorem dL_law_843 : decode cL_law 843 = .ok (.aload_n 0, 1) := by decide +kernel
theorem dL_law_844 : decode cL_law 844 = .ok (.iload 5, 2) := by decide +kernel
theorem dL_law_846 : decode cL_law 846 = .ok (.iconst 2, 1) := by decide +kernel
theorem dL_law_847 : decode cL_law 847 = .ok (.iadd, 1) := by decide +kernel
theorem dL_law_848 : decode cL_law 848 = .ok (.iaload, 1) := by decide +kernel
theorem dL_law_849 : decode cL_law 849 = .ok (.aload_n 3, 1) := by decide +kernel
theorem dL_law_850 : decode cL_law 850 = .ok (.invokestatic 151, 3) := by decide +kernel
theorem dL_law_853 : decode cL_law 853 = .ok (.istore 6, 2) := by decide +kernel
theorem dL_law_855 : decode cL_law 855 = .ok (.aload_n 2, 1) := by decide +kernel
theorem dL_law_856 : decode cL_law 856 = .ok (.aload_n 0, 1) := by decide +kernel
theorem dL_law_857 : decode cL_law 857 = .ok (.iload 5, 2) := by decide +kernel
theorem dL_law_859 : decode cL_law 859 = .ok (.iconst 1, 1) := by decide +kernel
theorem dL_law_860 : decode cL_law 860 = .ok (.iadd, 1) := by decide +kernel
theorem dL_law_861 : decode cL_law 861 = .ok (.iaload, 1) := by decide +kernel
theorem dL_law_862 : decode cL_law 862 = .ok (.aload_n 0, 1) := by decide +kernel
theorem dL_law_863 : decode cL_law 863 = .ok (.iload 5, 2) := by decide +kernel
theorem dL_law_865 : decode cL_law 865 = .ok (.iconst 2, 1) := by decide +kernel
theorem dL_law_866 : decode cL_law 866 = .ok (.iadd, 1) := by decide +kernel
theorem dL_law_867 : decode cL_law 867 = .ok (.iaload, 1) := by decide +kernel
theorem dL_law_868 : decode cL_law 868 = .ok (.invokevirtual 153, 3) := by decide +kernel
theorem dL_law_871 : decode cL_law 871 = .ok (.istore 7, 2) := by decide +kernel
theorem dL_law_873 : decode cL_law 873 = .ok (.aload_n 2, 1) := by decide +kernel
theorem dL_law_874 : decode cL_law 874 = .ok (.invokevirtual 110, 3) := by decide +kernel
theorem dL_law_877 : decode cL_law 877 = .ok (.iload 6, 2) := by decide +kernel
theorem dL_law_879 : decode cL_law 879 = .ok (.if_icmp .eq 5, 3) := by decide +kernel
theorem dL_law_882 : decode cL_law 882 = .ok (.iconst 0, 1) := by decide +kernel
theorem dL_law_883 : decode cL_law 883 = .ok (.ireturn, 1) := by decide +kernel
theorem dL_law_884 : decode cL_law 884 = .ok (.iload 6, 2) := by decide +kernel
theorem dL_law_886 : decode cL_law 886 = .ok (.ifCond .ne 15, 3) := by decide +kernel
theorem dL_law_889 : decode cL_law 889 = .ok (.aload_n 3, 1) := by decide +kernel
theorem dL_law_890 : decode cL_law 890 = .ok (.iconst 0, 1) := by decide +kernel
theorem dL_law_891 : decode cL_law 891 = .ok (.laload, 1) := by decide +kernel
theorem dL_law_892 : decode cL_law 892 = .ok (.iload 7, 2) := by decide +kernel
theorem dL_law_894 : decode cL_law 894 = .ok (.i2l, 1) := by decide +kernel
theorem dL_law_895 : decode cL_law 895 = .ok (.lcmp, 1) := by decide +kernel
theorem dL_law_896 : decode cL_law 896 = .ok (.ifCond .eq 5, 3) := by decide +kernel
theorem dL_law_899 : decode cL_law 899 = .ok (.iconst 0, 1) := by decide +kernel
theorem dL_law_900 : decode cL_law 900 = .ok (.ireturn, 1) := by decide +kernel
theorem dL_law_901 : decode cL_law 901 = .ok (.goto 961, 3) := by decide +kernel
theorem dL_law_904 : decode cL_law 904 = .ok (.aload_n 1, 1) := by decide +kernel
theorem dL_law_905 : decode cL_law 905 = .ok (.aload_n 0, 1) := by decide +kernel
theorem dL_law_906 : decode cL_law 906 = .ok (.iload 5, 2) := by decide +kernel
theorem dL_law_908 : decode cL_law 908 = .ok (.iconst 1, 1) := by decide +kernel
theorem dL_law_909 : decode cL_law 909 = .ok (.iadd, 1) := by decide +kernel
theorem dL_law_910 : decode cL_law 910 = .ok (.iaload, 1) := by decide +kernel
theorem dL_law_911 : decode cL_law 911 = .ok (.aload_n 3, 1) := by decide +kernel
theorem dL_law_912 : decode cL_law 912 = .ok (.invokestatic 154, 3) := by decide +kernel
theorem dL_law_915 : decode cL_law 915 = .ok (.istore 6, 2) := by decide +kernel
theorem dL_law_917 : decode cL_law 917 = .ok (.aload_n 2, 1) := by decide +kernel
theorem dL_law_918 : decode cL_law 918 = .ok (.aload_n 0, 1) := by decide +kernel
theorem dL_law_919 : decode cL_law 919 = .ok (.iload 5, 2) := by decide +kernel
theorem dL_law_921 : decode cL_law 921 = .ok (.iconst 1, 1) := by decide +kernel
theorem dL_law_922 : decode cL_law 922 = .ok (.iadd, 1) := by decide +kernel
theorem dL_law_923 : decode cL_law 923 = .ok (.iaload, 1) := by decide +kernel
theorem dL_law_924 : decode cL_law 924 = .ok (.invokevirtual 156, 3) := by decide +kernel
theorem dL_law_927 : decode cL_law 927 = .ok (.istore 7, 2) := by decide +kernel
theorem dL_law_929 : decode cL_law 929 = .ok (.aload_n 2, 1) := by decide +kernel
theorem dL_law_930 : decode cL_law 930 = .ok (.invokevirtual 110, 3) := by decide +kernel
theorem dL_law_933 : decode cL_law 933 = .ok (.iload 6, 2) := by decide +kernel
theorem dL_law_935 : decode cL_law 935 = .ok (.if_icmp .eq 5, 3) := by decide +kernel
theorem dL_law_938 : decode cL_law 938 = .ok (.iconst 0, 1) := by decide +kernel
theorem dL_law_939 : decode cL_law 939 = .ok (.ireturn, 1) := by decide +kernel
theorem dL_law_940 : decode cL_law 940 = .ok (.iload 6, 2) := by decide +kernel
theorem dL_law_942 : decode cL_law 942 = .ok (.ifCond .ne 15, 3) := by decide +kernel
theorem dL_law_945 : decode cL_law 945 = .ok (.aload_n 3, 1) := by decide +kernel
theorem dL_law_946 : decode cL_law 946 = .ok (.iconst 0, 1) := by decide +kernel
theorem dL_law_947 : decode cL_law 947 = .ok (.laload, 1) := by decide +kernel
theorem dL_law_948 : decode cL_law 948 = .ok (.iload 7, 2) := by decide +kernel
theorem dL_law_950 : decode cL_law 950 = .ok (.i2l, 1) := by decide +kernel
theorem dL_law_951 : decode cL_law 951 = .ok (.lcmp, 1) := by decide +kernel
theorem dL_law_952 : decode cL_law 952 = .ok (.ifCond .eq 5, 3) := by decide +kernel
theorem dL_law_955 : decode cL_law 955 = .ok (.iconst 0, 1) := by decide +kernel
theorem dL_law_956 : decode cL_law 956 = .ok (.ireturn, 1) := by decide +kernel
theorem dL_law_957 : decode cL_law 957 = .ok (.goto 905, 3) := by decide +kernel
theorem dL_law_960 : decode cL_law 960 = .ok (.aload_n 1, 1) := by decide +kernel
theorem dL_law_961 : decode cL_law 961 = .ok (.aload_n 0, 1) := by decide +kernel
theorem dL_law_962 : decode cL_law 962 = .ok (.iload 5, 2) := by decide +kernel
theorem dL_law_964 : decode cL_law 964 = .ok (.iconst 1, 1) := by decide +kernel
theorem dL_law_965 : decode cL_law 965 = .ok (.iadd, 1) := by decide +kernel
theorem dL_law_966 : decode cL_law 966 = .ok (.iaload, 1) := by decide +kernel
theorem dL_law_967 : decode cL_law 967 = .ok (.aload_n 3, 1) := by decide +kernel
theorem dL_law_968 : decode cL_law 968 = .ok (.invokestatic 157, 3) := by decide +kernel
theorem dL_law_971 : decode cL_law 971 = .ok (.istore 6, 2) := by decide +kernel
theorem dL_law_973 : decode cL_law 973 = .ok (.aload_n 2, 1) := by decide +kernel
theorem dL_law_974 : decode cL_law 974 = .ok (.aload_n 0, 1) := by decide +kernel
theorem dL_law_975 : decode cL_law 975 = .ok (.iload 5, 2) := by decide +kernel
theorem dL_law_977 : decode cL_law 977 = .ok (.iconst 1, 1) := by decide +kernel
theorem dL_law_978 : decode cL_law 978 = .ok (.iadd, 1) := by decide +kernel
theorem dL_law_979 : decode cL_law 979 = .ok (.iaload, 1) := by decide +kernel
theorem dL_law_980 : decode cL_law 980 = .ok (.invokevirtual 159, 3) := by decide +kernel
theorem dL_law_983 : decode cL_law 983 = .ok (.istore 7, 2) := by decide +kernel
theorem dL_law_985 : decode cL_law 985 = .ok (.aload_n 2, 1) := by decide +kernel
theorem dL_law_986 : decode cL_law 986 = .ok (.invokevirtual 110, 3) := by decide +kernel
theorem dL_law_989 : decode cL_law 989 = .ok (.iload 6, 2) := by decide +kernel
theorem dL_law_991 : decode cL_law 991 = .ok (.if_icmp .eq 5, 3) := by decide +kernel
theorem dL_law_994 : decode cL_law 994 = .ok (.iconst 0, 1) := by decide +kernel
theorem dL_law_995 : decode cL_law 995 = .ok (.ireturn, 1) := by decide +kernel
theorem dL_law_996 : decode cL_law 996 = .ok (.iload 6, 2) := by decide +kernel
theorem dL_law_998 : decode cL_law 998 = .ok (.ifCond .ne 22, 3) := by decide +kernel
theorem dL_law_1001 : decode cL_law 1001 = .ok (.aload_n 3, 1) := by decide +kernel
theorem dL_law_1002 : decode cL_law 1002 = .ok (.iconst 0, 1) := by decide +kernel
theorem dL_law_1003 : decode cL_law 1003 = .ok (.laload, 1) := by decide +kernel
theorem dL_law_1004 : decode cL_law 1004 = .ok (.iload 7, 2) := by decide +kernel
theorem dL_law_1006 : decode cL_law 1006 = .ok (.ifCond .eq 7, 3) := by decide +kernel
theorem dL_law_1009 : decode cL_law 1009 = .ok (.lconst 1, 1) := by decide +kernel
theorem dL_law_1010 : decode cL_law 1010 = .ok (.goto 4, 3) := by decide +kernel
theorem dL_law_1013 : decode cL_law 1013 = .ok (.lconst 0, 1) := by decide +kernel
theorem dL_law_1014 : decode cL_law 1014 = .ok (.lcmp, 1) := by decide +kernel
theorem dL_law_1015 : decode cL_law 1015 = .ok (.ifCond .eq 5, 3) := by decide +kernel
theorem dL_law_1018 : decode cL_law 1018 = .ok (.iconst 0, 1) := by decide +kernel
theorem dL_law_1019 : decode cL_law 1019 = .ok (.ireturn, 1) := by decide +kernel
theorem dL_law_1020 : decode cL_law 1020 = .ok (.goto 842, 3) := by decide +kernel
theorem dL_law_1023 : decode cL_law 1023 = .ok (.aload_n 1, 1) := by decide +kernel
theorem dL_law_1024 : decode cL_law 1024 = .ok (.aload_n 0, 1) := by decide +kernel
theorem dL_law_1025 : decode cL_law 1025 = .ok (.iload 5, 2) := by decide +kernel
