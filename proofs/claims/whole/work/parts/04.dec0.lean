theorem dX0_init_0 : decode cX0_init 0 = .ok (.aload_n 0, 1) := by decide +kernel
theorem dX0_init_1 : decode cX0_init 1 = .ok (.invokespecial 3, 3) := by decide +kernel
theorem dX0_init_4 : decode cX0_init 4 = .ok (.aload_n 0, 1) := by decide +kernel
theorem dX0_init_5 : decode cX0_init 5 = .ok (.bipush 40, 2) := by decide +kernel
theorem dX0_init_7 : decode cX0_init 7 = .ok (.newarray .int, 2) := by decide +kernel
theorem dX0_init_9 : decode cX0_init 9 = .ok (.putfield 9, 3) := by decide +kernel
theorem dX0_init_12 : decode cX0_init 12 = .ok (.aload_n 0, 1) := by decide +kernel
theorem dX0_init_13 : decode cX0_init 13 = .ok (.bipush 40, 2) := by decide +kernel
theorem dX0_init_15 : decode cX0_init 15 = .ok (.newarray .int, 2) := by decide +kernel
theorem dX0_init_17 : decode cX0_init 17 = .ok (.putfield 15, 3) := by decide +kernel
theorem dX0_init_20 : decode cX0_init 20 = .ok (.aload_n 0, 1) := by decide +kernel
theorem dX0_init_21 : decode cX0_init 21 = .ok (.bipush 40, 2) := by decide +kernel
theorem dX0_init_23 : decode cX0_init 23 = .ok (.newarray .boolean, 2) := by decide +kernel
theorem dX0_init_25 : decode cX0_init 25 = .ok (.putfield 18, 3) := by decide +kernel
theorem dX0_init_28 : decode cX0_init 28 = .ok (.aload_n 0, 1) := by decide +kernel
theorem dX0_init_29 : decode cX0_init 29 = .ok (.iconst 0, 1) := by decide +kernel
theorem dX0_init_30 : decode cX0_init 30 = .ok (.putfield 22, 3) := by decide +kernel
theorem dX0_init_33 : decode cX0_init 33 = .ok (.return_, 1) := by decide +kernel
theorem dX0_size_0 : decode cX0_size 0 = .ok (.aload_n 0, 1) := by decide +kernel
theorem dX0_size_1 : decode cX0_size 1 = .ok (.getfield 22, 3) := by decide +kernel
theorem dX0_size_4 : decode cX0_size 4 = .ok (.ireturn, 1) := by decide +kernel
theorem dX0_isFull_0 : decode cX0_isFull 0 = .ok (.aload_n 0, 1) := by decide +kernel
theorem dX0_isFull_1 : decode cX0_isFull 1 = .ok (.getfield 22, 3) := by decide +kernel
theorem dX0_isFull_4 : decode cX0_isFull 4 = .ok (.bipush 40, 2) := by decide +kernel
theorem dX0_isFull_6 : decode cX0_isFull 6 = .ok (.if_icmp .lt 7, 3) := by decide +kernel
theorem dX0_isFull_9 : decode cX0_isFull 9 = .ok (.iconst 1, 1) := by decide +kernel
theorem dX0_isFull_10 : decode cX0_isFull 10 = .ok (.goto 4, 3) := by decide +kernel
theorem dX0_isFull_13 : decode cX0_isFull 13 = .ok (.iconst 0, 1) := by decide +kernel
theorem dX0_isFull_14 : decode cX0_isFull 14 = .ok (.ireturn, 1) := by decide +kernel
theorem dX0_append_0 : decode cX0_append 0 = .ok (.aload_n 0, 1) := by decide +kernel
theorem dX0_append_1 : decode cX0_append 1 = .ok (.getfield 22, 3) := by decide +kernel
theorem dX0_append_4 : decode cX0_append 4 = .ok (.istore_n 3, 1) := by decide +kernel
theorem dX0_append_5 : decode cX0_append 5 = .ok (.aload_n 0, 1) := by decide +kernel
theorem dX0_append_6 : decode cX0_append 6 = .ok (.getfield 9, 3) := by decide +kernel
theorem dX0_append_9 : decode cX0_append 9 = .ok (.iload_n 3, 1) := by decide +kernel
theorem dX0_append_10 : decode cX0_append 10 = .ok (.iload_n 1, 1) := by decide +kernel
theorem dX0_append_11 : decode cX0_append 11 = .ok (.iastore, 1) := by decide +kernel
theorem dX0_append_12 : decode cX0_append 12 = .ok (.aload_n 0, 1) := by decide +kernel
theorem dX0_append_13 : decode cX0_append 13 = .ok (.getfield 15, 3) := by decide +kernel
theorem dX0_append_16 : decode cX0_append 16 = .ok (.iload_n 3, 1) := by decide +kernel
theorem dX0_append_17 : decode cX0_append 17 = .ok (.iload_n 2, 1) := by decide +kernel
theorem dX0_append_18 : decode cX0_append 18 = .ok (.iastore, 1) := by decide +kernel
theorem dX0_append_19 : decode cX0_append 19 = .ok (.aload_n 0, 1) := by decide +kernel
theorem dX0_append_20 : decode cX0_append 20 = .ok (.getfield 18, 3) := by decide +kernel
theorem dX0_append_23 : decode cX0_append 23 = .ok (.iload_n 3, 1) := by decide +kernel
theorem dX0_append_24 : decode cX0_append 24 = .ok (.iconst 1, 1) := by decide +kernel
theorem dX0_append_25 : decode cX0_append 25 = .ok (.bastore, 1) := by decide +kernel
theorem dX0_append_26 : decode cX0_append 26 = .ok (.aload_n 0, 1) := by decide +kernel
theorem dX0_append_27 : decode cX0_append 27 = .ok (.iload_n 3, 1) := by decide +kernel
theorem dX0_append_28 : decode cX0_append 28 = .ok (.iconst 1, 1) := by decide +kernel
theorem dX0_append_29 : decode cX0_append 29 = .ok (.iadd, 1) := by decide +kernel
theorem dX0_append_30 : decode cX0_append 30 = .ok (.putfield 22, 3) := by decide +kernel
theorem dX0_append_33 : decode cX0_append 33 = .ok (.iload_n 3, 1) := by decide +kernel
theorem dX0_append_34 : decode cX0_append 34 = .ok (.ireturn, 1) := by decide +kernel
theorem dX0_removeLast_0 : decode cX0_removeLast 0 = .ok (.aload_n 0, 1) := by decide +kernel
theorem dX0_removeLast_1 : decode cX0_removeLast 1 = .ok (.dup, 1) := by decide +kernel
theorem dX0_removeLast_2 : decode cX0_removeLast 2 = .ok (.getfield 22, 3) := by decide +kernel
theorem dX0_removeLast_5 : decode cX0_removeLast 5 = .ok (.iconst 1, 1) := by decide +kernel
theorem dX0_removeLast_6 : decode cX0_removeLast 6 = .ok (.isub, 1) := by decide +kernel
theorem dX0_removeLast_7 : decode cX0_removeLast 7 = .ok (.putfield 22, 3) := by decide +kernel
theorem dX0_removeLast_10 : decode cX0_removeLast 10 = .ok (.aload_n 0, 1) := by decide +kernel
theorem dX0_removeLast_11 : decode cX0_removeLast 11 = .ok (.getfield 22, 3) := by decide +kernel
theorem dX0_removeLast_14 : decode cX0_removeLast 14 = .ok (.ireturn, 1) := by decide +kernel
theorem dX0_switchTo_0 : decode cX0_switchTo 0 = .ok (.aload_n 0, 1) := by decide +kernel
theorem dX0_switchTo_1 : decode cX0_switchTo 1 = .ok (.getfield 18, 3) := by decide +kernel
theorem dX0_switchTo_4 : decode cX0_switchTo 4 = .ok (.iload_n 1, 1) := by decide +kernel
theorem dX0_switchTo_5 : decode cX0_switchTo 5 = .ok (.baload, 1) := by decide +kernel
theorem dX0_switchTo_6 : decode cX0_switchTo 6 = .ok (.istore_n 3, 1) := by decide +kernel
theorem dX0_switchTo_7 : decode cX0_switchTo 7 = .ok (.aload_n 0, 1) := by decide +kernel
theorem dX0_switchTo_8 : decode cX0_switchTo 8 = .ok (.getfield 18, 3) := by decide +kernel
theorem dX0_switchTo_11 : decode cX0_switchTo 11 = .ok (.iload_n 1, 1) := by decide +kernel
theorem dX0_switchTo_12 : decode cX0_switchTo 12 = .ok (.iload_n 2, 1) := by decide +kernel
theorem dX0_switchTo_13 : decode cX0_switchTo 13 = .ok (.bastore, 1) := by decide +kernel
theorem dX0_switchTo_14 : decode cX0_switchTo 14 = .ok (.iload_n 3, 1) := by decide +kernel
theorem dX0_switchTo_15 : decode cX0_switchTo 15 = .ok (.ireturn, 1) := by decide +kernel
theorem dX0_fires_0 : decode cX0_fires 0 = .ok (.aload_n 0, 1) := by decide +kernel
theorem dX0_fires_1 : decode cX0_fires 1 = .ok (.getfield 18, 3) := by decide +kernel
theorem dX0_fires_4 : decode cX0_fires 4 = .ok (.iload_n 1, 1) := by decide +kernel
theorem dX0_fires_5 : decode cX0_fires 5 = .ok (.baload, 1) := by decide +kernel
theorem dX0_fires_6 : decode cX0_fires 6 = .ok (.ifCond .eq 20, 3) := by decide +kernel
theorem dX0_fires_9 : decode cX0_fires 9 = .ok (.aload_n 0, 1) := by decide +kernel
theorem dX0_fires_10 : decode cX0_fires 10 = .ok (.getfield 9, 3) := by decide +kernel
theorem dX0_fires_13 : decode cX0_fires 13 = .ok (.iload_n 1, 1) := by decide +kernel
theorem dX0_fires_14 : decode cX0_fires 14 = .ok (.iaload, 1) := by decide +kernel
theorem dX0_fires_15 : decode cX0_fires 15 = .ok (.iload_n 2, 1) := by decide +kernel
theorem dX0_fires_16 : decode cX0_fires 16 = .ok (.iconst (-1), 1) := by decide +kernel
theorem dX0_fires_17 : decode cX0_fires 17 = .ok (.ixor, 1) := by decide +kernel
theorem dX0_fires_18 : decode cX0_fires 18 = .ok (.iand, 1) := by decide +kernel
theorem dX0_fires_19 : decode cX0_fires 19 = .ok (.ifCond .ne 7, 3) := by decide +kernel
theorem dX0_fires_22 : decode cX0_fires 22 = .ok (.iconst 1, 1) := by decide +kernel
theorem dX0_fires_23 : decode cX0_fires 23 = .ok (.goto 4, 3) := by decide +kernel
theorem dX0_fires_26 : decode cX0_fires 26 = .ok (.iconst 0, 1) := by decide +kernel
theorem dX0_fires_27 : decode cX0_fires 27 = .ok (.ireturn, 1) := by decide +kernel
set_option maxRecDepth 20000 in
theorem ggX0_afterRound_X0_fires : GoodIn wsX0_afterRound wsX0_fires := goodIn_r _ [7, 8, 9, 10, 11, 12, 13] (by decide +kernel) (by decide +kernel)
set_option maxRecDepth 20000 in
theorem gX0_afterRound_X0_fires : GoodIn wsX0_afterRound (wsV RX0 26 RX0 yX0_fires wsX0_fires) := goodIn_app (goodIn_of _ (by decide +kernel)) ggX0_afterRound_X0_fires
theorem dX0_afterRound_0 : decode cX0_afterRound 0 = .ok (.iload_n 1, 1) := by decide +kernel
theorem dX0_afterRound_1 : decode cX0_afterRound 1 = .ok (.istore_n 2, 1) := by decide +kernel
theorem dX0_afterRound_2 : decode cX0_afterRound 2 = .ok (.iconst 0, 1) := by decide +kernel
theorem dX0_afterRound_3 : decode cX0_afterRound 3 = .ok (.istore_n 3, 1) := by decide +kernel
theorem dX0_afterRound_4 : decode cX0_afterRound 4 = .ok (.iload_n 3, 1) := by decide +kernel
theorem dX0_afterRound_5 : decode cX0_afterRound 5 = .ok (.aload_n 0, 1) := by decide +kernel
theorem dX0_afterRound_6 : decode cX0_afterRound 6 = .ok (.getfield 22, 3) := by decide +kernel
theorem dX0_afterRound_9 : decode cX0_afterRound 9 = .ok (.if_icmp .ge 39, 3) := by decide +kernel
theorem dX0_afterRound_12 : decode cX0_afterRound 12 = .ok (.aload_n 0, 1) := by decide +kernel
theorem dX0_afterRound_13 : decode cX0_afterRound 13 = .ok (.getfield 15, 3) := by decide +kernel
theorem dX0_afterRound_16 : decode cX0_afterRound 16 = .ok (.iload_n 3, 1) := by decide +kernel
theorem dX0_afterRound_17 : decode cX0_afterRound 17 = .ok (.iaload, 1) := by decide +kernel
theorem dX0_afterRound_18 : decode cX0_afterRound 18 = .ok (.iconst (-1), 1) := by decide +kernel
theorem dX0_afterRound_19 : decode cX0_afterRound 19 = .ok (.if_icmp .eq 23, 3) := by decide +kernel
theorem dX0_afterRound_22 : decode cX0_afterRound 22 = .ok (.aload_n 0, 1) := by decide +kernel
theorem dX0_afterRound_23 : decode cX0_afterRound 23 = .ok (.iload_n 3, 1) := by decide +kernel
theorem dX0_afterRound_24 : decode cX0_afterRound 24 = .ok (.iload_n 1, 1) := by decide +kernel
theorem dX0_afterRound_25 : decode cX0_afterRound 25 = .ok (.invokevirtual 26, 3) := by decide +kernel
theorem dX0_afterRound_28 : decode cX0_afterRound 28 = .ok (.ifCond .eq 14, 3) := by decide +kernel
theorem dX0_afterRound_31 : decode cX0_afterRound 31 = .ok (.iload_n 2, 1) := by decide +kernel
theorem dX0_afterRound_32 : decode cX0_afterRound 32 = .ok (.iconst 1, 1) := by decide +kernel
theorem dX0_afterRound_33 : decode cX0_afterRound 33 = .ok (.aload_n 0, 1) := by decide +kernel
theorem dX0_afterRound_34 : decode cX0_afterRound 34 = .ok (.getfield 15, 3) := by decide +kernel
theorem dX0_afterRound_37 : decode cX0_afterRound 37 = .ok (.iload_n 3, 1) := by decide +kernel
theorem dX0_afterRound_38 : decode cX0_afterRound 38 = .ok (.iaload, 1) := by decide +kernel
theorem dX0_afterRound_39 : decode cX0_afterRound 39 = .ok (.ishl, 1) := by decide +kernel
theorem dX0_afterRound_40 : decode cX0_afterRound 40 = .ok (.ior, 1) := by decide +kernel
theorem dX0_afterRound_41 : decode cX0_afterRound 41 = .ok (.istore_n 2, 1) := by decide +kernel
theorem dX0_afterRound_42 : decode cX0_afterRound 42 = .ok (.iinc 3 1, 3) := by decide +kernel
theorem dX0_afterRound_45 : decode cX0_afterRound 45 = .ok (.goto (-41), 3) := by decide +kernel
theorem dX0_afterRound_48 : decode cX0_afterRound 48 = .ok (.iload_n 2, 1) := by decide +kernel
theorem dX0_afterRound_49 : decode cX0_afterRound 49 = .ok (.ireturn, 1) := by decide +kernel
set_option maxRecDepth 20000 in
theorem ggX0_closure_X0_afterRound : GoodIn wsX0_closure wsX0_afterRound := goodIn_r _ [5, 6, 7, 8, 9, 10, 4, 11, 12, 13, 14, 15, 16, 17] (by decide +kernel) (by decide +kernel)
set_option maxRecDepth 20000 in
theorem gX0_closure_X0_afterRound : GoodIn wsX0_closure (wsV RX0 30 RX0 yX0_afterRound wsX0_afterRound) := goodIn_app (goodIn_of _ (by decide +kernel)) ggX0_closure_X0_afterRound
theorem dX0_closure_0 : decode cX0_closure 0 = .ok (.iload_n 1, 1) := by decide +kernel
theorem dX0_closure_1 : decode cX0_closure 1 = .ok (.istore_n 2, 1) := by decide +kernel
theorem dX0_closure_2 : decode cX0_closure 2 = .ok (.iconst 1, 1) := by decide +kernel
theorem dX0_closure_3 : decode cX0_closure 3 = .ok (.istore_n 3, 1) := by decide +kernel
theorem dX0_closure_4 : decode cX0_closure 4 = .ok (.iload_n 3, 1) := by decide +kernel
theorem dX0_closure_5 : decode cX0_closure 5 = .ok (.bipush 24, 2) := by decide +kernel
theorem dX0_closure_7 : decode cX0_closure 7 = .ok (.if_icmp .gt 28, 3) := by decide +kernel
theorem dX0_closure_10 : decode cX0_closure 10 = .ok (.aload_n 0, 1) := by decide +kernel
theorem dX0_closure_11 : decode cX0_closure 11 = .ok (.iload_n 2, 1) := by decide +kernel
theorem dX0_closure_12 : decode cX0_closure 12 = .ok (.invokevirtual 30, 3) := by decide +kernel
theorem dX0_closure_15 : decode cX0_closure 15 = .ok (.istore 4, 2) := by decide +kernel
theorem dX0_closure_17 : decode cX0_closure 17 = .ok (.iload 4, 2) := by decide +kernel
theorem dX0_closure_19 : decode cX0_closure 19 = .ok (.iload_n 2, 1) := by decide +kernel
theorem dX0_closure_20 : decode cX0_closure 20 = .ok (.if_icmp .ne 6, 3) := by decide +kernel
theorem dX0_closure_23 : decode cX0_closure 23 = .ok (.goto 12, 3) := by decide +kernel
theorem dX0_closure_26 : decode cX0_closure 26 = .ok (.iload 4, 2) := by decide +kernel
theorem dX0_closure_28 : decode cX0_closure 28 = .ok (.istore_n 2, 1) := by decide +kernel
theorem dX0_closure_29 : decode cX0_closure 29 = .ok (.iinc 3 1, 3) := by decide +kernel
theorem dX0_closure_32 : decode cX0_closure 32 = .ok (.goto (-28), 3) := by decide +kernel
theorem dX0_closure_35 : decode cX0_closure 35 = .ok (.iload_n 2, 1) := by decide +kernel
theorem dX0_closure_36 : decode cX0_closure 36 = .ok (.ireturn, 1) := by decide +kernel
set_option maxRecDepth 20000 in
theorem ggX0_contradict_X0_fires : GoodIn wsX0_contradict wsX0_fires := goodIn_r _ [7, 8, 9, 10, 11, 12, 13] (by decide +kernel) (by decide +kernel)
set_option maxRecDepth 20000 in
theorem gX0_contradict_X0_fires : GoodIn wsX0_contradict (wsV RX0 26 RX0 yX0_fires wsX0_fires) := goodIn_app (goodIn_of _ (by decide +kernel)) ggX0_contradict_X0_fires
theorem dX0_contradict_0 : decode cX0_contradict 0 = .ok (.iconst 0, 1) := by decide +kernel
theorem dX0_contradict_1 : decode cX0_contradict 1 = .ok (.istore_n 2, 1) := by decide +kernel
theorem dX0_contradict_2 : decode cX0_contradict 2 = .ok (.iload_n 2, 1) := by decide +kernel
theorem dX0_contradict_3 : decode cX0_contradict 3 = .ok (.aload_n 0, 1) := by decide +kernel
theorem dX0_contradict_4 : decode cX0_contradict 4 = .ok (.getfield 22, 3) := by decide +kernel
theorem dX0_contradict_7 : decode cX0_contradict 7 = .ok (.if_icmp .ge 30, 3) := by decide +kernel
theorem dX0_contradict_10 : decode cX0_contradict 10 = .ok (.aload_n 0, 1) := by decide +kernel
theorem dX0_contradict_11 : decode cX0_contradict 11 = .ok (.getfield 15, 3) := by decide +kernel
theorem dX0_contradict_14 : decode cX0_contradict 14 = .ok (.iload_n 2, 1) := by decide +kernel
theorem dX0_contradict_15 : decode cX0_contradict 15 = .ok (.iaload, 1) := by decide +kernel
theorem dX0_contradict_16 : decode cX0_contradict 16 = .ok (.iconst (-1), 1) := by decide +kernel
theorem dX0_contradict_17 : decode cX0_contradict 17 = .ok (.if_icmp .ne 14, 3) := by decide +kernel
theorem dX0_contradict_20 : decode cX0_contradict 20 = .ok (.aload_n 0, 1) := by decide +kernel
theorem dX0_contradict_21 : decode cX0_contradict 21 = .ok (.iload_n 2, 1) := by decide +kernel
theorem dX0_contradict_22 : decode cX0_contradict 22 = .ok (.iload_n 1, 1) := by decide +kernel
theorem dX0_contradict_23 : decode cX0_contradict 23 = .ok (.invokevirtual 26, 3) := by decide +kernel
theorem dX0_contradict_26 : decode cX0_contradict 26 = .ok (.ifCond .eq 5, 3) := by decide +kernel
theorem dX0_contradict_29 : decode cX0_contradict 29 = .ok (.iconst 1, 1) := by decide +kernel
theorem dX0_contradict_30 : decode cX0_contradict 30 = .ok (.ireturn, 1) := by decide +kernel
theorem dX0_contradict_31 : decode cX0_contradict 31 = .ok (.iinc 2 1, 3) := by decide +kernel
theorem dX0_contradict_34 : decode cX0_contradict 34 = .ok (.goto (-32), 3) := by decide +kernel
theorem dX0_contradict_37 : decode cX0_contradict 37 = .ok (.iconst 0, 1) := by decide +kernel
theorem dX0_contradict_38 : decode cX0_contradict 38 = .ok (.ireturn, 1) := by decide +kernel
set_option maxRecDepth 20000 in
theorem ggX0_firstDeriving_X0_fires : GoodIn wsX0_firstDeriving wsX0_fires := goodIn_r _ [7, 8, 9, 10, 11, 12, 13] (by decide +kernel) (by decide +kernel)
set_option maxRecDepth 20000 in
theorem gX0_firstDeriving_X0_fires : GoodIn wsX0_firstDeriving (wsV RX0 26 RX0 yX0_fires wsX0_fires) := goodIn_app (goodIn_of _ (by decide +kernel)) ggX0_firstDeriving_X0_fires
theorem dX0_firstDeriving_0 : decode cX0_firstDeriving 0 = .ok (.iconst 0, 1) := by decide +kernel
theorem dX0_firstDeriving_1 : decode cX0_firstDeriving 1 = .ok (.istore_n 3, 1) := by decide +kernel
theorem dX0_firstDeriving_2 : decode cX0_firstDeriving 2 = .ok (.iload_n 3, 1) := by decide +kernel
theorem dX0_firstDeriving_3 : decode cX0_firstDeriving 3 = .ok (.aload_n 0, 1) := by decide +kernel
theorem dX0_firstDeriving_4 : decode cX0_firstDeriving 4 = .ok (.getfield 22, 3) := by decide +kernel
theorem dX0_firstDeriving_7 : decode cX0_firstDeriving 7 = .ok (.if_icmp .ge 30, 3) := by decide +kernel
theorem dX0_firstDeriving_10 : decode cX0_firstDeriving 10 = .ok (.aload_n 0, 1) := by decide +kernel
theorem dX0_firstDeriving_11 : decode cX0_firstDeriving 11 = .ok (.getfield 15, 3) := by decide +kernel
theorem dX0_firstDeriving_14 : decode cX0_firstDeriving 14 = .ok (.iload_n 3, 1) := by decide +kernel
theorem dX0_firstDeriving_15 : decode cX0_firstDeriving 15 = .ok (.iaload, 1) := by decide +kernel
theorem dX0_firstDeriving_16 : decode cX0_firstDeriving 16 = .ok (.iload_n 1, 1) := by decide +kernel
theorem dX0_firstDeriving_17 : decode cX0_firstDeriving 17 = .ok (.if_icmp .ne 14, 3) := by decide +kernel
theorem dX0_firstDeriving_20 : decode cX0_firstDeriving 20 = .ok (.aload_n 0, 1) := by decide +kernel
theorem dX0_firstDeriving_21 : decode cX0_firstDeriving 21 = .ok (.iload_n 3, 1) := by decide +kernel
theorem dX0_firstDeriving_22 : decode cX0_firstDeriving 22 = .ok (.iload_n 2, 1) := by decide +kernel
theorem dX0_firstDeriving_23 : decode cX0_firstDeriving 23 = .ok (.invokevirtual 26, 3) := by decide +kernel
theorem dX0_firstDeriving_26 : decode cX0_firstDeriving 26 = .ok (.ifCond .eq 5, 3) := by decide +kernel
theorem dX0_firstDeriving_29 : decode cX0_firstDeriving 29 = .ok (.iload_n 3, 1) := by decide +kernel
theorem dX0_firstDeriving_30 : decode cX0_firstDeriving 30 = .ok (.ireturn, 1) := by decide +kernel
theorem dX0_firstDeriving_31 : decode cX0_firstDeriving 31 = .ok (.iinc 3 1, 3) := by decide +kernel
theorem dX0_firstDeriving_34 : decode cX0_firstDeriving 34 = .ok (.goto (-32), 3) := by decide +kernel
theorem dX0_firstDeriving_37 : decode cX0_firstDeriving 37 = .ok (.bipush (-2), 2) := by decide +kernel
theorem dX0_firstDeriving_39 : decode cX0_firstDeriving 39 = .ok (.ireturn, 1) := by decide +kernel
set_option maxRecDepth 20000 in
theorem ggX0_mixRules_X2_mix : GoodIn wsX0_mixRules wsX2_mix := goodIn_r _ [7, 8] (by decide +kernel) (by decide +kernel)
set_option maxRecDepth 20000 in
theorem gX0_mixRules_X2_mix_n34 : GoodIn wsX0_mixRules (wsX2_mix) := ggX0_mixRules_X2_mix
theorem dX0_mixRules_0 : decode cX0_mixRules 0 = .ok (.lload_n 1, 1) := by decide +kernel
theorem dX0_mixRules_1 : decode cX0_mixRules 1 = .ok (.aload_n 0, 1) := by decide +kernel
theorem dX0_mixRules_2 : decode cX0_mixRules 2 = .ok (.getfield 22, 3) := by decide +kernel
theorem dX0_mixRules_5 : decode cX0_mixRules 5 = .ok (.i2l, 1) := by decide +kernel
theorem dX0_mixRules_6 : decode cX0_mixRules 6 = .ok (.invokestatic 34, 3) := by decide +kernel
theorem dX0_mixRules_9 : decode cX0_mixRules 9 = .ok (.lstore_n 3, 1) := by decide +kernel
theorem dX0_mixRules_10 : decode cX0_mixRules 10 = .ok (.iconst 0, 1) := by decide +kernel
theorem dX0_mixRules_11 : decode cX0_mixRules 11 = .ok (.istore 5, 2) := by decide +kernel
theorem dX0_mixRules_13 : decode cX0_mixRules 13 = .ok (.iload 5, 2) := by decide +kernel
theorem dX0_mixRules_15 : decode cX0_mixRules 15 = .ok (.aload_n 0, 1) := by decide +kernel
theorem dX0_mixRules_16 : decode cX0_mixRules 16 = .ok (.getfield 22, 3) := by decide +kernel
theorem dX0_mixRules_19 : decode cX0_mixRules 19 = .ok (.if_icmp .ge 55, 3) := by decide +kernel
theorem dX0_mixRules_22 : decode cX0_mixRules 22 = .ok (.lload_n 3, 1) := by decide +kernel
theorem dX0_mixRules_23 : decode cX0_mixRules 23 = .ok (.aload_n 0, 1) := by decide +kernel
theorem dX0_mixRules_24 : decode cX0_mixRules 24 = .ok (.getfield 9, 3) := by decide +kernel
theorem dX0_mixRules_27 : decode cX0_mixRules 27 = .ok (.iload 5, 2) := by decide +kernel
theorem dX0_mixRules_29 : decode cX0_mixRules 29 = .ok (.iaload, 1) := by decide +kernel
theorem dX0_mixRules_30 : decode cX0_mixRules 30 = .ok (.i2l, 1) := by decide +kernel
theorem dX0_mixRules_31 : decode cX0_mixRules 31 = .ok (.invokestatic 34, 3) := by decide +kernel
theorem dX0_mixRules_34 : decode cX0_mixRules 34 = .ok (.lstore_n 3, 1) := by decide +kernel
theorem dX0_mixRules_35 : decode cX0_mixRules 35 = .ok (.lload_n 3, 1) := by decide +kernel
theorem dX0_mixRules_36 : decode cX0_mixRules 36 = .ok (.aload_n 0, 1) := by decide +kernel
theorem dX0_mixRules_37 : decode cX0_mixRules 37 = .ok (.getfield 15, 3) := by decide +kernel
theorem dX0_mixRules_40 : decode cX0_mixRules 40 = .ok (.iload 5, 2) := by decide +kernel
theorem dX0_mixRules_42 : decode cX0_mixRules 42 = .ok (.iaload, 1) := by decide +kernel
theorem dX0_mixRules_43 : decode cX0_mixRules 43 = .ok (.i2l, 1) := by decide +kernel
theorem dX0_mixRules_44 : decode cX0_mixRules 44 = .ok (.invokestatic 34, 3) := by decide +kernel
theorem dX0_mixRules_47 : decode cX0_mixRules 47 = .ok (.lstore_n 3, 1) := by decide +kernel
theorem dX0_mixRules_48 : decode cX0_mixRules 48 = .ok (.lload_n 3, 1) := by decide +kernel
theorem dX0_mixRules_49 : decode cX0_mixRules 49 = .ok (.aload_n 0, 1) := by decide +kernel
theorem dX0_mixRules_50 : decode cX0_mixRules 50 = .ok (.getfield 18, 3) := by decide +kernel
theorem dX0_mixRules_53 : decode cX0_mixRules 53 = .ok (.iload 5, 2) := by decide +kernel
theorem dX0_mixRules_55 : decode cX0_mixRules 55 = .ok (.baload, 1) := by decide +kernel
theorem dX0_mixRules_56 : decode cX0_mixRules 56 = .ok (.ifCond .eq 7, 3) := by decide +kernel
theorem dX0_mixRules_59 : decode cX0_mixRules 59 = .ok (.lconst 1, 1) := by decide +kernel
theorem dX0_mixRules_60 : decode cX0_mixRules 60 = .ok (.goto 4, 3) := by decide +kernel
theorem dX0_mixRules_63 : decode cX0_mixRules 63 = .ok (.lconst 0, 1) := by decide +kernel
theorem dX0_mixRules_64 : decode cX0_mixRules 64 = .ok (.invokestatic 34, 3) := by decide +kernel
theorem dX0_mixRules_67 : decode cX0_mixRules 67 = .ok (.lstore_n 3, 1) := by decide +kernel
theorem dX0_mixRules_68 : decode cX0_mixRules 68 = .ok (.iinc 5 1, 3) := by decide +kernel
theorem dX0_mixRules_71 : decode cX0_mixRules 71 = .ok (.goto (-58), 3) := by decide +kernel
theorem dX0_mixRules_74 : decode cX0_mixRules 74 = .ok (.lload_n 3, 1) := by decide +kernel
theorem dX0_mixRules_75 : decode cX0_mixRules 75 = .ok (.lreturn, 1) := by decide +kernel
theorem dX1_init_0 : decode cX1_init 0 = .ok (.aload_n 0, 1) := by decide +kernel
theorem dX1_init_1 : decode cX1_init 1 = .ok (.invokespecial 3, 3) := by decide +kernel
theorem dX1_init_4 : decode cX1_init 4 = .ok (.aload_n 0, 1) := by decide +kernel
theorem dX1_init_5 : decode cX1_init 5 = .ok (.sipush 512, 3) := by decide +kernel
theorem dX1_init_8 : decode cX1_init 8 = .ok (.newarray .int, 2) := by decide +kernel
theorem dX1_init_10 : decode cX1_init 10 = .ok (.putfield 9, 3) := by decide +kernel
theorem dX1_init_13 : decode cX1_init 13 = .ok (.aload_n 0, 1) := by decide +kernel
theorem dX1_init_14 : decode cX1_init 14 = .ok (.sipush 512, 3) := by decide +kernel
theorem dX1_init_17 : decode cX1_init 17 = .ok (.newarray .int, 2) := by decide +kernel
theorem dX1_init_19 : decode cX1_init 19 = .ok (.putfield 15, 3) := by decide +kernel
theorem dX1_init_22 : decode cX1_init 22 = .ok (.aload_n 0, 1) := by decide +kernel
theorem dX1_init_23 : decode cX1_init 23 = .ok (.sipush 512, 3) := by decide +kernel
theorem dX1_init_26 : decode cX1_init 26 = .ok (.newarray .boolean, 2) := by decide +kernel
theorem dX1_init_28 : decode cX1_init 28 = .ok (.putfield 18, 3) := by decide +kernel
theorem dX1_init_31 : decode cX1_init 31 = .ok (.aload_n 0, 1) := by decide +kernel
theorem dX1_init_32 : decode cX1_init 32 = .ok (.sipush 512, 3) := by decide +kernel
theorem dX1_init_35 : decode cX1_init 35 = .ok (.newarray .boolean, 2) := by decide +kernel
theorem dX1_init_37 : decode cX1_init 37 = .ok (.putfield 22, 3) := by decide +kernel
theorem dX1_init_40 : decode cX1_init 40 = .ok (.aload_n 0, 1) := by decide +kernel
theorem dX1_init_41 : decode cX1_init 41 = .ok (.sipush 512, 3) := by decide +kernel
theorem dX1_init_44 : decode cX1_init 44 = .ok (.newarray .boolean, 2) := by decide +kernel
theorem dX1_init_46 : decode cX1_init 46 = .ok (.putfield 25, 3) := by decide +kernel
theorem dX1_init_49 : decode cX1_init 49 = .ok (.aload_n 0, 1) := by decide +kernel
theorem dX1_init_50 : decode cX1_init 50 = .ok (.iconst 0, 1) := by decide +kernel
theorem dX1_init_51 : decode cX1_init 51 = .ok (.putfield 28, 3) := by decide +kernel
theorem dX1_init_54 : decode cX1_init 54 = .ok (.aload_n 0, 1) := by decide +kernel
theorem dX1_init_55 : decode cX1_init 55 = .ok (.iconst 1, 1) := by decide +kernel
theorem dX1_init_56 : decode cX1_init 56 = .ok (.putfield 32, 3) := by decide +kernel
theorem dX1_init_59 : decode cX1_init 59 = .ok (.return_, 1) := by decide +kernel
set_option maxRecDepth 20000 in
theorem ggX1_make_X1_deriveAll : GoodIn wsX1_make wsX1_deriveAll := goodIn_r _ [12, 4, 1, 13, 14, 15, 16, 17, 18, 19, 20, 21, 22, 23, 24, 25, 26, 27, 28, 29, 49, 50, 51, 52, 53, 54, 55, 56, 57, 58, 59] (by decide +kernel) (by decide +kernel)
set_option maxRecDepth 20000 in
theorem gX1_make_X1_deriveAll : GoodIn wsX1_make (wsV RX1 35 RX1 yX1_deriveAll wsX1_deriveAll) := goodIn_app (goodIn_of _ (by decide +kernel)) ggX1_make_X1_deriveAll
set_option maxRecDepth 20000 in
theorem ggX1_make_X0_contradict : GoodIn wsX1_make wsX0_contradict := goodIn_r _ [33, 22, 23, 24, 25, 26, 16, 27, 28, 29, 56, 57, 58, 59] (by decide +kernel) (by decide +kernel)
set_option maxRecDepth 20000 in
theorem gX1_make_X0_contradict : GoodIn wsX1_make (wsV RX1 39 RX0 yX0_contradict wsX0_contradict) := goodIn_app (goodIn_of _ (by decide +kernel)) ggX1_make_X0_contradict
set_option maxRecDepth 20000 in
theorem ggX1_make_X1_heldBelow : GoodIn wsX1_make wsX1_heldBelow := goodIn_r _ [37, 1, 4, 38, 39, 40, 49, 50, 51, 52, 53, 54, 55] (by decide +kernel) (by decide +kernel)
set_option maxRecDepth 20000 in
theorem gX1_make_X1_heldBelow : GoodIn wsX1_make (wsV RX1 45 RX1 yX1_heldBelow wsX1_heldBelow) := goodIn_app (goodIn_of _ (by decide +kernel)) ggX1_make_X1_heldBelow
set_option maxRecDepth 20000 in
theorem ggX1_make_X1_isSoundBelow : GoodIn wsX1_make wsX1_isSoundBelow := goodIn_r _ [44, 1, 3, 38, 39, 40, 49, 50, 51, 52, 53, 54, 55] (by decide +kernel) (by decide +kernel)
set_option maxRecDepth 20000 in
theorem gX1_make_X1_isSoundBelow : GoodIn wsX1_make (wsV RX1 49 RX1 yX1_isSoundBelow wsX1_isSoundBelow) := goodIn_app (goodIn_of _ (by decide +kernel)) ggX1_make_X1_isSoundBelow
set_option maxRecDepth 20000 in
theorem ggX1_make_X1_isSoundAbove : GoodIn wsX1_make wsX1_isSoundAbove := goodIn_r _ [48, 1, 3, 38, 39, 40, 49, 50, 51, 52, 53, 54, 55] (by decide +kernel) (by decide +kernel)
set_option maxRecDepth 20000 in
theorem gX1_make_X1_isSoundAbove : GoodIn wsX1_make (wsV RX1 52 RX1 yX1_isSoundAbove wsX1_isSoundAbove) := goodIn_app (goodIn_of _ (by decide +kernel)) ggX1_make_X1_isSoundAbove
theorem dX1_make_0 : decode cX1_make 0 = .ok (.aload_n 0, 1) := by decide +kernel
theorem dX1_make_1 : decode cX1_make 1 = .ok (.iload_n 3, 1) := by decide +kernel
theorem dX1_make_2 : decode cX1_make 2 = .ok (.putfield 28, 3) := by decide +kernel
theorem dX1_make_5 : decode cX1_make 5 = .ok (.aload_n 0, 1) := by decide +kernel
theorem dX1_make_6 : decode cX1_make 6 = .ok (.iconst 1, 1) := by decide +kernel
theorem dX1_make_7 : decode cX1_make 7 = .ok (.iload_n 3, 1) := by decide +kernel
theorem dX1_make_8 : decode cX1_make 8 = .ok (.ishl, 1) := by decide +kernel
theorem dX1_make_9 : decode cX1_make 9 = .ok (.putfield 32, 3) := by decide +kernel
theorem dX1_make_12 : decode cX1_make 12 = .ok (.aload_n 0, 1) := by decide +kernel
theorem dX1_make_13 : decode cX1_make 13 = .ok (.aload_n 1, 1) := by decide +kernel
theorem dX1_make_14 : decode cX1_make 14 = .ok (.aload_n 2, 1) := by decide +kernel
theorem dX1_make_15 : decode cX1_make 15 = .ok (.invokevirtual 35, 3) := by decide +kernel
theorem dX1_make_18 : decode cX1_make 18 = .ok (.iconst 0, 1) := by decide +kernel
theorem dX1_make_19 : decode cX1_make 19 = .ok (.istore 4, 2) := by decide +kernel
theorem dX1_make_21 : decode cX1_make 21 = .ok (.iload 4, 2) := by decide +kernel
theorem dX1_make_23 : decode cX1_make 23 = .ok (.aload_n 0, 1) := by decide +kernel
theorem dX1_make_24 : decode cX1_make 24 = .ok (.getfield 32, 3) := by decide +kernel
theorem dX1_make_27 : decode cX1_make 27 = .ok (.if_icmp .ge 35, 3) := by decide +kernel
theorem dX1_make_30 : decode cX1_make 30 = .ok (.aload_n 0, 1) := by decide +kernel
theorem dX1_make_31 : decode cX1_make 31 = .ok (.getfield 18, 3) := by decide +kernel
theorem dX1_make_34 : decode cX1_make 34 = .ok (.iload 4, 2) := by decide +kernel
theorem dX1_make_36 : decode cX1_make 36 = .ok (.aload_n 1, 1) := by decide +kernel
theorem dX1_make_37 : decode cX1_make 37 = .ok (.aload_n 0, 1) := by decide +kernel
theorem dX1_make_38 : decode cX1_make 38 = .ok (.getfield 9, 3) := by decide +kernel
theorem dX1_make_41 : decode cX1_make 41 = .ok (.iload 4, 2) := by decide +kernel
theorem dX1_make_43 : decode cX1_make 43 = .ok (.iaload, 1) := by decide +kernel
theorem dX1_make_44 : decode cX1_make 44 = .ok (.invokevirtual 39, 3) := by decide +kernel
theorem dX1_make_47 : decode cX1_make 47 = .ok (.ifCond .ne 7, 3) := by decide +kernel
theorem dX1_make_50 : decode cX1_make 50 = .ok (.iconst 1, 1) := by decide +kernel
theorem dX1_make_51 : decode cX1_make 51 = .ok (.goto 4, 3) := by decide +kernel
theorem dX1_make_54 : decode cX1_make 54 = .ok (.iconst 0, 1) := by decide +kernel
theorem dX1_make_55 : decode cX1_make 55 = .ok (.bastore, 1) := by decide +kernel
theorem dX1_make_56 : decode cX1_make 56 = .ok (.iinc 4 1, 3) := by decide +kernel
theorem dX1_make_59 : decode cX1_make 59 = .ok (.goto (-38), 3) := by decide +kernel
theorem dX1_make_62 : decode cX1_make 62 = .ok (.iconst 0, 1) := by decide +kernel
theorem dX1_make_63 : decode cX1_make 63 = .ok (.istore 4, 2) := by decide +kernel
theorem dX1_make_65 : decode cX1_make 65 = .ok (.iload 4, 2) := by decide +kernel
theorem dX1_make_67 : decode cX1_make 67 = .ok (.aload_n 0, 1) := by decide +kernel
theorem dX1_make_68 : decode cX1_make 68 = .ok (.getfield 32, 3) := by decide +kernel
theorem dX1_make_71 : decode cX1_make 71 = .ok (.if_icmp .ge 108, 3) := by decide +kernel
theorem dX1_make_74 : decode cX1_make 74 = .ok (.aload_n 0, 1) := by decide +kernel
theorem dX1_make_75 : decode cX1_make 75 = .ok (.getfield 15, 3) := by decide +kernel
theorem dX1_make_78 : decode cX1_make 78 = .ok (.iload 4, 2) := by decide +kernel
theorem dX1_make_80 : decode cX1_make 80 = .ok (.aload_n 0, 1) := by decide +kernel
theorem dX1_make_81 : decode cX1_make 81 = .ok (.getfield 18, 3) := by decide +kernel
theorem dX1_make_84 : decode cX1_make 84 = .ok (.iload 4, 2) := by decide +kernel
theorem dX1_make_86 : decode cX1_make 86 = .ok (.baload, 1) := by decide +kernel
theorem dX1_make_87 : decode cX1_make 87 = .ok (.ifCond .eq 22, 3) := by decide +kernel
theorem dX1_make_90 : decode cX1_make 90 = .ok (.aload_n 0, 1) := by decide +kernel
theorem dX1_make_91 : decode cX1_make 91 = .ok (.getfield 9, 3) := by decide +kernel
theorem dX1_make_94 : decode cX1_make 94 = .ok (.iload 4, 2) := by decide +kernel
theorem dX1_make_96 : decode cX1_make 96 = .ok (.iaload, 1) := by decide +kernel
theorem dX1_make_97 : decode cX1_make 97 = .ok (.aload_n 0, 1) := by decide +kernel
theorem dX1_make_98 : decode cX1_make 98 = .ok (.iload 4, 2) := by decide +kernel
theorem dX1_make_100 : decode cX1_make 100 = .ok (.invokevirtual 45, 3) := by decide +kernel
theorem dX1_make_103 : decode cX1_make 103 = .ok (.iconst (-1), 1) := by decide +kernel
theorem dX1_make_104 : decode cX1_make 104 = .ok (.ixor, 1) := by decide +kernel
theorem dX1_make_105 : decode cX1_make 105 = .ok (.iand, 1) := by decide +kernel
theorem dX1_make_106 : decode cX1_make 106 = .ok (.goto 4, 3) := by decide +kernel
theorem dX1_make_109 : decode cX1_make 109 = .ok (.iconst 0, 1) := by decide +kernel
theorem dX1_make_110 : decode cX1_make 110 = .ok (.iastore, 1) := by decide +kernel
theorem dX1_make_111 : decode cX1_make 111 = .ok (.aload_n 0, 1) := by decide +kernel
theorem dX1_make_112 : decode cX1_make 112 = .ok (.getfield 22, 3) := by decide +kernel
theorem dX1_make_115 : decode cX1_make 115 = .ok (.iload 4, 2) := by decide +kernel
theorem dX1_make_117 : decode cX1_make 117 = .ok (.aload_n 0, 1) := by decide +kernel
theorem dX1_make_118 : decode cX1_make 118 = .ok (.getfield 18, 3) := by decide +kernel
theorem dX1_make_121 : decode cX1_make 121 = .ok (.iload 4, 2) := by decide +kernel
theorem dX1_make_123 : decode cX1_make 123 = .ok (.baload, 1) := by decide +kernel
theorem dX1_make_124 : decode cX1_make 124 = .ok (.ifCond .ne 16, 3) := by decide +kernel
theorem dX1_make_127 : decode cX1_make 127 = .ok (.aload_n 0, 1) := by decide +kernel
theorem dX1_make_128 : decode cX1_make 128 = .ok (.iload 4, 2) := by decide +kernel
theorem dX1_make_130 : decode cX1_make 130 = .ok (.invokevirtual 49, 3) := by decide +kernel
theorem dX1_make_133 : decode cX1_make 133 = .ok (.ifCond .eq 7, 3) := by decide +kernel
theorem dX1_make_136 : decode cX1_make 136 = .ok (.iconst 1, 1) := by decide +kernel
theorem dX1_make_137 : decode cX1_make 137 = .ok (.goto 4, 3) := by decide +kernel
theorem dX1_make_140 : decode cX1_make 140 = .ok (.iconst 0, 1) := by decide +kernel
theorem dX1_make_141 : decode cX1_make 141 = .ok (.bastore, 1) := by decide +kernel
theorem dX1_make_142 : decode cX1_make 142 = .ok (.aload_n 0, 1) := by decide +kernel
theorem dX1_make_143 : decode cX1_make 143 = .ok (.getfield 25, 3) := by decide +kernel
theorem dX1_make_146 : decode cX1_make 146 = .ok (.iload 4, 2) := by decide +kernel
theorem dX1_make_148 : decode cX1_make 148 = .ok (.aload_n 0, 1) := by decide +kernel
theorem dX1_make_149 : decode cX1_make 149 = .ok (.getfield 18, 3) := by decide +kernel
theorem dX1_make_152 : decode cX1_make 152 = .ok (.iload 4, 2) := by decide +kernel
theorem dX1_make_154 : decode cX1_make 154 = .ok (.baload, 1) := by decide +kernel
theorem dX1_make_155 : decode cX1_make 155 = .ok (.ifCond .eq 16, 3) := by decide +kernel
theorem dX1_make_158 : decode cX1_make 158 = .ok (.aload_n 0, 1) := by decide +kernel
theorem dX1_make_159 : decode cX1_make 159 = .ok (.iload 4, 2) := by decide +kernel
theorem dX1_make_161 : decode cX1_make 161 = .ok (.invokevirtual 52, 3) := by decide +kernel
theorem dX1_make_164 : decode cX1_make 164 = .ok (.ifCond .ne 7, 3) := by decide +kernel
theorem dX1_make_167 : decode cX1_make 167 = .ok (.iconst 1, 1) := by decide +kernel
theorem dX1_make_168 : decode cX1_make 168 = .ok (.goto 4, 3) := by decide +kernel
theorem dX1_make_171 : decode cX1_make 171 = .ok (.iconst 0, 1) := by decide +kernel
theorem dX1_make_172 : decode cX1_make 172 = .ok (.bastore, 1) := by decide +kernel
theorem dX1_make_173 : decode cX1_make 173 = .ok (.iinc 4 1, 3) := by decide +kernel
theorem dX1_make_176 : decode cX1_make 176 = .ok (.goto (-111), 3) := by decide +kernel
theorem dX1_make_179 : decode cX1_make 179 = .ok (.return_, 1) := by decide +kernel
set_option maxRecDepth 20000 in
theorem ggX1_deriveAll_X0_closure : GoodIn wsX1_deriveAll wsX0_closure := goodIn_r _ [7, 8, 9, 10, 6, 11, 12, 13, 14, 15, 16, 17, 18, 19, 27, 28, 29, 30] (by decide +kernel) (by decide +kernel)
set_option maxRecDepth 20000 in
theorem gX1_deriveAll_X0_closure : GoodIn wsX1_deriveAll (wsV RX1 55 RX0 yX0_closure wsX0_closure) := goodIn_app (goodIn_of _ (by decide +kernel)) ggX1_deriveAll_X0_closure
theorem dX1_deriveAll_0 : decode cX1_deriveAll 0 = .ok (.aload_n 0, 1) := by decide +kernel
theorem dX1_deriveAll_1 : decode cX1_deriveAll 1 = .ok (.getfield 9, 3) := by decide +kernel
theorem dX1_deriveAll_4 : decode cX1_deriveAll 4 = .ok (.iconst 0, 1) := by decide +kernel
theorem dX1_deriveAll_5 : decode cX1_deriveAll 5 = .ok (.aload_n 1, 1) := by decide +kernel
theorem dX1_deriveAll_6 : decode cX1_deriveAll 6 = .ok (.iconst 0, 1) := by decide +kernel
theorem dX1_deriveAll_7 : decode cX1_deriveAll 7 = .ok (.invokevirtual 55, 3) := by decide +kernel
theorem dX1_deriveAll_10 : decode cX1_deriveAll 10 = .ok (.iastore, 1) := by decide +kernel
theorem dX1_deriveAll_11 : decode cX1_deriveAll 11 = .ok (.iconst 0, 1) := by decide +kernel
theorem dX1_deriveAll_12 : decode cX1_deriveAll 12 = .ok (.istore_n 3, 1) := by decide +kernel
theorem dX1_deriveAll_13 : decode cX1_deriveAll 13 = .ok (.iload_n 3, 1) := by decide +kernel
theorem dX1_deriveAll_14 : decode cX1_deriveAll 14 = .ok (.aload_n 0, 1) := by decide +kernel
theorem dX1_deriveAll_15 : decode cX1_deriveAll 15 = .ok (.getfield 28, 3) := by decide +kernel
theorem dX1_deriveAll_18 : decode cX1_deriveAll 18 = .ok (.if_icmp .ge 57, 3) := by decide +kernel
theorem dX1_deriveAll_21 : decode cX1_deriveAll 21 = .ok (.iconst 1, 1) := by decide +kernel
theorem dX1_deriveAll_22 : decode cX1_deriveAll 22 = .ok (.iload_n 3, 1) := by decide +kernel
theorem dX1_deriveAll_23 : decode cX1_deriveAll 23 = .ok (.ishl, 1) := by decide +kernel
theorem dX1_deriveAll_24 : decode cX1_deriveAll 24 = .ok (.istore 4, 2) := by decide +kernel
theorem dX1_deriveAll_26 : decode cX1_deriveAll 26 = .ok (.iconst 0, 1) := by decide +kernel
theorem dX1_deriveAll_27 : decode cX1_deriveAll 27 = .ok (.istore 5, 2) := by decide +kernel
theorem dX1_deriveAll_29 : decode cX1_deriveAll 29 = .ok (.iload 5, 2) := by decide +kernel
theorem dX1_deriveAll_31 : decode cX1_deriveAll 31 = .ok (.iload 4, 2) := by decide +kernel
theorem dX1_deriveAll_33 : decode cX1_deriveAll 33 = .ok (.if_icmp .ge 36, 3) := by decide +kernel
theorem dX1_deriveAll_36 : decode cX1_deriveAll 36 = .ok (.aload_n 0, 1) := by decide +kernel
theorem dX1_deriveAll_37 : decode cX1_deriveAll 37 = .ok (.getfield 9, 3) := by decide +kernel
theorem dX1_deriveAll_40 : decode cX1_deriveAll 40 = .ok (.iload 4, 2) := by decide +kernel
theorem dX1_deriveAll_42 : decode cX1_deriveAll 42 = .ok (.iload 5, 2) := by decide +kernel
theorem dX1_deriveAll_44 : decode cX1_deriveAll 44 = .ok (.iadd, 1) := by decide +kernel
theorem dX1_deriveAll_45 : decode cX1_deriveAll 45 = .ok (.aload_n 1, 1) := by decide +kernel
theorem dX1_deriveAll_46 : decode cX1_deriveAll 46 = .ok (.aload_n 0, 1) := by decide +kernel
theorem dX1_deriveAll_47 : decode cX1_deriveAll 47 = .ok (.getfield 9, 3) := by decide +kernel
theorem dX1_deriveAll_50 : decode cX1_deriveAll 50 = .ok (.iload 5, 2) := by decide +kernel
theorem dX1_deriveAll_52 : decode cX1_deriveAll 52 = .ok (.iaload, 1) := by decide +kernel
theorem dX1_deriveAll_53 : decode cX1_deriveAll 53 = .ok (.iconst 1, 1) := by decide +kernel
theorem dX1_deriveAll_54 : decode cX1_deriveAll 54 = .ok (.aload_n 2, 1) := by decide +kernel
theorem dX1_deriveAll_55 : decode cX1_deriveAll 55 = .ok (.iload_n 3, 1) := by decide +kernel
theorem dX1_deriveAll_56 : decode cX1_deriveAll 56 = .ok (.iaload, 1) := by decide +kernel
theorem dX1_deriveAll_57 : decode cX1_deriveAll 57 = .ok (.ishl, 1) := by decide +kernel
theorem dX1_deriveAll_58 : decode cX1_deriveAll 58 = .ok (.ior, 1) := by decide +kernel
theorem dX1_deriveAll_59 : decode cX1_deriveAll 59 = .ok (.invokevirtual 55, 3) := by decide +kernel
theorem dX1_deriveAll_62 : decode cX1_deriveAll 62 = .ok (.iastore, 1) := by decide +kernel
theorem dX1_deriveAll_63 : decode cX1_deriveAll 63 = .ok (.iinc 5 1, 3) := by decide +kernel
theorem dX1_deriveAll_66 : decode cX1_deriveAll 66 = .ok (.goto (-37), 3) := by decide +kernel
theorem dX1_deriveAll_69 : decode cX1_deriveAll 69 = .ok (.iinc 3 1, 3) := by decide +kernel
theorem dX1_deriveAll_72 : decode cX1_deriveAll 72 = .ok (.goto (-59), 3) := by decide +kernel
theorem dX1_deriveAll_75 : decode cX1_deriveAll 75 = .ok (.return_, 1) := by decide +kernel
set_option maxRecDepth 20000 in
theorem ggX1_heldBelow_X2_contains : GoodIn wsX1_heldBelow wsX2_contains := goodIn_r _ [5] (by decide +kernel) (by decide +kernel)
set_option maxRecDepth 20000 in
theorem gX1_heldBelow_X2_contains_n58 : GoodIn wsX1_heldBelow (wsX2_contains) := ggX1_heldBelow_X2_contains
theorem dX1_heldBelow_0 : decode cX1_heldBelow 0 = .ok (.iconst 0, 1) := by decide +kernel
theorem dX1_heldBelow_1 : decode cX1_heldBelow 1 = .ok (.istore_n 2, 1) := by decide +kernel
theorem dX1_heldBelow_2 : decode cX1_heldBelow 2 = .ok (.iconst 0, 1) := by decide +kernel
theorem dX1_heldBelow_3 : decode cX1_heldBelow 3 = .ok (.istore_n 3, 1) := by decide +kernel
theorem dX1_heldBelow_4 : decode cX1_heldBelow 4 = .ok (.iload_n 3, 1) := by decide +kernel
theorem dX1_heldBelow_5 : decode cX1_heldBelow 5 = .ok (.aload_n 0, 1) := by decide +kernel
theorem dX1_heldBelow_6 : decode cX1_heldBelow 6 = .ok (.getfield 28, 3) := by decide +kernel
theorem dX1_heldBelow_9 : decode cX1_heldBelow 9 = .ok (.if_icmp .ge 30, 3) := by decide +kernel
theorem dX1_heldBelow_12 : decode cX1_heldBelow 12 = .ok (.iload_n 1, 1) := by decide +kernel
theorem dX1_heldBelow_13 : decode cX1_heldBelow 13 = .ok (.iload_n 3, 1) := by decide +kernel
theorem dX1_heldBelow_14 : decode cX1_heldBelow 14 = .ok (.invokestatic 58, 3) := by decide +kernel
theorem dX1_heldBelow_17 : decode cX1_heldBelow 17 = .ok (.ifCond .eq 16, 3) := by decide +kernel
theorem dX1_heldBelow_20 : decode cX1_heldBelow 20 = .ok (.iload_n 2, 1) := by decide +kernel
theorem dX1_heldBelow_21 : decode cX1_heldBelow 21 = .ok (.aload_n 0, 1) := by decide +kernel
theorem dX1_heldBelow_22 : decode cX1_heldBelow 22 = .ok (.getfield 9, 3) := by decide +kernel
theorem dX1_heldBelow_25 : decode cX1_heldBelow 25 = .ok (.iload_n 1, 1) := by decide +kernel
theorem dX1_heldBelow_26 : decode cX1_heldBelow 26 = .ok (.iconst 1, 1) := by decide +kernel
theorem dX1_heldBelow_27 : decode cX1_heldBelow 27 = .ok (.iload_n 3, 1) := by decide +kernel
theorem dX1_heldBelow_28 : decode cX1_heldBelow 28 = .ok (.ishl, 1) := by decide +kernel
theorem dX1_heldBelow_29 : decode cX1_heldBelow 29 = .ok (.isub, 1) := by decide +kernel
theorem dX1_heldBelow_30 : decode cX1_heldBelow 30 = .ok (.iaload, 1) := by decide +kernel
theorem dX1_heldBelow_31 : decode cX1_heldBelow 31 = .ok (.ior, 1) := by decide +kernel
theorem dX1_heldBelow_32 : decode cX1_heldBelow 32 = .ok (.istore_n 2, 1) := by decide +kernel
theorem dX1_heldBelow_33 : decode cX1_heldBelow 33 = .ok (.iinc 3 1, 3) := by decide +kernel
theorem dX1_heldBelow_36 : decode cX1_heldBelow 36 = .ok (.goto (-32), 3) := by decide +kernel
theorem dX1_heldBelow_39 : decode cX1_heldBelow 39 = .ok (.iload_n 2, 1) := by decide +kernel
theorem dX1_heldBelow_40 : decode cX1_heldBelow 40 = .ok (.ireturn, 1) := by decide +kernel
set_option maxRecDepth 20000 in
theorem ggX1_isSoundBelow_X2_contains : GoodIn wsX1_isSoundBelow wsX2_contains := goodIn_r _ [5] (by decide +kernel) (by decide +kernel)
set_option maxRecDepth 20000 in
theorem gX1_isSoundBelow_X2_contains_n58 : GoodIn wsX1_isSoundBelow (wsX2_contains) := ggX1_isSoundBelow_X2_contains
theorem dX1_isSoundBelow_0 : decode cX1_isSoundBelow 0 = .ok (.iconst 0, 1) := by decide +kernel
theorem dX1_isSoundBelow_1 : decode cX1_isSoundBelow 1 = .ok (.istore_n 2, 1) := by decide +kernel
theorem dX1_isSoundBelow_2 : decode cX1_isSoundBelow 2 = .ok (.iload_n 2, 1) := by decide +kernel
theorem dX1_isSoundBelow_3 : decode cX1_isSoundBelow 3 = .ok (.aload_n 0, 1) := by decide +kernel
theorem dX1_isSoundBelow_4 : decode cX1_isSoundBelow 4 = .ok (.getfield 28, 3) := by decide +kernel
theorem dX1_isSoundBelow_7 : decode cX1_isSoundBelow 7 = .ok (.if_icmp .ge 32, 3) := by decide +kernel
theorem dX1_isSoundBelow_10 : decode cX1_isSoundBelow 10 = .ok (.iload_n 1, 1) := by decide +kernel
theorem dX1_isSoundBelow_11 : decode cX1_isSoundBelow 11 = .ok (.iload_n 2, 1) := by decide +kernel
theorem dX1_isSoundBelow_12 : decode cX1_isSoundBelow 12 = .ok (.invokestatic 58, 3) := by decide +kernel
theorem dX1_isSoundBelow_15 : decode cX1_isSoundBelow 15 = .ok (.ifCond .eq 18, 3) := by decide +kernel
theorem dX1_isSoundBelow_18 : decode cX1_isSoundBelow 18 = .ok (.aload_n 0, 1) := by decide +kernel
theorem dX1_isSoundBelow_19 : decode cX1_isSoundBelow 19 = .ok (.getfield 18, 3) := by decide +kernel
theorem dX1_isSoundBelow_22 : decode cX1_isSoundBelow 22 = .ok (.iload_n 1, 1) := by decide +kernel
theorem dX1_isSoundBelow_23 : decode cX1_isSoundBelow 23 = .ok (.iconst 1, 1) := by decide +kernel
theorem dX1_isSoundBelow_24 : decode cX1_isSoundBelow 24 = .ok (.iload_n 2, 1) := by decide +kernel
theorem dX1_isSoundBelow_25 : decode cX1_isSoundBelow 25 = .ok (.ishl, 1) := by decide +kernel
theorem dX1_isSoundBelow_26 : decode cX1_isSoundBelow 26 = .ok (.isub, 1) := by decide +kernel
theorem dX1_isSoundBelow_27 : decode cX1_isSoundBelow 27 = .ok (.baload, 1) := by decide +kernel
theorem dX1_isSoundBelow_28 : decode cX1_isSoundBelow 28 = .ok (.ifCond .ne 5, 3) := by decide +kernel
theorem dX1_isSoundBelow_31 : decode cX1_isSoundBelow 31 = .ok (.iconst 0, 1) := by decide +kernel
theorem dX1_isSoundBelow_32 : decode cX1_isSoundBelow 32 = .ok (.ireturn, 1) := by decide +kernel
theorem dX1_isSoundBelow_33 : decode cX1_isSoundBelow 33 = .ok (.iinc 2 1, 3) := by decide +kernel
theorem dX1_isSoundBelow_36 : decode cX1_isSoundBelow 36 = .ok (.goto (-34), 3) := by decide +kernel
theorem dX1_isSoundBelow_39 : decode cX1_isSoundBelow 39 = .ok (.iconst 1, 1) := by decide +kernel
theorem dX1_isSoundBelow_40 : decode cX1_isSoundBelow 40 = .ok (.ireturn, 1) := by decide +kernel
set_option maxRecDepth 20000 in
theorem ggX1_isSoundAbove_X2_contains : GoodIn wsX1_isSoundAbove wsX2_contains := goodIn_r _ [5] (by decide +kernel) (by decide +kernel)
set_option maxRecDepth 20000 in
theorem gX1_isSoundAbove_X2_contains_n58 : GoodIn wsX1_isSoundAbove (wsX2_contains) := ggX1_isSoundAbove_X2_contains
theorem dX1_isSoundAbove_0 : decode cX1_isSoundAbove 0 = .ok (.iconst 0, 1) := by decide +kernel
theorem dX1_isSoundAbove_1 : decode cX1_isSoundAbove 1 = .ok (.istore_n 2, 1) := by decide +kernel
theorem dX1_isSoundAbove_2 : decode cX1_isSoundAbove 2 = .ok (.iload_n 2, 1) := by decide +kernel
theorem dX1_isSoundAbove_3 : decode cX1_isSoundAbove 3 = .ok (.aload_n 0, 1) := by decide +kernel
theorem dX1_isSoundAbove_4 : decode cX1_isSoundAbove 4 = .ok (.getfield 28, 3) := by decide +kernel
theorem dX1_isSoundAbove_7 : decode cX1_isSoundAbove 7 = .ok (.if_icmp .ge 32, 3) := by decide +kernel
theorem dX1_isSoundAbove_10 : decode cX1_isSoundAbove 10 = .ok (.iload_n 1, 1) := by decide +kernel
theorem dX1_isSoundAbove_11 : decode cX1_isSoundAbove 11 = .ok (.iload_n 2, 1) := by decide +kernel
theorem dX1_isSoundAbove_12 : decode cX1_isSoundAbove 12 = .ok (.invokestatic 58, 3) := by decide +kernel
theorem dX1_isSoundAbove_15 : decode cX1_isSoundAbove 15 = .ok (.ifCond .ne 18, 3) := by decide +kernel
theorem dX1_isSoundAbove_18 : decode cX1_isSoundAbove 18 = .ok (.aload_n 0, 1) := by decide +kernel
theorem dX1_isSoundAbove_19 : decode cX1_isSoundAbove 19 = .ok (.getfield 18, 3) := by decide +kernel
theorem dX1_isSoundAbove_22 : decode cX1_isSoundAbove 22 = .ok (.iload_n 1, 1) := by decide +kernel
theorem dX1_isSoundAbove_23 : decode cX1_isSoundAbove 23 = .ok (.iconst 1, 1) := by decide +kernel
theorem dX1_isSoundAbove_24 : decode cX1_isSoundAbove 24 = .ok (.iload_n 2, 1) := by decide +kernel
theorem dX1_isSoundAbove_25 : decode cX1_isSoundAbove 25 = .ok (.ishl, 1) := by decide +kernel
theorem dX1_isSoundAbove_26 : decode cX1_isSoundAbove 26 = .ok (.iadd, 1) := by decide +kernel
theorem dX1_isSoundAbove_27 : decode cX1_isSoundAbove 27 = .ok (.baload, 1) := by decide +kernel
theorem dX1_isSoundAbove_28 : decode cX1_isSoundAbove 28 = .ok (.ifCond .eq 5, 3) := by decide +kernel
theorem dX1_isSoundAbove_31 : decode cX1_isSoundAbove 31 = .ok (.iconst 1, 1) := by decide +kernel
theorem dX1_isSoundAbove_32 : decode cX1_isSoundAbove 32 = .ok (.ireturn, 1) := by decide +kernel
theorem dX1_isSoundAbove_33 : decode cX1_isSoundAbove 33 = .ok (.iinc 2 1, 3) := by decide +kernel
theorem dX1_isSoundAbove_36 : decode cX1_isSoundAbove 36 = .ok (.goto (-34), 3) := by decide +kernel
theorem dX1_isSoundAbove_39 : decode cX1_isSoundAbove 39 = .ok (.iconst 0, 1) := by decide +kernel
theorem dX1_isSoundAbove_40 : decode cX1_isSoundAbove 40 = .ok (.ireturn, 1) := by decide +kernel
theorem dX1_environmentCount_0 : decode cX1_environmentCount 0 = .ok (.aload_n 0, 1) := by decide +kernel
theorem dX1_environmentCount_1 : decode cX1_environmentCount 1 = .ok (.getfield 32, 3) := by decide +kernel
theorem dX1_environmentCount_4 : decode cX1_environmentCount 4 = .ok (.ireturn, 1) := by decide +kernel
theorem dX1_isSound_0 : decode cX1_isSound 0 = .ok (.aload_n 0, 1) := by decide +kernel
theorem dX1_isSound_1 : decode cX1_isSound 1 = .ok (.getfield 18, 3) := by decide +kernel
theorem dX1_isSound_4 : decode cX1_isSound 4 = .ok (.iload_n 1, 1) := by decide +kernel
theorem dX1_isSound_5 : decode cX1_isSound 5 = .ok (.baload, 1) := by decide +kernel
theorem dX1_isSound_6 : decode cX1_isSound 6 = .ok (.ireturn, 1) := by decide +kernel
theorem dX1_isWorld_0 : decode cX1_isWorld 0 = .ok (.aload_n 0, 1) := by decide +kernel
theorem dX1_isWorld_1 : decode cX1_isWorld 1 = .ok (.getfield 25, 3) := by decide +kernel
theorem dX1_isWorld_4 : decode cX1_isWorld 4 = .ok (.iload_n 1, 1) := by decide +kernel
theorem dX1_isWorld_5 : decode cX1_isWorld 5 = .ok (.baload, 1) := by decide +kernel
theorem dX1_isWorld_6 : decode cX1_isWorld 6 = .ok (.ireturn, 1) := by decide +kernel
set_option maxRecDepth 20000 in
theorem ggX1_isHeld_X2_contains : GoodIn wsX1_isHeld wsX2_contains := goodIn_r _ [4] (by decide +kernel) (by decide +kernel)
set_option maxRecDepth 20000 in
theorem gX1_isHeld_X2_contains_n58 : GoodIn wsX1_isHeld (wsX2_contains) := ggX1_isHeld_X2_contains
theorem dX1_isHeld_0 : decode cX1_isHeld 0 = .ok (.aload_n 0, 1) := by decide +kernel
theorem dX1_isHeld_1 : decode cX1_isHeld 1 = .ok (.getfield 9, 3) := by decide +kernel
theorem dX1_isHeld_4 : decode cX1_isHeld 4 = .ok (.iload_n 2, 1) := by decide +kernel
theorem dX1_isHeld_5 : decode cX1_isHeld 5 = .ok (.iaload, 1) := by decide +kernel
theorem dX1_isHeld_6 : decode cX1_isHeld 6 = .ok (.iload_n 1, 1) := by decide +kernel
theorem dX1_isHeld_7 : decode cX1_isHeld 7 = .ok (.invokestatic 58, 3) := by decide +kernel
theorem dX1_isHeld_10 : decode cX1_isHeld 10 = .ok (.ireturn, 1) := by decide +kernel
set_option maxRecDepth 20000 in
theorem ggX1_isInLabel_X2_contains : GoodIn wsX1_isInLabel wsX2_contains := goodIn_r _ [4] (by decide +kernel) (by decide +kernel)
set_option maxRecDepth 20000 in
theorem gX1_isInLabel_X2_contains_n58 : GoodIn wsX1_isInLabel (wsX2_contains) := ggX1_isInLabel_X2_contains
theorem dX1_isInLabel_0 : decode cX1_isInLabel 0 = .ok (.aload_n 0, 1) := by decide +kernel
theorem dX1_isInLabel_1 : decode cX1_isInLabel 1 = .ok (.getfield 15, 3) := by decide +kernel
theorem dX1_isInLabel_4 : decode cX1_isInLabel 4 = .ok (.iload_n 2, 1) := by decide +kernel
theorem dX1_isInLabel_5 : decode cX1_isInLabel 5 = .ok (.iaload, 1) := by decide +kernel
theorem dX1_isInLabel_6 : decode cX1_isInLabel 6 = .ok (.iload_n 1, 1) := by decide +kernel
theorem dX1_isInLabel_7 : decode cX1_isInLabel 7 = .ok (.invokestatic 58, 3) := by decide +kernel
theorem dX1_isInLabel_10 : decode cX1_isInLabel 10 = .ok (.ireturn, 1) := by decide +kernel
set_option maxRecDepth 20000 in
theorem ggX1_sizeOfLabel_X1_isInLabel : GoodIn wsX1_sizeOfLabel wsX1_isInLabel := goodIn_r _ [6, 7, 8, 9, 10, 11, 12, 13, 14, 15, 16, 17] (by decide +kernel) (by decide +kernel)
set_option maxRecDepth 20000 in
theorem gX1_sizeOfLabel_X1_isInLabel : GoodIn wsX1_sizeOfLabel (wsV RX1 62 RX1 yX1_isInLabel wsX1_isInLabel) := goodIn_app (goodIn_of _ (by decide +kernel)) ggX1_sizeOfLabel_X1_isInLabel
theorem dX1_sizeOfLabel_0 : decode cX1_sizeOfLabel 0 = .ok (.iconst 0, 1) := by decide +kernel
theorem dX1_sizeOfLabel_1 : decode cX1_sizeOfLabel 1 = .ok (.istore_n 2, 1) := by decide +kernel
theorem dX1_sizeOfLabel_2 : decode cX1_sizeOfLabel 2 = .ok (.iconst 0, 1) := by decide +kernel
theorem dX1_sizeOfLabel_3 : decode cX1_sizeOfLabel 3 = .ok (.istore_n 3, 1) := by decide +kernel
theorem dX1_sizeOfLabel_4 : decode cX1_sizeOfLabel 4 = .ok (.iload_n 3, 1) := by decide +kernel
theorem dX1_sizeOfLabel_5 : decode cX1_sizeOfLabel 5 = .ok (.aload_n 0, 1) := by decide +kernel
theorem dX1_sizeOfLabel_6 : decode cX1_sizeOfLabel 6 = .ok (.getfield 32, 3) := by decide +kernel
theorem dX1_sizeOfLabel_9 : decode cX1_sizeOfLabel 9 = .ok (.if_icmp .ge 21, 3) := by decide +kernel
theorem dX1_sizeOfLabel_12 : decode cX1_sizeOfLabel 12 = .ok (.aload_n 0, 1) := by decide +kernel
theorem dX1_sizeOfLabel_13 : decode cX1_sizeOfLabel 13 = .ok (.iload_n 1, 1) := by decide +kernel
theorem dX1_sizeOfLabel_14 : decode cX1_sizeOfLabel 14 = .ok (.iload_n 3, 1) := by decide +kernel
theorem dX1_sizeOfLabel_15 : decode cX1_sizeOfLabel 15 = .ok (.invokevirtual 62, 3) := by decide +kernel
theorem dX1_sizeOfLabel_18 : decode cX1_sizeOfLabel 18 = .ok (.ifCond .eq 6, 3) := by decide +kernel
theorem dX1_sizeOfLabel_21 : decode cX1_sizeOfLabel 21 = .ok (.iinc 2 1, 3) := by decide +kernel
theorem dX1_sizeOfLabel_24 : decode cX1_sizeOfLabel 24 = .ok (.iinc 3 1, 3) := by decide +kernel
theorem dX1_sizeOfLabel_27 : decode cX1_sizeOfLabel 27 = .ok (.goto (-23), 3) := by decide +kernel
theorem dX1_sizeOfLabel_30 : decode cX1_sizeOfLabel 30 = .ok (.iload_n 2, 1) := by decide +kernel
theorem dX1_sizeOfLabel_31 : decode cX1_sizeOfLabel 31 = .ok (.ireturn, 1) := by decide +kernel
set_option maxRecDepth 20000 in
theorem ggX1_memberOfLabel_X1_isInLabel : GoodIn wsX1_memberOfLabel wsX1_isInLabel := goodIn_r _ [6, 7, 8, 9, 10, 11, 12, 13, 14, 15, 16, 17] (by decide +kernel) (by decide +kernel)
set_option maxRecDepth 20000 in
theorem gX1_memberOfLabel_X1_isInLabel : GoodIn wsX1_memberOfLabel (wsV RX1 62 RX1 yX1_isInLabel wsX1_isInLabel) := goodIn_app (goodIn_of _ (by decide +kernel)) ggX1_memberOfLabel_X1_isInLabel
theorem dX1_memberOfLabel_0 : decode cX1_memberOfLabel 0 = .ok (.iconst 0, 1) := by decide +kernel
theorem dX1_memberOfLabel_1 : decode cX1_memberOfLabel 1 = .ok (.istore_n 3, 1) := by decide +kernel
theorem dX1_memberOfLabel_2 : decode cX1_memberOfLabel 2 = .ok (.iconst 0, 1) := by decide +kernel
theorem dX1_memberOfLabel_3 : decode cX1_memberOfLabel 3 = .ok (.istore 4, 2) := by decide +kernel
theorem dX1_memberOfLabel_5 : decode cX1_memberOfLabel 5 = .ok (.iload 4, 2) := by decide +kernel
theorem dX1_memberOfLabel_7 : decode cX1_memberOfLabel 7 = .ok (.aload_n 0, 1) := by decide +kernel
theorem dX1_memberOfLabel_8 : decode cX1_memberOfLabel 8 = .ok (.getfield 32, 3) := by decide +kernel
theorem dX1_memberOfLabel_11 : decode cX1_memberOfLabel 11 = .ok (.if_icmp .ge 30, 3) := by decide +kernel
theorem dX1_memberOfLabel_14 : decode cX1_memberOfLabel 14 = .ok (.aload_n 0, 1) := by decide +kernel
theorem dX1_memberOfLabel_15 : decode cX1_memberOfLabel 15 = .ok (.iload_n 1, 1) := by decide +kernel
theorem dX1_memberOfLabel_16 : decode cX1_memberOfLabel 16 = .ok (.iload 4, 2) := by decide +kernel
theorem dX1_memberOfLabel_18 : decode cX1_memberOfLabel 18 = .ok (.invokevirtual 62, 3) := by decide +kernel
theorem dX1_memberOfLabel_21 : decode cX1_memberOfLabel 21 = .ok (.ifCond .eq 14, 3) := by decide +kernel
theorem dX1_memberOfLabel_24 : decode cX1_memberOfLabel 24 = .ok (.iload_n 3, 1) := by decide +kernel
theorem dX1_memberOfLabel_25 : decode cX1_memberOfLabel 25 = .ok (.iload_n 2, 1) := by decide +kernel
theorem dX1_memberOfLabel_26 : decode cX1_memberOfLabel 26 = .ok (.if_icmp .ne 6, 3) := by decide +kernel
theorem dX1_memberOfLabel_29 : decode cX1_memberOfLabel 29 = .ok (.iload 4, 2) := by decide +kernel
theorem dX1_memberOfLabel_31 : decode cX1_memberOfLabel 31 = .ok (.ireturn, 1) := by decide +kernel
theorem dX1_memberOfLabel_32 : decode cX1_memberOfLabel 32 = .ok (.iinc 3 1, 3) := by decide +kernel
theorem dX1_memberOfLabel_35 : decode cX1_memberOfLabel 35 = .ok (.iinc 4 1, 3) := by decide +kernel
theorem dX1_memberOfLabel_38 : decode cX1_memberOfLabel 38 = .ok (.goto (-33), 3) := by decide +kernel
theorem dX1_memberOfLabel_41 : decode cX1_memberOfLabel 41 = .ok (.iconst (-1), 1) := by decide +kernel
theorem dX1_memberOfLabel_42 : decode cX1_memberOfLabel 42 = .ok (.ireturn, 1) := by decide +kernel
set_option maxRecDepth 20000 in
theorem ggX1_countNogoods_X1_countMarks : GoodIn wsX1_countNogoods wsX1_countMarks := goodIn_r _ [6, 7, 8, 9, 10, 11, 12, 13, 14] (by decide +kernel) (by decide +kernel)
set_option maxRecDepth 20000 in
theorem gX1_countNogoods_X1_countMarks : GoodIn wsX1_countNogoods (wsV RX1 65 RX1 yX1_countMarks wsX1_countMarks) := goodIn_app (goodIn_of _ (by decide +kernel)) ggX1_countNogoods_X1_countMarks
theorem dX1_countNogoods_0 : decode cX1_countNogoods 0 = .ok (.aload_n 0, 1) := by decide +kernel
theorem dX1_countNogoods_1 : decode cX1_countNogoods 1 = .ok (.aload_n 0, 1) := by decide +kernel
theorem dX1_countNogoods_2 : decode cX1_countNogoods 2 = .ok (.getfield 22, 3) := by decide +kernel
theorem dX1_countNogoods_5 : decode cX1_countNogoods 5 = .ok (.invokevirtual 65, 3) := by decide +kernel
theorem dX1_countNogoods_8 : decode cX1_countNogoods 8 = .ok (.ireturn, 1) := by decide +kernel
set_option maxRecDepth 20000 in
theorem ggX1_nogoodAt_X1_markAt : GoodIn wsX1_nogoodAt wsX1_markAt := goodIn_r _ [6, 7, 8, 9, 10, 11, 12, 13, 14] (by decide +kernel) (by decide +kernel)
set_option maxRecDepth 20000 in
theorem gX1_nogoodAt_X1_markAt : GoodIn wsX1_nogoodAt (wsV RX1 69 RX1 yX1_markAt wsX1_markAt) := goodIn_app (goodIn_of _ (by decide +kernel)) ggX1_nogoodAt_X1_markAt
theorem dX1_nogoodAt_0 : decode cX1_nogoodAt 0 = .ok (.aload_n 0, 1) := by decide +kernel
theorem dX1_nogoodAt_1 : decode cX1_nogoodAt 1 = .ok (.aload_n 0, 1) := by decide +kernel
theorem dX1_nogoodAt_2 : decode cX1_nogoodAt 2 = .ok (.getfield 22, 3) := by decide +kernel
theorem dX1_nogoodAt_5 : decode cX1_nogoodAt 5 = .ok (.iload_n 1, 1) := by decide +kernel
theorem dX1_nogoodAt_6 : decode cX1_nogoodAt 6 = .ok (.invokevirtual 69, 3) := by decide +kernel
theorem dX1_nogoodAt_9 : decode cX1_nogoodAt 9 = .ok (.ireturn, 1) := by decide +kernel
set_option maxRecDepth 20000 in
theorem ggX1_countWorlds_X1_countMarks : GoodIn wsX1_countWorlds wsX1_countMarks := goodIn_r _ [6, 7, 8, 9, 10, 11, 12, 13, 14] (by decide +kernel) (by decide +kernel)
set_option maxRecDepth 20000 in
theorem gX1_countWorlds_X1_countMarks : GoodIn wsX1_countWorlds (wsV RX1 65 RX1 yX1_countMarks wsX1_countMarks) := goodIn_app (goodIn_of _ (by decide +kernel)) ggX1_countWorlds_X1_countMarks
theorem dX1_countWorlds_0 : decode cX1_countWorlds 0 = .ok (.aload_n 0, 1) := by decide +kernel
theorem dX1_countWorlds_1 : decode cX1_countWorlds 1 = .ok (.aload_n 0, 1) := by decide +kernel
theorem dX1_countWorlds_2 : decode cX1_countWorlds 2 = .ok (.getfield 25, 3) := by decide +kernel
theorem dX1_countWorlds_5 : decode cX1_countWorlds 5 = .ok (.invokevirtual 65, 3) := by decide +kernel
theorem dX1_countWorlds_8 : decode cX1_countWorlds 8 = .ok (.ireturn, 1) := by decide +kernel
set_option maxRecDepth 20000 in
theorem ggX1_worldAt_X1_markAt : GoodIn wsX1_worldAt wsX1_markAt := goodIn_r _ [6, 7, 8, 9, 10, 11, 12, 13, 14] (by decide +kernel) (by decide +kernel)
set_option maxRecDepth 20000 in
theorem gX1_worldAt_X1_markAt : GoodIn wsX1_worldAt (wsV RX1 69 RX1 yX1_markAt wsX1_markAt) := goodIn_app (goodIn_of _ (by decide +kernel)) ggX1_worldAt_X1_markAt
theorem dX1_worldAt_0 : decode cX1_worldAt 0 = .ok (.aload_n 0, 1) := by decide +kernel
theorem dX1_worldAt_1 : decode cX1_worldAt 1 = .ok (.aload_n 0, 1) := by decide +kernel
theorem dX1_worldAt_2 : decode cX1_worldAt 2 = .ok (.getfield 25, 3) := by decide +kernel
theorem dX1_worldAt_5 : decode cX1_worldAt 5 = .ok (.iload_n 1, 1) := by decide +kernel
theorem dX1_worldAt_6 : decode cX1_worldAt 6 = .ok (.invokevirtual 69, 3) := by decide +kernel
theorem dX1_worldAt_9 : decode cX1_worldAt 9 = .ok (.ireturn, 1) := by decide +kernel
theorem dX1_countMarks_0 : decode cX1_countMarks 0 = .ok (.iconst 0, 1) := by decide +kernel
theorem dX1_countMarks_1 : decode cX1_countMarks 1 = .ok (.istore_n 2, 1) := by decide +kernel
theorem dX1_countMarks_2 : decode cX1_countMarks 2 = .ok (.iconst 0, 1) := by decide +kernel
theorem dX1_countMarks_3 : decode cX1_countMarks 3 = .ok (.istore_n 3, 1) := by decide +kernel
theorem dX1_countMarks_4 : decode cX1_countMarks 4 = .ok (.iload_n 3, 1) := by decide +kernel
theorem dX1_countMarks_5 : decode cX1_countMarks 5 = .ok (.aload_n 0, 1) := by decide +kernel
theorem dX1_countMarks_6 : decode cX1_countMarks 6 = .ok (.getfield 32, 3) := by decide +kernel
theorem dX1_countMarks_9 : decode cX1_countMarks 9 = .ok (.if_icmp .ge 18, 3) := by decide +kernel
theorem dX1_countMarks_12 : decode cX1_countMarks 12 = .ok (.aload_n 1, 1) := by decide +kernel
theorem dX1_countMarks_13 : decode cX1_countMarks 13 = .ok (.iload_n 3, 1) := by decide +kernel
theorem dX1_countMarks_14 : decode cX1_countMarks 14 = .ok (.baload, 1) := by decide +kernel
theorem dX1_countMarks_15 : decode cX1_countMarks 15 = .ok (.ifCond .eq 6, 3) := by decide +kernel
theorem dX1_countMarks_18 : decode cX1_countMarks 18 = .ok (.iinc 2 1, 3) := by decide +kernel
theorem dX1_countMarks_21 : decode cX1_countMarks 21 = .ok (.iinc 3 1, 3) := by decide +kernel
theorem dX1_countMarks_24 : decode cX1_countMarks 24 = .ok (.goto (-20), 3) := by decide +kernel
theorem dX1_countMarks_27 : decode cX1_countMarks 27 = .ok (.iload_n 2, 1) := by decide +kernel
theorem dX1_countMarks_28 : decode cX1_countMarks 28 = .ok (.ireturn, 1) := by decide +kernel
theorem dX1_markAt_0 : decode cX1_markAt 0 = .ok (.iconst 0, 1) := by decide +kernel
theorem dX1_markAt_1 : decode cX1_markAt 1 = .ok (.istore_n 3, 1) := by decide +kernel
theorem dX1_markAt_2 : decode cX1_markAt 2 = .ok (.iconst 0, 1) := by decide +kernel
theorem dX1_markAt_3 : decode cX1_markAt 3 = .ok (.istore 4, 2) := by decide +kernel
theorem dX1_markAt_5 : decode cX1_markAt 5 = .ok (.iload 4, 2) := by decide +kernel
theorem dX1_markAt_7 : decode cX1_markAt 7 = .ok (.aload_n 0, 1) := by decide +kernel
theorem dX1_markAt_8 : decode cX1_markAt 8 = .ok (.getfield 32, 3) := by decide +kernel
theorem dX1_markAt_11 : decode cX1_markAt 11 = .ok (.if_icmp .ge 27, 3) := by decide +kernel
theorem dX1_markAt_14 : decode cX1_markAt 14 = .ok (.aload_n 1, 1) := by decide +kernel
theorem dX1_markAt_15 : decode cX1_markAt 15 = .ok (.iload 4, 2) := by decide +kernel
theorem dX1_markAt_17 : decode cX1_markAt 17 = .ok (.baload, 1) := by decide +kernel
theorem dX1_markAt_18 : decode cX1_markAt 18 = .ok (.ifCond .eq 14, 3) := by decide +kernel
theorem dX1_markAt_21 : decode cX1_markAt 21 = .ok (.iload_n 3, 1) := by decide +kernel
theorem dX1_markAt_22 : decode cX1_markAt 22 = .ok (.iload_n 2, 1) := by decide +kernel
theorem dX1_markAt_23 : decode cX1_markAt 23 = .ok (.if_icmp .ne 6, 3) := by decide +kernel
theorem dX1_markAt_26 : decode cX1_markAt 26 = .ok (.iload 4, 2) := by decide +kernel
theorem dX1_markAt_28 : decode cX1_markAt 28 = .ok (.ireturn, 1) := by decide +kernel
theorem dX1_markAt_29 : decode cX1_markAt 29 = .ok (.iinc 3 1, 3) := by decide +kernel
theorem dX1_markAt_32 : decode cX1_markAt 32 = .ok (.iinc 4 1, 3) := by decide +kernel
theorem dX1_markAt_35 : decode cX1_markAt 35 = .ok (.goto (-30), 3) := by decide +kernel
theorem dX1_markAt_38 : decode cX1_markAt 38 = .ok (.iconst (-1), 1) := by decide +kernel
theorem dX1_markAt_39 : decode cX1_markAt 39 = .ok (.ireturn, 1) := by decide +kernel
set_option maxRecDepth 20000 in
theorem ggX1_mixLabel_X1_sizeOfLabel : GoodIn wsX1_mixLabel wsX1_sizeOfLabel := goodIn_r _ [6, 1, 7, 8, 9, 5, 10, 11, 12, 13, 14, 18, 19, 20, 21, 22, 23, 24] (by decide +kernel) (by decide +kernel)
set_option maxRecDepth 20000 in
theorem gX1_mixLabel_X1_sizeOfLabel : GoodIn wsX1_mixLabel (wsV RX1 73 RX1 yX1_sizeOfLabel wsX1_sizeOfLabel) := goodIn_app (goodIn_of _ (by decide +kernel)) ggX1_mixLabel_X1_sizeOfLabel
set_option maxRecDepth 20000 in
theorem ggX1_mixLabel_X2_mix : GoodIn wsX1_mixLabel wsX2_mix := goodIn_r _ [16, 17] (by decide +kernel) (by decide +kernel)
set_option maxRecDepth 20000 in
theorem gX1_mixLabel_X2_mix_n76 : GoodIn wsX1_mixLabel (wsX2_mix) := ggX1_mixLabel_X2_mix
set_option maxRecDepth 20000 in
theorem ggX1_mixLabel_X1_isInLabel : GoodIn wsX1_mixLabel wsX1_isInLabel := goodIn_r _ [10, 11, 12, 13, 14, 18, 19, 20, 21, 22, 23, 24] (by decide +kernel) (by decide +kernel)
set_option maxRecDepth 20000 in
theorem gX1_mixLabel_X1_isInLabel : GoodIn wsX1_mixLabel (wsV RX1 62 RX1 yX1_isInLabel wsX1_isInLabel) := goodIn_app (goodIn_of _ (by decide +kernel)) ggX1_mixLabel_X1_isInLabel
theorem dX1_mixLabel_0 : decode cX1_mixLabel 0 = .ok (.lload_n 1, 1) := by decide +kernel
theorem dX1_mixLabel_1 : decode cX1_mixLabel 1 = .ok (.aload_n 0, 1) := by decide +kernel
theorem dX1_mixLabel_2 : decode cX1_mixLabel 2 = .ok (.iload_n 3, 1) := by decide +kernel
theorem dX1_mixLabel_3 : decode cX1_mixLabel 3 = .ok (.invokevirtual 73, 3) := by decide +kernel
theorem dX1_mixLabel_6 : decode cX1_mixLabel 6 = .ok (.i2l, 1) := by decide +kernel
theorem dX1_mixLabel_7 : decode cX1_mixLabel 7 = .ok (.invokestatic 76, 3) := by decide +kernel
theorem dX1_mixLabel_10 : decode cX1_mixLabel 10 = .ok (.lstore 4, 2) := by decide +kernel
theorem dX1_mixLabel_12 : decode cX1_mixLabel 12 = .ok (.iconst 0, 1) := by decide +kernel
theorem dX1_mixLabel_13 : decode cX1_mixLabel 13 = .ok (.istore 6, 2) := by decide +kernel
theorem dX1_mixLabel_15 : decode cX1_mixLabel 15 = .ok (.iload 6, 2) := by decide +kernel
theorem dX1_mixLabel_17 : decode cX1_mixLabel 17 = .ok (.aload_n 0, 1) := by decide +kernel
theorem dX1_mixLabel_18 : decode cX1_mixLabel 18 = .ok (.getfield 32, 3) := by decide +kernel
theorem dX1_mixLabel_21 : decode cX1_mixLabel 21 = .ok (.if_icmp .ge 29, 3) := by decide +kernel
theorem dX1_mixLabel_24 : decode cX1_mixLabel 24 = .ok (.aload_n 0, 1) := by decide +kernel
theorem dX1_mixLabel_25 : decode cX1_mixLabel 25 = .ok (.iload_n 3, 1) := by decide +kernel
theorem dX1_mixLabel_26 : decode cX1_mixLabel 26 = .ok (.iload 6, 2) := by decide +kernel
theorem dX1_mixLabel_28 : decode cX1_mixLabel 28 = .ok (.invokevirtual 62, 3) := by decide +kernel
theorem dX1_mixLabel_31 : decode cX1_mixLabel 31 = .ok (.ifCond .eq 13, 3) := by decide +kernel
theorem dX1_mixLabel_34 : decode cX1_mixLabel 34 = .ok (.lload 4, 2) := by decide +kernel
theorem dX1_mixLabel_36 : decode cX1_mixLabel 36 = .ok (.iload 6, 2) := by decide +kernel
theorem dX1_mixLabel_38 : decode cX1_mixLabel 38 = .ok (.i2l, 1) := by decide +kernel
theorem dX1_mixLabel_39 : decode cX1_mixLabel 39 = .ok (.invokestatic 76, 3) := by decide +kernel
theorem dX1_mixLabel_42 : decode cX1_mixLabel 42 = .ok (.lstore 4, 2) := by decide +kernel
theorem dX1_mixLabel_44 : decode cX1_mixLabel 44 = .ok (.iinc 6 1, 3) := by decide +kernel
theorem dX1_mixLabel_47 : decode cX1_mixLabel 47 = .ok (.goto (-32), 3) := by decide +kernel
theorem dX1_mixLabel_50 : decode cX1_mixLabel 50 = .ok (.lload 4, 2) := by decide +kernel
theorem dX1_mixLabel_52 : decode cX1_mixLabel 52 = .ok (.lreturn, 1) := by decide +kernel
set_option maxRecDepth 20000 in
theorem ggX1_mixNogoods_X1_mixMarks : GoodIn wsX1_mixNogoods wsX1_mixMarks := goodIn_r _ [6, 7, 8, 9, 10, 5, 11, 12, 13, 14, 15, 16, 17, 18, 19, 20, 21, 22] (by decide +kernel) (by decide +kernel)
set_option maxRecDepth 20000 in
theorem gX1_mixNogoods_X1_mixMarks : GoodIn wsX1_mixNogoods (wsV RX1 80 RX1 yX1_mixMarks wsX1_mixMarks) := goodIn_app (goodIn_of _ (by decide +kernel)) ggX1_mixNogoods_X1_mixMarks
theorem dX1_mixNogoods_0 : decode cX1_mixNogoods 0 = .ok (.aload_n 0, 1) := by decide +kernel
theorem dX1_mixNogoods_1 : decode cX1_mixNogoods 1 = .ok (.lload_n 1, 1) := by decide +kernel
theorem dX1_mixNogoods_2 : decode cX1_mixNogoods 2 = .ok (.aload_n 0, 1) := by decide +kernel
theorem dX1_mixNogoods_3 : decode cX1_mixNogoods 3 = .ok (.getfield 22, 3) := by decide +kernel
theorem dX1_mixNogoods_6 : decode cX1_mixNogoods 6 = .ok (.invokevirtual 80, 3) := by decide +kernel
theorem dX1_mixNogoods_9 : decode cX1_mixNogoods 9 = .ok (.lreturn, 1) := by decide +kernel
set_option maxRecDepth 20000 in
theorem ggX1_mixWorlds_X1_mixMarks : GoodIn wsX1_mixWorlds wsX1_mixMarks := goodIn_r _ [6, 7, 8, 9, 10, 5, 11, 12, 13, 14, 15, 16, 17, 18, 19, 20, 21, 22] (by decide +kernel) (by decide +kernel)
set_option maxRecDepth 20000 in
theorem gX1_mixWorlds_X1_mixMarks : GoodIn wsX1_mixWorlds (wsV RX1 80 RX1 yX1_mixMarks wsX1_mixMarks) := goodIn_app (goodIn_of _ (by decide +kernel)) ggX1_mixWorlds_X1_mixMarks
theorem dX1_mixWorlds_0 : decode cX1_mixWorlds 0 = .ok (.aload_n 0, 1) := by decide +kernel
theorem dX1_mixWorlds_1 : decode cX1_mixWorlds 1 = .ok (.lload_n 1, 1) := by decide +kernel
theorem dX1_mixWorlds_2 : decode cX1_mixWorlds 2 = .ok (.aload_n 0, 1) := by decide +kernel
theorem dX1_mixWorlds_3 : decode cX1_mixWorlds 3 = .ok (.getfield 25, 3) := by decide +kernel
theorem dX1_mixWorlds_6 : decode cX1_mixWorlds 6 = .ok (.invokevirtual 80, 3) := by decide +kernel
theorem dX1_mixWorlds_9 : decode cX1_mixWorlds 9 = .ok (.lreturn, 1) := by decide +kernel
set_option maxRecDepth 20000 in
theorem ggX1_mixMarks_X1_countMarks : GoodIn wsX1_mixMarks wsX1_countMarks := goodIn_r _ [6, 1, 11, 12, 13, 14, 15, 16, 17] (by decide +kernel) (by decide +kernel)
set_option maxRecDepth 20000 in
theorem gX1_mixMarks_X1_countMarks : GoodIn wsX1_mixMarks (wsV RX1 65 RX1 yX1_countMarks wsX1_countMarks) := goodIn_app (goodIn_of _ (by decide +kernel)) ggX1_mixMarks_X1_countMarks
set_option maxRecDepth 20000 in
theorem ggX1_mixMarks_X2_mix : GoodIn wsX1_mixMarks wsX2_mix := goodIn_r _ [9, 10] (by decide +kernel) (by decide +kernel)
set_option maxRecDepth 20000 in
theorem gX1_mixMarks_X2_mix_n76 : GoodIn wsX1_mixMarks (wsX2_mix) := ggX1_mixMarks_X2_mix
theorem dX1_mixMarks_0 : decode cX1_mixMarks 0 = .ok (.lload_n 1, 1) := by decide +kernel
theorem dX1_mixMarks_1 : decode cX1_mixMarks 1 = .ok (.aload_n 0, 1) := by decide +kernel
theorem dX1_mixMarks_2 : decode cX1_mixMarks 2 = .ok (.aload_n 3, 1) := by decide +kernel
theorem dX1_mixMarks_3 : decode cX1_mixMarks 3 = .ok (.invokevirtual 65, 3) := by decide +kernel
theorem dX1_mixMarks_6 : decode cX1_mixMarks 6 = .ok (.i2l, 1) := by decide +kernel
theorem dX1_mixMarks_7 : decode cX1_mixMarks 7 = .ok (.invokestatic 76, 3) := by decide +kernel
theorem dX1_mixMarks_10 : decode cX1_mixMarks 10 = .ok (.lstore 4, 2) := by decide +kernel
theorem dX1_mixMarks_12 : decode cX1_mixMarks 12 = .ok (.iconst 0, 1) := by decide +kernel
theorem dX1_mixMarks_13 : decode cX1_mixMarks 13 = .ok (.istore 6, 2) := by decide +kernel
theorem dX1_mixMarks_15 : decode cX1_mixMarks 15 = .ok (.iload 6, 2) := by decide +kernel
theorem dX1_mixMarks_17 : decode cX1_mixMarks 17 = .ok (.aload_n 0, 1) := by decide +kernel
theorem dX1_mixMarks_18 : decode cX1_mixMarks 18 = .ok (.getfield 32, 3) := by decide +kernel
theorem dX1_mixMarks_21 : decode cX1_mixMarks 21 = .ok (.if_icmp .ge 26, 3) := by decide +kernel
theorem dX1_mixMarks_24 : decode cX1_mixMarks 24 = .ok (.aload_n 3, 1) := by decide +kernel
theorem dX1_mixMarks_25 : decode cX1_mixMarks 25 = .ok (.iload 6, 2) := by decide +kernel
theorem dX1_mixMarks_27 : decode cX1_mixMarks 27 = .ok (.baload, 1) := by decide +kernel
theorem dX1_mixMarks_28 : decode cX1_mixMarks 28 = .ok (.ifCond .eq 13, 3) := by decide +kernel
theorem dX1_mixMarks_31 : decode cX1_mixMarks 31 = .ok (.lload 4, 2) := by decide +kernel
theorem dX1_mixMarks_33 : decode cX1_mixMarks 33 = .ok (.iload 6, 2) := by decide +kernel
theorem dX1_mixMarks_35 : decode cX1_mixMarks 35 = .ok (.i2l, 1) := by decide +kernel
theorem dX1_mixMarks_36 : decode cX1_mixMarks 36 = .ok (.invokestatic 76, 3) := by decide +kernel
theorem dX1_mixMarks_39 : decode cX1_mixMarks 39 = .ok (.lstore 4, 2) := by decide +kernel
theorem dX1_mixMarks_41 : decode cX1_mixMarks 41 = .ok (.iinc 6 1, 3) := by decide +kernel
theorem dX1_mixMarks_44 : decode cX1_mixMarks 44 = .ok (.goto (-29), 3) := by decide +kernel
theorem dX1_mixMarks_47 : decode cX1_mixMarks 47 = .ok (.lload 4, 2) := by decide +kernel
theorem dX1_mixMarks_49 : decode cX1_mixMarks 49 = .ok (.lreturn, 1) := by decide +kernel
set_option maxRecDepth 20000 in
theorem ggX2_init_X0_init : GoodIn wsX2_init wsX0_init := goodIn_r _ [21, 22, 2, 3, 4, 23, 24, 25, 26, 27, 47, 48, 49, 50] (by decide +kernel) (by decide +kernel)
set_option maxRecDepth 20000 in
theorem gX2_init_X0_init : GoodIn wsX2_init (wsX0_init) := ggX2_init_X0_init
set_option maxRecDepth 20000 in
theorem ggX2_init_X1_init : GoodIn wsX2_init wsX1_init := goodIn_r _ [30, 31, 2, 3, 4, 32, 33, 25, 34, 35, 36, 37, 38, 51, 52, 53, 54, 55, 56, 57] (by decide +kernel) (by decide +kernel)
set_option maxRecDepth 20000 in
theorem gX2_init_X1_init : GoodIn wsX2_init (wsX1_init) := ggX2_init_X1_init
theorem dX2_init_0 : decode cX2_init 0 = .ok (.aload_n 0, 1) := by decide +kernel
theorem dX2_init_1 : decode cX2_init 1 = .ok (.invokespecial 3, 3) := by decide +kernel
theorem dX2_init_4 : decode cX2_init 4 = .ok (.aload_n 0, 1) := by decide +kernel
theorem dX2_init_5 : decode cX2_init 5 = .ok (.bipush 24, 2) := by decide +kernel
theorem dX2_init_7 : decode cX2_init 7 = .ok (.newarray .int, 2) := by decide +kernel
theorem dX2_init_9 : decode cX2_init 9 = .ok (.putfield 9, 3) := by decide +kernel
theorem dX2_init_12 : decode cX2_init 12 = .ok (.aload_n 0, 1) := by decide +kernel
theorem dX2_init_13 : decode cX2_init 13 = .ok (.bipush 9, 2) := by decide +kernel
theorem dX2_init_15 : decode cX2_init 15 = .ok (.newarray .int, 2) := by decide +kernel
theorem dX2_init_17 : decode cX2_init 17 = .ok (.putfield 13, 3) := by decide +kernel
theorem dX2_init_20 : decode cX2_init 20 = .ok (.aload_n 0, 1) := by decide +kernel
theorem dX2_init_21 : decode cX2_init 21 = .ok (.bipush 9, 2) := by decide +kernel
theorem dX2_init_23 : decode cX2_init 23 = .ok (.newarray .int, 2) := by decide +kernel
theorem dX2_init_25 : decode cX2_init 25 = .ok (.putfield 16, 3) := by decide +kernel
theorem dX2_init_28 : decode cX2_init 28 = .ok (.aload_n 0, 1) := by decide +kernel
theorem dX2_init_29 : decode cX2_init 29 = .ok (.new 19, 3) := by decide +kernel
theorem dX2_init_32 : decode cX2_init 32 = .ok (.dup, 1) := by decide +kernel
theorem dX2_init_33 : decode cX2_init 33 = .ok (.invokespecial 21, 3) := by decide +kernel
theorem dX2_init_36 : decode cX2_init 36 = .ok (.putfield 22, 3) := by decide +kernel
theorem dX2_init_39 : decode cX2_init 39 = .ok (.aload_n 0, 1) := by decide +kernel
theorem dX2_init_40 : decode cX2_init 40 = .ok (.new 26, 3) := by decide +kernel
theorem dX2_init_43 : decode cX2_init 43 = .ok (.dup, 1) := by decide +kernel
theorem dX2_init_44 : decode cX2_init 44 = .ok (.invokespecial 28, 3) := by decide +kernel
theorem dX2_init_47 : decode cX2_init 47 = .ok (.putfield 29, 3) := by decide +kernel
theorem dX2_init_50 : decode cX2_init 50 = .ok (.aload_n 0, 1) := by decide +kernel
theorem dX2_init_51 : decode cX2_init 51 = .ok (.iconst 0, 1) := by decide +kernel
theorem dX2_init_52 : decode cX2_init 52 = .ok (.putfield 33, 3) := by decide +kernel
theorem dX2_init_55 : decode cX2_init 55 = .ok (.aload_n 0, 1) := by decide +kernel
theorem dX2_init_56 : decode cX2_init 56 = .ok (.iconst 0, 1) := by decide +kernel
theorem dX2_init_57 : decode cX2_init 57 = .ok (.putfield 37, 3) := by decide +kernel
theorem dX2_init_60 : decode cX2_init 60 = .ok (.aload_n 0, 1) := by decide +kernel
theorem dX2_init_61 : decode cX2_init 61 = .ok (.iconst 0, 1) := by decide +kernel
theorem dX2_init_62 : decode cX2_init 62 = .ok (.putfield 40, 3) := by decide +kernel
theorem dX2_init_65 : decode cX2_init 65 = .ok (.return_, 1) := by decide +kernel
set_option maxRecDepth 20000 in
theorem ggX2_addStatement_X2_appendNode : GoodIn wsX2_addStatement wsX2_appendNode := goodIn_r _ [8, 3, 9, 10, 11, 12, 13, 14, 15, 16, 17, 18] (by decide +kernel) (by decide +kernel)
set_option maxRecDepth 20000 in
theorem gX2_addStatement_X2_appendNode : GoodIn wsX2_addStatement (wsV RX2 51 RX2 yX2_appendNode wsX2_appendNode) := goodIn_app (goodIn_of _ (by decide +kernel)) ggX2_addStatement_X2_appendNode
theorem dX2_addStatement_0 : decode cX2_addStatement 0 = .ok (.aload_n 0, 1) := by decide +kernel
theorem dX2_addStatement_1 : decode cX2_addStatement 1 = .ok (.getfield 33, 3) := by decide +kernel
theorem dX2_addStatement_4 : decode cX2_addStatement 4 = .ok (.bipush 24, 2) := by decide +kernel
theorem dX2_addStatement_6 : decode cX2_addStatement 6 = .ok (.if_icmp .lt 13, 3) := by decide +kernel
theorem dX2_addStatement_9 : decode cX2_addStatement 9 = .ok (.new 44, 3) := by decide +kernel
theorem dX2_addStatement_12 : decode cX2_addStatement 12 = .ok (.dup, 1) := by decide +kernel
theorem dX2_addStatement_13 : decode cX2_addStatement 13 = .ok (.ldc 46, 2) := by decide +kernel
theorem dX2_addStatement_15 : decode cX2_addStatement 15 = .ok (.invokespecial 48, 3) := by decide +kernel
theorem dX2_addStatement_18 : decode cX2_addStatement 18 = .ok (.athrow, 1) := by decide +kernel
theorem dX2_addStatement_19 : decode cX2_addStatement 19 = .ok (.aload_n 0, 1) := by decide +kernel
theorem dX2_addStatement_20 : decode cX2_addStatement 20 = .ok (.iconst (-1), 1) := by decide +kernel
theorem dX2_addStatement_21 : decode cX2_addStatement 21 = .ok (.invokevirtual 51, 3) := by decide +kernel
theorem dX2_addStatement_24 : decode cX2_addStatement 24 = .ok (.ireturn, 1) := by decide +kernel
set_option maxRecDepth 20000 in
theorem ggX2_addAssumption_X2_requireWeight : GoodIn wsX2_addAssumption wsX2_requireWeight := goodIn_ca (goodIn_r _ [10, 11, 12] (by decide +kernel) (by decide +kernel)) (goodIn_sub (fun _ h => List.mem_cons_of_mem _ (List.mem_append_right _ h)) (by decide +kernel))
set_option maxRecDepth 20000 in
theorem gX2_addAssumption_X2_requireWeight : GoodIn wsX2_addAssumption (va_wsS RX2 55 yX2_requireWeight wsX2_requireWeight) := goodIn_app (goodIn_of _ (by decide +kernel)) ggX2_addAssumption_X2_requireWeight
set_option maxRecDepth 20000 in
theorem ggX2_addAssumption_X2_appendNode : GoodIn wsX2_addAssumption wsX2_appendNode := goodIn_r _ [16, 3, 17, 18, 19, 20, 21, 22, 23, 24, 25, 26] (by decide +kernel) (by decide +kernel)
set_option maxRecDepth 20000 in
theorem gX2_addAssumption_X2_appendNode : GoodIn wsX2_addAssumption (wsV RX2 51 RX2 yX2_appendNode wsX2_appendNode) := goodIn_app (goodIn_of _ (by decide +kernel)) ggX2_addAssumption_X2_appendNode
theorem dX2_addAssumption_0 : decode cX2_addAssumption 0 = .ok (.iload_n 1, 1) := by decide +kernel
theorem dX2_addAssumption_1 : decode cX2_addAssumption 1 = .ok (.invokestatic 55, 3) := by decide +kernel
theorem dX2_addAssumption_4 : decode cX2_addAssumption 4 = .ok (.aload_n 0, 1) := by decide +kernel
theorem dX2_addAssumption_5 : decode cX2_addAssumption 5 = .ok (.getfield 33, 3) := by decide +kernel
theorem dX2_addAssumption_8 : decode cX2_addAssumption 8 = .ok (.bipush 24, 2) := by decide +kernel
theorem dX2_addAssumption_10 : decode cX2_addAssumption 10 = .ok (.if_icmp .ge 12, 3) := by decide +kernel
theorem dX2_addAssumption_13 : decode cX2_addAssumption 13 = .ok (.aload_n 0, 1) := by decide +kernel
theorem dX2_addAssumption_14 : decode cX2_addAssumption 14 = .ok (.getfield 37, 3) := by decide +kernel
theorem dX2_addAssumption_17 : decode cX2_addAssumption 17 = .ok (.bipush 9, 2) := by decide +kernel
theorem dX2_addAssumption_19 : decode cX2_addAssumption 19 = .ok (.if_icmp .lt 13, 3) := by decide +kernel
theorem dX2_addAssumption_22 : decode cX2_addAssumption 22 = .ok (.new 44, 3) := by decide +kernel
theorem dX2_addAssumption_25 : decode cX2_addAssumption 25 = .ok (.dup, 1) := by decide +kernel
theorem dX2_addAssumption_26 : decode cX2_addAssumption 26 = .ok (.ldc 59, 2) := by decide +kernel
theorem dX2_addAssumption_28 : decode cX2_addAssumption 28 = .ok (.invokespecial 48, 3) := by decide +kernel
theorem dX2_addAssumption_31 : decode cX2_addAssumption 31 = .ok (.athrow, 1) := by decide +kernel
theorem dX2_addAssumption_32 : decode cX2_addAssumption 32 = .ok (.aload_n 0, 1) := by decide +kernel
theorem dX2_addAssumption_33 : decode cX2_addAssumption 33 = .ok (.getfield 37, 3) := by decide +kernel
theorem dX2_addAssumption_36 : decode cX2_addAssumption 36 = .ok (.istore_n 2, 1) := by decide +kernel
theorem dX2_addAssumption_37 : decode cX2_addAssumption 37 = .ok (.aload_n 0, 1) := by decide +kernel
theorem dX2_addAssumption_38 : decode cX2_addAssumption 38 = .ok (.getfield 13, 3) := by decide +kernel
theorem dX2_addAssumption_41 : decode cX2_addAssumption 41 = .ok (.iload_n 2, 1) := by decide +kernel
theorem dX2_addAssumption_42 : decode cX2_addAssumption 42 = .ok (.aload_n 0, 1) := by decide +kernel
theorem dX2_addAssumption_43 : decode cX2_addAssumption 43 = .ok (.getfield 33, 3) := by decide +kernel
theorem dX2_addAssumption_46 : decode cX2_addAssumption 46 = .ok (.iastore, 1) := by decide +kernel
theorem dX2_addAssumption_47 : decode cX2_addAssumption 47 = .ok (.aload_n 0, 1) := by decide +kernel
theorem dX2_addAssumption_48 : decode cX2_addAssumption 48 = .ok (.getfield 16, 3) := by decide +kernel
theorem dX2_addAssumption_51 : decode cX2_addAssumption 51 = .ok (.iload_n 2, 1) := by decide +kernel
theorem dX2_addAssumption_52 : decode cX2_addAssumption 52 = .ok (.iload_n 1, 1) := by decide +kernel
theorem dX2_addAssumption_53 : decode cX2_addAssumption 53 = .ok (.iastore, 1) := by decide +kernel
theorem dX2_addAssumption_54 : decode cX2_addAssumption 54 = .ok (.aload_n 0, 1) := by decide +kernel
theorem dX2_addAssumption_55 : decode cX2_addAssumption 55 = .ok (.iload_n 2, 1) := by decide +kernel
theorem dX2_addAssumption_56 : decode cX2_addAssumption 56 = .ok (.iconst 1, 1) := by decide +kernel
theorem dX2_addAssumption_57 : decode cX2_addAssumption 57 = .ok (.iadd, 1) := by decide +kernel
theorem dX2_addAssumption_58 : decode cX2_addAssumption 58 = .ok (.putfield 37, 3) := by decide +kernel
theorem dX2_addAssumption_61 : decode cX2_addAssumption 61 = .ok (.aload_n 0, 1) := by decide +kernel
theorem dX2_addAssumption_62 : decode cX2_addAssumption 62 = .ok (.iload_n 2, 1) := by decide +kernel
theorem dX2_addAssumption_63 : decode cX2_addAssumption 63 = .ok (.invokevirtual 51, 3) := by decide +kernel
theorem dX2_addAssumption_66 : decode cX2_addAssumption 66 = .ok (.ireturn, 1) := by decide +kernel
set_option maxRecDepth 20000 in
theorem ggX2_setWeight_X2_requireAssumption : GoodIn wsX2_setWeight wsX2_requireAssumption := goodIn_ca (goodIn_r _ [6, 7, 8, 9, 15, 16, 17, 18, 19, 20, 21, 22] (by decide +kernel) (by decide +kernel)) (goodIn_sub (fun _ h => List.mem_cons_of_mem _ (List.mem_append_left _ (List.mem_append_right _ h))) (by decide +kernel))
set_option maxRecDepth 20000 in
theorem gX2_setWeight_X2_requireAssumption : GoodIn wsX2_setWeight (wsV RX2 61 RX2 yX2_requireAssumption wsX2_requireAssumption) := goodIn_app (goodIn_of _ (by decide +kernel)) ggX2_setWeight_X2_requireAssumption
set_option maxRecDepth 20000 in
theorem ggX2_setWeight_X2_requireWeight : GoodIn wsX2_setWeight wsX2_requireWeight := goodIn_ca (goodIn_r _ [12, 13, 14] (by decide +kernel) (by decide +kernel)) (goodIn_sub (fun _ h => List.mem_cons_of_mem _ (List.mem_append_right _ h)) (by decide +kernel))
set_option maxRecDepth 20000 in
theorem gX2_setWeight_X2_requireWeight : GoodIn wsX2_setWeight (va_wsS RX2 55 yX2_requireWeight wsX2_requireWeight) := goodIn_app (goodIn_of _ (by decide +kernel)) ggX2_setWeight_X2_requireWeight
theorem dX2_setWeight_0 : decode cX2_setWeight 0 = .ok (.aload_n 0, 1) := by decide +kernel
theorem dX2_setWeight_1 : decode cX2_setWeight 1 = .ok (.iload_n 1, 1) := by decide +kernel
theorem dX2_setWeight_2 : decode cX2_setWeight 2 = .ok (.invokevirtual 61, 3) := by decide +kernel
theorem dX2_setWeight_5 : decode cX2_setWeight 5 = .ok (.iload_n 2, 1) := by decide +kernel
theorem dX2_setWeight_6 : decode cX2_setWeight 6 = .ok (.invokestatic 55, 3) := by decide +kernel
theorem dX2_setWeight_9 : decode cX2_setWeight 9 = .ok (.aload_n 0, 1) := by decide +kernel
theorem dX2_setWeight_10 : decode cX2_setWeight 10 = .ok (.getfield 16, 3) := by decide +kernel
theorem dX2_setWeight_13 : decode cX2_setWeight 13 = .ok (.iload_n 1, 1) := by decide +kernel
theorem dX2_setWeight_14 : decode cX2_setWeight 14 = .ok (.iaload, 1) := by decide +kernel
theorem dX2_setWeight_15 : decode cX2_setWeight 15 = .ok (.istore_n 3, 1) := by decide +kernel
theorem dX2_setWeight_16 : decode cX2_setWeight 16 = .ok (.aload_n 0, 1) := by decide +kernel
theorem dX2_setWeight_17 : decode cX2_setWeight 17 = .ok (.getfield 16, 3) := by decide +kernel
theorem dX2_setWeight_20 : decode cX2_setWeight 20 = .ok (.iload_n 1, 1) := by decide +kernel
theorem dX2_setWeight_21 : decode cX2_setWeight 21 = .ok (.iload_n 2, 1) := by decide +kernel
theorem dX2_setWeight_22 : decode cX2_setWeight 22 = .ok (.iastore, 1) := by decide +kernel
theorem dX2_setWeight_23 : decode cX2_setWeight 23 = .ok (.iload_n 3, 1) := by decide +kernel
theorem dX2_setWeight_24 : decode cX2_setWeight 24 = .ok (.ireturn, 1) := by decide +kernel
set_option maxRecDepth 20000 in
theorem ggX2_addRule_X2_isSetOf : GoodIn wsX2_addRule wsX2_isSetOf := goodIn_r _ [11] (by decide +kernel) (by decide +kernel)
set_option maxRecDepth 20000 in
theorem gX2_addRule_X2_isSetOf : GoodIn wsX2_addRule (va_wsS RX2 64 yX2_isSetOf wsX2_isSetOf) := goodIn_app (goodIn_of _ (by decide +kernel)) ggX2_addRule_X2_isSetOf
set_option maxRecDepth 20000 in
theorem ggX2_addRule_X2_requireNode : GoodIn wsX2_addRule wsX2_requireNode := goodIn_ca (goodIn_r _ [15, 16, 17, 5, 31, 32, 33, 34, 35, 36, 37, 38] (by decide +kernel) (by decide +kernel)) (goodIn_sub (fun _ h => List.mem_cons_of_mem _ (List.mem_append_right _ h)) (by decide +kernel))
set_option maxRecDepth 20000 in
theorem gX2_addRule_X2_requireNode : GoodIn wsX2_addRule (wsV RX2 73 RX2 yX2_requireNode wsX2_requireNode) := goodIn_app (goodIn_of _ (by decide +kernel)) ggX2_addRule_X2_requireNode
set_option maxRecDepth 20000 in
theorem ggX2_addRule_X0_isFull : GoodIn wsX2_addRule wsX0_isFull := goodIn_r _ [22, 23, 39, 40, 41, 42] (by decide +kernel) (by decide +kernel)
set_option maxRecDepth 20000 in
theorem gX2_addRule_X0_isFull : GoodIn wsX2_addRule (wsV RX2 76 RX0 yX0_isFull wsX0_isFull) := goodIn_app (goodIn_of _ (by decide +kernel)) ggX2_addRule_X0_isFull
set_option maxRecDepth 20000 in
theorem ggX2_addRule_X0_append : GoodIn wsX2_addRule wsX0_append := goodIn_r _ [27, 23, 28, 29, 30, 39, 40, 41, 42] (by decide +kernel) (by decide +kernel)
set_option maxRecDepth 20000 in
theorem gX2_addRule_X0_append : GoodIn wsX2_addRule (wsV RX2 82 RX0 yX0_append wsX0_append) := goodIn_app (goodIn_of _ (by decide +kernel)) ggX2_addRule_X0_append
theorem dX2_addRule_0 : decode cX2_addRule 0 = .ok (.aload_n 0, 1) := by decide +kernel
theorem dX2_addRule_1 : decode cX2_addRule 1 = .ok (.getfield 33, 3) := by decide +kernel
theorem dX2_addRule_4 : decode cX2_addRule 4 = .ok (.iload_n 1, 1) := by decide +kernel
theorem dX2_addRule_5 : decode cX2_addRule 5 = .ok (.invokestatic 64, 3) := by decide +kernel
theorem dX2_addRule_8 : decode cX2_addRule 8 = .ok (.ifCond .ne 13, 3) := by decide +kernel
theorem dX2_addRule_11 : decode cX2_addRule 11 = .ok (.new 68, 3) := by decide +kernel
theorem dX2_addRule_14 : decode cX2_addRule 14 = .ok (.dup, 1) := by decide +kernel
theorem dX2_addRule_15 : decode cX2_addRule 15 = .ok (.ldc 70, 2) := by decide +kernel
theorem dX2_addRule_17 : decode cX2_addRule 17 = .ok (.invokespecial 72, 3) := by decide +kernel
theorem dX2_addRule_20 : decode cX2_addRule 20 = .ok (.athrow, 1) := by decide +kernel
theorem dX2_addRule_21 : decode cX2_addRule 21 = .ok (.iload_n 2, 1) := by decide +kernel
theorem dX2_addRule_22 : decode cX2_addRule 22 = .ok (.iconst (-1), 1) := by decide +kernel
theorem dX2_addRule_23 : decode cX2_addRule 23 = .ok (.if_icmp .eq 8, 3) := by decide +kernel
theorem dX2_addRule_26 : decode cX2_addRule 26 = .ok (.aload_n 0, 1) := by decide +kernel
theorem dX2_addRule_27 : decode cX2_addRule 27 = .ok (.iload_n 2, 1) := by decide +kernel
theorem dX2_addRule_28 : decode cX2_addRule 28 = .ok (.invokevirtual 73, 3) := by decide +kernel
theorem dX2_addRule_31 : decode cX2_addRule 31 = .ok (.aload_n 0, 1) := by decide +kernel
theorem dX2_addRule_32 : decode cX2_addRule 32 = .ok (.getfield 22, 3) := by decide +kernel
theorem dX2_addRule_35 : decode cX2_addRule 35 = .ok (.invokevirtual 76, 3) := by decide +kernel
theorem dX2_addRule_38 : decode cX2_addRule 38 = .ok (.ifCond .eq 13, 3) := by decide +kernel
theorem dX2_addRule_41 : decode cX2_addRule 41 = .ok (.new 44, 3) := by decide +kernel
theorem dX2_addRule_44 : decode cX2_addRule 44 = .ok (.dup, 1) := by decide +kernel
theorem dX2_addRule_45 : decode cX2_addRule 45 = .ok (.ldc 80, 2) := by decide +kernel
theorem dX2_addRule_47 : decode cX2_addRule 47 = .ok (.invokespecial 48, 3) := by decide +kernel
theorem dX2_addRule_50 : decode cX2_addRule 50 = .ok (.athrow, 1) := by decide +kernel
theorem dX2_addRule_51 : decode cX2_addRule 51 = .ok (.aload_n 0, 1) := by decide +kernel
theorem dX2_addRule_52 : decode cX2_addRule 52 = .ok (.iconst 0, 1) := by decide +kernel
theorem dX2_addRule_53 : decode cX2_addRule 53 = .ok (.putfield 40, 3) := by decide +kernel
theorem dX2_addRule_56 : decode cX2_addRule 56 = .ok (.aload_n 0, 1) := by decide +kernel
theorem dX2_addRule_57 : decode cX2_addRule 57 = .ok (.getfield 22, 3) := by decide +kernel
theorem dX2_addRule_60 : decode cX2_addRule 60 = .ok (.iload_n 1, 1) := by decide +kernel
theorem dX2_addRule_61 : decode cX2_addRule 61 = .ok (.iload_n 2, 1) := by decide +kernel
theorem dX2_addRule_62 : decode cX2_addRule 62 = .ok (.invokevirtual 82, 3) := by decide +kernel
theorem dX2_addRule_65 : decode cX2_addRule 65 = .ok (.ireturn, 1) := by decide +kernel
set_option maxRecDepth 20000 in
theorem ggX2_turn_X0_size : GoodIn wsX2_turn wsX0_size := goodIn_r _ [9, 10, 24, 25, 26, 27] (by decide +kernel) (by decide +kernel)
set_option maxRecDepth 20000 in
theorem gX2_turn_X0_size : GoodIn wsX2_turn (wsV RX2 86 RX0 yX0_size wsX0_size) := goodIn_app (goodIn_of _ (by decide +kernel)) ggX2_turn_X0_size
set_option maxRecDepth 20000 in
theorem ggX2_turn_X0_switchTo : GoodIn wsX2_turn wsX0_switchTo := goodIn_r _ [14, 15, 24, 25, 26, 27] (by decide +kernel) (by decide +kernel)
set_option maxRecDepth 20000 in
theorem gX2_turn_X0_switchTo : GoodIn wsX2_turn (wsV RX2 95 RX0 yX0_switchTo wsX0_switchTo) := goodIn_app (goodIn_of _ (by decide +kernel)) ggX2_turn_X0_switchTo
theorem dX2_turn_0 : decode cX2_turn 0 = .ok (.iload_n 1, 1) := by decide +kernel
theorem dX2_turn_1 : decode cX2_turn 1 = .ok (.ifCond .lt 14, 3) := by decide +kernel
theorem dX2_turn_4 : decode cX2_turn 4 = .ok (.iload_n 1, 1) := by decide +kernel
theorem dX2_turn_5 : decode cX2_turn 5 = .ok (.aload_n 0, 1) := by decide +kernel
theorem dX2_turn_6 : decode cX2_turn 6 = .ok (.getfield 22, 3) := by decide +kernel
theorem dX2_turn_9 : decode cX2_turn 9 = .ok (.invokevirtual 86, 3) := by decide +kernel
theorem dX2_turn_12 : decode cX2_turn 12 = .ok (.if_icmp .lt 13, 3) := by decide +kernel
theorem dX2_turn_15 : decode cX2_turn 15 = .ok (.new 90, 3) := by decide +kernel
theorem dX2_turn_18 : decode cX2_turn 18 = .ok (.dup, 1) := by decide +kernel
theorem dX2_turn_19 : decode cX2_turn 19 = .ok (.ldc 92, 2) := by decide +kernel
theorem dX2_turn_21 : decode cX2_turn 21 = .ok (.invokespecial 94, 3) := by decide +kernel
theorem dX2_turn_24 : decode cX2_turn 24 = .ok (.athrow, 1) := by decide +kernel
theorem dX2_turn_25 : decode cX2_turn 25 = .ok (.aload_n 0, 1) := by decide +kernel
theorem dX2_turn_26 : decode cX2_turn 26 = .ok (.iconst 0, 1) := by decide +kernel
theorem dX2_turn_27 : decode cX2_turn 27 = .ok (.putfield 40, 3) := by decide +kernel
theorem dX2_turn_30 : decode cX2_turn 30 = .ok (.aload_n 0, 1) := by decide +kernel
theorem dX2_turn_31 : decode cX2_turn 31 = .ok (.getfield 22, 3) := by decide +kernel
theorem dX2_turn_34 : decode cX2_turn 34 = .ok (.iload_n 1, 1) := by decide +kernel
theorem dX2_turn_35 : decode cX2_turn 35 = .ok (.iload_n 2, 1) := by decide +kernel
theorem dX2_turn_36 : decode cX2_turn 36 = .ok (.invokevirtual 95, 3) := by decide +kernel
theorem dX2_turn_39 : decode cX2_turn 39 = .ok (.ireturn, 1) := by decide +kernel
set_option maxRecDepth 20000 in
theorem ggX2_drop_X0_size : GoodIn wsX2_drop wsX0_size := goodIn_r _ [9, 10, 23, 24, 25, 26] (by decide +kernel) (by decide +kernel)
set_option maxRecDepth 20000 in
theorem gX2_drop_X0_size : GoodIn wsX2_drop (wsV RX2 86 RX0 yX0_size wsX0_size) := goodIn_app (goodIn_of _ (by decide +kernel)) ggX2_drop_X0_size
set_option maxRecDepth 20000 in
theorem ggX2_drop_X0_removeLast : GoodIn wsX2_drop wsX0_removeLast := goodIn_r _ [14, 10, 23, 24, 25, 26] (by decide +kernel) (by decide +kernel)
set_option maxRecDepth 20000 in
theorem gX2_drop_X0_removeLast : GoodIn wsX2_drop (wsV RX2 101 RX0 yX0_removeLast wsX0_removeLast) := goodIn_app (goodIn_of _ (by decide +kernel)) ggX2_drop_X0_removeLast
theorem dX2_drop_0 : decode cX2_drop 0 = .ok (.aload_n 0, 1) := by decide +kernel
theorem dX2_drop_1 : decode cX2_drop 1 = .ok (.getfield 22, 3) := by decide +kernel
theorem dX2_drop_4 : decode cX2_drop 4 = .ok (.invokevirtual 86, 3) := by decide +kernel
theorem dX2_drop_7 : decode cX2_drop 7 = .ok (.ifCond .gt 13, 3) := by decide +kernel
theorem dX2_drop_10 : decode cX2_drop 10 = .ok (.new 44, 3) := by decide +kernel
theorem dX2_drop_13 : decode cX2_drop 13 = .ok (.dup, 1) := by decide +kernel
theorem dX2_drop_14 : decode cX2_drop 14 = .ok (.ldc 99, 2) := by decide +kernel
theorem dX2_drop_16 : decode cX2_drop 16 = .ok (.invokespecial 48, 3) := by decide +kernel
theorem dX2_drop_19 : decode cX2_drop 19 = .ok (.athrow, 1) := by decide +kernel
theorem dX2_drop_20 : decode cX2_drop 20 = .ok (.aload_n 0, 1) := by decide +kernel
theorem dX2_drop_21 : decode cX2_drop 21 = .ok (.iconst 0, 1) := by decide +kernel
theorem dX2_drop_22 : decode cX2_drop 22 = .ok (.putfield 40, 3) := by decide +kernel
theorem dX2_drop_25 : decode cX2_drop 25 = .ok (.aload_n 0, 1) := by decide +kernel
theorem dX2_drop_26 : decode cX2_drop 26 = .ok (.getfield 22, 3) := by decide +kernel
theorem dX2_drop_29 : decode cX2_drop 29 = .ok (.invokevirtual 101, 3) := by decide +kernel
theorem dX2_drop_32 : decode cX2_drop 32 = .ok (.ireturn, 1) := by decide +kernel
theorem dX2_nodeCount_0 : decode cX2_nodeCount 0 = .ok (.aload_n 0, 1) := by decide +kernel
theorem dX2_nodeCount_1 : decode cX2_nodeCount 1 = .ok (.getfield 33, 3) := by decide +kernel
theorem dX2_nodeCount_4 : decode cX2_nodeCount 4 = .ok (.ireturn, 1) := by decide +kernel
theorem dX2_assumptionCount_0 : decode cX2_assumptionCount 0 = .ok (.aload_n 0, 1) := by decide +kernel
theorem dX2_assumptionCount_1 : decode cX2_assumptionCount 1 = .ok (.getfield 37, 3) := by decide +kernel
theorem dX2_assumptionCount_4 : decode cX2_assumptionCount 4 = .ok (.ireturn, 1) := by decide +kernel
set_option maxRecDepth 20000 in
theorem ggX2_assumptionOf_X2_requireNode : GoodIn wsX2_assumptionOf wsX2_requireNode := goodIn_ca (goodIn_r _ [6, 7, 8, 9, 10, 11, 12, 13, 14, 15, 16, 17] (by decide +kernel) (by decide +kernel)) (goodIn_sub (fun _ h => List.mem_cons_of_mem _ (List.mem_append_right _ h)) (by decide +kernel))
set_option maxRecDepth 20000 in
theorem gX2_assumptionOf_X2_requireNode : GoodIn wsX2_assumptionOf (wsV RX2 73 RX2 yX2_requireNode wsX2_requireNode) := goodIn_app (goodIn_of _ (by decide +kernel)) ggX2_assumptionOf_X2_requireNode
theorem dX2_assumptionOf_0 : decode cX2_assumptionOf 0 = .ok (.aload_n 0, 1) := by decide +kernel
theorem dX2_assumptionOf_1 : decode cX2_assumptionOf 1 = .ok (.iload_n 1, 1) := by decide +kernel
theorem dX2_assumptionOf_2 : decode cX2_assumptionOf 2 = .ok (.invokevirtual 73, 3) := by decide +kernel
theorem dX2_assumptionOf_5 : decode cX2_assumptionOf 5 = .ok (.aload_n 0, 1) := by decide +kernel
theorem dX2_assumptionOf_6 : decode cX2_assumptionOf 6 = .ok (.getfield 9, 3) := by decide +kernel
theorem dX2_assumptionOf_9 : decode cX2_assumptionOf 9 = .ok (.iload_n 1, 1) := by decide +kernel
theorem dX2_assumptionOf_10 : decode cX2_assumptionOf 10 = .ok (.iaload, 1) := by decide +kernel
theorem dX2_assumptionOf_11 : decode cX2_assumptionOf 11 = .ok (.ireturn, 1) := by decide +kernel
set_option maxRecDepth 20000 in
theorem ggX2_nodeOf_X2_requireAssumption : GoodIn wsX2_nodeOf wsX2_requireAssumption := goodIn_ca (goodIn_r _ [6, 7, 8, 9, 10, 11, 12, 13, 14, 15, 16, 17] (by decide +kernel) (by decide +kernel)) (goodIn_sub (fun _ h => List.mem_cons_of_mem _ (List.mem_append_right _ h)) (by decide +kernel))
set_option maxRecDepth 20000 in
theorem gX2_nodeOf_X2_requireAssumption : GoodIn wsX2_nodeOf (wsV RX2 61 RX2 yX2_requireAssumption wsX2_requireAssumption) := goodIn_app (goodIn_of _ (by decide +kernel)) ggX2_nodeOf_X2_requireAssumption
theorem dX2_nodeOf_0 : decode cX2_nodeOf 0 = .ok (.aload_n 0, 1) := by decide +kernel
theorem dX2_nodeOf_1 : decode cX2_nodeOf 1 = .ok (.iload_n 1, 1) := by decide +kernel
theorem dX2_nodeOf_2 : decode cX2_nodeOf 2 = .ok (.invokevirtual 61, 3) := by decide +kernel
theorem dX2_nodeOf_5 : decode cX2_nodeOf 5 = .ok (.aload_n 0, 1) := by decide +kernel
theorem dX2_nodeOf_6 : decode cX2_nodeOf 6 = .ok (.getfield 13, 3) := by decide +kernel
theorem dX2_nodeOf_9 : decode cX2_nodeOf 9 = .ok (.iload_n 1, 1) := by decide +kernel
theorem dX2_nodeOf_10 : decode cX2_nodeOf 10 = .ok (.iaload, 1) := by decide +kernel
theorem dX2_nodeOf_11 : decode cX2_nodeOf 11 = .ok (.ireturn, 1) := by decide +kernel
set_option maxRecDepth 20000 in
theorem ggX2_holds_X2_requireNode : GoodIn wsX2_holds wsX2_requireNode := goodIn_ca (goodIn_r _ [6, 7, 8, 9, 45, 46, 47, 48, 49, 50, 51, 52] (by decide +kernel) (by decide +kernel)) (goodIn_sub (fun _ h => List.mem_cons_of_mem _ (List.mem_append_left _ (List.mem_append_right _ h))) (by decide +kernel))
set_option maxRecDepth 20000 in
theorem gX2_holds_X2_requireNode : GoodIn wsX2_holds (wsV RX2 73 RX2 yX2_requireNode wsX2_requireNode) := goodIn_app (goodIn_of _ (by decide +kernel)) ggX2_holds_X2_requireNode
set_option maxRecDepth 20000 in
theorem ggX2_holds_X2_requireEnvironment : GoodIn wsX2_holds wsX2_requireEnvironment := goodIn_ca (goodIn_r _ [13, 14, 15, 16, 17, 18, 5, 19, 45, 46, 47, 48, 49, 50, 51, 52] (by decide +kernel) (by decide +kernel)) (goodIn_sub (fun _ h => List.mem_cons_of_mem _ (List.mem_append_right _ h)) (by decide +kernel))
set_option maxRecDepth 20000 in
theorem gX2_holds_X2_requireEnvironment : GoodIn wsX2_holds (wsV RX2 104 RX2 yX2_requireEnvironment wsX2_requireEnvironment) := goodIn_app (goodIn_of _ (by decide +kernel)) ggX2_holds_X2_requireEnvironment
set_option maxRecDepth 20000 in
theorem ggX2_holds_X2_nodesOf : GoodIn wsX2_holds wsX2_nodesOf := goodIn_r _ [23, 16, 24, 25, 26, 5, 27, 45, 46, 47, 48, 49, 50, 51, 52] (by decide +kernel) (by decide +kernel)
set_option maxRecDepth 20000 in
theorem gX2_holds_X2_nodesOf : GoodIn wsX2_holds (wsV RX2 107 RX2 yX2_nodesOf wsX2_nodesOf) := goodIn_app (goodIn_of _ (by decide +kernel)) ggX2_holds_X2_nodesOf
set_option maxRecDepth 20000 in
theorem ggX2_holds_X0_closure : GoodIn wsX2_holds wsX0_closure := goodIn_r _ [32, 33, 34, 35, 31, 36, 37, 38, 39, 40, 41, 42, 43, 44, 53, 54, 55, 56] (by decide +kernel) (by decide +kernel)
set_option maxRecDepth 20000 in
theorem gX2_holds_X0_closure : GoodIn wsX2_holds (wsV RX2 110 RX0 yX0_closure wsX0_closure) := goodIn_app (goodIn_of _ (by decide +kernel)) ggX2_holds_X0_closure
set_option maxRecDepth 20000 in
theorem ggX2_holds_X2_contains : GoodIn wsX2_holds wsX2_contains := goodIn_r _ [27] (by decide +kernel) (by decide +kernel)
set_option maxRecDepth 20000 in
theorem gX2_holds_X2_contains : GoodIn wsX2_holds (va_wsS RX2 113 yX2_contains wsX2_contains) := goodIn_app (goodIn_of _ (by decide +kernel)) ggX2_holds_X2_contains
theorem dX2_holds_0 : decode cX2_holds 0 = .ok (.aload_n 0, 1) := by decide +kernel
theorem dX2_holds_1 : decode cX2_holds 1 = .ok (.iload_n 1, 1) := by decide +kernel
theorem dX2_holds_2 : decode cX2_holds 2 = .ok (.invokevirtual 73, 3) := by decide +kernel
theorem dX2_holds_5 : decode cX2_holds 5 = .ok (.aload_n 0, 1) := by decide +kernel
theorem dX2_holds_6 : decode cX2_holds 6 = .ok (.iload_n 2, 1) := by decide +kernel
theorem dX2_holds_7 : decode cX2_holds 7 = .ok (.invokevirtual 104, 3) := by decide +kernel
theorem dX2_holds_10 : decode cX2_holds 10 = .ok (.aload_n 0, 1) := by decide +kernel
theorem dX2_holds_11 : decode cX2_holds 11 = .ok (.getfield 22, 3) := by decide +kernel
theorem dX2_holds_14 : decode cX2_holds 14 = .ok (.aload_n 0, 1) := by decide +kernel
theorem dX2_holds_15 : decode cX2_holds 15 = .ok (.iload_n 2, 1) := by decide +kernel
theorem dX2_holds_16 : decode cX2_holds 16 = .ok (.invokevirtual 107, 3) := by decide +kernel
theorem dX2_holds_19 : decode cX2_holds 19 = .ok (.invokevirtual 110, 3) := by decide +kernel
theorem dX2_holds_22 : decode cX2_holds 22 = .ok (.iload_n 1, 1) := by decide +kernel
theorem dX2_holds_23 : decode cX2_holds 23 = .ok (.invokestatic 113, 3) := by decide +kernel
theorem dX2_holds_26 : decode cX2_holds 26 = .ok (.ireturn, 1) := by decide +kernel
set_option maxRecDepth 20000 in
theorem ggX2_depth_X2_requireNode : GoodIn wsX2_depth wsX2_requireNode := goodIn_ca (goodIn_r _ [6, 7, 8, 9, 41, 42, 43, 44, 45, 46, 47, 48] (by decide +kernel) (by decide +kernel)) (goodIn_sub (fun _ h => List.mem_cons_of_mem _ (List.mem_append_left _ (List.mem_append_right _ h))) (by decide +kernel))
set_option maxRecDepth 20000 in
theorem gX2_depth_X2_requireNode : GoodIn wsX2_depth (wsV RX2 73 RX2 yX2_requireNode wsX2_requireNode) := goodIn_app (goodIn_of _ (by decide +kernel)) ggX2_depth_X2_requireNode
set_option maxRecDepth 20000 in
theorem ggX2_depth_X2_requireEnvironment : GoodIn wsX2_depth wsX2_requireEnvironment := goodIn_ca (goodIn_r _ [13, 14, 15, 16, 17, 18, 5, 19, 41, 42, 43, 44, 45, 46, 47, 48] (by decide +kernel) (by decide +kernel)) (goodIn_sub (fun _ h => List.mem_cons_of_mem _ (List.mem_append_right _ h)) (by decide +kernel))
set_option maxRecDepth 20000 in
theorem gX2_depth_X2_requireEnvironment : GoodIn wsX2_depth (wsV RX2 104 RX2 yX2_requireEnvironment wsX2_requireEnvironment) := goodIn_app (goodIn_of _ (by decide +kernel)) ggX2_depth_X2_requireEnvironment
set_option maxRecDepth 20000 in
theorem ggX2_depth_X2_nodesOf : GoodIn wsX2_depth wsX2_nodesOf := goodIn_r _ [23, 16, 24, 25, 26, 5, 27, 41, 42, 43, 44, 45, 46, 47, 48] (by decide +kernel) (by decide +kernel)
set_option maxRecDepth 20000 in
theorem gX2_depth_X2_nodesOf : GoodIn wsX2_depth (wsV RX2 107 RX2 yX2_nodesOf wsX2_nodesOf) := goodIn_app (goodIn_of _ (by decide +kernel)) ggX2_depth_X2_nodesOf
set_option maxRecDepth 20000 in
theorem ggX2_depth_X2_contains : GoodIn wsX2_depth wsX2_contains := goodIn_r _ [27] (by decide +kernel) (by decide +kernel)
set_option maxRecDepth 20000 in
theorem gX2_depth_X2_contains : GoodIn wsX2_depth (va_wsS RX2 113 yX2_contains wsX2_contains) := goodIn_app (goodIn_of _ (by decide +kernel)) ggX2_depth_X2_contains
set_option maxRecDepth 20000 in
theorem ggX2_depth_X0_afterRound : GoodIn wsX2_depth wsX0_afterRound := goodIn_r _ [32, 33, 34, 35, 36, 37, 31, 38, 39, 40, 49, 50, 51, 52] (by decide +kernel) (by decide +kernel)
set_option maxRecDepth 20000 in
theorem gX2_depth_X0_afterRound : GoodIn wsX2_depth (wsV RX2 116 RX0 yX0_afterRound wsX0_afterRound) := goodIn_app (goodIn_of _ (by decide +kernel)) ggX2_depth_X0_afterRound
theorem dX2_depth_0 : decode cX2_depth 0 = .ok (.aload_n 0, 1) := by decide +kernel
theorem dX2_depth_1 : decode cX2_depth 1 = .ok (.iload_n 1, 1) := by decide +kernel
theorem dX2_depth_2 : decode cX2_depth 2 = .ok (.invokevirtual 73, 3) := by decide +kernel
theorem dX2_depth_5 : decode cX2_depth 5 = .ok (.aload_n 0, 1) := by decide +kernel
theorem dX2_depth_6 : decode cX2_depth 6 = .ok (.iload_n 2, 1) := by decide +kernel
theorem dX2_depth_7 : decode cX2_depth 7 = .ok (.invokevirtual 104, 3) := by decide +kernel
theorem dX2_depth_10 : decode cX2_depth 10 = .ok (.aload_n 0, 1) := by decide +kernel
theorem dX2_depth_11 : decode cX2_depth 11 = .ok (.iload_n 2, 1) := by decide +kernel
theorem dX2_depth_12 : decode cX2_depth 12 = .ok (.invokevirtual 107, 3) := by decide +kernel
theorem dX2_depth_15 : decode cX2_depth 15 = .ok (.istore_n 3, 1) := by decide +kernel
theorem dX2_depth_16 : decode cX2_depth 16 = .ok (.iconst 0, 1) := by decide +kernel
theorem dX2_depth_17 : decode cX2_depth 17 = .ok (.istore 4, 2) := by decide +kernel
theorem dX2_depth_19 : decode cX2_depth 19 = .ok (.iload 4, 2) := by decide +kernel
theorem dX2_depth_21 : decode cX2_depth 21 = .ok (.bipush 24, 2) := by decide +kernel
theorem dX2_depth_23 : decode cX2_depth 23 = .ok (.if_icmp .gt 29, 3) := by decide +kernel
theorem dX2_depth_26 : decode cX2_depth 26 = .ok (.iload_n 3, 1) := by decide +kernel
theorem dX2_depth_27 : decode cX2_depth 27 = .ok (.iload_n 1, 1) := by decide +kernel
theorem dX2_depth_28 : decode cX2_depth 28 = .ok (.invokestatic 113, 3) := by decide +kernel
theorem dX2_depth_31 : decode cX2_depth 31 = .ok (.ifCond .eq 6, 3) := by decide +kernel
theorem dX2_depth_34 : decode cX2_depth 34 = .ok (.iload 4, 2) := by decide +kernel
theorem dX2_depth_36 : decode cX2_depth 36 = .ok (.ireturn, 1) := by decide +kernel
theorem dX2_depth_37 : decode cX2_depth 37 = .ok (.aload_n 0, 1) := by decide +kernel
theorem dX2_depth_38 : decode cX2_depth 38 = .ok (.getfield 22, 3) := by decide +kernel
theorem dX2_depth_41 : decode cX2_depth 41 = .ok (.iload_n 3, 1) := by decide +kernel
theorem dX2_depth_42 : decode cX2_depth 42 = .ok (.invokevirtual 116, 3) := by decide +kernel
theorem dX2_depth_45 : decode cX2_depth 45 = .ok (.istore_n 3, 1) := by decide +kernel
theorem dX2_depth_46 : decode cX2_depth 46 = .ok (.iinc 4 1, 3) := by decide +kernel
theorem dX2_depth_49 : decode cX2_depth 49 = .ok (.goto (-30), 3) := by decide +kernel
theorem dX2_depth_52 : decode cX2_depth 52 = .ok (.iconst (-1), 1) := by decide +kernel
theorem dX2_depth_53 : decode cX2_depth 53 = .ok (.ireturn, 1) := by decide +kernel
set_option maxRecDepth 20000 in
theorem ggX2_support_X2_requireNode : GoodIn wsX2_support wsX2_requireNode := goodIn_ca (goodIn_r _ [6, 7, 8, 9, 45, 46, 47, 48, 49, 50, 51, 52] (by decide +kernel) (by decide +kernel)) (goodIn_sub (fun _ h => List.mem_cons_of_mem _ (List.mem_append_left _ (List.mem_append_right _ h))) (by decide +kernel))
set_option maxRecDepth 20000 in
theorem gX2_support_X2_requireNode : GoodIn wsX2_support (wsV RX2 73 RX2 yX2_requireNode wsX2_requireNode) := goodIn_app (goodIn_of _ (by decide +kernel)) ggX2_support_X2_requireNode
set_option maxRecDepth 20000 in
theorem ggX2_support_X2_requireEnvironment : GoodIn wsX2_support wsX2_requireEnvironment := goodIn_ca (goodIn_r _ [13, 14, 15, 16, 17, 18, 5, 19, 45, 46, 47, 48, 49, 50, 51, 52] (by decide +kernel) (by decide +kernel)) (goodIn_sub (fun _ h => List.mem_cons_of_mem _ (List.mem_append_right _ h)) (by decide +kernel))
set_option maxRecDepth 20000 in
theorem gX2_support_X2_requireEnvironment : GoodIn wsX2_support (wsV RX2 104 RX2 yX2_requireEnvironment wsX2_requireEnvironment) := goodIn_app (goodIn_of _ (by decide +kernel)) ggX2_support_X2_requireEnvironment
set_option maxRecDepth 20000 in
theorem ggX2_support_X2_nodesOf : GoodIn wsX2_support wsX2_nodesOf := goodIn_r _ [23, 16, 24, 25, 26, 5, 27, 45, 46, 47, 48, 49, 50, 51, 52] (by decide +kernel) (by decide +kernel)
set_option maxRecDepth 20000 in
theorem gX2_support_X2_nodesOf : GoodIn wsX2_support (wsV RX2 107 RX2 yX2_nodesOf wsX2_nodesOf) := goodIn_app (goodIn_of _ (by decide +kernel)) ggX2_support_X2_nodesOf
set_option maxRecDepth 20000 in
theorem ggX2_support_X2_contains : GoodIn wsX2_support wsX2_contains := goodIn_r _ [27] (by decide +kernel) (by decide +kernel)
set_option maxRecDepth 20000 in
theorem gX2_support_X2_contains : GoodIn wsX2_support (va_wsS RX2 113 yX2_contains wsX2_contains) := goodIn_app (goodIn_of _ (by decide +kernel)) ggX2_support_X2_contains
set_option maxRecDepth 20000 in
theorem ggX2_support_X0_afterRound : GoodIn wsX2_support wsX0_afterRound := goodIn_r _ [32, 33, 34, 35, 36, 37, 31, 38, 39, 40, 53, 54, 55, 56] (by decide +kernel) (by decide +kernel)
set_option maxRecDepth 20000 in
theorem gX2_support_X0_afterRound : GoodIn wsX2_support (wsV RX2 116 RX0 yX0_afterRound wsX0_afterRound) := goodIn_app (goodIn_of _ (by decide +kernel)) ggX2_support_X0_afterRound
set_option maxRecDepth 20000 in
theorem ggX2_support_X0_firstDeriving : GoodIn wsX2_support wsX0_firstDeriving := goodIn_r _ [44, 33, 34, 35, 36, 37, 31, 38, 39, 40, 53, 54, 55, 56] (by decide +kernel) (by decide +kernel)
set_option maxRecDepth 20000 in
theorem gX2_support_X0_firstDeriving : GoodIn wsX2_support (wsV RX2 119 RX0 yX0_firstDeriving wsX0_firstDeriving) := goodIn_app (goodIn_of _ (by decide +kernel)) ggX2_support_X0_firstDeriving
theorem dX2_support_0 : decode cX2_support 0 = .ok (.aload_n 0, 1) := by decide +kernel
theorem dX2_support_1 : decode cX2_support 1 = .ok (.iload_n 1, 1) := by decide +kernel
theorem dX2_support_2 : decode cX2_support 2 = .ok (.invokevirtual 73, 3) := by decide +kernel
theorem dX2_support_5 : decode cX2_support 5 = .ok (.aload_n 0, 1) := by decide +kernel
theorem dX2_support_6 : decode cX2_support 6 = .ok (.iload_n 2, 1) := by decide +kernel
theorem dX2_support_7 : decode cX2_support 7 = .ok (.invokevirtual 104, 3) := by decide +kernel
theorem dX2_support_10 : decode cX2_support 10 = .ok (.aload_n 0, 1) := by decide +kernel
theorem dX2_support_11 : decode cX2_support 11 = .ok (.iload_n 2, 1) := by decide +kernel
theorem dX2_support_12 : decode cX2_support 12 = .ok (.invokevirtual 107, 3) := by decide +kernel
theorem dX2_support_15 : decode cX2_support 15 = .ok (.istore_n 3, 1) := by decide +kernel
theorem dX2_support_16 : decode cX2_support 16 = .ok (.iload_n 3, 1) := by decide +kernel
theorem dX2_support_17 : decode cX2_support 17 = .ok (.iload_n 1, 1) := by decide +kernel
theorem dX2_support_18 : decode cX2_support 18 = .ok (.invokestatic 113, 3) := by decide +kernel
theorem dX2_support_21 : decode cX2_support 21 = .ok (.ifCond .eq 5, 3) := by decide +kernel
theorem dX2_support_24 : decode cX2_support 24 = .ok (.iconst (-1), 1) := by decide +kernel
theorem dX2_support_25 : decode cX2_support 25 = .ok (.ireturn, 1) := by decide +kernel
theorem dX2_support_26 : decode cX2_support 26 = .ok (.iconst 1, 1) := by decide +kernel
theorem dX2_support_27 : decode cX2_support 27 = .ok (.istore 4, 2) := by decide +kernel
theorem dX2_support_29 : decode cX2_support 29 = .ok (.iload 4, 2) := by decide +kernel
theorem dX2_support_31 : decode cX2_support 31 = .ok (.bipush 24, 2) := by decide +kernel
theorem dX2_support_33 : decode cX2_support 33 = .ok (.if_icmp .gt 41, 3) := by decide +kernel
theorem dX2_support_36 : decode cX2_support 36 = .ok (.aload_n 0, 1) := by decide +kernel
theorem dX2_support_37 : decode cX2_support 37 = .ok (.getfield 22, 3) := by decide +kernel
theorem dX2_support_40 : decode cX2_support 40 = .ok (.iload_n 3, 1) := by decide +kernel
theorem dX2_support_41 : decode cX2_support 41 = .ok (.invokevirtual 116, 3) := by decide +kernel
theorem dX2_support_44 : decode cX2_support 44 = .ok (.istore 5, 2) := by decide +kernel
theorem dX2_support_46 : decode cX2_support 46 = .ok (.iload 5, 2) := by decide +kernel
theorem dX2_support_48 : decode cX2_support 48 = .ok (.iload_n 1, 1) := by decide +kernel
theorem dX2_support_49 : decode cX2_support 49 = .ok (.invokestatic 113, 3) := by decide +kernel
theorem dX2_support_52 : decode cX2_support 52 = .ok (.ifCond .eq 13, 3) := by decide +kernel
theorem dX2_support_55 : decode cX2_support 55 = .ok (.aload_n 0, 1) := by decide +kernel
theorem dX2_support_56 : decode cX2_support 56 = .ok (.getfield 22, 3) := by decide +kernel
theorem dX2_support_59 : decode cX2_support 59 = .ok (.iload_n 1, 1) := by decide +kernel
theorem dX2_support_60 : decode cX2_support 60 = .ok (.iload_n 3, 1) := by decide +kernel
theorem dX2_support_61 : decode cX2_support 61 = .ok (.invokevirtual 119, 3) := by decide +kernel
theorem dX2_support_64 : decode cX2_support 64 = .ok (.ireturn, 1) := by decide +kernel
theorem dX2_support_65 : decode cX2_support 65 = .ok (.iload 5, 2) := by decide +kernel
theorem dX2_support_67 : decode cX2_support 67 = .ok (.istore_n 3, 1) := by decide +kernel
theorem dX2_support_68 : decode cX2_support 68 = .ok (.iinc 4 1, 3) := by decide +kernel
theorem dX2_support_71 : decode cX2_support 71 = .ok (.goto (-42), 3) := by decide +kernel
theorem dX2_support_74 : decode cX2_support 74 = .ok (.bipush (-2), 2) := by decide +kernel
theorem dX2_support_76 : decode cX2_support 76 = .ok (.ireturn, 1) := by decide +kernel
set_option maxRecDepth 20000 in
theorem ggX2_heldCount_X2_requireEnvironment : GoodIn wsX2_heldCount wsX2_requireEnvironment := goodIn_ca (goodIn_r _ [6, 7, 8, 9, 10, 11, 5, 12, 45, 46, 47, 48, 49, 50, 51, 52] (by decide +kernel) (by decide +kernel)) (goodIn_sub (fun _ h => List.mem_cons_of_mem _ (List.mem_append_right _ h)) (by decide +kernel))
set_option maxRecDepth 20000 in
theorem gX2_heldCount_X2_requireEnvironment : GoodIn wsX2_heldCount (wsV RX2 104 RX2 yX2_requireEnvironment wsX2_requireEnvironment) := goodIn_app (goodIn_of _ (by decide +kernel)) ggX2_heldCount_X2_requireEnvironment
set_option maxRecDepth 20000 in
theorem ggX2_heldCount_X2_nodesOf : GoodIn wsX2_heldCount wsX2_nodesOf := goodIn_r _ [16, 9, 17, 18, 19, 5, 20, 45, 46, 47, 48, 49, 50, 51, 52] (by decide +kernel) (by decide +kernel)
set_option maxRecDepth 20000 in
theorem gX2_heldCount_X2_nodesOf : GoodIn wsX2_heldCount (wsV RX2 107 RX2 yX2_nodesOf wsX2_nodesOf) := goodIn_app (goodIn_of _ (by decide +kernel)) ggX2_heldCount_X2_nodesOf
set_option maxRecDepth 20000 in
theorem ggX2_heldCount_X0_closure : GoodIn wsX2_heldCount wsX0_closure := goodIn_r _ [25, 26, 27, 28, 24, 29, 30, 31, 32, 33, 34, 35, 36, 37, 53, 54, 55, 56] (by decide +kernel) (by decide +kernel)
set_option maxRecDepth 20000 in
theorem gX2_heldCount_X0_closure : GoodIn wsX2_heldCount (wsV RX2 110 RX0 yX0_closure wsX0_closure) := goodIn_app (goodIn_of _ (by decide +kernel)) ggX2_heldCount_X0_closure
set_option maxRecDepth 20000 in
theorem ggX2_heldCount_J6_bitCount_0f7a4 : GoodIn wsX2_heldCount wsJ6_bitCount_0f7a4 := goodIn_r _ [41, 42, 43, 44] (by decide +kernel) (by decide +kernel)
set_option maxRecDepth 20000 in
theorem gX2_heldCount_J6_bitCount_0f7a4 : GoodIn wsX2_heldCount (va_wsS RX2 122 yJ6_bitCount_0f7a4 wsJ6_bitCount_0f7a4) := goodIn_app (goodIn_of _ (by decide +kernel)) ggX2_heldCount_J6_bitCount_0f7a4
theorem dX2_heldCount_0 : decode cX2_heldCount 0 = .ok (.aload_n 0, 1) := by decide +kernel
theorem dX2_heldCount_1 : decode cX2_heldCount 1 = .ok (.iload_n 1, 1) := by decide +kernel
theorem dX2_heldCount_2 : decode cX2_heldCount 2 = .ok (.invokevirtual 104, 3) := by decide +kernel
theorem dX2_heldCount_5 : decode cX2_heldCount 5 = .ok (.aload_n 0, 1) := by decide +kernel
theorem dX2_heldCount_6 : decode cX2_heldCount 6 = .ok (.getfield 22, 3) := by decide +kernel
theorem dX2_heldCount_9 : decode cX2_heldCount 9 = .ok (.aload_n 0, 1) := by decide +kernel
theorem dX2_heldCount_10 : decode cX2_heldCount 10 = .ok (.iload_n 1, 1) := by decide +kernel
theorem dX2_heldCount_11 : decode cX2_heldCount 11 = .ok (.invokevirtual 107, 3) := by decide +kernel
theorem dX2_heldCount_14 : decode cX2_heldCount 14 = .ok (.invokevirtual 110, 3) := by decide +kernel
theorem dX2_heldCount_17 : decode cX2_heldCount 17 = .ok (.invokestatic 122, 3) := by decide +kernel
theorem dX2_heldCount_20 : decode cX2_heldCount 20 = .ok (.ireturn, 1) := by decide +kernel
set_option maxRecDepth 20000 in
theorem ggX2_isConsistent_X2_requireEnvironment : GoodIn wsX2_isConsistent wsX2_requireEnvironment := goodIn_ca (goodIn_r _ [5, 6, 7, 8, 9, 10, 4, 11, 46, 47, 48, 49, 50, 51, 52, 53] (by decide +kernel) (by decide +kernel)) (goodIn_sub (fun _ h => List.mem_cons_of_mem _ (List.mem_append_right _ h)) (by decide +kernel))
set_option maxRecDepth 20000 in
theorem gX2_isConsistent_X2_requireEnvironment : GoodIn wsX2_isConsistent (wsV RX2 104 RX2 yX2_requireEnvironment wsX2_requireEnvironment) := goodIn_app (goodIn_of _ (by decide +kernel)) ggX2_isConsistent_X2_requireEnvironment
set_option maxRecDepth 20000 in
theorem ggX2_isConsistent_X2_isFreeOfContradiction : GoodIn wsX2_isConsistent wsX2_isFreeOfContradiction := goodIn_r _ [15, 16, 17, 18, 19, 4, 20, 8, 21, 22, 23, 24, 25, 26, 27, 28, 29, 30, 31, 32, 33, 34, 35, 36, 37, 38, 39, 40, 41, 42, 43, 44, 45, 46, 47, 48, 49, 50, 51, 52, 53, 54, 55, 56, 57] (by decide +kernel) (by decide +kernel)
set_option maxRecDepth 20000 in
theorem gX2_isConsistent_X2_isFreeOfContradiction : GoodIn wsX2_isConsistent (wsV RX2 127 RX2 yX2_isFreeOfContradiction wsX2_isFreeOfContradiction) := goodIn_app (goodIn_of _ (by decide +kernel)) ggX2_isConsistent_X2_isFreeOfContradiction
theorem dX2_isConsistent_0 : decode cX2_isConsistent 0 = .ok (.aload_n 0, 1) := by decide +kernel
theorem dX2_isConsistent_1 : decode cX2_isConsistent 1 = .ok (.iload_n 1, 1) := by decide +kernel
theorem dX2_isConsistent_2 : decode cX2_isConsistent 2 = .ok (.invokevirtual 104, 3) := by decide +kernel
theorem dX2_isConsistent_5 : decode cX2_isConsistent 5 = .ok (.aload_n 0, 1) := by decide +kernel
theorem dX2_isConsistent_6 : decode cX2_isConsistent 6 = .ok (.iload_n 1, 1) := by decide +kernel
theorem dX2_isConsistent_7 : decode cX2_isConsistent 7 = .ok (.invokevirtual 127, 3) := by decide +kernel
theorem dX2_isConsistent_10 : decode cX2_isConsistent 10 = .ok (.ireturn, 1) := by decide +kernel
set_option maxRecDepth 20000 in
theorem ggX2_cost_X2_requireEnvironment : GoodIn wsX2_cost wsX2_requireEnvironment := goodIn_ca (goodIn_r _ [5, 6, 7, 8, 9, 10, 4, 11, 20, 21, 22, 23, 24, 25, 26, 27] (by decide +kernel) (by decide +kernel)) (goodIn_sub (fun _ h => List.mem_cons_of_mem _ (List.mem_append_right _ h)) (by decide +kernel))
set_option maxRecDepth 20000 in
theorem gX2_cost_X2_requireEnvironment : GoodIn wsX2_cost (wsV RX2 104 RX2 yX2_requireEnvironment wsX2_requireEnvironment) := goodIn_app (goodIn_of _ (by decide +kernel)) ggX2_cost_X2_requireEnvironment
set_option maxRecDepth 20000 in
theorem ggX2_cost_X2_weightOf : GoodIn wsX2_cost wsX2_weightOf := goodIn_r _ [15, 8, 16, 17, 18, 4, 19, 20, 21, 22, 23, 24, 25, 26, 27] (by decide +kernel) (by decide +kernel)
set_option maxRecDepth 20000 in
theorem gX2_cost_X2_weightOf : GoodIn wsX2_cost (wsV RX2 131 RX2 yX2_weightOf wsX2_weightOf) := goodIn_app (goodIn_of _ (by decide +kernel)) ggX2_cost_X2_weightOf
theorem dX2_cost_0 : decode cX2_cost 0 = .ok (.aload_n 0, 1) := by decide +kernel
theorem dX2_cost_1 : decode cX2_cost 1 = .ok (.iload_n 1, 1) := by decide +kernel
theorem dX2_cost_2 : decode cX2_cost 2 = .ok (.invokevirtual 104, 3) := by decide +kernel
theorem dX2_cost_5 : decode cX2_cost 5 = .ok (.aload_n 0, 1) := by decide +kernel
theorem dX2_cost_6 : decode cX2_cost 6 = .ok (.iload_n 1, 1) := by decide +kernel
theorem dX2_cost_7 : decode cX2_cost 7 = .ok (.invokevirtual 131, 3) := by decide +kernel
theorem dX2_cost_10 : decode cX2_cost 10 = .ok (.ireturn, 1) := by decide +kernel
set_option maxRecDepth 20000 in
theorem ggX2_extend_X2_requireEnvironment : GoodIn wsX2_extend wsX2_requireEnvironment := goodIn_ca (goodIn_r _ [8, 9, 10, 3, 11, 12, 7, 13, 53, 54, 55, 56, 57, 58, 59, 60] (by decide +kernel) (by decide +kernel)) (goodIn_sub (fun _ h => List.mem_cons_of_mem _ (List.mem_append_right _ h)) (by decide +kernel))
set_option maxRecDepth 20000 in
theorem gX2_extend_X2_requireEnvironment : GoodIn wsX2_extend (wsV RX2 104 RX2 yX2_requireEnvironment wsX2_requireEnvironment) := goodIn_app (goodIn_of _ (by decide +kernel)) ggX2_extend_X2_requireEnvironment
set_option maxRecDepth 20000 in
theorem ggX2_extend_X2_isFreeOfContradiction : GoodIn wsX2_extend wsX2_isFreeOfContradiction := goodIn_r _ [17, 18, 19, 20, 21, 7, 22, 3, 23, 24, 25, 26, 27, 28, 29, 30, 31, 32, 33, 34, 35, 36, 37, 38, 39, 40, 41, 42, 43, 44, 45, 46, 47, 53, 54, 55, 56, 57, 58, 59, 60, 61, 62, 63, 64] (by decide +kernel) (by decide +kernel)
set_option maxRecDepth 20000 in
theorem gX2_extend_X2_isFreeOfContradiction : GoodIn wsX2_extend (wsV RX2 127 RX2 yX2_isFreeOfContradiction wsX2_isFreeOfContradiction) := goodIn_app (goodIn_of _ (by decide +kernel)) ggX2_extend_X2_isFreeOfContradiction
set_option maxRecDepth 20000 in
theorem ggX2_extend_X2_heaviestOutside : GoodIn wsX2_extend wsX2_heaviestOutside := goodIn_r _ [51, 3, 52, 24, 25, 7, 26, 53, 54, 55, 56, 57, 58, 59, 60] (by decide +kernel) (by decide +kernel)
set_option maxRecDepth 20000 in
theorem gX2_extend_X2_heaviestOutside : GoodIn wsX2_extend (wsV RX2 136 RX2 yX2_heaviestOutside wsX2_heaviestOutside) := goodIn_app (goodIn_of _ (by decide +kernel)) ggX2_extend_X2_heaviestOutside
theorem dX2_extend_0 : decode cX2_extend 0 = .ok (.aload_n 0, 1) := by decide +kernel
theorem dX2_extend_1 : decode cX2_extend 1 = .ok (.iload_n 1, 1) := by decide +kernel
theorem dX2_extend_2 : decode cX2_extend 2 = .ok (.invokevirtual 104, 3) := by decide +kernel
theorem dX2_extend_5 : decode cX2_extend 5 = .ok (.aload_n 0, 1) := by decide +kernel
theorem dX2_extend_6 : decode cX2_extend 6 = .ok (.iload_n 1, 1) := by decide +kernel
theorem dX2_extend_7 : decode cX2_extend 7 = .ok (.invokevirtual 127, 3) := by decide +kernel
theorem dX2_extend_10 : decode cX2_extend 10 = .ok (.ifCond .ne 13, 3) := by decide +kernel
theorem dX2_extend_13 : decode cX2_extend 13 = .ok (.new 44, 3) := by decide +kernel
theorem dX2_extend_16 : decode cX2_extend 16 = .ok (.dup, 1) := by decide +kernel
theorem dX2_extend_17 : decode cX2_extend 17 = .ok (.ldc 134, 2) := by decide +kernel
theorem dX2_extend_19 : decode cX2_extend 19 = .ok (.invokespecial 48, 3) := by decide +kernel
theorem dX2_extend_22 : decode cX2_extend 22 = .ok (.athrow, 1) := by decide +kernel
theorem dX2_extend_23 : decode cX2_extend 23 = .ok (.iload_n 1, 1) := by decide +kernel
theorem dX2_extend_24 : decode cX2_extend 24 = .ok (.istore_n 2, 1) := by decide +kernel
theorem dX2_extend_25 : decode cX2_extend 25 = .ok (.iload_n 1, 1) := by decide +kernel
theorem dX2_extend_26 : decode cX2_extend 26 = .ok (.istore_n 3, 1) := by decide +kernel
theorem dX2_extend_27 : decode cX2_extend 27 = .ok (.iconst 0, 1) := by decide +kernel
theorem dX2_extend_28 : decode cX2_extend 28 = .ok (.istore 4, 2) := by decide +kernel
theorem dX2_extend_30 : decode cX2_extend 30 = .ok (.iload 4, 2) := by decide +kernel
theorem dX2_extend_32 : decode cX2_extend 32 = .ok (.aload_n 0, 1) := by decide +kernel
theorem dX2_extend_33 : decode cX2_extend 33 = .ok (.getfield 37, 3) := by decide +kernel
theorem dX2_extend_36 : decode cX2_extend 36 = .ok (.if_icmp .ge 52, 3) := by decide +kernel
theorem dX2_extend_39 : decode cX2_extend 39 = .ok (.aload_n 0, 1) := by decide +kernel
theorem dX2_extend_40 : decode cX2_extend 40 = .ok (.iload_n 3, 1) := by decide +kernel
theorem dX2_extend_41 : decode cX2_extend 41 = .ok (.invokevirtual 136, 3) := by decide +kernel
