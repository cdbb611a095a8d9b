theorem dX3_mean_46 : decode cX3_mean 46 = .ok (.getfield 56, 3) := by decide +kernel
theorem dX3_mean_49 : decode cX3_mean 49 = .ok (.i2l, 1) := by decide +kernel
theorem dX3_mean_50 : decode cX3_mean 50 = .ok (.iload_n 2, 1) := by decide +kernel
theorem dX3_mean_51 : decode cX3_mean 51 = .ok (.invokestatic 97, 3) := by decide +kernel
theorem dX3_mean_54 : decode cX3_mean 54 = .ok (.lreturn, 1) := by decide +kernel
set_option maxRecDepth 20000 in
theorem ggX3_spread_X3_foldOfKind : GoodIn wsX3_spread wsX3_foldOfKind := goodIn_r _ [9, 10, 11, 12, 13, 8, 14, 15, 16, 38, 39, 40, 41, 42, 43, 44, 45] (by decide +kernel) (by decide +kernel)
set_option maxRecDepth 20000 in
theorem gX3_spread_X3_foldOfKind : GoodIn wsX3_spread (wsV RX3 67 RX3 yX3_foldOfKind wsX3_foldOfKind) := goodIn_app (goodIn_of _ (by decide +kernel)) ggX3_spread_X3_foldOfKind
set_option maxRecDepth 20000 in
theorem ggX3_spread_X0_sumOfValues : GoodIn wsX3_spread wsX0_sumOfValues := goodIn_r _ [21, 22, 23, 38, 39, 40, 41] (by decide +kernel) (by decide +kernel)
set_option maxRecDepth 20000 in
theorem gX3_spread_X0_sumOfValues : GoodIn wsX3_spread (wsV RX3 93 RX0 yX0_sumOfValues wsX0_sumOfValues) := goodIn_app (goodIn_of _ (by decide +kernel)) ggX3_spread_X0_sumOfValues
set_option maxRecDepth 20000 in
theorem ggX3_spread_X0_sumOfSquares : GoodIn wsX3_spread wsX0_sumOfSquares := goodIn_r _ [27, 22, 23, 38, 39, 40, 41] (by decide +kernel) (by decide +kernel)
set_option maxRecDepth 20000 in
theorem gX3_spread_X0_sumOfSquares : GoodIn wsX3_spread (wsV RX3 103 RX0 yX0_sumOfSquares wsX0_sumOfSquares) := goodIn_app (goodIn_of _ (by decide +kernel)) ggX3_spread_X0_sumOfSquares
set_option maxRecDepth 20000 in
theorem ggX3_spread_X3_partOfFraction : GoodIn wsX3_spread wsX3_partOfFraction := goodIn_r _ [30, 31, 32, 33, 34, 35, 36, 8, 37] (by decide +kernel) (by decide +kernel)
set_option maxRecDepth 20000 in
theorem gX3_spread_X3_partOfFraction : GoodIn wsX3_spread (va_wsS RX3 97 yX3_partOfFraction wsX3_partOfFraction) := goodIn_app (goodIn_of _ (by decide +kernel)) ggX3_spread_X3_partOfFraction
theorem dX3_spread_0 : decode cX3_spread 0 = .ok (.aload_n 0, 1) := by decide +kernel
theorem dX3_spread_1 : decode cX3_spread 1 = .ok (.iload_n 1, 1) := by decide +kernel
theorem dX3_spread_2 : decode cX3_spread 2 = .ok (.iconst 2, 1) := by decide +kernel
theorem dX3_spread_3 : decode cX3_spread 3 = .ok (.invokevirtual 67, 3) := by decide +kernel
theorem dX3_spread_6 : decode cX3_spread 6 = .ok (.astore_n 3, 1) := by decide +kernel
theorem dX3_spread_7 : decode cX3_spread 7 = .ok (.aload_n 3, 1) := by decide +kernel
theorem dX3_spread_8 : decode cX3_spread 8 = .ok (.ifnull 12, 3) := by decide +kernel
theorem dX3_spread_11 : decode cX3_spread 11 = .ok (.iload_n 2, 1) := by decide +kernel
theorem dX3_spread_12 : decode cX3_spread 12 = .ok (.ifCond .lt 8, 3) := by decide +kernel
theorem dX3_spread_15 : decode cX3_spread 15 = .ok (.iload_n 2, 1) := by decide +kernel
theorem dX3_spread_16 : decode cX3_spread 16 = .ok (.iconst 1, 1) := by decide +kernel
theorem dX3_spread_17 : decode cX3_spread 17 = .ok (.if_icmp .le 7, 3) := by decide +kernel
theorem dX3_spread_20 : decode cX3_spread 20 = .ok (.ldc2_w 86, 3) := by decide +kernel
theorem dX3_spread_23 : decode cX3_spread 23 = .ok (.lreturn, 1) := by decide +kernel
theorem dX3_spread_24 : decode cX3_spread 24 = .ok (.aload_n 3, 1) := by decide +kernel
theorem dX3_spread_25 : decode cX3_spread 25 = .ok (.getfield 56, 3) := by decide +kernel
theorem dX3_spread_28 : decode cX3_spread 28 = .ok (.ifCond .ne 13, 3) := by decide +kernel
theorem dX3_spread_31 : decode cX3_spread 31 = .ok (.new 88, 3) := by decide +kernel
theorem dX3_spread_34 : decode cX3_spread 34 = .ok (.dup, 1) := by decide +kernel
theorem dX3_spread_35 : decode cX3_spread 35 = .ok (.ldc 101, 2) := by decide +kernel
theorem dX3_spread_37 : decode cX3_spread 37 = .ok (.invokespecial 92, 3) := by decide +kernel
theorem dX3_spread_40 : decode cX3_spread 40 = .ok (.athrow, 1) := by decide +kernel
theorem dX3_spread_41 : decode cX3_spread 41 = .ok (.aload_n 3, 1) := by decide +kernel
theorem dX3_spread_42 : decode cX3_spread 42 = .ok (.getfield 56, 3) := by decide +kernel
theorem dX3_spread_45 : decode cX3_spread 45 = .ok (.i2l, 1) := by decide +kernel
theorem dX3_spread_46 : decode cX3_spread 46 = .ok (.lstore 4, 2) := by decide +kernel
theorem dX3_spread_48 : decode cX3_spread 48 = .ok (.aload_n 3, 1) := by decide +kernel
theorem dX3_spread_49 : decode cX3_spread 49 = .ok (.invokevirtual 93, 3) := by decide +kernel
theorem dX3_spread_52 : decode cX3_spread 52 = .ok (.lstore 6, 2) := by decide +kernel
theorem dX3_spread_54 : decode cX3_spread 54 = .ok (.lload 4, 2) := by decide +kernel
theorem dX3_spread_56 : decode cX3_spread 56 = .ok (.aload_n 3, 1) := by decide +kernel
theorem dX3_spread_57 : decode cX3_spread 57 = .ok (.invokevirtual 103, 3) := by decide +kernel
theorem dX3_spread_60 : decode cX3_spread 60 = .ok (.lmul, 1) := by decide +kernel
theorem dX3_spread_61 : decode cX3_spread 61 = .ok (.lload 6, 2) := by decide +kernel
theorem dX3_spread_63 : decode cX3_spread 63 = .ok (.lload 6, 2) := by decide +kernel
theorem dX3_spread_65 : decode cX3_spread 65 = .ok (.lmul, 1) := by decide +kernel
theorem dX3_spread_66 : decode cX3_spread 66 = .ok (.lsub, 1) := by decide +kernel
theorem dX3_spread_67 : decode cX3_spread 67 = .ok (.lload 4, 2) := by decide +kernel
theorem dX3_spread_69 : decode cX3_spread 69 = .ok (.lload 4, 2) := by decide +kernel
theorem dX3_spread_71 : decode cX3_spread 71 = .ok (.lmul, 1) := by decide +kernel
theorem dX3_spread_72 : decode cX3_spread 72 = .ok (.iload_n 2, 1) := by decide +kernel
theorem dX3_spread_73 : decode cX3_spread 73 = .ok (.invokestatic 97, 3) := by decide +kernel
theorem dX3_spread_76 : decode cX3_spread 76 = .ok (.lreturn, 1) := by decide +kernel
set_option maxRecDepth 20000 in
theorem ggX3_least_X3_foldOfKind : GoodIn wsX3_least wsX3_foldOfKind := goodIn_r _ [7, 8, 9, 10, 11, 6, 12, 13, 14, 35, 36, 37, 38, 39, 40, 41, 42] (by decide +kernel) (by decide +kernel)
set_option maxRecDepth 20000 in
theorem gX3_least_X3_foldOfKind : GoodIn wsX3_least (wsV RX3 67 RX3 yX3_foldOfKind wsX3_foldOfKind) := goodIn_app (goodIn_of _ (by decide +kernel)) ggX3_least_X3_foldOfKind
set_option maxRecDepth 20000 in
theorem ggX3_least_X0_leastValue : GoodIn wsX3_least wsX0_leastValue := goodIn_r _ [19, 20, 21, 22, 23, 24, 25, 26, 35, 36, 37, 38] (by decide +kernel) (by decide +kernel)
set_option maxRecDepth 20000 in
theorem gX3_least_X0_leastValue : GoodIn wsX3_least (wsV RX3 106 RX0 yX0_leastValue wsX0_leastValue) := goodIn_app (goodIn_of _ (by decide +kernel)) ggX3_least_X0_leastValue
set_option maxRecDepth 20000 in
theorem ggX3_least_X0_greatestValue : GoodIn wsX3_least wsX0_greatestValue := goodIn_r _ [30, 31, 21, 22, 32, 33, 25, 34, 35, 36, 37, 38] (by decide +kernel) (by decide +kernel)
set_option maxRecDepth 20000 in
theorem gX3_least_X0_greatestValue : GoodIn wsX3_least (wsV RX3 109 RX0 yX0_greatestValue wsX0_greatestValue) := goodIn_app (goodIn_of _ (by decide +kernel)) ggX3_least_X0_greatestValue
theorem dX3_least_0 : decode cX3_least 0 = .ok (.aload_n 0, 1) := by decide +kernel
theorem dX3_least_1 : decode cX3_least 1 = .ok (.iload_n 1, 1) := by decide +kernel
theorem dX3_least_2 : decode cX3_least 2 = .ok (.iconst 3, 1) := by decide +kernel
theorem dX3_least_3 : decode cX3_least 3 = .ok (.invokevirtual 67, 3) := by decide +kernel
theorem dX3_least_6 : decode cX3_least 6 = .ok (.astore_n 3, 1) := by decide +kernel
theorem dX3_least_7 : decode cX3_least 7 = .ok (.aload_n 3, 1) := by decide +kernel
theorem dX3_least_8 : decode cX3_least 8 = .ok (.ifnull 19, 3) := by decide +kernel
theorem dX3_least_11 : decode cX3_least 11 = .ok (.iload_n 2, 1) := by decide +kernel
theorem dX3_least_12 : decode cX3_least 12 = .ok (.ifCond .lt 15, 3) := by decide +kernel
theorem dX3_least_15 : decode cX3_least 15 = .ok (.iload_n 2, 1) := by decide +kernel
theorem dX3_least_16 : decode cX3_least 16 = .ok (.iconst 1, 1) := by decide +kernel
theorem dX3_least_17 : decode cX3_least 17 = .ok (.if_icmp .gt 10, 3) := by decide +kernel
theorem dX3_least_20 : decode cX3_least 20 = .ok (.aload_n 3, 1) := by decide +kernel
theorem dX3_least_21 : decode cX3_least 21 = .ok (.getfield 56, 3) := by decide +kernel
theorem dX3_least_24 : decode cX3_least 24 = .ok (.ifCond .ne 7, 3) := by decide +kernel
theorem dX3_least_27 : decode cX3_least 27 = .ok (.ldc2_w 86, 3) := by decide +kernel
theorem dX3_least_30 : decode cX3_least 30 = .ok (.lreturn, 1) := by decide +kernel
theorem dX3_least_31 : decode cX3_least 31 = .ok (.iload_n 2, 1) := by decide +kernel
theorem dX3_least_32 : decode cX3_least 32 = .ok (.ifCond .ne 10, 3) := by decide +kernel
theorem dX3_least_35 : decode cX3_least 35 = .ok (.aload_n 3, 1) := by decide +kernel
theorem dX3_least_36 : decode cX3_least 36 = .ok (.invokevirtual 106, 3) := by decide +kernel
theorem dX3_least_39 : decode cX3_least 39 = .ok (.goto 7, 3) := by decide +kernel
theorem dX3_least_42 : decode cX3_least 42 = .ok (.aload_n 3, 1) := by decide +kernel
theorem dX3_least_43 : decode cX3_least 43 = .ok (.invokevirtual 109, 3) := by decide +kernel
theorem dX3_least_46 : decode cX3_least 46 = .ok (.lreturn, 1) := by decide +kernel
set_option maxRecDepth 20000 in
theorem ggX3_rank_X3_foldNumbered : GoodIn wsX3_rank wsX3_foldNumbered := goodIn_r _ [6, 7, 8, 20, 21, 22, 23] (by decide +kernel) (by decide +kernel)
set_option maxRecDepth 20000 in
theorem gX3_rank_X3_foldNumbered : GoodIn wsX3_rank (wsV RX3 49 RX3 yX3_foldNumbered wsX3_foldNumbered) := goodIn_app (goodIn_of _ (by decide +kernel)) ggX3_rank_X3_foldNumbered
set_option maxRecDepth 20000 in
theorem ggX3_rank_X0_countBelow : GoodIn wsX3_rank wsX0_countBelow := goodIn_r _ [13, 14, 15, 16, 17, 18, 19] (by decide +kernel) (by decide +kernel)
set_option maxRecDepth 20000 in
theorem gX3_rank_X0_countBelow : GoodIn wsX3_rank (wsV RX3 112 RX0 yX0_countBelow wsX0_countBelow) := goodIn_app (goodIn_of _ (by decide +kernel)) ggX3_rank_X0_countBelow
theorem dX3_rank_0 : decode cX3_rank 0 = .ok (.aload_n 0, 1) := by decide +kernel
theorem dX3_rank_1 : decode cX3_rank 1 = .ok (.iload_n 1, 1) := by decide +kernel
theorem dX3_rank_2 : decode cX3_rank 2 = .ok (.invokevirtual 49, 3) := by decide +kernel
theorem dX3_rank_5 : decode cX3_rank 5 = .ok (.astore 4, 2) := by decide +kernel
theorem dX3_rank_7 : decode cX3_rank 7 = .ok (.aload 4, 2) := by decide +kernel
theorem dX3_rank_9 : decode cX3_rank 9 = .ok (.ifnonnull 5, 3) := by decide +kernel
theorem dX3_rank_12 : decode cX3_rank 12 = .ok (.iconst (-1), 1) := by decide +kernel
theorem dX3_rank_13 : decode cX3_rank 13 = .ok (.ireturn, 1) := by decide +kernel
theorem dX3_rank_14 : decode cX3_rank 14 = .ok (.aload 4, 2) := by decide +kernel
theorem dX3_rank_16 : decode cX3_rank 16 = .ok (.getfield 53, 3) := by decide +kernel
theorem dX3_rank_19 : decode cX3_rank 19 = .ok (.iconst 3, 1) := by decide +kernel
theorem dX3_rank_20 : decode cX3_rank 20 = .ok (.if_icmp .ne 12, 3) := by decide +kernel
theorem dX3_rank_23 : decode cX3_rank 23 = .ok (.aload 4, 2) := by decide +kernel
theorem dX3_rank_25 : decode cX3_rank 25 = .ok (.lload_n 2, 1) := by decide +kernel
theorem dX3_rank_26 : decode cX3_rank 26 = .ok (.invokevirtual 112, 3) := by decide +kernel
theorem dX3_rank_29 : decode cX3_rank 29 = .ok (.goto 5, 3) := by decide +kernel
theorem dX3_rank_32 : decode cX3_rank 32 = .ok (.bipush (-3), 2) := by decide +kernel
theorem dX3_rank_34 : decode cX3_rank 34 = .ok (.ireturn, 1) := by decide +kernel
set_option maxRecDepth 20000 in
theorem ggX3_unlike_X3_foldNumbered : GoodIn wsX3_unlike wsX3_foldNumbered := goodIn_r _ [6, 7, 8, 24, 25, 26, 27] (by decide +kernel) (by decide +kernel)
set_option maxRecDepth 20000 in
theorem gX3_unlike_X3_foldNumbered : GoodIn wsX3_unlike (wsV RX3 49 RX3 yX3_foldNumbered wsX3_foldNumbered) := goodIn_app (goodIn_of _ (by decide +kernel)) ggX3_unlike_X3_foldNumbered
set_option maxRecDepth 20000 in
theorem ggX3_unlike_X0_countUnlike : GoodIn wsX3_unlike wsX0_countUnlike := goodIn_r _ [13, 14, 15, 16, 17, 12, 18, 19, 20, 21, 22, 23] (by decide +kernel) (by decide +kernel)
set_option maxRecDepth 20000 in
theorem gX3_unlike_X0_countUnlike : GoodIn wsX3_unlike (wsV RX3 116 RX0 yX0_countUnlike wsX0_countUnlike) := goodIn_app (goodIn_of _ (by decide +kernel)) ggX3_unlike_X0_countUnlike
theorem dX3_unlike_0 : decode cX3_unlike 0 = .ok (.aload_n 0, 1) := by decide +kernel
theorem dX3_unlike_1 : decode cX3_unlike 1 = .ok (.iload_n 1, 1) := by decide +kernel
theorem dX3_unlike_2 : decode cX3_unlike 2 = .ok (.invokevirtual 49, 3) := by decide +kernel
theorem dX3_unlike_5 : decode cX3_unlike 5 = .ok (.astore_n 2, 1) := by decide +kernel
theorem dX3_unlike_6 : decode cX3_unlike 6 = .ok (.aload_n 2, 1) := by decide +kernel
theorem dX3_unlike_7 : decode cX3_unlike 7 = .ok (.ifnonnull 5, 3) := by decide +kernel
theorem dX3_unlike_10 : decode cX3_unlike 10 = .ok (.iconst (-1), 1) := by decide +kernel
theorem dX3_unlike_11 : decode cX3_unlike 11 = .ok (.ireturn, 1) := by decide +kernel
theorem dX3_unlike_12 : decode cX3_unlike 12 = .ok (.aload_n 2, 1) := by decide +kernel
theorem dX3_unlike_13 : decode cX3_unlike 13 = .ok (.getfield 53, 3) := by decide +kernel
theorem dX3_unlike_16 : decode cX3_unlike 16 = .ok (.iconst 3, 1) := by decide +kernel
theorem dX3_unlike_17 : decode cX3_unlike 17 = .ok (.if_icmp .ne 10, 3) := by decide +kernel
theorem dX3_unlike_20 : decode cX3_unlike 20 = .ok (.aload_n 2, 1) := by decide +kernel
theorem dX3_unlike_21 : decode cX3_unlike 21 = .ok (.invokevirtual 116, 3) := by decide +kernel
theorem dX3_unlike_24 : decode cX3_unlike 24 = .ok (.goto 5, 3) := by decide +kernel
theorem dX3_unlike_27 : decode cX3_unlike 27 = .ok (.bipush (-3), 2) := by decide +kernel
theorem dX3_unlike_29 : decode cX3_unlike 29 = .ok (.ireturn, 1) := by decide +kernel
set_option maxRecDepth 20000 in
theorem ggX3_item_X3_foldNumbered : GoodIn wsX3_item wsX3_foldNumbered := goodIn_r _ [9, 10, 11, 16, 17, 18, 19] (by decide +kernel) (by decide +kernel)
set_option maxRecDepth 20000 in
theorem gX3_item_X3_foldNumbered : GoodIn wsX3_item (wsV RX3 49 RX3 yX3_foldNumbered wsX3_foldNumbered) := goodIn_app (goodIn_of _ (by decide +kernel)) ggX3_item_X3_foldNumbered
theorem dX3_item_0 : decode cX3_item 0 = .ok (.aload_n 0, 1) := by decide +kernel
theorem dX3_item_1 : decode cX3_item 1 = .ok (.iload_n 1, 1) := by decide +kernel
theorem dX3_item_2 : decode cX3_item 2 = .ok (.invokevirtual 49, 3) := by decide +kernel
theorem dX3_item_5 : decode cX3_item 5 = .ok (.astore_n 3, 1) := by decide +kernel
theorem dX3_item_6 : decode cX3_item 6 = .ok (.aload_n 3, 1) := by decide +kernel
theorem dX3_item_7 : decode cX3_item 7 = .ok (.ifnull 23, 3) := by decide +kernel
theorem dX3_item_10 : decode cX3_item 10 = .ok (.aload_n 3, 1) := by decide +kernel
theorem dX3_item_11 : decode cX3_item 11 = .ok (.getfield 53, 3) := by decide +kernel
theorem dX3_item_14 : decode cX3_item 14 = .ok (.iconst 1, 1) := by decide +kernel
theorem dX3_item_15 : decode cX3_item 15 = .ok (.if_icmp .eq 15, 3) := by decide +kernel
theorem dX3_item_18 : decode cX3_item 18 = .ok (.iload_n 2, 1) := by decide +kernel
theorem dX3_item_19 : decode cX3_item 19 = .ok (.ifCond .lt 11, 3) := by decide +kernel
theorem dX3_item_22 : decode cX3_item 22 = .ok (.iload_n 2, 1) := by decide +kernel
theorem dX3_item_23 : decode cX3_item 23 = .ok (.aload_n 3, 1) := by decide +kernel
theorem dX3_item_24 : decode cX3_item 24 = .ok (.getfield 56, 3) := by decide +kernel
theorem dX3_item_27 : decode cX3_item 27 = .ok (.if_icmp .lt 7, 3) := by decide +kernel
theorem dX3_item_30 : decode cX3_item 30 = .ok (.ldc2_w 86, 3) := by decide +kernel
theorem dX3_item_33 : decode cX3_item 33 = .ok (.lreturn, 1) := by decide +kernel
theorem dX3_item_34 : decode cX3_item 34 = .ok (.aload_n 3, 1) := by decide +kernel
theorem dX3_item_35 : decode cX3_item 35 = .ok (.getfield 120, 3) := by decide +kernel
theorem dX3_item_38 : decode cX3_item 38 = .ok (.iload_n 2, 1) := by decide +kernel
theorem dX3_item_39 : decode cX3_item 39 = .ok (.laload, 1) := by decide +kernel
theorem dX3_item_40 : decode cX3_item 40 = .ok (.lreturn, 1) := by decide +kernel
set_option maxRecDepth 20000 in
theorem ggX3_start_X3_isState : GoodIn wsX3_start wsX3_isState := goodIn_r _ [5] (by decide +kernel) (by decide +kernel)
set_option maxRecDepth 20000 in
theorem gX3_start_X3_isState : GoodIn wsX3_start (va_wsS RX3 124 yX3_isState wsX3_isState) := goodIn_app (goodIn_of _ (by decide +kernel)) ggX3_start_X3_isState
set_option maxRecDepth 20000 in
theorem ggX3_start_X2_setStart : GoodIn wsX3_start wsX2_setStart := goodIn_r _ [10, 11, 16, 17, 18, 19, 20, 21, 22] (by decide +kernel) (by decide +kernel)
set_option maxRecDepth 20000 in
theorem gX3_start_X2_setStart : GoodIn wsX3_start (wsV RX3 128 RX2 yX2_setStart wsX2_setStart) := goodIn_app (goodIn_of _ (by decide +kernel)) ggX3_start_X2_setStart
theorem dX3_start_0 : decode cX3_start 0 = .ok (.iload_n 1, 1) := by decide +kernel
theorem dX3_start_1 : decode cX3_start 1 = .ok (.invokestatic 124, 3) := by decide +kernel
theorem dX3_start_4 : decode cX3_start 4 = .ok (.ifCond .eq 14, 3) := by decide +kernel
theorem dX3_start_7 : decode cX3_start 7 = .ok (.aload_n 0, 1) := by decide +kernel
theorem dX3_start_8 : decode cX3_start 8 = .ok (.getfield 24, 3) := by decide +kernel
theorem dX3_start_11 : decode cX3_start 11 = .ok (.iload_n 1, 1) := by decide +kernel
theorem dX3_start_12 : decode cX3_start 12 = .ok (.invokevirtual 128, 3) := by decide +kernel
theorem dX3_start_15 : decode cX3_start 15 = .ok (.goto 5, 3) := by decide +kernel
theorem dX3_start_18 : decode cX3_start 18 = .ok (.bipush (-2), 2) := by decide +kernel
theorem dX3_start_20 : decode cX3_start 20 = .ok (.ireturn, 1) := by decide +kernel
set_option maxRecDepth 20000 in
theorem ggX3_step_X3_isState : GoodIn wsX3_step wsX3_isState := goodIn_r _ [5] (by decide +kernel) (by decide +kernel)
set_option maxRecDepth 20000 in
theorem gX3_step_X3_isState : GoodIn wsX3_step (va_wsS RX3 124 yX3_isState wsX3_isState) := goodIn_app (goodIn_of _ (by decide +kernel)) ggX3_step_X3_isState
set_option maxRecDepth 20000 in
theorem ggX3_step_X2_setStep : GoodIn wsX3_step wsX2_setStep := goodIn_r _ [10, 11, 12, 13, 14, 9, 15, 3, 4, 5, 20, 21, 22, 23, 24, 25, 26] (by decide +kernel) (by decide +kernel)
set_option maxRecDepth 20000 in
theorem gX3_step_X2_setStep : GoodIn wsX3_step (wsV RX3 131 RX2 yX2_setStep wsX2_setStep) := goodIn_app (goodIn_of _ (by decide +kernel)) ggX3_step_X2_setStep
theorem dX3_step_0 : decode cX3_step 0 = .ok (.iload_n 1, 1) := by decide +kernel
theorem dX3_step_1 : decode cX3_step 1 = .ok (.invokestatic 124, 3) := by decide +kernel
theorem dX3_step_4 : decode cX3_step 4 = .ok (.ifCond .eq 19, 3) := by decide +kernel
theorem dX3_step_7 : decode cX3_step 7 = .ok (.iload_n 2, 1) := by decide +kernel
theorem dX3_step_8 : decode cX3_step 8 = .ok (.ifCond .lt 15, 3) := by decide +kernel
theorem dX3_step_11 : decode cX3_step 11 = .ok (.iload_n 2, 1) := by decide +kernel
theorem dX3_step_12 : decode cX3_step 12 = .ok (.iconst 4, 1) := by decide +kernel
theorem dX3_step_13 : decode cX3_step 13 = .ok (.if_icmp .ge 10, 3) := by decide +kernel
theorem dX3_step_16 : decode cX3_step 16 = .ok (.iload_n 3, 1) := by decide +kernel
theorem dX3_step_17 : decode cX3_step 17 = .ok (.invokestatic 124, 3) := by decide +kernel
theorem dX3_step_20 : decode cX3_step 20 = .ok (.ifCond .ne 6, 3) := by decide +kernel
theorem dX3_step_23 : decode cX3_step 23 = .ok (.bipush (-2), 2) := by decide +kernel
theorem dX3_step_25 : decode cX3_step 25 = .ok (.ireturn, 1) := by decide +kernel
theorem dX3_step_26 : decode cX3_step 26 = .ok (.aload_n 0, 1) := by decide +kernel
theorem dX3_step_27 : decode cX3_step 27 = .ok (.getfield 24, 3) := by decide +kernel
theorem dX3_step_30 : decode cX3_step 30 = .ok (.iload_n 1, 1) := by decide +kernel
theorem dX3_step_31 : decode cX3_step 31 = .ok (.iload_n 2, 1) := by decide +kernel
theorem dX3_step_32 : decode cX3_step 32 = .ok (.iload_n 3, 1) := by decide +kernel
theorem dX3_step_33 : decode cX3_step 33 = .ok (.invokevirtual 131, 3) := by decide +kernel
theorem dX3_step_36 : decode cX3_step 36 = .ok (.ireturn, 1) := by decide +kernel
set_option maxRecDepth 20000 in
theorem ggX3_join_X3_isState : GoodIn wsX3_join wsX3_isState := goodIn_r _ [5] (by decide +kernel) (by decide +kernel)
set_option maxRecDepth 20000 in
theorem gX3_join_X3_isState : GoodIn wsX3_join (va_wsS RX3 124 yX3_isState wsX3_isState) := goodIn_app (goodIn_of _ (by decide +kernel)) ggX3_join_X3_isState
set_option maxRecDepth 20000 in
theorem ggX3_join_X2_setJoin : GoodIn wsX3_join wsX2_setJoin := goodIn_r _ [10, 11, 12, 13, 14, 9, 15, 3, 4, 5, 20, 21, 22, 23, 24, 25, 26] (by decide +kernel) (by decide +kernel)
set_option maxRecDepth 20000 in
theorem gX3_join_X2_setJoin : GoodIn wsX3_join (wsV RX3 135 RX2 yX2_setJoin wsX2_setJoin) := goodIn_app (goodIn_of _ (by decide +kernel)) ggX3_join_X2_setJoin
theorem dX3_join_0 : decode cX3_join 0 = .ok (.iload_n 1, 1) := by decide +kernel
theorem dX3_join_1 : decode cX3_join 1 = .ok (.invokestatic 124, 3) := by decide +kernel
theorem dX3_join_4 : decode cX3_join 4 = .ok (.ifCond .eq 17, 3) := by decide +kernel
theorem dX3_join_7 : decode cX3_join 7 = .ok (.iload_n 2, 1) := by decide +kernel
theorem dX3_join_8 : decode cX3_join 8 = .ok (.invokestatic 124, 3) := by decide +kernel
theorem dX3_join_11 : decode cX3_join 11 = .ok (.ifCond .eq 10, 3) := by decide +kernel
theorem dX3_join_14 : decode cX3_join 14 = .ok (.iload_n 3, 1) := by decide +kernel
theorem dX3_join_15 : decode cX3_join 15 = .ok (.invokestatic 124, 3) := by decide +kernel
theorem dX3_join_18 : decode cX3_join 18 = .ok (.ifCond .ne 6, 3) := by decide +kernel
theorem dX3_join_21 : decode cX3_join 21 = .ok (.bipush (-2), 2) := by decide +kernel
theorem dX3_join_23 : decode cX3_join 23 = .ok (.ireturn, 1) := by decide +kernel
theorem dX3_join_24 : decode cX3_join 24 = .ok (.aload_n 0, 1) := by decide +kernel
theorem dX3_join_25 : decode cX3_join 25 = .ok (.getfield 24, 3) := by decide +kernel
theorem dX3_join_28 : decode cX3_join 28 = .ok (.iload_n 1, 1) := by decide +kernel
theorem dX3_join_29 : decode cX3_join 29 = .ok (.iload_n 2, 1) := by decide +kernel
theorem dX3_join_30 : decode cX3_join 30 = .ok (.iload_n 3, 1) := by decide +kernel
theorem dX3_join_31 : decode cX3_join 31 = .ok (.invokevirtual 135, 3) := by decide +kernel
theorem dX3_join_34 : decode cX3_join 34 = .ok (.ireturn, 1) := by decide +kernel
set_option maxRecDepth 20000 in
theorem ggX3_state_X3_foldNumbered : GoodIn wsX3_state wsX3_foldNumbered := goodIn_r _ [7, 8, 9, 29, 30, 31, 32] (by decide +kernel) (by decide +kernel)
set_option maxRecDepth 20000 in
theorem gX3_state_X3_foldNumbered : GoodIn wsX3_state (wsV RX3 49 RX3 yX3_foldNumbered wsX3_foldNumbered) := goodIn_app (goodIn_of _ (by decide +kernel)) ggX3_state_X3_foldNumbered
set_option maxRecDepth 20000 in
theorem ggX3_state_X2_stateOf : GoodIn wsX3_state wsX2_stateOf := goodIn_r _ [14, 15, 16, 17, 18, 19, 20, 13, 21, 22, 23, 6, 24, 33, 34, 35, 36, 37, 38, 39, 25, 26, 27, 28] (by decide +kernel) (by decide +kernel)
set_option maxRecDepth 20000 in
theorem gX3_state_X2_stateOf : GoodIn wsX3_state (wsV RX3 138 RX2 yX2_stateOf wsX2_stateOf) := goodIn_app (goodIn_of _ (by decide +kernel)) ggX3_state_X2_stateOf
theorem dX3_state_0 : decode cX3_state 0 = .ok (.aload_n 0, 1) := by decide +kernel
theorem dX3_state_1 : decode cX3_state 1 = .ok (.iload_n 1, 1) := by decide +kernel
theorem dX3_state_2 : decode cX3_state 2 = .ok (.invokevirtual 49, 3) := by decide +kernel
theorem dX3_state_5 : decode cX3_state 5 = .ok (.astore_n 2, 1) := by decide +kernel
theorem dX3_state_6 : decode cX3_state 6 = .ok (.aload_n 2, 1) := by decide +kernel
theorem dX3_state_7 : decode cX3_state 7 = .ok (.ifnonnull 5, 3) := by decide +kernel
theorem dX3_state_10 : decode cX3_state 10 = .ok (.iconst (-1), 1) := by decide +kernel
theorem dX3_state_11 : decode cX3_state 11 = .ok (.ireturn, 1) := by decide +kernel
theorem dX3_state_12 : decode cX3_state 12 = .ok (.aload_n 2, 1) := by decide +kernel
theorem dX3_state_13 : decode cX3_state 13 = .ok (.getfield 53, 3) := by decide +kernel
theorem dX3_state_16 : decode cX3_state 16 = .ok (.iconst 4, 1) := by decide +kernel
theorem dX3_state_17 : decode cX3_state 17 = .ok (.if_icmp .ne 14, 3) := by decide +kernel
theorem dX3_state_20 : decode cX3_state 20 = .ok (.aload_n 0, 1) := by decide +kernel
theorem dX3_state_21 : decode cX3_state 21 = .ok (.getfield 24, 3) := by decide +kernel
theorem dX3_state_24 : decode cX3_state 24 = .ok (.aload_n 2, 1) := by decide +kernel
theorem dX3_state_25 : decode cX3_state 25 = .ok (.invokevirtual 138, 3) := by decide +kernel
theorem dX3_state_28 : decode cX3_state 28 = .ok (.goto 5, 3) := by decide +kernel
theorem dX3_state_31 : decode cX3_state 31 = .ok (.bipush (-3), 2) := by decide +kernel
theorem dX3_state_33 : decode cX3_state 33 = .ok (.ireturn, 1) := by decide +kernel
set_option maxRecDepth 20000 in
theorem ggX3_check_X2_lookThrough : GoodIn wsX3_check wsX2_lookThrough := goodIn_r _ [10, 11, 12, 13, 14, 9, 15, 16, 17, 18, 19, 20, 21, 22, 23, 24, 25, 26, 27, 28, 29, 30, 31, 32, 33, 34, 35, 36, 37, 38, 39, 40, 41, 42, 43, 44, 45, 46, 47, 48, 49, 50, 51, 56, 57, 58, 59, 60, 61, 62] (by decide +kernel) (by decide +kernel)
set_option maxRecDepth 20000 in
theorem gX3_check_X2_lookThrough : GoodIn wsX3_check (wsV RX3 142 RX2 yX2_lookThrough wsX2_lookThrough) := goodIn_app (goodIn_of _ (by decide +kernel)) ggX3_check_X2_lookThrough
theorem dX3_check_0 : decode cX3_check 0 = .ok (.iload_n 1, 1) := by decide +kernel
theorem dX3_check_1 : decode cX3_check 1 = .ok (.ifCond .lt 8, 3) := by decide +kernel
theorem dX3_check_4 : decode cX3_check 4 = .ok (.iload_n 1, 1) := by decide +kernel
theorem dX3_check_5 : decode cX3_check 5 = .ok (.iconst 3, 1) := by decide +kernel
theorem dX3_check_6 : decode cX3_check 6 = .ok (.if_icmp .le 6, 3) := by decide +kernel
theorem dX3_check_9 : decode cX3_check 9 = .ok (.bipush (-2), 2) := by decide +kernel
theorem dX3_check_11 : decode cX3_check 11 = .ok (.ireturn, 1) := by decide +kernel
theorem dX3_check_12 : decode cX3_check 12 = .ok (.aload_n 0, 1) := by decide +kernel
theorem dX3_check_13 : decode cX3_check 13 = .ok (.getfield 24, 3) := by decide +kernel
theorem dX3_check_16 : decode cX3_check 16 = .ok (.invokevirtual 142, 3) := by decide +kernel
theorem dX3_check_19 : decode cX3_check 19 = .ok (.iload_n 1, 1) := by decide +kernel
theorem dX3_check_20 : decode cX3_check 20 = .ok (.tableswitch 52 0 2 #[28, 36, 44], 28) := by decide +kernel
theorem dX3_check_48 : decode cX3_check 48 = .ok (.aload_n 0, 1) := by decide +kernel
theorem dX3_check_49 : decode cX3_check 49 = .ok (.getfield 24, 3) := by decide +kernel
theorem dX3_check_52 : decode cX3_check 52 = .ok (.getfield 145, 3) := by decide +kernel
theorem dX3_check_55 : decode cX3_check 55 = .ok (.ireturn, 1) := by decide +kernel
theorem dX3_check_56 : decode cX3_check 56 = .ok (.aload_n 0, 1) := by decide +kernel
theorem dX3_check_57 : decode cX3_check 57 = .ok (.getfield 24, 3) := by decide +kernel
theorem dX3_check_60 : decode cX3_check 60 = .ok (.getfield 148, 3) := by decide +kernel
theorem dX3_check_63 : decode cX3_check 63 = .ok (.ireturn, 1) := by decide +kernel
theorem dX3_check_64 : decode cX3_check 64 = .ok (.aload_n 0, 1) := by decide +kernel
theorem dX3_check_65 : decode cX3_check 65 = .ok (.getfield 24, 3) := by decide +kernel
theorem dX3_check_68 : decode cX3_check 68 = .ok (.getfield 151, 3) := by decide +kernel
theorem dX3_check_71 : decode cX3_check 71 = .ok (.ireturn, 1) := by decide +kernel
theorem dX3_check_72 : decode cX3_check 72 = .ok (.aload_n 0, 1) := by decide +kernel
theorem dX3_check_73 : decode cX3_check 73 = .ok (.getfield 24, 3) := by decide +kernel
theorem dX3_check_76 : decode cX3_check 76 = .ok (.getfield 154, 3) := by decide +kernel
theorem dX3_check_79 : decode cX3_check 79 = .ok (.ireturn, 1) := by decide +kernel
set_option maxRecDepth 20000 in
theorem ggX3_joined_X3_foldNumbered : GoodIn wsX3_joined wsX3_foldNumbered := goodIn_r _ [7, 8, 9, 50, 51, 52, 53] (by decide +kernel) (by decide +kernel)
set_option maxRecDepth 20000 in
theorem gX3_joined_X3_foldNumbered : GoodIn wsX3_joined (wsV RX3 49 RX3 yX3_foldNumbered wsX3_foldNumbered) := goodIn_app (goodIn_of _ (by decide +kernel)) ggX3_joined_X3_foldNumbered
set_option maxRecDepth 20000 in
theorem ggX3_joined_X2_joinAll : GoodIn wsX3_joined wsX2_joinAll := goodIn_r _ [14, 15, 16, 17, 18, 19, 13, 20, 21, 22, 23, 24, 25, 26, 27, 28, 29, 30, 31, 6, 32, 33, 34, 35, 36, 37, 38, 39, 40, 41, 42, 43, 44, 45, 46, 47, 48, 49, 54, 55, 56, 57, 58, 59, 60] (by decide +kernel) (by decide +kernel)
set_option maxRecDepth 20000 in
theorem gX3_joined_X2_joinAll : GoodIn wsX3_joined (wsV RX3 157 RX2 yX2_joinAll wsX2_joinAll) := goodIn_app (goodIn_of _ (by decide +kernel)) ggX3_joined_X2_joinAll
theorem dX3_joined_0 : decode cX3_joined 0 = .ok (.aload_n 0, 1) := by decide +kernel
theorem dX3_joined_1 : decode cX3_joined 1 = .ok (.iload_n 1, 1) := by decide +kernel
theorem dX3_joined_2 : decode cX3_joined 2 = .ok (.invokevirtual 49, 3) := by decide +kernel
theorem dX3_joined_5 : decode cX3_joined 5 = .ok (.astore_n 3, 1) := by decide +kernel
theorem dX3_joined_6 : decode cX3_joined 6 = .ok (.aload_n 3, 1) := by decide +kernel
theorem dX3_joined_7 : decode cX3_joined 7 = .ok (.ifnonnull 5, 3) := by decide +kernel
theorem dX3_joined_10 : decode cX3_joined 10 = .ok (.iconst (-1), 1) := by decide +kernel
theorem dX3_joined_11 : decode cX3_joined 11 = .ok (.ireturn, 1) := by decide +kernel
theorem dX3_joined_12 : decode cX3_joined 12 = .ok (.aload_n 3, 1) := by decide +kernel
theorem dX3_joined_13 : decode cX3_joined 13 = .ok (.getfield 53, 3) := by decide +kernel
theorem dX3_joined_16 : decode cX3_joined 16 = .ok (.iconst 4, 1) := by decide +kernel
theorem dX3_joined_17 : decode cX3_joined 17 = .ok (.if_icmp .eq 6, 3) := by decide +kernel
theorem dX3_joined_20 : decode cX3_joined 20 = .ok (.bipush (-3), 2) := by decide +kernel
theorem dX3_joined_22 : decode cX3_joined 22 = .ok (.ireturn, 1) := by decide +kernel
theorem dX3_joined_23 : decode cX3_joined 23 = .ok (.iload_n 2, 1) := by decide +kernel
theorem dX3_joined_24 : decode cX3_joined 24 = .ok (.ifCond .lt 8, 3) := by decide +kernel
theorem dX3_joined_27 : decode cX3_joined 27 = .ok (.iload_n 2, 1) := by decide +kernel
theorem dX3_joined_28 : decode cX3_joined 28 = .ok (.iconst 2, 1) := by decide +kernel
theorem dX3_joined_29 : decode cX3_joined 29 = .ok (.if_icmp .le 6, 3) := by decide +kernel
theorem dX3_joined_32 : decode cX3_joined 32 = .ok (.bipush (-2), 2) := by decide +kernel
theorem dX3_joined_34 : decode cX3_joined 34 = .ok (.ireturn, 1) := by decide +kernel
theorem dX3_joined_35 : decode cX3_joined 35 = .ok (.aload_n 0, 1) := by decide +kernel
theorem dX3_joined_36 : decode cX3_joined 36 = .ok (.getfield 24, 3) := by decide +kernel
theorem dX3_joined_39 : decode cX3_joined 39 = .ok (.aload_n 3, 1) := by decide +kernel
theorem dX3_joined_40 : decode cX3_joined 40 = .ok (.iload_n 2, 1) := by decide +kernel
theorem dX3_joined_41 : decode cX3_joined 41 = .ok (.invokevirtual 157, 3) := by decide +kernel
theorem dX3_joined_44 : decode cX3_joined 44 = .ok (.ireturn, 1) := by decide +kernel
theorem dX3_foldNumbered_0 : decode cX3_foldNumbered 0 = .ok (.iload_n 1, 1) := by decide +kernel
theorem dX3_foldNumbered_1 : decode cX3_foldNumbered 1 = .ok (.ifCond .lt 20, 3) := by decide +kernel
theorem dX3_foldNumbered_4 : decode cX3_foldNumbered 4 = .ok (.iload_n 1, 1) := by decide +kernel
theorem dX3_foldNumbered_5 : decode cX3_foldNumbered 5 = .ok (.aload_n 0, 1) := by decide +kernel
theorem dX3_foldNumbered_6 : decode cX3_foldNumbered 6 = .ok (.getfield 17, 3) := by decide +kernel
theorem dX3_foldNumbered_9 : decode cX3_foldNumbered 9 = .ok (.if_icmp .ge 12, 3) := by decide +kernel
theorem dX3_foldNumbered_12 : decode cX3_foldNumbered 12 = .ok (.aload_n 0, 1) := by decide +kernel
theorem dX3_foldNumbered_13 : decode cX3_foldNumbered 13 = .ok (.getfield 13, 3) := by decide +kernel
theorem dX3_foldNumbered_16 : decode cX3_foldNumbered 16 = .ok (.iload_n 1, 1) := by decide +kernel
theorem dX3_foldNumbered_17 : decode cX3_foldNumbered 17 = .ok (.aaload, 1) := by decide +kernel
theorem dX3_foldNumbered_18 : decode cX3_foldNumbered 18 = .ok (.goto 4, 3) := by decide +kernel
theorem dX3_foldNumbered_21 : decode cX3_foldNumbered 21 = .ok (.aconst_null, 1) := by decide +kernel
theorem dX3_foldNumbered_22 : decode cX3_foldNumbered 22 = .ok (.areturn, 1) := by decide +kernel
set_option maxRecDepth 20000 in
theorem ggX3_foldOfKind_X3_foldNumbered : GoodIn wsX3_foldOfKind wsX3_foldNumbered := goodIn_r _ [6, 7, 8, 13, 14, 15, 16] (by decide +kernel) (by decide +kernel)
set_option maxRecDepth 20000 in
theorem gX3_foldOfKind_X3_foldNumbered : GoodIn wsX3_foldOfKind (wsV RX3 49 RX3 yX3_foldNumbered wsX3_foldNumbered) := goodIn_app (goodIn_of _ (by decide +kernel)) ggX3_foldOfKind_X3_foldNumbered
theorem dX3_foldOfKind_0 : decode cX3_foldOfKind 0 = .ok (.aload_n 0, 1) := by decide +kernel
theorem dX3_foldOfKind_1 : decode cX3_foldOfKind 1 = .ok (.iload_n 1, 1) := by decide +kernel
theorem dX3_foldOfKind_2 : decode cX3_foldOfKind 2 = .ok (.invokevirtual 49, 3) := by decide +kernel
theorem dX3_foldOfKind_5 : decode cX3_foldOfKind 5 = .ok (.astore_n 3, 1) := by decide +kernel
theorem dX3_foldOfKind_6 : decode cX3_foldOfKind 6 = .ok (.aload_n 3, 1) := by decide +kernel
theorem dX3_foldOfKind_7 : decode cX3_foldOfKind 7 = .ok (.ifnull 15, 3) := by decide +kernel
theorem dX3_foldOfKind_10 : decode cX3_foldOfKind 10 = .ok (.aload_n 3, 1) := by decide +kernel
theorem dX3_foldOfKind_11 : decode cX3_foldOfKind 11 = .ok (.getfield 53, 3) := by decide +kernel
theorem dX3_foldOfKind_14 : decode cX3_foldOfKind 14 = .ok (.iload_n 2, 1) := by decide +kernel
theorem dX3_foldOfKind_15 : decode cX3_foldOfKind 15 = .ok (.if_icmp .ne 7, 3) := by decide +kernel
theorem dX3_foldOfKind_18 : decode cX3_foldOfKind 18 = .ok (.aload_n 3, 1) := by decide +kernel
theorem dX3_foldOfKind_19 : decode cX3_foldOfKind 19 = .ok (.goto 4, 3) := by decide +kernel
theorem dX3_foldOfKind_22 : decode cX3_foldOfKind 22 = .ok (.aconst_null, 1) := by decide +kernel
theorem dX3_foldOfKind_23 : decode cX3_foldOfKind 23 = .ok (.areturn, 1) := by decide +kernel
set_option maxRecDepth 20000 in
theorem ggX3_addRow_X3_foldNumbered : GoodIn wsX3_addRow wsX3_foldNumbered := goodIn_r _ [8, 9, 10, 36, 37, 38, 39] (by decide +kernel) (by decide +kernel)
set_option maxRecDepth 20000 in
theorem gX3_addRow_X3_foldNumbered : GoodIn wsX3_addRow (wsV RX3 49 RX3 yX3_foldNumbered wsX3_foldNumbered) := goodIn_app (goodIn_of _ (by decide +kernel)) ggX3_addRow_X3_foldNumbered
set_option maxRecDepth 20000 in
theorem ggX3_addRow_X3_isValueOf : GoodIn wsX3_addRow wsX3_isValueOf := goodIn_r _ [13, 14, 15, 16, 17, 18, 19] (by decide +kernel) (by decide +kernel)
set_option maxRecDepth 20000 in
theorem gX3_addRow_X3_isValueOf : GoodIn wsX3_addRow (va_wsS RX3 162 yX3_isValueOf wsX3_isValueOf) := goodIn_app (goodIn_of _ (by decide +kernel)) ggX3_addRow_X3_isValueOf
set_option maxRecDepth 20000 in
theorem ggX3_addRow_X0_insert : GoodIn wsX3_addRow wsX0_insert := goodIn_r _ [24, 25, 26, 27, 28, 29, 30, 23, 31, 32, 33, 34, 35] (by decide +kernel) (by decide +kernel)
set_option maxRecDepth 20000 in
theorem gX3_addRow_X0_insert : GoodIn wsX3_addRow (wsV RX3 166 RX0 yX0_insert wsX0_insert) := goodIn_app (goodIn_of _ (by decide +kernel)) ggX3_addRow_X0_insert
theorem dX3_addRow_0 : decode cX3_addRow 0 = .ok (.aload_n 0, 1) := by decide +kernel
theorem dX3_addRow_1 : decode cX3_addRow 1 = .ok (.iload_n 1, 1) := by decide +kernel
theorem dX3_addRow_2 : decode cX3_addRow 2 = .ok (.invokevirtual 49, 3) := by decide +kernel
theorem dX3_addRow_5 : decode cX3_addRow 5 = .ok (.astore 6, 2) := by decide +kernel
theorem dX3_addRow_7 : decode cX3_addRow 7 = .ok (.aload 6, 2) := by decide +kernel
theorem dX3_addRow_9 : decode cX3_addRow 9 = .ok (.ifnonnull 5, 3) := by decide +kernel
theorem dX3_addRow_12 : decode cX3_addRow 12 = .ok (.iconst (-1), 1) := by decide +kernel
theorem dX3_addRow_13 : decode cX3_addRow 13 = .ok (.ireturn, 1) := by decide +kernel
theorem dX3_addRow_14 : decode cX3_addRow 14 = .ok (.aload 6, 2) := by decide +kernel
theorem dX3_addRow_16 : decode cX3_addRow 16 = .ok (.getfield 53, 3) := by decide +kernel
theorem dX3_addRow_19 : decode cX3_addRow 19 = .ok (.iconst 1, 1) := by decide +kernel
theorem dX3_addRow_20 : decode cX3_addRow 20 = .ok (.if_icmp .ne 7, 3) := by decide +kernel
theorem dX3_addRow_23 : decode cX3_addRow 23 = .ok (.iconst 1, 1) := by decide +kernel
theorem dX3_addRow_24 : decode cX3_addRow 24 = .ok (.goto 4, 3) := by decide +kernel
theorem dX3_addRow_27 : decode cX3_addRow 27 = .ok (.iconst 0, 1) := by decide +kernel
theorem dX3_addRow_28 : decode cX3_addRow 28 = .ok (.iload_n 2, 1) := by decide +kernel
theorem dX3_addRow_29 : decode cX3_addRow 29 = .ok (.if_icmp .eq 6, 3) := by decide +kernel
theorem dX3_addRow_32 : decode cX3_addRow 32 = .ok (.bipush (-3), 2) := by decide +kernel
theorem dX3_addRow_34 : decode cX3_addRow 34 = .ok (.ireturn, 1) := by decide +kernel
theorem dX3_addRow_35 : decode cX3_addRow 35 = .ok (.iload_n 3, 1) := by decide +kernel
theorem dX3_addRow_36 : decode cX3_addRow 36 = .ok (.ifCond .lt 22, 3) := by decide +kernel
theorem dX3_addRow_39 : decode cX3_addRow 39 = .ok (.iload_n 3, 1) := by decide +kernel
theorem dX3_addRow_40 : decode cX3_addRow 40 = .ok (.ldc 161, 2) := by decide +kernel
theorem dX3_addRow_42 : decode cX3_addRow 42 = .ok (.if_icmp .gt 16, 3) := by decide +kernel
theorem dX3_addRow_45 : decode cX3_addRow 45 = .ok (.aload 6, 2) := by decide +kernel
theorem dX3_addRow_47 : decode cX3_addRow 47 = .ok (.getfield 53, 3) := by decide +kernel
theorem dX3_addRow_50 : decode cX3_addRow 50 = .ok (.lload 4, 2) := by decide +kernel
theorem dX3_addRow_52 : decode cX3_addRow 52 = .ok (.invokestatic 162, 3) := by decide +kernel
theorem dX3_addRow_55 : decode cX3_addRow 55 = .ok (.ifCond .ne 6, 3) := by decide +kernel
theorem dX3_addRow_58 : decode cX3_addRow 58 = .ok (.bipush (-2), 2) := by decide +kernel
theorem dX3_addRow_60 : decode cX3_addRow 60 = .ok (.ireturn, 1) := by decide +kernel
theorem dX3_addRow_61 : decode cX3_addRow 61 = .ok (.aload 6, 2) := by decide +kernel
theorem dX3_addRow_63 : decode cX3_addRow 63 = .ok (.getfield 56, 3) := by decide +kernel
theorem dX3_addRow_66 : decode cX3_addRow 66 = .ok (.bipush 64, 2) := by decide +kernel
theorem dX3_addRow_68 : decode cX3_addRow 68 = .ok (.if_icmp .lt 6, 3) := by decide +kernel
theorem dX3_addRow_71 : decode cX3_addRow 71 = .ok (.bipush (-4), 2) := by decide +kernel
theorem dX3_addRow_73 : decode cX3_addRow 73 = .ok (.ireturn, 1) := by decide +kernel
theorem dX3_addRow_74 : decode cX3_addRow 74 = .ok (.aload 6, 2) := by decide +kernel
theorem dX3_addRow_76 : decode cX3_addRow 76 = .ok (.iload_n 3, 1) := by decide +kernel
theorem dX3_addRow_77 : decode cX3_addRow 77 = .ok (.lload 4, 2) := by decide +kernel
theorem dX3_addRow_79 : decode cX3_addRow 79 = .ok (.invokevirtual 166, 3) := by decide +kernel
theorem dX3_addRow_82 : decode cX3_addRow 82 = .ok (.aload 6, 2) := by decide +kernel
theorem dX3_addRow_84 : decode cX3_addRow 84 = .ok (.getfield 56, 3) := by decide +kernel
theorem dX3_addRow_87 : decode cX3_addRow 87 = .ok (.ireturn, 1) := by decide +kernel
set_option maxRecDepth 20000 in
theorem ggX3_removeRow_X3_foldNumbered : GoodIn wsX3_removeRow wsX3_foldNumbered := goodIn_r _ [7, 8, 9, 30, 31, 32, 33] (by decide +kernel) (by decide +kernel)
set_option maxRecDepth 20000 in
theorem gX3_removeRow_X3_foldNumbered : GoodIn wsX3_removeRow (wsV RX3 49 RX3 yX3_foldNumbered wsX3_foldNumbered) := goodIn_app (goodIn_of _ (by decide +kernel)) ggX3_removeRow_X3_foldNumbered
set_option maxRecDepth 20000 in
theorem ggX3_removeRow_X0_placeOf : GoodIn wsX3_removeRow wsX0_placeOf := goodIn_r _ [14, 15, 16, 17, 26, 27, 28, 29] (by decide +kernel) (by decide +kernel)
set_option maxRecDepth 20000 in
theorem gX3_removeRow_X0_placeOf : GoodIn wsX3_removeRow (wsV RX3 170 RX0 yX0_placeOf wsX0_placeOf) := goodIn_app (goodIn_of _ (by decide +kernel)) ggX3_removeRow_X0_placeOf
set_option maxRecDepth 20000 in
theorem ggX3_removeRow_X0_isRow : GoodIn wsX3_removeRow wsX0_isRow := goodIn_r _ [21, 15, 16, 17, 26, 27, 28, 29] (by decide +kernel) (by decide +kernel)
set_option maxRecDepth 20000 in
theorem gX3_removeRow_X0_isRow : GoodIn wsX3_removeRow (wsV RX3 174 RX0 yX0_isRow wsX0_isRow) := goodIn_app (goodIn_of _ (by decide +kernel)) ggX3_removeRow_X0_isRow
set_option maxRecDepth 20000 in
theorem ggX3_removeRow_X0_takeOut : GoodIn wsX3_removeRow wsX0_takeOut := goodIn_r _ [25, 15, 16, 17, 26, 27, 28, 29] (by decide +kernel) (by decide +kernel)
set_option maxRecDepth 20000 in
theorem gX3_removeRow_X0_takeOut : GoodIn wsX3_removeRow (wsV RX3 178 RX0 yX0_takeOut wsX0_takeOut) := goodIn_app (goodIn_of _ (by decide +kernel)) ggX3_removeRow_X0_takeOut
theorem dX3_removeRow_0 : decode cX3_removeRow 0 = .ok (.aload_n 0, 1) := by decide +kernel
theorem dX3_removeRow_1 : decode cX3_removeRow 1 = .ok (.iload_n 1, 1) := by decide +kernel
theorem dX3_removeRow_2 : decode cX3_removeRow 2 = .ok (.invokevirtual 49, 3) := by decide +kernel
theorem dX3_removeRow_5 : decode cX3_removeRow 5 = .ok (.astore 6, 2) := by decide +kernel
theorem dX3_removeRow_7 : decode cX3_removeRow 7 = .ok (.aload 6, 2) := by decide +kernel
theorem dX3_removeRow_9 : decode cX3_removeRow 9 = .ok (.ifnonnull 5, 3) := by decide +kernel
theorem dX3_removeRow_12 : decode cX3_removeRow 12 = .ok (.iconst (-1), 1) := by decide +kernel
theorem dX3_removeRow_13 : decode cX3_removeRow 13 = .ok (.ireturn, 1) := by decide +kernel
theorem dX3_removeRow_14 : decode cX3_removeRow 14 = .ok (.aload 6, 2) := by decide +kernel
theorem dX3_removeRow_16 : decode cX3_removeRow 16 = .ok (.iload_n 3, 1) := by decide +kernel
theorem dX3_removeRow_17 : decode cX3_removeRow 17 = .ok (.lload 4, 2) := by decide +kernel
theorem dX3_removeRow_19 : decode cX3_removeRow 19 = .ok (.invokevirtual 170, 3) := by decide +kernel
theorem dX3_removeRow_22 : decode cX3_removeRow 22 = .ok (.istore 7, 2) := by decide +kernel
theorem dX3_removeRow_24 : decode cX3_removeRow 24 = .ok (.aload 6, 2) := by decide +kernel
theorem dX3_removeRow_26 : decode cX3_removeRow 26 = .ok (.getfield 53, 3) := by decide +kernel
theorem dX3_removeRow_29 : decode cX3_removeRow 29 = .ok (.iconst 1, 1) := by decide +kernel
theorem dX3_removeRow_30 : decode cX3_removeRow 30 = .ok (.if_icmp .ne 7, 3) := by decide +kernel
theorem dX3_removeRow_33 : decode cX3_removeRow 33 = .ok (.iconst 1, 1) := by decide +kernel
theorem dX3_removeRow_34 : decode cX3_removeRow 34 = .ok (.goto 4, 3) := by decide +kernel
theorem dX3_removeRow_37 : decode cX3_removeRow 37 = .ok (.iconst 0, 1) := by decide +kernel
theorem dX3_removeRow_38 : decode cX3_removeRow 38 = .ok (.iload_n 2, 1) := by decide +kernel
theorem dX3_removeRow_39 : decode cX3_removeRow 39 = .ok (.if_icmp .ne 16, 3) := by decide +kernel
theorem dX3_removeRow_42 : decode cX3_removeRow 42 = .ok (.aload 6, 2) := by decide +kernel
theorem dX3_removeRow_44 : decode cX3_removeRow 44 = .ok (.iload 7, 2) := by decide +kernel
theorem dX3_removeRow_46 : decode cX3_removeRow 46 = .ok (.iload_n 3, 1) := by decide +kernel
theorem dX3_removeRow_47 : decode cX3_removeRow 47 = .ok (.lload 4, 2) := by decide +kernel
theorem dX3_removeRow_49 : decode cX3_removeRow 49 = .ok (.invokevirtual 174, 3) := by decide +kernel
theorem dX3_removeRow_52 : decode cX3_removeRow 52 = .ok (.ifCond .ne 6, 3) := by decide +kernel
theorem dX3_removeRow_55 : decode cX3_removeRow 55 = .ok (.bipush (-3), 2) := by decide +kernel
theorem dX3_removeRow_57 : decode cX3_removeRow 57 = .ok (.ireturn, 1) := by decide +kernel
theorem dX3_removeRow_58 : decode cX3_removeRow 58 = .ok (.aload 6, 2) := by decide +kernel
theorem dX3_removeRow_60 : decode cX3_removeRow 60 = .ok (.iload 7, 2) := by decide +kernel
theorem dX3_removeRow_62 : decode cX3_removeRow 62 = .ok (.invokevirtual 178, 3) := by decide +kernel
theorem dX3_removeRow_65 : decode cX3_removeRow 65 = .ok (.aload 6, 2) := by decide +kernel
theorem dX3_removeRow_67 : decode cX3_removeRow 67 = .ok (.getfield 56, 3) := by decide +kernel
theorem dX3_removeRow_70 : decode cX3_removeRow 70 = .ok (.ireturn, 1) := by decide +kernel
theorem dX3_isValueOf_0 : decode cX3_isValueOf 0 = .ok (.iload_n 0, 1) := by decide +kernel
theorem dX3_isValueOf_1 : decode cX3_isValueOf 1 = .ok (.tableswitch 95 0 3 #[31, 33, 51, 73], 31) := by decide +kernel
theorem dX3_isValueOf_32 : decode cX3_isValueOf 32 = .ok (.iconst 1, 1) := by decide +kernel
theorem dX3_isValueOf_33 : decode cX3_isValueOf 33 = .ok (.ireturn, 1) := by decide +kernel
theorem dX3_isValueOf_34 : decode cX3_isValueOf 34 = .ok (.lload_n 1, 1) := by decide +kernel
theorem dX3_isValueOf_35 : decode cX3_isValueOf 35 = .ok (.ldc2_w 181, 3) := by decide +kernel
theorem dX3_isValueOf_38 : decode cX3_isValueOf 38 = .ok (.land, 1) := by decide +kernel
theorem dX3_isValueOf_39 : decode cX3_isValueOf 39 = .ok (.ldc2_w 181, 3) := by decide +kernel
theorem dX3_isValueOf_42 : decode cX3_isValueOf 42 = .ok (.lcmp, 1) := by decide +kernel
theorem dX3_isValueOf_43 : decode cX3_isValueOf 43 = .ok (.ifCond .eq 7, 3) := by decide +kernel
theorem dX3_isValueOf_46 : decode cX3_isValueOf 46 = .ok (.iconst 1, 1) := by decide +kernel
theorem dX3_isValueOf_47 : decode cX3_isValueOf 47 = .ok (.goto 4, 3) := by decide +kernel
theorem dX3_isValueOf_50 : decode cX3_isValueOf 50 = .ok (.iconst 0, 1) := by decide +kernel
theorem dX3_isValueOf_51 : decode cX3_isValueOf 51 = .ok (.ireturn, 1) := by decide +kernel
theorem dX3_isValueOf_52 : decode cX3_isValueOf 52 = .ok (.lload_n 1, 1) := by decide +kernel
theorem dX3_isValueOf_53 : decode cX3_isValueOf 53 = .ok (.ldc2_w 183, 3) := by decide +kernel
theorem dX3_isValueOf_56 : decode cX3_isValueOf 56 = .ok (.lcmp, 1) := by decide +kernel
theorem dX3_isValueOf_57 : decode cX3_isValueOf 57 = .ok (.ifCond .lt 15, 3) := by decide +kernel
theorem dX3_isValueOf_60 : decode cX3_isValueOf 60 = .ok (.lload_n 1, 1) := by decide +kernel
theorem dX3_isValueOf_61 : decode cX3_isValueOf 61 = .ok (.ldc2_w 185, 3) := by decide +kernel
theorem dX3_isValueOf_64 : decode cX3_isValueOf 64 = .ok (.lcmp, 1) := by decide +kernel
theorem dX3_isValueOf_65 : decode cX3_isValueOf 65 = .ok (.ifCond .gt 7, 3) := by decide +kernel
theorem dX3_isValueOf_68 : decode cX3_isValueOf 68 = .ok (.iconst 1, 1) := by decide +kernel
theorem dX3_isValueOf_69 : decode cX3_isValueOf 69 = .ok (.goto 4, 3) := by decide +kernel
theorem dX3_isValueOf_72 : decode cX3_isValueOf 72 = .ok (.iconst 0, 1) := by decide +kernel
theorem dX3_isValueOf_73 : decode cX3_isValueOf 73 = .ok (.ireturn, 1) := by decide +kernel
theorem dX3_isValueOf_74 : decode cX3_isValueOf 74 = .ok (.lload_n 1, 1) := by decide +kernel
theorem dX3_isValueOf_75 : decode cX3_isValueOf 75 = .ok (.ldc2_w 187, 3) := by decide +kernel
theorem dX3_isValueOf_78 : decode cX3_isValueOf 78 = .ok (.lcmp, 1) := by decide +kernel
theorem dX3_isValueOf_79 : decode cX3_isValueOf 79 = .ok (.ifCond .lt 15, 3) := by decide +kernel
theorem dX3_isValueOf_82 : decode cX3_isValueOf 82 = .ok (.lload_n 1, 1) := by decide +kernel
theorem dX3_isValueOf_83 : decode cX3_isValueOf 83 = .ok (.ldc2_w 189, 3) := by decide +kernel
theorem dX3_isValueOf_86 : decode cX3_isValueOf 86 = .ok (.lcmp, 1) := by decide +kernel
theorem dX3_isValueOf_87 : decode cX3_isValueOf 87 = .ok (.ifCond .gt 7, 3) := by decide +kernel
theorem dX3_isValueOf_90 : decode cX3_isValueOf 90 = .ok (.iconst 1, 1) := by decide +kernel
theorem dX3_isValueOf_91 : decode cX3_isValueOf 91 = .ok (.goto 4, 3) := by decide +kernel
theorem dX3_isValueOf_94 : decode cX3_isValueOf 94 = .ok (.iconst 0, 1) := by decide +kernel
theorem dX3_isValueOf_95 : decode cX3_isValueOf 95 = .ok (.ireturn, 1) := by decide +kernel
theorem dX3_isValueOf_96 : decode cX3_isValueOf 96 = .ok (.lload_n 1, 1) := by decide +kernel
theorem dX3_isValueOf_97 : decode cX3_isValueOf 97 = .ok (.lconst 0, 1) := by decide +kernel
theorem dX3_isValueOf_98 : decode cX3_isValueOf 98 = .ok (.lcmp, 1) := by decide +kernel
theorem dX3_isValueOf_99 : decode cX3_isValueOf 99 = .ok (.ifCond .lt 15, 3) := by decide +kernel
theorem dX3_isValueOf_102 : decode cX3_isValueOf 102 = .ok (.lload_n 1, 1) := by decide +kernel
theorem dX3_isValueOf_103 : decode cX3_isValueOf 103 = .ok (.ldc2_w 191, 3) := by decide +kernel
theorem dX3_isValueOf_106 : decode cX3_isValueOf 106 = .ok (.lcmp, 1) := by decide +kernel
theorem dX3_isValueOf_107 : decode cX3_isValueOf 107 = .ok (.ifCond .ge 7, 3) := by decide +kernel
theorem dX3_isValueOf_110 : decode cX3_isValueOf 110 = .ok (.iconst 1, 1) := by decide +kernel
theorem dX3_isValueOf_111 : decode cX3_isValueOf 111 = .ok (.goto 4, 3) := by decide +kernel
theorem dX3_isValueOf_114 : decode cX3_isValueOf 114 = .ok (.iconst 0, 1) := by decide +kernel
theorem dX3_isValueOf_115 : decode cX3_isValueOf 115 = .ok (.ireturn, 1) := by decide +kernel
theorem dX3_withOneZero_0 : decode cX3_withOneZero 0 = .ok (.lload_n 0, 1) := by decide +kernel
theorem dX3_withOneZero_1 : decode cX3_withOneZero 1 = .ok (.ldc2_w 86, 3) := by decide +kernel
theorem dX3_withOneZero_4 : decode cX3_withOneZero 4 = .ok (.lcmp, 1) := by decide +kernel
theorem dX3_withOneZero_5 : decode cX3_withOneZero 5 = .ok (.ifCond .ne 7, 3) := by decide +kernel
theorem dX3_withOneZero_8 : decode cX3_withOneZero 8 = .ok (.lconst 0, 1) := by decide +kernel
theorem dX3_withOneZero_9 : decode cX3_withOneZero 9 = .ok (.goto 4, 3) := by decide +kernel
theorem dX3_withOneZero_12 : decode cX3_withOneZero 12 = .ok (.lload_n 0, 1) := by decide +kernel
theorem dX3_withOneZero_13 : decode cX3_withOneZero 13 = .ok (.lreturn, 1) := by decide +kernel
theorem dX3_isState_0 : decode cX3_isState 0 = .ok (.iload_n 0, 1) := by decide +kernel
theorem dX3_isState_1 : decode cX3_isState 1 = .ok (.ifCond .lt 13, 3) := by decide +kernel
theorem dX3_isState_4 : decode cX3_isState 4 = .ok (.iload_n 0, 1) := by decide +kernel
theorem dX3_isState_5 : decode cX3_isState 5 = .ok (.bipush 8, 2) := by decide +kernel
theorem dX3_isState_7 : decode cX3_isState 7 = .ok (.if_icmp .ge 7, 3) := by decide +kernel
theorem dX3_isState_10 : decode cX3_isState 10 = .ok (.iconst 1, 1) := by decide +kernel
theorem dX3_isState_11 : decode cX3_isState 11 = .ok (.goto 4, 3) := by decide +kernel
theorem dX3_isState_14 : decode cX3_isState 14 = .ok (.iconst 0, 1) := by decide +kernel
theorem dX3_isState_15 : decode cX3_isState 15 = .ok (.ireturn, 1) := by decide +kernel
set_option maxRecDepth 20000 in
theorem ggX3_partOfFraction_X3_greatestDivisor : GoodIn wsX3_partOfFraction wsX3_greatestDivisor := goodIn_r _ [8] (by decide +kernel) (by decide +kernel)
set_option maxRecDepth 20000 in
theorem gX3_partOfFraction_X3_greatestDivisor : GoodIn wsX3_partOfFraction (va_wsS RX3 198 yX3_greatestDivisor wsX3_greatestDivisor) := goodIn_app (goodIn_of _ (by decide +kernel)) ggX3_partOfFraction_X3_greatestDivisor
theorem dX3_partOfFraction_0 : decode cX3_partOfFraction 0 = .ok (.iload 4, 2) := by decide +kernel
theorem dX3_partOfFraction_2 : decode cX3_partOfFraction 2 = .ok (.ifCond .ne 7, 3) := by decide +kernel
theorem dX3_partOfFraction_5 : decode cX3_partOfFraction 5 = .ok (.lload_n 0, 1) := by decide +kernel
theorem dX3_partOfFraction_6 : decode cX3_partOfFraction 6 = .ok (.goto 4, 3) := by decide +kernel
theorem dX3_partOfFraction_9 : decode cX3_partOfFraction 9 = .ok (.lload_n 2, 1) := by decide +kernel
theorem dX3_partOfFraction_10 : decode cX3_partOfFraction 10 = .ok (.lstore 5, 2) := by decide +kernel
theorem dX3_partOfFraction_12 : decode cX3_partOfFraction 12 = .ok (.lload_n 0, 1) := by decide +kernel
theorem dX3_partOfFraction_13 : decode cX3_partOfFraction 13 = .ok (.invokestatic 193, 3) := by decide +kernel
theorem dX3_partOfFraction_16 : decode cX3_partOfFraction 16 = .ok (.lload_n 2, 1) := by decide +kernel
theorem dX3_partOfFraction_17 : decode cX3_partOfFraction 17 = .ok (.invokestatic 198, 3) := by decide +kernel
theorem dX3_partOfFraction_20 : decode cX3_partOfFraction 20 = .ok (.lstore 7, 2) := by decide +kernel
theorem dX3_partOfFraction_22 : decode cX3_partOfFraction 22 = .ok (.lload 7, 2) := by decide +kernel
theorem dX3_partOfFraction_24 : decode cX3_partOfFraction 24 = .ok (.lconst 0, 1) := by decide +kernel
theorem dX3_partOfFraction_25 : decode cX3_partOfFraction 25 = .ok (.lcmp, 1) := by decide +kernel
theorem dX3_partOfFraction_26 : decode cX3_partOfFraction 26 = .ok (.ifCond .ne 8, 3) := by decide +kernel
theorem dX3_partOfFraction_29 : decode cX3_partOfFraction 29 = .ok (.lload 5, 2) := by decide +kernel
theorem dX3_partOfFraction_31 : decode cX3_partOfFraction 31 = .ok (.goto 8, 3) := by decide +kernel
theorem dX3_partOfFraction_34 : decode cX3_partOfFraction 34 = .ok (.lload 5, 2) := by decide +kernel
theorem dX3_partOfFraction_36 : decode cX3_partOfFraction 36 = .ok (.lload 7, 2) := by decide +kernel
theorem dX3_partOfFraction_38 : decode cX3_partOfFraction 38 = .ok (.ldiv, 1) := by decide +kernel
theorem dX3_partOfFraction_39 : decode cX3_partOfFraction 39 = .ok (.lreturn, 1) := by decide +kernel
theorem dX3_greatestDivisor_0 : decode cX3_greatestDivisor 0 = .ok (.lload_n 0, 1) := by decide +kernel
theorem dX3_greatestDivisor_1 : decode cX3_greatestDivisor 1 = .ok (.lstore 4, 2) := by decide +kernel
theorem dX3_greatestDivisor_3 : decode cX3_greatestDivisor 3 = .ok (.lload_n 2, 1) := by decide +kernel
theorem dX3_greatestDivisor_4 : decode cX3_greatestDivisor 4 = .ok (.lstore 6, 2) := by decide +kernel
theorem dX3_greatestDivisor_6 : decode cX3_greatestDivisor 6 = .ok (.iconst 0, 1) := by decide +kernel
theorem dX3_greatestDivisor_7 : decode cX3_greatestDivisor 7 = .ok (.istore 8, 2) := by decide +kernel
theorem dX3_greatestDivisor_9 : decode cX3_greatestDivisor 9 = .ok (.iload 8, 2) := by decide +kernel
theorem dX3_greatestDivisor_11 : decode cX3_greatestDivisor 11 = .ok (.bipush 100, 2) := by decide +kernel
theorem dX3_greatestDivisor_13 : decode cX3_greatestDivisor 13 = .ok (.if_icmp .ge 31, 3) := by decide +kernel
theorem dX3_greatestDivisor_16 : decode cX3_greatestDivisor 16 = .ok (.lload 6, 2) := by decide +kernel
theorem dX3_greatestDivisor_18 : decode cX3_greatestDivisor 18 = .ok (.lconst 0, 1) := by decide +kernel
theorem dX3_greatestDivisor_19 : decode cX3_greatestDivisor 19 = .ok (.lcmp, 1) := by decide +kernel
theorem dX3_greatestDivisor_20 : decode cX3_greatestDivisor 20 = .ok (.ifCond .eq 24, 3) := by decide +kernel
theorem dX3_greatestDivisor_23 : decode cX3_greatestDivisor 23 = .ok (.lload 4, 2) := by decide +kernel
theorem dX3_greatestDivisor_25 : decode cX3_greatestDivisor 25 = .ok (.lload 6, 2) := by decide +kernel
theorem dX3_greatestDivisor_27 : decode cX3_greatestDivisor 27 = .ok (.lrem, 1) := by decide +kernel
theorem dX3_greatestDivisor_28 : decode cX3_greatestDivisor 28 = .ok (.lstore 9, 2) := by decide +kernel
theorem dX3_greatestDivisor_30 : decode cX3_greatestDivisor 30 = .ok (.lload 6, 2) := by decide +kernel
theorem dX3_greatestDivisor_32 : decode cX3_greatestDivisor 32 = .ok (.lstore 4, 2) := by decide +kernel
theorem dX3_greatestDivisor_34 : decode cX3_greatestDivisor 34 = .ok (.lload 9, 2) := by decide +kernel
theorem dX3_greatestDivisor_36 : decode cX3_greatestDivisor 36 = .ok (.lstore 6, 2) := by decide +kernel
theorem dX3_greatestDivisor_38 : decode cX3_greatestDivisor 38 = .ok (.iinc 8 1, 3) := by decide +kernel
theorem dX3_greatestDivisor_41 : decode cX3_greatestDivisor 41 = .ok (.goto (-32), 3) := by decide +kernel
theorem dX3_greatestDivisor_44 : decode cX3_greatestDivisor 44 = .ok (.lload 4, 2) := by decide +kernel
theorem dX3_greatestDivisor_46 : decode cX3_greatestDivisor 46 = .ok (.lreturn, 1) := by decide +kernel
theorem dX4_init_0 : decode cX4_init 0 = .ok (.aload_n 0, 1) := by decide +kernel
theorem dX4_init_1 : decode cX4_init 1 = .ok (.invokespecial 1, 3) := by decide +kernel
theorem dX4_init_4 : decode cX4_init 4 = .ok (.aload_n 0, 1) := by decide +kernel
theorem dX4_init_5 : decode cX4_init 5 = .ok (.bipush 12, 2) := by decide +kernel
theorem dX4_init_7 : decode cX4_init 7 = .ok (.newarray .int, 2) := by decide +kernel
theorem dX4_init_9 : decode cX4_init 9 = .ok (.putfield 7, 3) := by decide +kernel
theorem dX4_init_12 : decode cX4_init 12 = .ok (.aload_n 0, 1) := by decide +kernel
theorem dX4_init_13 : decode cX4_init 13 = .ok (.bipush 12, 2) := by decide +kernel
theorem dX4_init_15 : decode cX4_init 15 = .ok (.newarray .int, 2) := by decide +kernel
theorem dX4_init_17 : decode cX4_init 17 = .ok (.putfield 13, 3) := by decide +kernel
theorem dX4_init_20 : decode cX4_init 20 = .ok (.aload_n 0, 1) := by decide +kernel
theorem dX4_init_21 : decode cX4_init 21 = .ok (.sipush 768, 3) := by decide +kernel
theorem dX4_init_24 : decode cX4_init 24 = .ok (.newarray .int, 2) := by decide +kernel
theorem dX4_init_26 : decode cX4_init 26 = .ok (.putfield 16, 3) := by decide +kernel
theorem dX4_init_29 : decode cX4_init 29 = .ok (.aload_n 0, 1) := by decide +kernel
theorem dX4_init_30 : decode cX4_init 30 = .ok (.sipush 768, 3) := by decide +kernel
theorem dX4_init_33 : decode cX4_init 33 = .ok (.newarray .long, 2) := by decide +kernel
theorem dX4_init_35 : decode cX4_init 35 = .ok (.putfield 19, 3) := by decide +kernel
theorem dX4_init_38 : decode cX4_init 38 = .ok (.aload_n 0, 1) := by decide +kernel
theorem dX4_init_39 : decode cX4_init 39 = .ok (.bipush 70, 2) := by decide +kernel
theorem dX4_init_41 : decode cX4_init 41 = .ok (.newarray .long, 2) := by decide +kernel
theorem dX4_init_43 : decode cX4_init 43 = .ok (.putfield 23, 3) := by decide +kernel
theorem dX4_init_46 : decode cX4_init 46 = .ok (.aload_n 0, 1) := by decide +kernel
theorem dX4_init_47 : decode cX4_init 47 = .ok (.bipush 64, 2) := by decide +kernel
theorem dX4_init_49 : decode cX4_init 49 = .ok (.newarray .int, 2) := by decide +kernel
theorem dX4_init_51 : decode cX4_init 51 = .ok (.putfield 26, 3) := by decide +kernel
theorem dX4_init_54 : decode cX4_init 54 = .ok (.aload_n 0, 1) := by decide +kernel
theorem dX4_init_55 : decode cX4_init 55 = .ok (.bipush 32, 2) := by decide +kernel
theorem dX4_init_57 : decode cX4_init 57 = .ok (.newarray .int, 2) := by decide +kernel
theorem dX4_init_59 : decode cX4_init 59 = .ok (.putfield 29, 3) := by decide +kernel
theorem dX4_init_62 : decode cX4_init 62 = .ok (.aload_n 0, 1) := by decide +kernel
theorem dX4_init_63 : decode cX4_init 63 = .ok (.bipush 64, 2) := by decide +kernel
theorem dX4_init_65 : decode cX4_init 65 = .ok (.newarray .int, 2) := by decide +kernel
theorem dX4_init_67 : decode cX4_init 67 = .ok (.putfield 32, 3) := by decide +kernel
theorem dX4_init_70 : decode cX4_init 70 = .ok (.aload_n 0, 1) := by decide +kernel
theorem dX4_init_71 : decode cX4_init 71 = .ok (.bipush 8, 2) := by decide +kernel
theorem dX4_init_73 : decode cX4_init 73 = .ok (.newarray .boolean, 2) := by decide +kernel
theorem dX4_init_75 : decode cX4_init 75 = .ok (.putfield 35, 3) := by decide +kernel
theorem dX4_init_78 : decode cX4_init 78 = .ok (.aload_n 0, 1) := by decide +kernel
theorem dX4_init_79 : decode cX4_init 79 = .ok (.sipush 140, 3) := by decide +kernel
theorem dX4_init_82 : decode cX4_init 82 = .ok (.newarray .int, 2) := by decide +kernel
theorem dX4_init_84 : decode cX4_init 84 = .ok (.putfield 39, 3) := by decide +kernel
theorem dX4_init_87 : decode cX4_init 87 = .ok (.aload_n 0, 1) := by decide +kernel
theorem dX4_init_88 : decode cX4_init 88 = .ok (.sipush 140, 3) := by decide +kernel
theorem dX4_init_91 : decode cX4_init 91 = .ok (.newarray .int, 2) := by decide +kernel
theorem dX4_init_93 : decode cX4_init 93 = .ok (.putfield 42, 3) := by decide +kernel
theorem dX4_init_96 : decode cX4_init 96 = .ok (.aload_n 0, 1) := by decide +kernel
theorem dX4_init_97 : decode cX4_init 97 = .ok (.sipush 140, 3) := by decide +kernel
theorem dX4_init_100 : decode cX4_init 100 = .ok (.newarray .int, 2) := by decide +kernel
theorem dX4_init_102 : decode cX4_init 102 = .ok (.putfield 45, 3) := by decide +kernel
theorem dX4_init_105 : decode cX4_init 105 = .ok (.aload_n 0, 1) := by decide +kernel
theorem dX4_init_106 : decode cX4_init 106 = .ok (.iconst 0, 1) := by decide +kernel
theorem dX4_init_107 : decode cX4_init 107 = .ok (.putfield 48, 3) := by decide +kernel
theorem dX4_init_110 : decode cX4_init 110 = .ok (.return_, 1) := by decide +kernel
theorem dX4_thrown_0 : decode cX4_thrown 0 = .ok (.aload_n 0, 1) := by decide +kernel
theorem dX4_thrown_1 : decode cX4_thrown 1 = .ok (.getfield 52, 3) := by decide +kernel
theorem dX4_thrown_4 : decode cX4_thrown 4 = .ok (.ireturn, 1) := by decide +kernel
theorem dX4_isFold_0 : decode cX4_isFold 0 = .ok (.iload_n 1, 1) := by decide +kernel
theorem dX4_isFold_1 : decode cX4_isFold 1 = .ok (.ifCond .lt 15, 3) := by decide +kernel
theorem dX4_isFold_4 : decode cX4_isFold 4 = .ok (.iload_n 1, 1) := by decide +kernel
theorem dX4_isFold_5 : decode cX4_isFold 5 = .ok (.aload_n 0, 1) := by decide +kernel
theorem dX4_isFold_6 : decode cX4_isFold 6 = .ok (.getfield 48, 3) := by decide +kernel
theorem dX4_isFold_9 : decode cX4_isFold 9 = .ok (.if_icmp .ge 7, 3) := by decide +kernel
theorem dX4_isFold_12 : decode cX4_isFold 12 = .ok (.iconst 1, 1) := by decide +kernel
theorem dX4_isFold_13 : decode cX4_isFold 13 = .ok (.goto 4, 3) := by decide +kernel
theorem dX4_isFold_16 : decode cX4_isFold 16 = .ok (.iconst 0, 1) := by decide +kernel
theorem dX4_isFold_17 : decode cX4_isFold 17 = .ok (.ireturn, 1) := by decide +kernel
set_option maxRecDepth 20000 in
theorem ggX4_isOf_X4_isFold : GoodIn wsX4_isOf wsX4_isFold := goodIn_r _ [6, 7, 8, 9, 10, 11, 12, 13, 14, 15, 16, 17, 18, 19, 20, 21, 22, 23, 24, 25, 26] (by decide +kernel) (by decide +kernel)
set_option maxRecDepth 20000 in
theorem gX4_isOf_X4_isFold : GoodIn wsX4_isOf (wsV RX4 55 RX4 yX4_isFold wsX4_isFold) := goodIn_app (goodIn_of _ (by decide +kernel)) ggX4_isOf_X4_isFold
theorem dX4_isOf_0 : decode cX4_isOf 0 = .ok (.aload_n 0, 1) := by decide +kernel
theorem dX4_isOf_1 : decode cX4_isOf 1 = .ok (.iload_n 1, 1) := by decide +kernel
theorem dX4_isOf_2 : decode cX4_isOf 2 = .ok (.invokevirtual 55, 3) := by decide +kernel
theorem dX4_isOf_5 : decode cX4_isOf 5 = .ok (.ifCond .eq 17, 3) := by decide +kernel
theorem dX4_isOf_8 : decode cX4_isOf 8 = .ok (.aload_n 0, 1) := by decide +kernel
theorem dX4_isOf_9 : decode cX4_isOf 9 = .ok (.getfield 7, 3) := by decide +kernel
theorem dX4_isOf_12 : decode cX4_isOf 12 = .ok (.iload_n 1, 1) := by decide +kernel
theorem dX4_isOf_13 : decode cX4_isOf 13 = .ok (.iaload, 1) := by decide +kernel
theorem dX4_isOf_14 : decode cX4_isOf 14 = .ok (.iload_n 2, 1) := by decide +kernel
theorem dX4_isOf_15 : decode cX4_isOf 15 = .ok (.if_icmp .ne 7, 3) := by decide +kernel
theorem dX4_isOf_18 : decode cX4_isOf 18 = .ok (.iconst 1, 1) := by decide +kernel
theorem dX4_isOf_19 : decode cX4_isOf 19 = .ok (.goto 4, 3) := by decide +kernel
theorem dX4_isOf_22 : decode cX4_isOf 22 = .ok (.iconst 0, 1) := by decide +kernel
theorem dX4_isOf_23 : decode cX4_isOf 23 = .ok (.ireturn, 1) := by decide +kernel
theorem dX4_fold_0 : decode cX4_fold 0 = .ok (.aload_n 0, 1) := by decide +kernel
theorem dX4_fold_1 : decode cX4_fold 1 = .ok (.iconst 0, 1) := by decide +kernel
theorem dX4_fold_2 : decode cX4_fold 2 = .ok (.putfield 52, 3) := by decide +kernel
theorem dX4_fold_5 : decode cX4_fold 5 = .ok (.iload_n 1, 1) := by decide +kernel
theorem dX4_fold_6 : decode cX4_fold 6 = .ok (.ifCond .lt 8, 3) := by decide +kernel
theorem dX4_fold_9 : decode cX4_fold 9 = .ok (.iload_n 1, 1) := by decide +kernel
theorem dX4_fold_10 : decode cX4_fold 10 = .ok (.iconst 4, 1) := by decide +kernel
theorem dX4_fold_11 : decode cX4_fold 11 = .ok (.if_icmp .le 6, 3) := by decide +kernel
theorem dX4_fold_14 : decode cX4_fold 14 = .ok (.bipush (-2), 2) := by decide +kernel
theorem dX4_fold_16 : decode cX4_fold 16 = .ok (.ireturn, 1) := by decide +kernel
theorem dX4_fold_17 : decode cX4_fold 17 = .ok (.aload_n 0, 1) := by decide +kernel
theorem dX4_fold_18 : decode cX4_fold 18 = .ok (.getfield 48, 3) := by decide +kernel
theorem dX4_fold_21 : decode cX4_fold 21 = .ok (.bipush 12, 2) := by decide +kernel
theorem dX4_fold_23 : decode cX4_fold 23 = .ok (.if_icmp .ne 6, 3) := by decide +kernel
theorem dX4_fold_26 : decode cX4_fold 26 = .ok (.bipush (-4), 2) := by decide +kernel
theorem dX4_fold_28 : decode cX4_fold 28 = .ok (.ireturn, 1) := by decide +kernel
theorem dX4_fold_29 : decode cX4_fold 29 = .ok (.aload_n 0, 1) := by decide +kernel
theorem dX4_fold_30 : decode cX4_fold 30 = .ok (.getfield 7, 3) := by decide +kernel
theorem dX4_fold_33 : decode cX4_fold 33 = .ok (.aload_n 0, 1) := by decide +kernel
theorem dX4_fold_34 : decode cX4_fold 34 = .ok (.getfield 48, 3) := by decide +kernel
theorem dX4_fold_37 : decode cX4_fold 37 = .ok (.iload_n 1, 1) := by decide +kernel
theorem dX4_fold_38 : decode cX4_fold 38 = .ok (.iastore, 1) := by decide +kernel
theorem dX4_fold_39 : decode cX4_fold 39 = .ok (.aload_n 0, 1) := by decide +kernel
theorem dX4_fold_40 : decode cX4_fold 40 = .ok (.getfield 13, 3) := by decide +kernel
theorem dX4_fold_43 : decode cX4_fold 43 = .ok (.aload_n 0, 1) := by decide +kernel
theorem dX4_fold_44 : decode cX4_fold 44 = .ok (.getfield 48, 3) := by decide +kernel
theorem dX4_fold_47 : decode cX4_fold 47 = .ok (.iconst 0, 1) := by decide +kernel
theorem dX4_fold_48 : decode cX4_fold 48 = .ok (.iastore, 1) := by decide +kernel
theorem dX4_fold_49 : decode cX4_fold 49 = .ok (.aload_n 0, 1) := by decide +kernel
theorem dX4_fold_50 : decode cX4_fold 50 = .ok (.dup, 1) := by decide +kernel
theorem dX4_fold_51 : decode cX4_fold 51 = .ok (.getfield 48, 3) := by decide +kernel
theorem dX4_fold_54 : decode cX4_fold 54 = .ok (.iconst 1, 1) := by decide +kernel
theorem dX4_fold_55 : decode cX4_fold 55 = .ok (.iadd, 1) := by decide +kernel
theorem dX4_fold_56 : decode cX4_fold 56 = .ok (.putfield 48, 3) := by decide +kernel
theorem dX4_fold_59 : decode cX4_fold 59 = .ok (.aload_n 0, 1) := by decide +kernel
theorem dX4_fold_60 : decode cX4_fold 60 = .ok (.getfield 48, 3) := by decide +kernel
theorem dX4_fold_63 : decode cX4_fold 63 = .ok (.iconst 1, 1) := by decide +kernel
theorem dX4_fold_64 : decode cX4_fold 64 = .ok (.isub, 1) := by decide +kernel
theorem dX4_fold_65 : decode cX4_fold 65 = .ok (.ireturn, 1) := by decide +kernel
theorem dX4_in_0 : decode cX4_in 0 = .ok (.lload_n 0, 1) := by decide +kernel
theorem dX4_in_1 : decode cX4_in 1 = .ok (.lload_n 2, 1) := by decide +kernel
theorem dX4_in_2 : decode cX4_in 2 = .ok (.lcmp, 1) := by decide +kernel
theorem dX4_in_3 : decode cX4_in 3 = .ok (.ifCond .lt 14, 3) := by decide +kernel
theorem dX4_in_6 : decode cX4_in 6 = .ok (.lload_n 0, 1) := by decide +kernel
theorem dX4_in_7 : decode cX4_in 7 = .ok (.lload 4, 2) := by decide +kernel
theorem dX4_in_9 : decode cX4_in 9 = .ok (.lcmp, 1) := by decide +kernel
theorem dX4_in_10 : decode cX4_in 10 = .ok (.ifCond .gt 7, 3) := by decide +kernel
theorem dX4_in_13 : decode cX4_in 13 = .ok (.iconst 1, 1) := by decide +kernel
theorem dX4_in_14 : decode cX4_in 14 = .ok (.goto 4, 3) := by decide +kernel
theorem dX4_in_17 : decode cX4_in 17 = .ok (.iconst 0, 1) := by decide +kernel
theorem dX4_in_18 : decode cX4_in 18 = .ok (.ireturn, 1) := by decide +kernel
set_option maxRecDepth 20000 in
theorem ggX4_isValue_X4_in : GoodIn wsX4_isValue wsX4_in := goodIn_r _ [9] (by decide +kernel) (by decide +kernel)
set_option maxRecDepth 20000 in
theorem gX4_isValue_X4_in : GoodIn wsX4_isValue (va_wsS RX4 63 yX4_in wsX4_in) := goodIn_app (goodIn_of _ (by decide +kernel)) ggX4_isValue_X4_in
theorem dX4_isValue_0 : decode cX4_isValue 0 = .ok (.iload_n 0, 1) := by decide +kernel
theorem dX4_isValue_1 : decode cX4_isValue 1 = .ok (.ifCond .eq 55, 3) := by decide +kernel
theorem dX4_isValue_4 : decode cX4_isValue 4 = .ok (.iload_n 0, 1) := by decide +kernel
theorem dX4_isValue_5 : decode cX4_isValue 5 = .ok (.iconst 2, 1) := by decide +kernel
theorem dX4_isValue_6 : decode cX4_isValue 6 = .ok (.if_icmp .ne 16, 3) := by decide +kernel
theorem dX4_isValue_9 : decode cX4_isValue 9 = .ok (.lload_n 1, 1) := by decide +kernel
theorem dX4_isValue_10 : decode cX4_isValue 10 = .ok (.ldc2_w 59, 3) := by decide +kernel
theorem dX4_isValue_13 : decode cX4_isValue 13 = .ok (.ldc2_w 61, 3) := by decide +kernel
theorem dX4_isValue_16 : decode cX4_isValue 16 = .ok (.invokestatic 63, 3) := by decide +kernel
theorem dX4_isValue_19 : decode cX4_isValue 19 = .ok (.ifCond .ne 37, 3) := by decide +kernel
theorem dX4_isValue_22 : decode cX4_isValue 22 = .ok (.iload_n 0, 1) := by decide +kernel
theorem dX4_isValue_23 : decode cX4_isValue 23 = .ok (.iconst 3, 1) := by decide +kernel
theorem dX4_isValue_24 : decode cX4_isValue 24 = .ok (.if_icmp .ne 16, 3) := by decide +kernel
theorem dX4_isValue_27 : decode cX4_isValue 27 = .ok (.lload_n 1, 1) := by decide +kernel
theorem dX4_isValue_28 : decode cX4_isValue 28 = .ok (.ldc2_w 67, 3) := by decide +kernel
theorem dX4_isValue_31 : decode cX4_isValue 31 = .ok (.ldc2_w 69, 3) := by decide +kernel
theorem dX4_isValue_34 : decode cX4_isValue 34 = .ok (.invokestatic 63, 3) := by decide +kernel
theorem dX4_isValue_37 : decode cX4_isValue 37 = .ok (.ifCond .ne 19, 3) := by decide +kernel
theorem dX4_isValue_40 : decode cX4_isValue 40 = .ok (.iload_n 0, 1) := by decide +kernel
theorem dX4_isValue_41 : decode cX4_isValue 41 = .ok (.iconst 4, 1) := by decide +kernel
theorem dX4_isValue_42 : decode cX4_isValue 42 = .ok (.if_icmp .ne 18, 3) := by decide +kernel
theorem dX4_isValue_45 : decode cX4_isValue 45 = .ok (.lload_n 1, 1) := by decide +kernel
theorem dX4_isValue_46 : decode cX4_isValue 46 = .ok (.lconst 0, 1) := by decide +kernel
theorem dX4_isValue_47 : decode cX4_isValue 47 = .ok (.ldc2_w 71, 3) := by decide +kernel
theorem dX4_isValue_50 : decode cX4_isValue 50 = .ok (.invokestatic 63, 3) := by decide +kernel
theorem dX4_isValue_53 : decode cX4_isValue 53 = .ok (.ifCond .eq 7, 3) := by decide +kernel
theorem dX4_isValue_56 : decode cX4_isValue 56 = .ok (.iconst 1, 1) := by decide +kernel
theorem dX4_isValue_57 : decode cX4_isValue 57 = .ok (.goto 4, 3) := by decide +kernel
theorem dX4_isValue_60 : decode cX4_isValue 60 = .ok (.iconst 0, 1) := by decide +kernel
theorem dX4_isValue_61 : decode cX4_isValue 61 = .ok (.ireturn, 1) := by decide +kernel
theorem dX4_put_0 : decode cX4_put 0 = .ok (.aload_n 0, 1) := by decide +kernel
theorem dX4_put_1 : decode cX4_put 1 = .ok (.getfield 13, 3) := by decide +kernel
theorem dX4_put_4 : decode cX4_put 4 = .ok (.iload_n 1, 1) := by decide +kernel
theorem dX4_put_5 : decode cX4_put 5 = .ok (.iaload, 1) := by decide +kernel
theorem dX4_put_6 : decode cX4_put 6 = .ok (.bipush 64, 2) := by decide +kernel
theorem dX4_put_8 : decode cX4_put 8 = .ok (.if_icmp .ne 6, 3) := by decide +kernel
theorem dX4_put_11 : decode cX4_put 11 = .ok (.bipush (-4), 2) := by decide +kernel
theorem dX4_put_13 : decode cX4_put 13 = .ok (.ireturn, 1) := by decide +kernel
theorem dX4_put_14 : decode cX4_put 14 = .ok (.aload_n 0, 1) := by decide +kernel
theorem dX4_put_15 : decode cX4_put 15 = .ok (.getfield 16, 3) := by decide +kernel
theorem dX4_put_18 : decode cX4_put 18 = .ok (.bipush 64, 2) := by decide +kernel
theorem dX4_put_20 : decode cX4_put 20 = .ok (.iload_n 1, 1) := by decide +kernel
theorem dX4_put_21 : decode cX4_put 21 = .ok (.imul, 1) := by decide +kernel
theorem dX4_put_22 : decode cX4_put 22 = .ok (.aload_n 0, 1) := by decide +kernel
theorem dX4_put_23 : decode cX4_put 23 = .ok (.getfield 13, 3) := by decide +kernel
theorem dX4_put_26 : decode cX4_put 26 = .ok (.iload_n 1, 1) := by decide +kernel
theorem dX4_put_27 : decode cX4_put 27 = .ok (.iaload, 1) := by decide +kernel
theorem dX4_put_28 : decode cX4_put 28 = .ok (.iadd, 1) := by decide +kernel
theorem dX4_put_29 : decode cX4_put 29 = .ok (.iload_n 2, 1) := by decide +kernel
theorem dX4_put_30 : decode cX4_put 30 = .ok (.iastore, 1) := by decide +kernel
theorem dX4_put_31 : decode cX4_put 31 = .ok (.aload_n 0, 1) := by decide +kernel
theorem dX4_put_32 : decode cX4_put 32 = .ok (.getfield 19, 3) := by decide +kernel
theorem dX4_put_35 : decode cX4_put 35 = .ok (.bipush 64, 2) := by decide +kernel
theorem dX4_put_37 : decode cX4_put 37 = .ok (.iload_n 1, 1) := by decide +kernel
theorem dX4_put_38 : decode cX4_put 38 = .ok (.imul, 1) := by decide +kernel
theorem dX4_put_39 : decode cX4_put 39 = .ok (.aload_n 0, 1) := by decide +kernel
theorem dX4_put_40 : decode cX4_put 40 = .ok (.getfield 13, 3) := by decide +kernel
theorem dX4_put_43 : decode cX4_put 43 = .ok (.iload_n 1, 1) := by decide +kernel
theorem dX4_put_44 : decode cX4_put 44 = .ok (.iaload, 1) := by decide +kernel
theorem dX4_put_45 : decode cX4_put 45 = .ok (.iadd, 1) := by decide +kernel
theorem dX4_put_46 : decode cX4_put 46 = .ok (.lload_n 3, 1) := by decide +kernel
theorem dX4_put_47 : decode cX4_put 47 = .ok (.lastore, 1) := by decide +kernel
theorem dX4_put_48 : decode cX4_put 48 = .ok (.aload_n 0, 1) := by decide +kernel
theorem dX4_put_49 : decode cX4_put 49 = .ok (.getfield 13, 3) := by decide +kernel
theorem dX4_put_52 : decode cX4_put 52 = .ok (.iload_n 1, 1) := by decide +kernel
theorem dX4_put_53 : decode cX4_put 53 = .ok (.dup2, 1) := by decide +kernel
theorem dX4_put_54 : decode cX4_put 54 = .ok (.iaload, 1) := by decide +kernel
theorem dX4_put_55 : decode cX4_put 55 = .ok (.iconst 1, 1) := by decide +kernel
theorem dX4_put_56 : decode cX4_put 56 = .ok (.iadd, 1) := by decide +kernel
theorem dX4_put_57 : decode cX4_put 57 = .ok (.iastore, 1) := by decide +kernel
theorem dX4_put_58 : decode cX4_put 58 = .ok (.aload_n 0, 1) := by decide +kernel
theorem dX4_put_59 : decode cX4_put 59 = .ok (.getfield 13, 3) := by decide +kernel
theorem dX4_put_62 : decode cX4_put 62 = .ok (.iload_n 1, 1) := by decide +kernel
theorem dX4_put_63 : decode cX4_put 63 = .ok (.iaload, 1) := by decide +kernel
theorem dX4_put_64 : decode cX4_put 64 = .ok (.ireturn, 1) := by decide +kernel
set_option maxRecDepth 20000 in
theorem ggX4_add_X4_isFold : GoodIn wsX4_add wsX4_isFold := goodIn_r _ [8, 9, 27, 28, 29, 30, 31, 32, 33, 34, 35, 36, 37, 38, 39, 40, 41, 42, 43, 44, 45] (by decide +kernel) (by decide +kernel)
set_option maxRecDepth 20000 in
theorem gX4_add_X4_isFold : GoodIn wsX4_add (wsV RX4 55 RX4 yX4_isFold wsX4_isFold) := goodIn_app (goodIn_of _ (by decide +kernel)) ggX4_add_X4_isFold
set_option maxRecDepth 20000 in
theorem ggX4_add_X4_in : GoodIn wsX4_add wsX4_in := goodIn_r _ [12] (by decide +kernel) (by decide +kernel)
set_option maxRecDepth 20000 in
theorem gX4_add_X4_in : GoodIn wsX4_add (va_wsS RX4 63 yX4_in wsX4_in) := goodIn_app (goodIn_of _ (by decide +kernel)) ggX4_add_X4_in
set_option maxRecDepth 20000 in
theorem ggX4_add_X4_isValue : GoodIn wsX4_add wsX4_isValue := goodIn_r _ [15, 16, 3, 17, 18, 19, 10, 11, 7, 12] (by decide +kernel) (by decide +kernel)
set_option maxRecDepth 20000 in
theorem gX4_add_X4_isValue : GoodIn wsX4_add (va_wsS RX4 73 yX4_isValue wsX4_isValue) := goodIn_app (goodIn_of _ (by decide +kernel)) ggX4_add_X4_isValue
set_option maxRecDepth 20000 in
theorem ggX4_add_X4_put : GoodIn wsX4_add wsX4_put := goodIn_r _ [23, 24, 25, 26, 27, 28, 29, 30, 31, 32, 33, 34, 35, 36, 37, 38, 39, 40, 41, 42, 43, 44, 45] (by decide +kernel) (by decide +kernel)
set_option maxRecDepth 20000 in
theorem gX4_add_X4_put : GoodIn wsX4_add (wsV RX4 77 RX4 yX4_put wsX4_put) := goodIn_app (goodIn_of _ (by decide +kernel)) ggX4_add_X4_put
theorem dX4_add_0 : decode cX4_add 0 = .ok (.aload_n 0, 1) := by decide +kernel
theorem dX4_add_1 : decode cX4_add 1 = .ok (.iconst 0, 1) := by decide +kernel
theorem dX4_add_2 : decode cX4_add 2 = .ok (.putfield 52, 3) := by decide +kernel
theorem dX4_add_5 : decode cX4_add 5 = .ok (.aload_n 0, 1) := by decide +kernel
theorem dX4_add_6 : decode cX4_add 6 = .ok (.iload_n 1, 1) := by decide +kernel
theorem dX4_add_7 : decode cX4_add 7 = .ok (.invokevirtual 55, 3) := by decide +kernel
theorem dX4_add_10 : decode cX4_add 10 = .ok (.ifCond .ne 5, 3) := by decide +kernel
theorem dX4_add_13 : decode cX4_add 13 = .ok (.iconst (-1), 1) := by decide +kernel
theorem dX4_add_14 : decode cX4_add 14 = .ok (.ireturn, 1) := by decide +kernel
theorem dX4_add_15 : decode cX4_add 15 = .ok (.aload_n 0, 1) := by decide +kernel
theorem dX4_add_16 : decode cX4_add 16 = .ok (.getfield 7, 3) := by decide +kernel
theorem dX4_add_19 : decode cX4_add 19 = .ok (.iload_n 1, 1) := by decide +kernel
theorem dX4_add_20 : decode cX4_add 20 = .ok (.iaload, 1) := by decide +kernel
theorem dX4_add_21 : decode cX4_add 21 = .ok (.iconst 1, 1) := by decide +kernel
theorem dX4_add_22 : decode cX4_add 22 = .ok (.if_icmp .ne 6, 3) := by decide +kernel
theorem dX4_add_25 : decode cX4_add 25 = .ok (.bipush (-3), 2) := by decide +kernel
theorem dX4_add_27 : decode cX4_add 27 = .ok (.ireturn, 1) := by decide +kernel
theorem dX4_add_28 : decode cX4_add 28 = .ok (.iload_n 2, 1) := by decide +kernel
theorem dX4_add_29 : decode cX4_add 29 = .ok (.i2l, 1) := by decide +kernel
theorem dX4_add_30 : decode cX4_add 30 = .ok (.lconst 0, 1) := by decide +kernel
theorem dX4_add_31 : decode cX4_add 31 = .ok (.ldc2_w 61, 3) := by decide +kernel
theorem dX4_add_34 : decode cX4_add 34 = .ok (.invokestatic 63, 3) := by decide +kernel
theorem dX4_add_37 : decode cX4_add 37 = .ok (.ifCond .eq 26, 3) := by decide +kernel
theorem dX4_add_40 : decode cX4_add 40 = .ok (.aload_n 0, 1) := by decide +kernel
theorem dX4_add_41 : decode cX4_add 41 = .ok (.getfield 7, 3) := by decide +kernel
theorem dX4_add_44 : decode cX4_add 44 = .ok (.iload_n 1, 1) := by decide +kernel
theorem dX4_add_45 : decode cX4_add 45 = .ok (.iaload, 1) := by decide +kernel
theorem dX4_add_46 : decode cX4_add 46 = .ok (.lload_n 3, 1) := by decide +kernel
theorem dX4_add_47 : decode cX4_add 47 = .ok (.invokestatic 73, 3) := by decide +kernel
theorem dX4_add_50 : decode cX4_add 50 = .ok (.ifCond .eq 13, 3) := by decide +kernel
theorem dX4_add_53 : decode cX4_add 53 = .ok (.aload_n 0, 1) := by decide +kernel
theorem dX4_add_54 : decode cX4_add 54 = .ok (.iload_n 1, 1) := by decide +kernel
theorem dX4_add_55 : decode cX4_add 55 = .ok (.iload_n 2, 1) := by decide +kernel
theorem dX4_add_56 : decode cX4_add 56 = .ok (.lload_n 3, 1) := by decide +kernel
theorem dX4_add_57 : decode cX4_add 57 = .ok (.invokevirtual 77, 3) := by decide +kernel
theorem dX4_add_60 : decode cX4_add 60 = .ok (.goto 5, 3) := by decide +kernel
theorem dX4_add_63 : decode cX4_add 63 = .ok (.bipush (-2), 2) := by decide +kernel
theorem dX4_add_65 : decode cX4_add 65 = .ok (.ireturn, 1) := by decide +kernel
theorem dX4_bitsOf_0 : decode cX4_bitsOf 0 = .ok (.lload_n 0, 1) := by decide +kernel
theorem dX4_bitsOf_1 : decode cX4_bitsOf 1 = .ok (.iconst 1, 1) := by decide +kernel
theorem dX4_bitsOf_2 : decode cX4_bitsOf 2 = .ok (.lshl, 1) := by decide +kernel
theorem dX4_bitsOf_3 : decode cX4_bitsOf 3 = .ok (.lconst 0, 1) := by decide +kernel
theorem dX4_bitsOf_4 : decode cX4_bitsOf 4 = .ok (.lcmp, 1) := by decide +kernel
theorem dX4_bitsOf_5 : decode cX4_bitsOf 5 = .ok (.ifCond .ne 7, 3) := by decide +kernel
