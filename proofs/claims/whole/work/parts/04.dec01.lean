theorem dX1_isAnySetBelow_0 : decode cX1_isAnySetBelow 0 = .ok (.iconst 0, 1) := by decide +kernel
theorem dX1_isAnySetBelow_1 : decode cX1_isAnySetBelow 1 = .ok (.istore_n 2, 1) := by decide +kernel
theorem dX1_isAnySetBelow_2 : decode cX1_isAnySetBelow 2 = .ok (.iload_n 2, 1) := by decide +kernel
theorem dX1_isAnySetBelow_3 : decode cX1_isAnySetBelow 3 = .ok (.iload_n 1, 1) := by decide +kernel
theorem dX1_isAnySetBelow_4 : decode cX1_isAnySetBelow 4 = .ok (.iconst 5, 1) := by decide +kernel
theorem dX1_isAnySetBelow_5 : decode cX1_isAnySetBelow 5 = .ok (.ishr, 1) := by decide +kernel
theorem dX1_isAnySetBelow_6 : decode cX1_isAnySetBelow 6 = .ok (.if_icmp .ge 21, 3) := by decide +kernel
theorem dX1_isAnySetBelow_9 : decode cX1_isAnySetBelow 9 = .ok (.aload_n 0, 1) := by decide +kernel
theorem dX1_isAnySetBelow_10 : decode cX1_isAnySetBelow 10 = .ok (.iload_n 2, 1) := by decide +kernel
theorem dX1_isAnySetBelow_11 : decode cX1_isAnySetBelow 11 = .ok (.invokevirtual 68, 3) := by decide +kernel
theorem dX1_isAnySetBelow_14 : decode cX1_isAnySetBelow 14 = .ok (.lconst 0, 1) := by decide +kernel
theorem dX1_isAnySetBelow_15 : decode cX1_isAnySetBelow 15 = .ok (.lcmp, 1) := by decide +kernel
theorem dX1_isAnySetBelow_16 : decode cX1_isAnySetBelow 16 = .ok (.ifCond .eq 5, 3) := by decide +kernel
theorem dX1_isAnySetBelow_19 : decode cX1_isAnySetBelow 19 = .ok (.iconst 1, 1) := by decide +kernel
theorem dX1_isAnySetBelow_20 : decode cX1_isAnySetBelow 20 = .ok (.ireturn, 1) := by decide +kernel
theorem dX1_isAnySetBelow_21 : decode cX1_isAnySetBelow 21 = .ok (.iinc 2 1, 3) := by decide +kernel
theorem dX1_isAnySetBelow_24 : decode cX1_isAnySetBelow 24 = .ok (.goto (-22), 3) := by decide +kernel
theorem dX1_isAnySetBelow_27 : decode cX1_isAnySetBelow 27 = .ok (.aload_n 0, 1) := by decide +kernel
theorem dX1_isAnySetBelow_28 : decode cX1_isAnySetBelow 28 = .ok (.iload_n 1, 1) := by decide +kernel
theorem dX1_isAnySetBelow_29 : decode cX1_isAnySetBelow 29 = .ok (.iconst 5, 1) := by decide +kernel
theorem dX1_isAnySetBelow_30 : decode cX1_isAnySetBelow 30 = .ok (.ishr, 1) := by decide +kernel
theorem dX1_isAnySetBelow_31 : decode cX1_isAnySetBelow 31 = .ok (.invokevirtual 68, 3) := by decide +kernel
theorem dX1_isAnySetBelow_34 : decode cX1_isAnySetBelow 34 = .ok (.lconst 1, 1) := by decide +kernel
theorem dX1_isAnySetBelow_35 : decode cX1_isAnySetBelow 35 = .ok (.iload_n 1, 1) := by decide +kernel
theorem dX1_isAnySetBelow_36 : decode cX1_isAnySetBelow 36 = .ok (.bipush 31, 2) := by decide +kernel
theorem dX1_isAnySetBelow_38 : decode cX1_isAnySetBelow 38 = .ok (.iand, 1) := by decide +kernel
theorem dX1_isAnySetBelow_39 : decode cX1_isAnySetBelow 39 = .ok (.lshl, 1) := by decide +kernel
theorem dX1_isAnySetBelow_40 : decode cX1_isAnySetBelow 40 = .ok (.lconst 1, 1) := by decide +kernel
theorem dX1_isAnySetBelow_41 : decode cX1_isAnySetBelow 41 = .ok (.lsub, 1) := by decide +kernel
theorem dX1_isAnySetBelow_42 : decode cX1_isAnySetBelow 42 = .ok (.land, 1) := by decide +kernel
theorem dX1_isAnySetBelow_43 : decode cX1_isAnySetBelow 43 = .ok (.lconst 0, 1) := by decide +kernel
theorem dX1_isAnySetBelow_44 : decode cX1_isAnySetBelow 44 = .ok (.lcmp, 1) := by decide +kernel
theorem dX1_isAnySetBelow_45 : decode cX1_isAnySetBelow 45 = .ok (.ifCond .eq 7, 3) := by decide +kernel
theorem dX1_isAnySetBelow_48 : decode cX1_isAnySetBelow 48 = .ok (.iconst 1, 1) := by decide +kernel
theorem dX1_isAnySetBelow_49 : decode cX1_isAnySetBelow 49 = .ok (.goto 4, 3) := by decide +kernel
theorem dX1_isAnySetBelow_52 : decode cX1_isAnySetBelow 52 = .ok (.iconst 0, 1) := by decide +kernel
theorem dX1_isAnySetBelow_53 : decode cX1_isAnySetBelow 53 = .ok (.ireturn, 1) := by decide +kernel
theorem dX1_limbAt_0 : decode cX1_limbAt 0 = .ok (.iload_n 1, 1) := by decide +kernel
theorem dX1_limbAt_1 : decode cX1_limbAt 1 = .ok (.ifCond .lt 18, 3) := by decide +kernel
theorem dX1_limbAt_4 : decode cX1_limbAt 4 = .ok (.iload_n 1, 1) := by decide +kernel
theorem dX1_limbAt_5 : decode cX1_limbAt 5 = .ok (.bipush 67, 2) := by decide +kernel
theorem dX1_limbAt_7 : decode cX1_limbAt 7 = .ok (.if_icmp .ge 12, 3) := by decide +kernel
theorem dX1_limbAt_10 : decode cX1_limbAt 10 = .ok (.aload_n 0, 1) := by decide +kernel
theorem dX1_limbAt_11 : decode cX1_limbAt 11 = .ok (.getfield 11, 3) := by decide +kernel
theorem dX1_limbAt_14 : decode cX1_limbAt 14 = .ok (.iload_n 1, 1) := by decide +kernel
theorem dX1_limbAt_15 : decode cX1_limbAt 15 = .ok (.laload, 1) := by decide +kernel
theorem dX1_limbAt_16 : decode cX1_limbAt 16 = .ok (.goto 4, 3) := by decide +kernel
theorem dX1_limbAt_19 : decode cX1_limbAt 19 = .ok (.lconst 0, 1) := by decide +kernel
theorem dX1_limbAt_20 : decode cX1_limbAt 20 = .ok (.lreturn, 1) := by decide +kernel
theorem dX2_init_0 : decode cX2_init 0 = .ok (.aload_n 0, 1) := by decide +kernel
theorem dX2_init_1 : decode cX2_init 1 = .ok (.invokespecial 3, 3) := by decide +kernel
theorem dX2_init_4 : decode cX2_init 4 = .ok (.aload_n 0, 1) := by decide +kernel
theorem dX2_init_5 : decode cX2_init 5 = .ok (.iconst 0, 1) := by decide +kernel
theorem dX2_init_6 : decode cX2_init 6 = .ok (.putfield 9, 3) := by decide +kernel
theorem dX2_init_9 : decode cX2_init 9 = .ok (.aload_n 0, 1) := by decide +kernel
theorem dX2_init_10 : decode cX2_init 10 = .ok (.bipush 32, 2) := by decide +kernel
theorem dX2_init_12 : decode cX2_init 12 = .ok (.newarray .int, 2) := by decide +kernel
theorem dX2_init_14 : decode cX2_init 14 = .ok (.putfield 15, 3) := by decide +kernel
theorem dX2_init_17 : decode cX2_init 17 = .ok (.aload_n 0, 1) := by decide +kernel
theorem dX2_init_18 : decode cX2_init 18 = .ok (.bipush 64, 2) := by decide +kernel
theorem dX2_init_20 : decode cX2_init 20 = .ok (.newarray .int, 2) := by decide +kernel
theorem dX2_init_22 : decode cX2_init 22 = .ok (.putfield 19, 3) := by decide +kernel
theorem dX2_init_25 : decode cX2_init 25 = .ok (.aload_n 0, 1) := by decide +kernel
theorem dX2_init_26 : decode cX2_init 26 = .ok (.iconst 0, 1) := by decide +kernel
theorem dX2_init_27 : decode cX2_init 27 = .ok (.putfield 22, 3) := by decide +kernel
theorem dX2_init_30 : decode cX2_init 30 = .ok (.aload_n 0, 1) := by decide +kernel
theorem dX2_init_31 : decode cX2_init 31 = .ok (.bipush (-3), 2) := by decide +kernel
theorem dX2_init_33 : decode cX2_init 33 = .ok (.putfield 25, 3) := by decide +kernel
theorem dX2_init_36 : decode cX2_init 36 = .ok (.aload_n 0, 1) := by decide +kernel
theorem dX2_init_37 : decode cX2_init 37 = .ok (.bipush (-3), 2) := by decide +kernel
theorem dX2_init_39 : decode cX2_init 39 = .ok (.putfield 28, 3) := by decide +kernel
theorem dX2_init_42 : decode cX2_init 42 = .ok (.aload_n 0, 1) := by decide +kernel
theorem dX2_init_43 : decode cX2_init 43 = .ok (.bipush (-3), 2) := by decide +kernel
theorem dX2_init_45 : decode cX2_init 45 = .ok (.putfield 31, 3) := by decide +kernel
theorem dX2_init_48 : decode cX2_init 48 = .ok (.return_, 1) := by decide +kernel
theorem dX2_setStart_0 : decode cX2_setStart 0 = .ok (.aload_n 0, 1) := by decide +kernel
theorem dX2_setStart_1 : decode cX2_setStart 1 = .ok (.getfield 9, 3) := by decide +kernel
theorem dX2_setStart_4 : decode cX2_setStart 4 = .ok (.istore_n 2, 1) := by decide +kernel
theorem dX2_setStart_5 : decode cX2_setStart 5 = .ok (.aload_n 0, 1) := by decide +kernel
theorem dX2_setStart_6 : decode cX2_setStart 6 = .ok (.iload_n 1, 1) := by decide +kernel
theorem dX2_setStart_7 : decode cX2_setStart 7 = .ok (.putfield 9, 3) := by decide +kernel
theorem dX2_setStart_10 : decode cX2_setStart 10 = .ok (.iload_n 2, 1) := by decide +kernel
theorem dX2_setStart_11 : decode cX2_setStart 11 = .ok (.ireturn, 1) := by decide +kernel
set_option maxRecDepth 20000 in
theorem ggX2_setStep_X2_stepOf : GoodIn wsX2_setStep wsX2_stepOf := goodIn_r _ [6, 1, 7, 8, 9, 10, 11, 12, 13, 14, 15, 16] (by decide +kernel) (by decide +kernel)
set_option maxRecDepth 20000 in
theorem gX2_setStep_X2_stepOf : GoodIn wsX2_setStep (wsV RX2 34 RX2 yX2_stepOf wsX2_stepOf) := goodIn_app (goodIn_of _ (by decide +kernel)) ggX2_setStep_X2_stepOf
theorem dX2_setStep_0 : decode cX2_setStep 0 = .ok (.aload_n 0, 1) := by decide +kernel
theorem dX2_setStep_1 : decode cX2_setStep 1 = .ok (.iload_n 1, 1) := by decide +kernel
theorem dX2_setStep_2 : decode cX2_setStep 2 = .ok (.iload_n 2, 1) := by decide +kernel
theorem dX2_setStep_3 : decode cX2_setStep 3 = .ok (.invokevirtual 34, 3) := by decide +kernel
theorem dX2_setStep_6 : decode cX2_setStep 6 = .ok (.istore 4, 2) := by decide +kernel
theorem dX2_setStep_8 : decode cX2_setStep 8 = .ok (.aload_n 0, 1) := by decide +kernel
theorem dX2_setStep_9 : decode cX2_setStep 9 = .ok (.getfield 15, 3) := by decide +kernel
theorem dX2_setStep_12 : decode cX2_setStep 12 = .ok (.iload_n 1, 1) := by decide +kernel
theorem dX2_setStep_13 : decode cX2_setStep 13 = .ok (.iconst 4, 1) := by decide +kernel
theorem dX2_setStep_14 : decode cX2_setStep 14 = .ok (.imul, 1) := by decide +kernel
theorem dX2_setStep_15 : decode cX2_setStep 15 = .ok (.iload_n 2, 1) := by decide +kernel
theorem dX2_setStep_16 : decode cX2_setStep 16 = .ok (.iadd, 1) := by decide +kernel
theorem dX2_setStep_17 : decode cX2_setStep 17 = .ok (.iload_n 3, 1) := by decide +kernel
theorem dX2_setStep_18 : decode cX2_setStep 18 = .ok (.iastore, 1) := by decide +kernel
theorem dX2_setStep_19 : decode cX2_setStep 19 = .ok (.iload 4, 2) := by decide +kernel
theorem dX2_setStep_21 : decode cX2_setStep 21 = .ok (.ireturn, 1) := by decide +kernel
set_option maxRecDepth 20000 in
theorem ggX2_setJoin_X2_joinOf : GoodIn wsX2_setJoin wsX2_joinOf := goodIn_r _ [6, 1, 7, 8, 9, 10, 11, 12, 13, 14, 15, 16] (by decide +kernel) (by decide +kernel)
set_option maxRecDepth 20000 in
theorem gX2_setJoin_X2_joinOf : GoodIn wsX2_setJoin (wsV RX2 38 RX2 yX2_joinOf wsX2_joinOf) := goodIn_app (goodIn_of _ (by decide +kernel)) ggX2_setJoin_X2_joinOf
theorem dX2_setJoin_0 : decode cX2_setJoin 0 = .ok (.aload_n 0, 1) := by decide +kernel
theorem dX2_setJoin_1 : decode cX2_setJoin 1 = .ok (.iload_n 1, 1) := by decide +kernel
theorem dX2_setJoin_2 : decode cX2_setJoin 2 = .ok (.iload_n 2, 1) := by decide +kernel
theorem dX2_setJoin_3 : decode cX2_setJoin 3 = .ok (.invokevirtual 38, 3) := by decide +kernel
theorem dX2_setJoin_6 : decode cX2_setJoin 6 = .ok (.istore 4, 2) := by decide +kernel
theorem dX2_setJoin_8 : decode cX2_setJoin 8 = .ok (.aload_n 0, 1) := by decide +kernel
theorem dX2_setJoin_9 : decode cX2_setJoin 9 = .ok (.getfield 19, 3) := by decide +kernel
theorem dX2_setJoin_12 : decode cX2_setJoin 12 = .ok (.iload_n 1, 1) := by decide +kernel
theorem dX2_setJoin_13 : decode cX2_setJoin 13 = .ok (.bipush 8, 2) := by decide +kernel
theorem dX2_setJoin_15 : decode cX2_setJoin 15 = .ok (.imul, 1) := by decide +kernel
theorem dX2_setJoin_16 : decode cX2_setJoin 16 = .ok (.iload_n 2, 1) := by decide +kernel
theorem dX2_setJoin_17 : decode cX2_setJoin 17 = .ok (.iadd, 1) := by decide +kernel
theorem dX2_setJoin_18 : decode cX2_setJoin 18 = .ok (.iload_n 3, 1) := by decide +kernel
theorem dX2_setJoin_19 : decode cX2_setJoin 19 = .ok (.iastore, 1) := by decide +kernel
theorem dX2_setJoin_20 : decode cX2_setJoin 20 = .ok (.iload 4, 2) := by decide +kernel
theorem dX2_setJoin_22 : decode cX2_setJoin 22 = .ok (.ireturn, 1) := by decide +kernel
set_option maxRecDepth 20000 in
theorem ggX2_stateOf_X2_stepOf : GoodIn wsX2_stateOf wsX2_stepOf := goodIn_r _ [8, 9, 10, 11, 12, 13, 14, 15, 16, 17, 18, 19] (by decide +kernel) (by decide +kernel)
set_option maxRecDepth 20000 in
theorem gX2_stateOf_X2_stepOf : GoodIn wsX2_stateOf (wsV RX2 34 RX2 yX2_stepOf wsX2_stepOf) := goodIn_app (goodIn_of _ (by decide +kernel)) ggX2_stateOf_X2_stepOf
theorem dX2_stateOf_0 : decode cX2_stateOf 0 = .ok (.aload_n 0, 1) := by decide +kernel
theorem dX2_stateOf_1 : decode cX2_stateOf 1 = .ok (.getfield 9, 3) := by decide +kernel
theorem dX2_stateOf_4 : decode cX2_stateOf 4 = .ok (.istore_n 2, 1) := by decide +kernel
theorem dX2_stateOf_5 : decode cX2_stateOf 5 = .ok (.iconst 0, 1) := by decide +kernel
theorem dX2_stateOf_6 : decode cX2_stateOf 6 = .ok (.istore_n 3, 1) := by decide +kernel
theorem dX2_stateOf_7 : decode cX2_stateOf 7 = .ok (.iload_n 3, 1) := by decide +kernel
theorem dX2_stateOf_8 : decode cX2_stateOf 8 = .ok (.aload_n 1, 1) := by decide +kernel
theorem dX2_stateOf_9 : decode cX2_stateOf 9 = .ok (.getfield 41, 3) := by decide +kernel
theorem dX2_stateOf_12 : decode cX2_stateOf 12 = .ok (.if_icmp .ge 22, 3) := by decide +kernel
theorem dX2_stateOf_15 : decode cX2_stateOf 15 = .ok (.aload_n 0, 1) := by decide +kernel
theorem dX2_stateOf_16 : decode cX2_stateOf 16 = .ok (.iload_n 2, 1) := by decide +kernel
theorem dX2_stateOf_17 : decode cX2_stateOf 17 = .ok (.aload_n 1, 1) := by decide +kernel
theorem dX2_stateOf_18 : decode cX2_stateOf 18 = .ok (.getfield 46, 3) := by decide +kernel
theorem dX2_stateOf_21 : decode cX2_stateOf 21 = .ok (.iload_n 3, 1) := by decide +kernel
theorem dX2_stateOf_22 : decode cX2_stateOf 22 = .ok (.laload, 1) := by decide +kernel
theorem dX2_stateOf_23 : decode cX2_stateOf 23 = .ok (.l2i, 1) := by decide +kernel
theorem dX2_stateOf_24 : decode cX2_stateOf 24 = .ok (.invokevirtual 34, 3) := by decide +kernel
theorem dX2_stateOf_27 : decode cX2_stateOf 27 = .ok (.istore_n 2, 1) := by decide +kernel
theorem dX2_stateOf_28 : decode cX2_stateOf 28 = .ok (.iinc 3 1, 3) := by decide +kernel
theorem dX2_stateOf_31 : decode cX2_stateOf 31 = .ok (.goto (-24), 3) := by decide +kernel
theorem dX2_stateOf_34 : decode cX2_stateOf 34 = .ok (.iload_n 2, 1) := by decide +kernel
theorem dX2_stateOf_35 : decode cX2_stateOf 35 = .ok (.ireturn, 1) := by decide +kernel
set_option maxRecDepth 20000 in
theorem ggX2_joinAll_X2_joinHalves : GoodIn wsX2_joinAll wsX2_joinHalves := goodIn_r _ [7, 8, 9, 10, 6, 11, 1, 2, 12, 13, 14, 15, 16, 17, 18, 19, 20, 3, 4, 5, 21, 22, 23, 24, 25, 34, 35, 36, 37, 38, 39, 40, 41, 42, 43, 44] (by decide +kernel) (by decide +kernel)
set_option maxRecDepth 20000 in
theorem gX2_joinAll_X2_joinHalves : GoodIn wsX2_joinAll (wsV RX2 50 RX2 yX2_joinHalves wsX2_joinHalves) := goodIn_app (goodIn_of _ (by decide +kernel)) ggX2_joinAll_X2_joinHalves
set_option maxRecDepth 20000 in
theorem ggX2_joinAll_X2_joinFromLeft : GoodIn wsX2_joinAll wsX2_joinFromLeft := goodIn_r _ [29, 1, 8, 9, 10, 6, 11, 2, 12, 13, 14, 15, 16, 17, 18, 19, 20, 21, 22, 23, 24, 25, 34, 35, 36, 37, 38, 39, 40, 41, 42, 43, 44] (by decide +kernel) (by decide +kernel)
set_option maxRecDepth 20000 in
theorem gX2_joinAll_X2_joinFromLeft : GoodIn wsX2_joinAll (wsV RX2 54 RX2 yX2_joinFromLeft wsX2_joinFromLeft) := goodIn_app (goodIn_of _ (by decide +kernel)) ggX2_joinAll_X2_joinFromLeft
set_option maxRecDepth 20000 in
theorem ggX2_joinAll_X2_joinFromRight : GoodIn wsX2_joinAll wsX2_joinFromRight := goodIn_r _ [33, 1, 8, 9, 10, 6, 11, 2, 12, 13, 14, 15, 16, 17, 18, 19, 20, 21, 22, 23, 24, 25, 34, 35, 36, 37, 38, 39, 40, 41, 42, 43, 44] (by decide +kernel) (by decide +kernel)
set_option maxRecDepth 20000 in
theorem gX2_joinAll_X2_joinFromRight : GoodIn wsX2_joinAll (wsV RX2 58 RX2 yX2_joinFromRight wsX2_joinFromRight) := goodIn_app (goodIn_of _ (by decide +kernel)) ggX2_joinAll_X2_joinFromRight
theorem dX2_joinAll_0 : decode cX2_joinAll 0 = .ok (.aload_n 1, 1) := by decide +kernel
theorem dX2_joinAll_1 : decode cX2_joinAll 1 = .ok (.getfield 41, 3) := by decide +kernel
theorem dX2_joinAll_4 : decode cX2_joinAll 4 = .ok (.ifCond .ne 8, 3) := by decide +kernel
theorem dX2_joinAll_7 : decode cX2_joinAll 7 = .ok (.aload_n 0, 1) := by decide +kernel
theorem dX2_joinAll_8 : decode cX2_joinAll 8 = .ok (.getfield 9, 3) := by decide +kernel
theorem dX2_joinAll_11 : decode cX2_joinAll 11 = .ok (.ireturn, 1) := by decide +kernel
theorem dX2_joinAll_12 : decode cX2_joinAll 12 = .ok (.iload_n 2, 1) := by decide +kernel
theorem dX2_joinAll_13 : decode cX2_joinAll 13 = .ok (.ifCond .ne 15, 3) := by decide +kernel
theorem dX2_joinAll_16 : decode cX2_joinAll 16 = .ok (.aload_n 0, 1) := by decide +kernel
theorem dX2_joinAll_17 : decode cX2_joinAll 17 = .ok (.aload_n 1, 1) := by decide +kernel
theorem dX2_joinAll_18 : decode cX2_joinAll 18 = .ok (.iconst 0, 1) := by decide +kernel
theorem dX2_joinAll_19 : decode cX2_joinAll 19 = .ok (.aload_n 1, 1) := by decide +kernel
theorem dX2_joinAll_20 : decode cX2_joinAll 20 = .ok (.getfield 41, 3) := by decide +kernel
theorem dX2_joinAll_23 : decode cX2_joinAll 23 = .ok (.iconst 0, 1) := by decide +kernel
theorem dX2_joinAll_24 : decode cX2_joinAll 24 = .ok (.invokevirtual 50, 3) := by decide +kernel
theorem dX2_joinAll_27 : decode cX2_joinAll 27 = .ok (.ireturn, 1) := by decide +kernel
theorem dX2_joinAll_28 : decode cX2_joinAll 28 = .ok (.iload_n 2, 1) := by decide +kernel
theorem dX2_joinAll_29 : decode cX2_joinAll 29 = .ok (.iconst 1, 1) := by decide +kernel
theorem dX2_joinAll_30 : decode cX2_joinAll 30 = .ok (.if_icmp .ne 11, 3) := by decide +kernel
theorem dX2_joinAll_33 : decode cX2_joinAll 33 = .ok (.aload_n 0, 1) := by decide +kernel
theorem dX2_joinAll_34 : decode cX2_joinAll 34 = .ok (.aload_n 1, 1) := by decide +kernel
theorem dX2_joinAll_35 : decode cX2_joinAll 35 = .ok (.invokevirtual 54, 3) := by decide +kernel
theorem dX2_joinAll_38 : decode cX2_joinAll 38 = .ok (.goto 8, 3) := by decide +kernel
theorem dX2_joinAll_41 : decode cX2_joinAll 41 = .ok (.aload_n 0, 1) := by decide +kernel
theorem dX2_joinAll_42 : decode cX2_joinAll 42 = .ok (.aload_n 1, 1) := by decide +kernel
theorem dX2_joinAll_43 : decode cX2_joinAll 43 = .ok (.invokevirtual 58, 3) := by decide +kernel
theorem dX2_joinAll_46 : decode cX2_joinAll 46 = .ok (.ireturn, 1) := by decide +kernel
set_option maxRecDepth 20000 in
theorem ggX2_joinHalves_X2_firstStep : GoodIn wsX2_joinHalves wsX2_firstStep := goodIn_r _ [5, 6, 7, 8, 9, 10, 11, 4, 12, 13, 14, 15, 16, 25, 26, 27, 28, 29, 30, 31, 32, 33, 34, 35] (by decide +kernel) (by decide +kernel)
set_option maxRecDepth 20000 in
theorem gX2_joinHalves_X2_firstStep : GoodIn wsX2_joinHalves (wsV RX2 61 RX2 yX2_firstStep wsX2_firstStep) := goodIn_app (goodIn_of _ (by decide +kernel)) ggX2_joinHalves_X2_firstStep
set_option maxRecDepth 20000 in
theorem ggX2_joinHalves_X2_joinHalves : GoodIn wsX2_joinHalves wsX2_joinHalves := goodIn_r _ [0, 1, 2, 3, 4, 5, 6, 7, 8, 9, 10, 11, 12, 13, 14, 15, 16, 17, 18, 19, 20, 21, 22, 23, 24, 25, 26, 27, 28, 29, 30, 31, 32, 33, 34, 35] (by decide +kernel) (by decide +kernel)
set_option maxRecDepth 20000 in
theorem gX2_joinHalves_X2_joinHalves : GoodIn wsX2_joinHalves (wsV RX2 50 RX2 yX2_joinHalves wsX2_joinHalves) := goodIn_app (goodIn_of _ (by decide +kernel)) ggX2_joinHalves_X2_joinHalves
set_option maxRecDepth 20000 in
theorem ggX2_joinHalves_X2_joinOf : GoodIn wsX2_joinHalves wsX2_joinOf := goodIn_r _ [23, 24, 14, 15, 16, 29, 30, 31, 32, 33, 34, 35] (by decide +kernel) (by decide +kernel)
set_option maxRecDepth 20000 in
theorem gX2_joinHalves_X2_joinOf : GoodIn wsX2_joinHalves (wsV RX2 38 RX2 yX2_joinOf wsX2_joinOf) := goodIn_app (goodIn_of _ (by decide +kernel)) ggX2_joinHalves_X2_joinOf
theorem dX2_joinHalves_0 : decode cX2_joinHalves 0 = .ok (.iload_n 3, 1) := by decide +kernel
theorem dX2_joinHalves_1 : decode cX2_joinHalves 1 = .ok (.iconst 1, 1) := by decide +kernel
theorem dX2_joinHalves_2 : decode cX2_joinHalves 2 = .ok (.if_icmp .le 10, 3) := by decide +kernel
theorem dX2_joinHalves_5 : decode cX2_joinHalves 5 = .ok (.iload 4, 2) := by decide +kernel
theorem dX2_joinHalves_7 : decode cX2_joinHalves 7 = .ok (.bipush 8, 2) := by decide +kernel
theorem dX2_joinHalves_9 : decode cX2_joinHalves 9 = .ok (.if_icmp .lt 10, 3) := by decide +kernel
theorem dX2_joinHalves_12 : decode cX2_joinHalves 12 = .ok (.aload_n 0, 1) := by decide +kernel
theorem dX2_joinHalves_13 : decode cX2_joinHalves 13 = .ok (.aload_n 1, 1) := by decide +kernel
theorem dX2_joinHalves_14 : decode cX2_joinHalves 14 = .ok (.iload_n 2, 1) := by decide +kernel
theorem dX2_joinHalves_15 : decode cX2_joinHalves 15 = .ok (.invokevirtual 61, 3) := by decide +kernel
theorem dX2_joinHalves_18 : decode cX2_joinHalves 18 = .ok (.ireturn, 1) := by decide +kernel
theorem dX2_joinHalves_19 : decode cX2_joinHalves 19 = .ok (.iload_n 3, 1) := by decide +kernel
theorem dX2_joinHalves_20 : decode cX2_joinHalves 20 = .ok (.iconst 2, 1) := by decide +kernel
theorem dX2_joinHalves_21 : decode cX2_joinHalves 21 = .ok (.idiv, 1) := by decide +kernel
theorem dX2_joinHalves_22 : decode cX2_joinHalves 22 = .ok (.istore 5, 2) := by decide +kernel
theorem dX2_joinHalves_24 : decode cX2_joinHalves 24 = .ok (.aload_n 0, 1) := by decide +kernel
theorem dX2_joinHalves_25 : decode cX2_joinHalves 25 = .ok (.aload_n 1, 1) := by decide +kernel
theorem dX2_joinHalves_26 : decode cX2_joinHalves 26 = .ok (.iload_n 2, 1) := by decide +kernel
theorem dX2_joinHalves_27 : decode cX2_joinHalves 27 = .ok (.iload 5, 2) := by decide +kernel
theorem dX2_joinHalves_29 : decode cX2_joinHalves 29 = .ok (.iload 4, 2) := by decide +kernel
theorem dX2_joinHalves_31 : decode cX2_joinHalves 31 = .ok (.iconst 1, 1) := by decide +kernel
theorem dX2_joinHalves_32 : decode cX2_joinHalves 32 = .ok (.iadd, 1) := by decide +kernel
theorem dX2_joinHalves_33 : decode cX2_joinHalves 33 = .ok (.invokevirtual 50, 3) := by decide +kernel
theorem dX2_joinHalves_36 : decode cX2_joinHalves 36 = .ok (.istore 6, 2) := by decide +kernel
theorem dX2_joinHalves_38 : decode cX2_joinHalves 38 = .ok (.aload_n 0, 1) := by decide +kernel
theorem dX2_joinHalves_39 : decode cX2_joinHalves 39 = .ok (.aload_n 1, 1) := by decide +kernel
theorem dX2_joinHalves_40 : decode cX2_joinHalves 40 = .ok (.iload_n 2, 1) := by decide +kernel
theorem dX2_joinHalves_41 : decode cX2_joinHalves 41 = .ok (.iload 5, 2) := by decide +kernel
theorem dX2_joinHalves_43 : decode cX2_joinHalves 43 = .ok (.iadd, 1) := by decide +kernel
theorem dX2_joinHalves_44 : decode cX2_joinHalves 44 = .ok (.iload_n 3, 1) := by decide +kernel
theorem dX2_joinHalves_45 : decode cX2_joinHalves 45 = .ok (.iload 5, 2) := by decide +kernel
theorem dX2_joinHalves_47 : decode cX2_joinHalves 47 = .ok (.isub, 1) := by decide +kernel
theorem dX2_joinHalves_48 : decode cX2_joinHalves 48 = .ok (.iload 4, 2) := by decide +kernel
theorem dX2_joinHalves_50 : decode cX2_joinHalves 50 = .ok (.iconst 1, 1) := by decide +kernel
theorem dX2_joinHalves_51 : decode cX2_joinHalves 51 = .ok (.iadd, 1) := by decide +kernel
theorem dX2_joinHalves_52 : decode cX2_joinHalves 52 = .ok (.invokevirtual 50, 3) := by decide +kernel
theorem dX2_joinHalves_55 : decode cX2_joinHalves 55 = .ok (.istore 7, 2) := by decide +kernel
theorem dX2_joinHalves_57 : decode cX2_joinHalves 57 = .ok (.aload_n 0, 1) := by decide +kernel
theorem dX2_joinHalves_58 : decode cX2_joinHalves 58 = .ok (.iload 6, 2) := by decide +kernel
theorem dX2_joinHalves_60 : decode cX2_joinHalves 60 = .ok (.iload 7, 2) := by decide +kernel
theorem dX2_joinHalves_62 : decode cX2_joinHalves 62 = .ok (.invokevirtual 38, 3) := by decide +kernel
theorem dX2_joinHalves_65 : decode cX2_joinHalves 65 = .ok (.ireturn, 1) := by decide +kernel
set_option maxRecDepth 20000 in
theorem ggX2_joinFromLeft_X2_firstStep : GoodIn wsX2_joinFromLeft wsX2_firstStep := goodIn_r _ [6, 1, 7, 8, 9, 10, 11, 5, 12, 13, 14, 15, 16, 22, 23, 24, 25, 26, 27, 28, 29, 30, 31, 32] (by decide +kernel) (by decide +kernel)
set_option maxRecDepth 20000 in
theorem gX2_joinFromLeft_X2_firstStep : GoodIn wsX2_joinFromLeft (wsV RX2 61 RX2 yX2_firstStep wsX2_firstStep) := goodIn_app (goodIn_of _ (by decide +kernel)) ggX2_joinFromLeft_X2_firstStep
set_option maxRecDepth 20000 in
theorem ggX2_joinFromLeft_X2_joinOf : GoodIn wsX2_joinFromLeft wsX2_joinOf := goodIn_r _ [20, 21, 14, 15, 16, 26, 27, 28, 29, 30, 31, 32] (by decide +kernel) (by decide +kernel)
set_option maxRecDepth 20000 in
theorem gX2_joinFromLeft_X2_joinOf : GoodIn wsX2_joinFromLeft (wsV RX2 38 RX2 yX2_joinOf wsX2_joinOf) := goodIn_app (goodIn_of _ (by decide +kernel)) ggX2_joinFromLeft_X2_joinOf
theorem dX2_joinFromLeft_0 : decode cX2_joinFromLeft 0 = .ok (.aload_n 0, 1) := by decide +kernel
theorem dX2_joinFromLeft_1 : decode cX2_joinFromLeft 1 = .ok (.aload_n 1, 1) := by decide +kernel
theorem dX2_joinFromLeft_2 : decode cX2_joinFromLeft 2 = .ok (.iconst 0, 1) := by decide +kernel
theorem dX2_joinFromLeft_3 : decode cX2_joinFromLeft 3 = .ok (.invokevirtual 61, 3) := by decide +kernel
theorem dX2_joinFromLeft_6 : decode cX2_joinFromLeft 6 = .ok (.istore_n 2, 1) := by decide +kernel
theorem dX2_joinFromLeft_7 : decode cX2_joinFromLeft 7 = .ok (.iconst 1, 1) := by decide +kernel
theorem dX2_joinFromLeft_8 : decode cX2_joinFromLeft 8 = .ok (.istore_n 3, 1) := by decide +kernel
theorem dX2_joinFromLeft_9 : decode cX2_joinFromLeft 9 = .ok (.iload_n 3, 1) := by decide +kernel
theorem dX2_joinFromLeft_10 : decode cX2_joinFromLeft 10 = .ok (.aload_n 1, 1) := by decide +kernel
theorem dX2_joinFromLeft_11 : decode cX2_joinFromLeft 11 = .ok (.getfield 41, 3) := by decide +kernel
theorem dX2_joinFromLeft_14 : decode cX2_joinFromLeft 14 = .ok (.if_icmp .ge 21, 3) := by decide +kernel
theorem dX2_joinFromLeft_17 : decode cX2_joinFromLeft 17 = .ok (.aload_n 0, 1) := by decide +kernel
theorem dX2_joinFromLeft_18 : decode cX2_joinFromLeft 18 = .ok (.iload_n 2, 1) := by decide +kernel
theorem dX2_joinFromLeft_19 : decode cX2_joinFromLeft 19 = .ok (.aload_n 0, 1) := by decide +kernel
theorem dX2_joinFromLeft_20 : decode cX2_joinFromLeft 20 = .ok (.aload_n 1, 1) := by decide +kernel
theorem dX2_joinFromLeft_21 : decode cX2_joinFromLeft 21 = .ok (.iload_n 3, 1) := by decide +kernel
theorem dX2_joinFromLeft_22 : decode cX2_joinFromLeft 22 = .ok (.invokevirtual 61, 3) := by decide +kernel
theorem dX2_joinFromLeft_25 : decode cX2_joinFromLeft 25 = .ok (.invokevirtual 38, 3) := by decide +kernel
theorem dX2_joinFromLeft_28 : decode cX2_joinFromLeft 28 = .ok (.istore_n 2, 1) := by decide +kernel
theorem dX2_joinFromLeft_29 : decode cX2_joinFromLeft 29 = .ok (.iinc 3 1, 3) := by decide +kernel
theorem dX2_joinFromLeft_32 : decode cX2_joinFromLeft 32 = .ok (.goto (-23), 3) := by decide +kernel
theorem dX2_joinFromLeft_35 : decode cX2_joinFromLeft 35 = .ok (.iload_n 2, 1) := by decide +kernel
theorem dX2_joinFromLeft_36 : decode cX2_joinFromLeft 36 = .ok (.ireturn, 1) := by decide +kernel
set_option maxRecDepth 20000 in
theorem ggX2_joinFromRight_X2_firstStep : GoodIn wsX2_joinFromRight wsX2_firstStep := goodIn_r _ [6, 1, 7, 8, 9, 10, 11, 5, 12, 13, 14, 15, 16, 22, 23, 24, 25, 26, 27, 28, 29, 30, 31, 32] (by decide +kernel) (by decide +kernel)
set_option maxRecDepth 20000 in
theorem gX2_joinFromRight_X2_firstStep : GoodIn wsX2_joinFromRight (wsV RX2 61 RX2 yX2_firstStep wsX2_firstStep) := goodIn_app (goodIn_of _ (by decide +kernel)) ggX2_joinFromRight_X2_firstStep
set_option maxRecDepth 20000 in
theorem ggX2_joinFromRight_X2_joinOf : GoodIn wsX2_joinFromRight wsX2_joinOf := goodIn_r _ [20, 21, 14, 15, 16, 26, 27, 28, 29, 30, 31, 32] (by decide +kernel) (by decide +kernel)
set_option maxRecDepth 20000 in
theorem gX2_joinFromRight_X2_joinOf : GoodIn wsX2_joinFromRight (wsV RX2 38 RX2 yX2_joinOf wsX2_joinOf) := goodIn_app (goodIn_of _ (by decide +kernel)) ggX2_joinFromRight_X2_joinOf
theorem dX2_joinFromRight_0 : decode cX2_joinFromRight 0 = .ok (.aload_n 0, 1) := by decide +kernel
theorem dX2_joinFromRight_1 : decode cX2_joinFromRight 1 = .ok (.aload_n 1, 1) := by decide +kernel
theorem dX2_joinFromRight_2 : decode cX2_joinFromRight 2 = .ok (.aload_n 1, 1) := by decide +kernel
theorem dX2_joinFromRight_3 : decode cX2_joinFromRight 3 = .ok (.getfield 41, 3) := by decide +kernel
theorem dX2_joinFromRight_6 : decode cX2_joinFromRight 6 = .ok (.iconst 1, 1) := by decide +kernel
theorem dX2_joinFromRight_7 : decode cX2_joinFromRight 7 = .ok (.isub, 1) := by decide +kernel
theorem dX2_joinFromRight_8 : decode cX2_joinFromRight 8 = .ok (.invokevirtual 61, 3) := by decide +kernel
theorem dX2_joinFromRight_11 : decode cX2_joinFromRight 11 = .ok (.istore_n 2, 1) := by decide +kernel
theorem dX2_joinFromRight_12 : decode cX2_joinFromRight 12 = .ok (.aload_n 1, 1) := by decide +kernel
theorem dX2_joinFromRight_13 : decode cX2_joinFromRight 13 = .ok (.getfield 41, 3) := by decide +kernel
theorem dX2_joinFromRight_16 : decode cX2_joinFromRight 16 = .ok (.iconst 2, 1) := by decide +kernel
theorem dX2_joinFromRight_17 : decode cX2_joinFromRight 17 = .ok (.isub, 1) := by decide +kernel
theorem dX2_joinFromRight_18 : decode cX2_joinFromRight 18 = .ok (.istore_n 3, 1) := by decide +kernel
theorem dX2_joinFromRight_19 : decode cX2_joinFromRight 19 = .ok (.iload_n 3, 1) := by decide +kernel
theorem dX2_joinFromRight_20 : decode cX2_joinFromRight 20 = .ok (.ifCond .lt 21, 3) := by decide +kernel
theorem dX2_joinFromRight_23 : decode cX2_joinFromRight 23 = .ok (.aload_n 0, 1) := by decide +kernel
theorem dX2_joinFromRight_24 : decode cX2_joinFromRight 24 = .ok (.aload_n 0, 1) := by decide +kernel
theorem dX2_joinFromRight_25 : decode cX2_joinFromRight 25 = .ok (.aload_n 1, 1) := by decide +kernel
theorem dX2_joinFromRight_26 : decode cX2_joinFromRight 26 = .ok (.iload_n 3, 1) := by decide +kernel
theorem dX2_joinFromRight_27 : decode cX2_joinFromRight 27 = .ok (.invokevirtual 61, 3) := by decide +kernel
theorem dX2_joinFromRight_30 : decode cX2_joinFromRight 30 = .ok (.iload_n 2, 1) := by decide +kernel
theorem dX2_joinFromRight_31 : decode cX2_joinFromRight 31 = .ok (.invokevirtual 38, 3) := by decide +kernel
theorem dX2_joinFromRight_34 : decode cX2_joinFromRight 34 = .ok (.istore_n 2, 1) := by decide +kernel
theorem dX2_joinFromRight_35 : decode cX2_joinFromRight 35 = .ok (.iinc 3 (-1), 3) := by decide +kernel
theorem dX2_joinFromRight_38 : decode cX2_joinFromRight 38 = .ok (.goto (-19), 3) := by decide +kernel
theorem dX2_joinFromRight_41 : decode cX2_joinFromRight 41 = .ok (.iload_n 2, 1) := by decide +kernel
theorem dX2_joinFromRight_42 : decode cX2_joinFromRight 42 = .ok (.ireturn, 1) := by decide +kernel
set_option maxRecDepth 20000 in
theorem ggX2_firstStep_X2_stepOf : GoodIn wsX2_firstStep wsX2_stepOf := goodIn_r _ [8, 9, 10, 11, 12, 17, 18, 19, 20, 21, 22, 23] (by decide +kernel) (by decide +kernel)
set_option maxRecDepth 20000 in
theorem gX2_firstStep_X2_stepOf : GoodIn wsX2_firstStep (wsV RX2 34 RX2 yX2_stepOf wsX2_stepOf) := goodIn_app (goodIn_of _ (by decide +kernel)) ggX2_firstStep_X2_stepOf
theorem dX2_firstStep_0 : decode cX2_firstStep 0 = .ok (.iload_n 2, 1) := by decide +kernel
theorem dX2_firstStep_1 : decode cX2_firstStep 1 = .ok (.ifCond .lt 29, 3) := by decide +kernel
theorem dX2_firstStep_4 : decode cX2_firstStep 4 = .ok (.iload_n 2, 1) := by decide +kernel
theorem dX2_firstStep_5 : decode cX2_firstStep 5 = .ok (.aload_n 1, 1) := by decide +kernel
theorem dX2_firstStep_6 : decode cX2_firstStep 6 = .ok (.getfield 41, 3) := by decide +kernel
theorem dX2_firstStep_9 : decode cX2_firstStep 9 = .ok (.if_icmp .ge 21, 3) := by decide +kernel
theorem dX2_firstStep_12 : decode cX2_firstStep 12 = .ok (.aload_n 0, 1) := by decide +kernel
theorem dX2_firstStep_13 : decode cX2_firstStep 13 = .ok (.aload_n 0, 1) := by decide +kernel
theorem dX2_firstStep_14 : decode cX2_firstStep 14 = .ok (.getfield 9, 3) := by decide +kernel
theorem dX2_firstStep_17 : decode cX2_firstStep 17 = .ok (.aload_n 1, 1) := by decide +kernel
theorem dX2_firstStep_18 : decode cX2_firstStep 18 = .ok (.getfield 46, 3) := by decide +kernel
theorem dX2_firstStep_21 : decode cX2_firstStep 21 = .ok (.iload_n 2, 1) := by decide +kernel
theorem dX2_firstStep_22 : decode cX2_firstStep 22 = .ok (.laload, 1) := by decide +kernel
theorem dX2_firstStep_23 : decode cX2_firstStep 23 = .ok (.l2i, 1) := by decide +kernel
theorem dX2_firstStep_24 : decode cX2_firstStep 24 = .ok (.invokevirtual 34, 3) := by decide +kernel
theorem dX2_firstStep_27 : decode cX2_firstStep 27 = .ok (.goto 7, 3) := by decide +kernel
theorem dX2_firstStep_30 : decode cX2_firstStep 30 = .ok (.aload_n 0, 1) := by decide +kernel
theorem dX2_firstStep_31 : decode cX2_firstStep 31 = .ok (.getfield 9, 3) := by decide +kernel
theorem dX2_firstStep_34 : decode cX2_firstStep 34 = .ok (.ireturn, 1) := by decide +kernel
set_option maxRecDepth 20000 in
theorem ggX2_lookThrough_X2_keepWrong : GoodIn wsX2_lookThrough wsX2_keepWrong := goodIn_r _ [6, 1, 7, 8, 9, 43, 44, 45, 46, 47, 48, 49] (by decide +kernel) (by decide +kernel)
set_option maxRecDepth 20000 in
theorem gX2_lookThrough_X2_keepWrong : GoodIn wsX2_lookThrough (wsV RX2 65 RX2 yX2_keepWrong wsX2_keepWrong) := goodIn_app (goodIn_of _ (by decide +kernel)) ggX2_lookThrough_X2_keepWrong
set_option maxRecDepth 20000 in
theorem ggX2_lookThrough_X2_reachedStates : GoodIn wsX2_lookThrough wsX2_reachedStates := goodIn_r _ [13, 14, 15, 16, 5, 17, 18, 19, 20, 21, 22, 23, 24, 25, 26, 27, 28, 29, 43, 44, 45, 46, 47, 48, 49] (by decide +kernel) (by decide +kernel)
set_option maxRecDepth 20000 in
theorem gX2_lookThrough_X2_reachedStates : GoodIn wsX2_lookThrough (wsV RX2 69 RX2 yX2_reachedStates wsX2_reachedStates) := goodIn_app (goodIn_of _ (by decide +kernel)) ggX2_lookThrough_X2_reachedStates
set_option maxRecDepth 20000 in
theorem ggX2_lookThrough_X2_holds : GoodIn wsX2_lookThrough wsX2_holds := goodIn_r _ [17] (by decide +kernel) (by decide +kernel)
set_option maxRecDepth 20000 in
theorem gX2_lookThrough_X2_holds : GoodIn wsX2_lookThrough (va_wsS RX2 73 yX2_holds wsX2_holds) := goodIn_app (goodIn_of _ (by decide +kernel)) ggX2_lookThrough_X2_holds
set_option maxRecDepth 20000 in
theorem ggX2_lookThrough_X2_lookThroughFrom : GoodIn wsX2_lookThrough wsX2_lookThroughFrom := goodIn_r _ [33, 14, 1, 34, 35, 36, 5, 37, 38, 27, 28, 29, 2, 3, 4, 6, 7, 8, 9, 15, 16, 17, 39, 40, 41, 42, 22, 23, 24, 25, 26, 43, 44, 45, 46, 47, 48, 49] (by decide +kernel) (by decide +kernel)
set_option maxRecDepth 20000 in
theorem gX2_lookThrough_X2_lookThroughFrom : GoodIn wsX2_lookThrough (wsV RX2 77 RX2 yX2_lookThroughFrom wsX2_lookThroughFrom) := goodIn_app (goodIn_of _ (by decide +kernel)) ggX2_lookThrough_X2_lookThroughFrom
theorem dX2_lookThrough_0 : decode cX2_lookThrough 0 = .ok (.aload_n 0, 1) := by decide +kernel
theorem dX2_lookThrough_1 : decode cX2_lookThrough 1 = .ok (.iconst 0, 1) := by decide +kernel
theorem dX2_lookThrough_2 : decode cX2_lookThrough 2 = .ok (.bipush (-3), 2) := by decide +kernel
theorem dX2_lookThrough_4 : decode cX2_lookThrough 4 = .ok (.bipush (-3), 2) := by decide +kernel
theorem dX2_lookThrough_6 : decode cX2_lookThrough 6 = .ok (.bipush (-3), 2) := by decide +kernel
theorem dX2_lookThrough_8 : decode cX2_lookThrough 8 = .ok (.invokevirtual 65, 3) := by decide +kernel
theorem dX2_lookThrough_11 : decode cX2_lookThrough 11 = .ok (.aload_n 0, 1) := by decide +kernel
theorem dX2_lookThrough_12 : decode cX2_lookThrough 12 = .ok (.invokevirtual 69, 3) := by decide +kernel
theorem dX2_lookThrough_15 : decode cX2_lookThrough 15 = .ok (.istore_n 1, 1) := by decide +kernel
theorem dX2_lookThrough_16 : decode cX2_lookThrough 16 = .ok (.iconst 0, 1) := by decide +kernel
theorem dX2_lookThrough_17 : decode cX2_lookThrough 17 = .ok (.istore_n 2, 1) := by decide +kernel
theorem dX2_lookThrough_18 : decode cX2_lookThrough 18 = .ok (.iload_n 2, 1) := by decide +kernel
theorem dX2_lookThrough_19 : decode cX2_lookThrough 19 = .ok (.bipush 8, 2) := by decide +kernel
theorem dX2_lookThrough_21 : decode cX2_lookThrough 21 = .ok (.if_icmp .ge 30, 3) := by decide +kernel
theorem dX2_lookThrough_24 : decode cX2_lookThrough 24 = .ok (.aload_n 0, 1) := by decide +kernel
theorem dX2_lookThrough_25 : decode cX2_lookThrough 25 = .ok (.getfield 22, 3) := by decide +kernel
theorem dX2_lookThrough_28 : decode cX2_lookThrough 28 = .ok (.ifCond .ne 23, 3) := by decide +kernel
theorem dX2_lookThrough_31 : decode cX2_lookThrough 31 = .ok (.iload_n 1, 1) := by decide +kernel
theorem dX2_lookThrough_32 : decode cX2_lookThrough 32 = .ok (.iload_n 2, 1) := by decide +kernel
theorem dX2_lookThrough_33 : decode cX2_lookThrough 33 = .ok (.invokestatic 73, 3) := by decide +kernel
theorem dX2_lookThrough_36 : decode cX2_lookThrough 36 = .ok (.ifCond .eq 9, 3) := by decide +kernel
theorem dX2_lookThrough_39 : decode cX2_lookThrough 39 = .ok (.aload_n 0, 1) := by decide +kernel
theorem dX2_lookThrough_40 : decode cX2_lookThrough 40 = .ok (.iload_n 2, 1) := by decide +kernel
theorem dX2_lookThrough_41 : decode cX2_lookThrough 41 = .ok (.iload_n 1, 1) := by decide +kernel
theorem dX2_lookThrough_42 : decode cX2_lookThrough 42 = .ok (.invokevirtual 77, 3) := by decide +kernel
theorem dX2_lookThrough_45 : decode cX2_lookThrough 45 = .ok (.iinc 2 1, 3) := by decide +kernel
theorem dX2_lookThrough_48 : decode cX2_lookThrough 48 = .ok (.goto (-30), 3) := by decide +kernel
theorem dX2_lookThrough_51 : decode cX2_lookThrough 51 = .ok (.return_, 1) := by decide +kernel
set_option maxRecDepth 20000 in
theorem ggX2_lookThroughFrom_X2_joinOf : GoodIn wsX2_lookThroughFrom wsX2_joinOf := goodIn_r _ [7, 8, 9, 10, 11, 31, 32, 33, 34, 35, 36, 37] (by decide +kernel) (by decide +kernel)
set_option maxRecDepth 20000 in
theorem gX2_lookThroughFrom_X2_joinOf : GoodIn wsX2_lookThroughFrom (wsV RX2 38 RX2 yX2_joinOf wsX2_joinOf) := goodIn_app (goodIn_of _ (by decide +kernel)) ggX2_lookThroughFrom_X2_joinOf
set_option maxRecDepth 20000 in
theorem ggX2_lookThroughFrom_X2_keepWrong : GoodIn wsX2_lookThroughFrom wsX2_keepWrong := goodIn_r _ [15, 2, 16, 17, 18, 31, 32, 33, 34, 35, 36, 37] (by decide +kernel) (by decide +kernel)
set_option maxRecDepth 20000 in
theorem gX2_lookThroughFrom_X2_keepWrong : GoodIn wsX2_lookThroughFrom (wsV RX2 65 RX2 yX2_keepWrong wsX2_keepWrong) := goodIn_app (goodIn_of _ (by decide +kernel)) ggX2_lookThroughFrom_X2_keepWrong
set_option maxRecDepth 20000 in
theorem ggX2_lookThroughFrom_X2_holds : GoodIn wsX2_lookThroughFrom wsX2_holds := goodIn_r _ [21] (by decide +kernel) (by decide +kernel)
set_option maxRecDepth 20000 in
theorem gX2_lookThroughFrom_X2_holds : GoodIn wsX2_lookThroughFrom (va_wsS RX2 73 yX2_holds wsX2_holds) := goodIn_app (goodIn_of _ (by decide +kernel)) ggX2_lookThroughFrom_X2_holds
set_option maxRecDepth 20000 in
theorem ggX2_lookThroughFrom_X2_lookThroughSteps : GoodIn wsX2_lookThroughFrom wsX2_lookThroughSteps := goodIn_r _ [25, 26, 27, 28, 6, 29, 30, 9, 10, 11, 3, 4, 5, 7, 8, 12, 13, 14, 15, 2, 16, 17, 18, 31, 32, 33, 34, 35, 36, 37] (by decide +kernel) (by decide +kernel)
set_option maxRecDepth 20000 in
theorem gX2_lookThroughFrom_X2_lookThroughSteps : GoodIn wsX2_lookThroughFrom (wsV RX2 81 RX2 yX2_lookThroughSteps wsX2_lookThroughSteps) := goodIn_app (goodIn_of _ (by decide +kernel)) ggX2_lookThroughFrom_X2_lookThroughSteps
theorem dX2_lookThroughFrom_0 : decode cX2_lookThroughFrom 0 = .ok (.aload_n 0, 1) := by decide +kernel
theorem dX2_lookThroughFrom_1 : decode cX2_lookThroughFrom 1 = .ok (.iload_n 1, 1) := by decide +kernel
theorem dX2_lookThroughFrom_2 : decode cX2_lookThroughFrom 2 = .ok (.aload_n 0, 1) := by decide +kernel
theorem dX2_lookThroughFrom_3 : decode cX2_lookThroughFrom 3 = .ok (.getfield 9, 3) := by decide +kernel
theorem dX2_lookThroughFrom_6 : decode cX2_lookThroughFrom 6 = .ok (.invokevirtual 38, 3) := by decide +kernel
theorem dX2_lookThroughFrom_9 : decode cX2_lookThroughFrom 9 = .ok (.iload_n 1, 1) := by decide +kernel
theorem dX2_lookThroughFrom_10 : decode cX2_lookThroughFrom 10 = .ok (.if_icmp .eq 14, 3) := by decide +kernel
theorem dX2_lookThroughFrom_13 : decode cX2_lookThroughFrom 13 = .ok (.aload_n 0, 1) := by decide +kernel
theorem dX2_lookThroughFrom_14 : decode cX2_lookThroughFrom 14 = .ok (.iconst 1, 1) := by decide +kernel
theorem dX2_lookThroughFrom_15 : decode cX2_lookThroughFrom 15 = .ok (.iload_n 1, 1) := by decide +kernel
theorem dX2_lookThroughFrom_16 : decode cX2_lookThroughFrom 16 = .ok (.bipush (-3), 2) := by decide +kernel
theorem dX2_lookThroughFrom_18 : decode cX2_lookThroughFrom 18 = .ok (.bipush (-3), 2) := by decide +kernel
theorem dX2_lookThroughFrom_20 : decode cX2_lookThroughFrom 20 = .ok (.invokevirtual 65, 3) := by decide +kernel
theorem dX2_lookThroughFrom_23 : decode cX2_lookThroughFrom 23 = .ok (.return_, 1) := by decide +kernel
theorem dX2_lookThroughFrom_24 : decode cX2_lookThroughFrom 24 = .ok (.iconst 0, 1) := by decide +kernel
theorem dX2_lookThroughFrom_25 : decode cX2_lookThroughFrom 25 = .ok (.istore_n 3, 1) := by decide +kernel
theorem dX2_lookThroughFrom_26 : decode cX2_lookThroughFrom 26 = .ok (.iload_n 3, 1) := by decide +kernel
theorem dX2_lookThroughFrom_27 : decode cX2_lookThroughFrom 27 = .ok (.bipush 8, 2) := by decide +kernel
theorem dX2_lookThroughFrom_29 : decode cX2_lookThroughFrom 29 = .ok (.if_icmp .ge 30, 3) := by decide +kernel
theorem dX2_lookThroughFrom_32 : decode cX2_lookThroughFrom 32 = .ok (.aload_n 0, 1) := by decide +kernel
theorem dX2_lookThroughFrom_33 : decode cX2_lookThroughFrom 33 = .ok (.getfield 22, 3) := by decide +kernel
theorem dX2_lookThroughFrom_36 : decode cX2_lookThroughFrom 36 = .ok (.ifCond .ne 23, 3) := by decide +kernel
theorem dX2_lookThroughFrom_39 : decode cX2_lookThroughFrom 39 = .ok (.iload_n 2, 1) := by decide +kernel
theorem dX2_lookThroughFrom_40 : decode cX2_lookThroughFrom 40 = .ok (.iload_n 3, 1) := by decide +kernel
theorem dX2_lookThroughFrom_41 : decode cX2_lookThroughFrom 41 = .ok (.invokestatic 73, 3) := by decide +kernel
theorem dX2_lookThroughFrom_44 : decode cX2_lookThroughFrom 44 = .ok (.ifCond .eq 9, 3) := by decide +kernel
theorem dX2_lookThroughFrom_47 : decode cX2_lookThroughFrom 47 = .ok (.aload_n 0, 1) := by decide +kernel
theorem dX2_lookThroughFrom_48 : decode cX2_lookThroughFrom 48 = .ok (.iload_n 1, 1) := by decide +kernel
theorem dX2_lookThroughFrom_49 : decode cX2_lookThroughFrom 49 = .ok (.iload_n 3, 1) := by decide +kernel
theorem dX2_lookThroughFrom_50 : decode cX2_lookThroughFrom 50 = .ok (.invokevirtual 81, 3) := by decide +kernel
theorem dX2_lookThroughFrom_53 : decode cX2_lookThroughFrom 53 = .ok (.iinc 3 1, 3) := by decide +kernel
theorem dX2_lookThroughFrom_56 : decode cX2_lookThroughFrom 56 = .ok (.goto (-30), 3) := by decide +kernel
theorem dX2_lookThroughFrom_59 : decode cX2_lookThroughFrom 59 = .ok (.return_, 1) := by decide +kernel
set_option maxRecDepth 20000 in
theorem ggX2_lookThroughSteps_X2_stepOf : GoodIn wsX2_lookThroughSteps wsX2_stepOf := goodIn_r _ [5, 6, 7, 8, 9, 23, 24, 25, 26, 27, 28, 29] (by decide +kernel) (by decide +kernel)
set_option maxRecDepth 20000 in
theorem gX2_lookThroughSteps_X2_stepOf : GoodIn wsX2_lookThroughSteps (wsV RX2 34 RX2 yX2_stepOf wsX2_stepOf) := goodIn_app (goodIn_of _ (by decide +kernel)) ggX2_lookThroughSteps_X2_stepOf
set_option maxRecDepth 20000 in
theorem ggX2_lookThroughSteps_X2_joinOf : GoodIn wsX2_lookThroughSteps wsX2_joinOf := goodIn_r _ [13, 14, 7, 8, 9, 23, 24, 25, 26, 27, 28, 29] (by decide +kernel) (by decide +kernel)
set_option maxRecDepth 20000 in
theorem gX2_lookThroughSteps_X2_joinOf : GoodIn wsX2_lookThroughSteps (wsV RX2 38 RX2 yX2_joinOf wsX2_joinOf) := goodIn_app (goodIn_of _ (by decide +kernel)) ggX2_lookThroughSteps_X2_joinOf
set_option maxRecDepth 20000 in
theorem ggX2_lookThroughSteps_X2_keepWrong : GoodIn wsX2_lookThroughSteps wsX2_keepWrong := goodIn_r _ [18, 19, 20, 21, 22, 23, 24, 25, 26, 27, 28, 29] (by decide +kernel) (by decide +kernel)
set_option maxRecDepth 20000 in
theorem gX2_lookThroughSteps_X2_keepWrong : GoodIn wsX2_lookThroughSteps (wsV RX2 65 RX2 yX2_keepWrong wsX2_keepWrong) := goodIn_app (goodIn_of _ (by decide +kernel)) ggX2_lookThroughSteps_X2_keepWrong
theorem dX2_lookThroughSteps_0 : decode cX2_lookThroughSteps 0 = .ok (.iconst 0, 1) := by decide +kernel
theorem dX2_lookThroughSteps_1 : decode cX2_lookThroughSteps 1 = .ok (.istore_n 3, 1) := by decide +kernel
theorem dX2_lookThroughSteps_2 : decode cX2_lookThroughSteps 2 = .ok (.iload_n 3, 1) := by decide +kernel
theorem dX2_lookThroughSteps_3 : decode cX2_lookThroughSteps 3 = .ok (.iconst 4, 1) := by decide +kernel
theorem dX2_lookThroughSteps_4 : decode cX2_lookThroughSteps 4 = .ok (.if_icmp .ge 43, 3) := by decide +kernel
theorem dX2_lookThroughSteps_7 : decode cX2_lookThroughSteps 7 = .ok (.aload_n 0, 1) := by decide +kernel
theorem dX2_lookThroughSteps_8 : decode cX2_lookThroughSteps 8 = .ok (.iload_n 1, 1) := by decide +kernel
theorem dX2_lookThroughSteps_9 : decode cX2_lookThroughSteps 9 = .ok (.aload_n 0, 1) := by decide +kernel
theorem dX2_lookThroughSteps_10 : decode cX2_lookThroughSteps 10 = .ok (.iload_n 2, 1) := by decide +kernel
theorem dX2_lookThroughSteps_11 : decode cX2_lookThroughSteps 11 = .ok (.iload_n 3, 1) := by decide +kernel
theorem dX2_lookThroughSteps_12 : decode cX2_lookThroughSteps 12 = .ok (.invokevirtual 34, 3) := by decide +kernel
theorem dX2_lookThroughSteps_15 : decode cX2_lookThroughSteps 15 = .ok (.invokevirtual 38, 3) := by decide +kernel
theorem dX2_lookThroughSteps_18 : decode cX2_lookThroughSteps 18 = .ok (.aload_n 0, 1) := by decide +kernel
theorem dX2_lookThroughSteps_19 : decode cX2_lookThroughSteps 19 = .ok (.aload_n 0, 1) := by decide +kernel
theorem dX2_lookThroughSteps_20 : decode cX2_lookThroughSteps 20 = .ok (.iload_n 1, 1) := by decide +kernel
theorem dX2_lookThroughSteps_21 : decode cX2_lookThroughSteps 21 = .ok (.iload_n 2, 1) := by decide +kernel
theorem dX2_lookThroughSteps_22 : decode cX2_lookThroughSteps 22 = .ok (.invokevirtual 38, 3) := by decide +kernel
theorem dX2_lookThroughSteps_25 : decode cX2_lookThroughSteps 25 = .ok (.iload_n 3, 1) := by decide +kernel
theorem dX2_lookThroughSteps_26 : decode cX2_lookThroughSteps 26 = .ok (.invokevirtual 34, 3) := by decide +kernel
theorem dX2_lookThroughSteps_29 : decode cX2_lookThroughSteps 29 = .ok (.if_icmp .eq 12, 3) := by decide +kernel
theorem dX2_lookThroughSteps_32 : decode cX2_lookThroughSteps 32 = .ok (.aload_n 0, 1) := by decide +kernel
theorem dX2_lookThroughSteps_33 : decode cX2_lookThroughSteps 33 = .ok (.iconst 2, 1) := by decide +kernel
theorem dX2_lookThroughSteps_34 : decode cX2_lookThroughSteps 34 = .ok (.iload_n 1, 1) := by decide +kernel
theorem dX2_lookThroughSteps_35 : decode cX2_lookThroughSteps 35 = .ok (.iload_n 2, 1) := by decide +kernel
theorem dX2_lookThroughSteps_36 : decode cX2_lookThroughSteps 36 = .ok (.iload_n 3, 1) := by decide +kernel
theorem dX2_lookThroughSteps_37 : decode cX2_lookThroughSteps 37 = .ok (.invokevirtual 65, 3) := by decide +kernel
theorem dX2_lookThroughSteps_40 : decode cX2_lookThroughSteps 40 = .ok (.return_, 1) := by decide +kernel
theorem dX2_lookThroughSteps_41 : decode cX2_lookThroughSteps 41 = .ok (.iinc 3 1, 3) := by decide +kernel
theorem dX2_lookThroughSteps_44 : decode cX2_lookThroughSteps 44 = .ok (.goto (-42), 3) := by decide +kernel
theorem dX2_lookThroughSteps_47 : decode cX2_lookThroughSteps 47 = .ok (.return_, 1) := by decide +kernel
theorem dX2_keepWrong_0 : decode cX2_keepWrong 0 = .ok (.aload_n 0, 1) := by decide +kernel
theorem dX2_keepWrong_1 : decode cX2_keepWrong 1 = .ok (.iload_n 1, 1) := by decide +kernel
theorem dX2_keepWrong_2 : decode cX2_keepWrong 2 = .ok (.putfield 22, 3) := by decide +kernel
theorem dX2_keepWrong_5 : decode cX2_keepWrong 5 = .ok (.aload_n 0, 1) := by decide +kernel
theorem dX2_keepWrong_6 : decode cX2_keepWrong 6 = .ok (.iload_n 2, 1) := by decide +kernel
theorem dX2_keepWrong_7 : decode cX2_keepWrong 7 = .ok (.putfield 25, 3) := by decide +kernel
theorem dX2_keepWrong_10 : decode cX2_keepWrong 10 = .ok (.aload_n 0, 1) := by decide +kernel
theorem dX2_keepWrong_11 : decode cX2_keepWrong 11 = .ok (.iload_n 3, 1) := by decide +kernel
theorem dX2_keepWrong_12 : decode cX2_keepWrong 12 = .ok (.putfield 28, 3) := by decide +kernel
theorem dX2_keepWrong_15 : decode cX2_keepWrong 15 = .ok (.aload_n 0, 1) := by decide +kernel
theorem dX2_keepWrong_16 : decode cX2_keepWrong 16 = .ok (.iload 4, 2) := by decide +kernel
theorem dX2_keepWrong_18 : decode cX2_keepWrong 18 = .ok (.putfield 31, 3) := by decide +kernel
theorem dX2_keepWrong_21 : decode cX2_keepWrong 21 = .ok (.return_, 1) := by decide +kernel
set_option maxRecDepth 20000 in
theorem ggX2_reachedStates_X2_holds : GoodIn wsX2_reachedStates wsX2_holds := goodIn_r _ [5] (by decide +kernel) (by decide +kernel)
set_option maxRecDepth 20000 in
theorem gX2_reachedStates_X2_holds : GoodIn wsX2_reachedStates (va_wsS RX2 73 yX2_holds wsX2_holds) := goodIn_app (goodIn_of _ (by decide +kernel)) ggX2_reachedStates_X2_holds
set_option maxRecDepth 20000 in
theorem ggX2_reachedStates_X2_stepsFrom : GoodIn wsX2_reachedStates wsX2_stepsFrom := goodIn_r _ [9, 10, 11, 12, 4, 13, 14, 15, 16, 17, 18, 19, 20, 21, 22, 23, 24] (by decide +kernel) (by decide +kernel)
set_option maxRecDepth 20000 in
theorem gX2_reachedStates_X2_stepsFrom : GoodIn wsX2_reachedStates (wsV RX2 84 RX2 yX2_stepsFrom wsX2_stepsFrom) := goodIn_app (goodIn_of _ (by decide +kernel)) ggX2_reachedStates_X2_stepsFrom
theorem dX2_reachedStates_0 : decode cX2_reachedStates 0 = .ok (.iconst 1, 1) := by decide +kernel
theorem dX2_reachedStates_1 : decode cX2_reachedStates 1 = .ok (.aload_n 0, 1) := by decide +kernel
theorem dX2_reachedStates_2 : decode cX2_reachedStates 2 = .ok (.getfield 9, 3) := by decide +kernel
theorem dX2_reachedStates_5 : decode cX2_reachedStates 5 = .ok (.ishl, 1) := by decide +kernel
theorem dX2_reachedStates_6 : decode cX2_reachedStates 6 = .ok (.istore_n 1, 1) := by decide +kernel
theorem dX2_reachedStates_7 : decode cX2_reachedStates 7 = .ok (.iconst 0, 1) := by decide +kernel
theorem dX2_reachedStates_8 : decode cX2_reachedStates 8 = .ok (.istore_n 2, 1) := by decide +kernel
theorem dX2_reachedStates_9 : decode cX2_reachedStates 9 = .ok (.iload_n 2, 1) := by decide +kernel
theorem dX2_reachedStates_10 : decode cX2_reachedStates 10 = .ok (.bipush 8, 2) := by decide +kernel
theorem dX2_reachedStates_12 : decode cX2_reachedStates 12 = .ok (.if_icmp .ge 39, 3) := by decide +kernel
theorem dX2_reachedStates_15 : decode cX2_reachedStates 15 = .ok (.iconst 0, 1) := by decide +kernel
theorem dX2_reachedStates_16 : decode cX2_reachedStates 16 = .ok (.istore_n 3, 1) := by decide +kernel
theorem dX2_reachedStates_17 : decode cX2_reachedStates 17 = .ok (.iload_n 3, 1) := by decide +kernel
theorem dX2_reachedStates_18 : decode cX2_reachedStates 18 = .ok (.bipush 8, 2) := by decide +kernel
theorem dX2_reachedStates_20 : decode cX2_reachedStates 20 = .ok (.if_icmp .ge 25, 3) := by decide +kernel
theorem dX2_reachedStates_23 : decode cX2_reachedStates 23 = .ok (.iload_n 1, 1) := by decide +kernel
theorem dX2_reachedStates_24 : decode cX2_reachedStates 24 = .ok (.iload_n 3, 1) := by decide +kernel
theorem dX2_reachedStates_25 : decode cX2_reachedStates 25 = .ok (.invokestatic 73, 3) := by decide +kernel
theorem dX2_reachedStates_28 : decode cX2_reachedStates 28 = .ok (.ifCond .eq 11, 3) := by decide +kernel
theorem dX2_reachedStates_31 : decode cX2_reachedStates 31 = .ok (.iload_n 1, 1) := by decide +kernel
theorem dX2_reachedStates_32 : decode cX2_reachedStates 32 = .ok (.aload_n 0, 1) := by decide +kernel
theorem dX2_reachedStates_33 : decode cX2_reachedStates 33 = .ok (.iload_n 3, 1) := by decide +kernel
theorem dX2_reachedStates_34 : decode cX2_reachedStates 34 = .ok (.invokevirtual 84, 3) := by decide +kernel
theorem dX2_reachedStates_37 : decode cX2_reachedStates 37 = .ok (.ior, 1) := by decide +kernel
theorem dX2_reachedStates_38 : decode cX2_reachedStates 38 = .ok (.istore_n 1, 1) := by decide +kernel
theorem dX2_reachedStates_39 : decode cX2_reachedStates 39 = .ok (.iinc 3 1, 3) := by decide +kernel
theorem dX2_reachedStates_42 : decode cX2_reachedStates 42 = .ok (.goto (-25), 3) := by decide +kernel
theorem dX2_reachedStates_45 : decode cX2_reachedStates 45 = .ok (.iinc 2 1, 3) := by decide +kernel
theorem dX2_reachedStates_48 : decode cX2_reachedStates 48 = .ok (.goto (-39), 3) := by decide +kernel
theorem dX2_reachedStates_51 : decode cX2_reachedStates 51 = .ok (.iload_n 1, 1) := by decide +kernel
theorem dX2_reachedStates_52 : decode cX2_reachedStates 52 = .ok (.ireturn, 1) := by decide +kernel
set_option maxRecDepth 20000 in
theorem ggX2_stepsFrom_X2_stepOf : GoodIn wsX2_stepsFrom wsX2_stepOf := goodIn_r _ [5, 6, 7, 8, 9, 10, 11, 12, 13, 14, 15, 16] (by decide +kernel) (by decide +kernel)
set_option maxRecDepth 20000 in
theorem gX2_stepsFrom_X2_stepOf : GoodIn wsX2_stepsFrom (wsV RX2 34 RX2 yX2_stepOf wsX2_stepOf) := goodIn_app (goodIn_of _ (by decide +kernel)) ggX2_stepsFrom_X2_stepOf
theorem dX2_stepsFrom_0 : decode cX2_stepsFrom 0 = .ok (.iconst 0, 1) := by decide +kernel
theorem dX2_stepsFrom_1 : decode cX2_stepsFrom 1 = .ok (.istore_n 2, 1) := by decide +kernel
theorem dX2_stepsFrom_2 : decode cX2_stepsFrom 2 = .ok (.iconst 0, 1) := by decide +kernel
theorem dX2_stepsFrom_3 : decode cX2_stepsFrom 3 = .ok (.istore_n 3, 1) := by decide +kernel
theorem dX2_stepsFrom_4 : decode cX2_stepsFrom 4 = .ok (.iload_n 3, 1) := by decide +kernel
theorem dX2_stepsFrom_5 : decode cX2_stepsFrom 5 = .ok (.iconst 4, 1) := by decide +kernel
theorem dX2_stepsFrom_6 : decode cX2_stepsFrom 6 = .ok (.if_icmp .ge 20, 3) := by decide +kernel
theorem dX2_stepsFrom_9 : decode cX2_stepsFrom 9 = .ok (.iload_n 2, 1) := by decide +kernel
theorem dX2_stepsFrom_10 : decode cX2_stepsFrom 10 = .ok (.iconst 1, 1) := by decide +kernel
theorem dX2_stepsFrom_11 : decode cX2_stepsFrom 11 = .ok (.aload_n 0, 1) := by decide +kernel
theorem dX2_stepsFrom_12 : decode cX2_stepsFrom 12 = .ok (.iload_n 1, 1) := by decide +kernel
theorem dX2_stepsFrom_13 : decode cX2_stepsFrom 13 = .ok (.iload_n 3, 1) := by decide +kernel
theorem dX2_stepsFrom_14 : decode cX2_stepsFrom 14 = .ok (.invokevirtual 34, 3) := by decide +kernel
theorem dX2_stepsFrom_17 : decode cX2_stepsFrom 17 = .ok (.ishl, 1) := by decide +kernel
theorem dX2_stepsFrom_18 : decode cX2_stepsFrom 18 = .ok (.ior, 1) := by decide +kernel
theorem dX2_stepsFrom_19 : decode cX2_stepsFrom 19 = .ok (.istore_n 2, 1) := by decide +kernel
theorem dX2_stepsFrom_20 : decode cX2_stepsFrom 20 = .ok (.iinc 3 1, 3) := by decide +kernel
theorem dX2_stepsFrom_23 : decode cX2_stepsFrom 23 = .ok (.goto (-19), 3) := by decide +kernel
theorem dX2_stepsFrom_26 : decode cX2_stepsFrom 26 = .ok (.iload_n 2, 1) := by decide +kernel
theorem dX2_stepsFrom_27 : decode cX2_stepsFrom 27 = .ok (.ireturn, 1) := by decide +kernel
theorem dX2_holds_0 : decode cX2_holds 0 = .ok (.iload_n 0, 1) := by decide +kernel
theorem dX2_holds_1 : decode cX2_holds 1 = .ok (.iload_n 1, 1) := by decide +kernel
theorem dX2_holds_2 : decode cX2_holds 2 = .ok (.ishr, 1) := by decide +kernel
theorem dX2_holds_3 : decode cX2_holds 3 = .ok (.iconst 1, 1) := by decide +kernel
theorem dX2_holds_4 : decode cX2_holds 4 = .ok (.iand, 1) := by decide +kernel
theorem dX2_holds_5 : decode cX2_holds 5 = .ok (.ifCond .eq 7, 3) := by decide +kernel
theorem dX2_holds_8 : decode cX2_holds 8 = .ok (.iconst 1, 1) := by decide +kernel
theorem dX2_holds_9 : decode cX2_holds 9 = .ok (.goto 4, 3) := by decide +kernel
theorem dX2_holds_12 : decode cX2_holds 12 = .ok (.iconst 0, 1) := by decide +kernel
theorem dX2_holds_13 : decode cX2_holds 13 = .ok (.ireturn, 1) := by decide +kernel
set_option maxRecDepth 20000 in
theorem ggX2_stepOf_X3_isState : GoodIn wsX2_stepOf wsX3_isState := goodIn_r _ [4] (by decide +kernel) (by decide +kernel)
set_option maxRecDepth 20000 in
theorem gX2_stepOf_X3_isState_n88 : GoodIn wsX2_stepOf (wsX3_isState) := ggX2_stepOf_X3_isState
theorem dX2_stepOf_0 : decode cX2_stepOf 0 = .ok (.iload_n 1, 1) := by decide +kernel
theorem dX2_stepOf_1 : decode cX2_stepOf 1 = .ok (.invokestatic 88, 3) := by decide +kernel
theorem dX2_stepOf_4 : decode cX2_stepOf 4 = .ok (.ifCond .eq 25, 3) := by decide +kernel
theorem dX2_stepOf_7 : decode cX2_stepOf 7 = .ok (.iload_n 2, 1) := by decide +kernel
theorem dX2_stepOf_8 : decode cX2_stepOf 8 = .ok (.ifCond .lt 21, 3) := by decide +kernel
theorem dX2_stepOf_11 : decode cX2_stepOf 11 = .ok (.iload_n 2, 1) := by decide +kernel
theorem dX2_stepOf_12 : decode cX2_stepOf 12 = .ok (.iconst 4, 1) := by decide +kernel
theorem dX2_stepOf_13 : decode cX2_stepOf 13 = .ok (.if_icmp .ge 16, 3) := by decide +kernel
theorem dX2_stepOf_16 : decode cX2_stepOf 16 = .ok (.aload_n 0, 1) := by decide +kernel
theorem dX2_stepOf_17 : decode cX2_stepOf 17 = .ok (.getfield 15, 3) := by decide +kernel
theorem dX2_stepOf_20 : decode cX2_stepOf 20 = .ok (.iload_n 1, 1) := by decide +kernel
theorem dX2_stepOf_21 : decode cX2_stepOf 21 = .ok (.iconst 4, 1) := by decide +kernel
theorem dX2_stepOf_22 : decode cX2_stepOf 22 = .ok (.imul, 1) := by decide +kernel
theorem dX2_stepOf_23 : decode cX2_stepOf 23 = .ok (.iload_n 2, 1) := by decide +kernel
theorem dX2_stepOf_24 : decode cX2_stepOf 24 = .ok (.iadd, 1) := by decide +kernel
theorem dX2_stepOf_25 : decode cX2_stepOf 25 = .ok (.iaload, 1) := by decide +kernel
theorem dX2_stepOf_26 : decode cX2_stepOf 26 = .ok (.goto 4, 3) := by decide +kernel
theorem dX2_stepOf_29 : decode cX2_stepOf 29 = .ok (.iconst 0, 1) := by decide +kernel
theorem dX2_stepOf_30 : decode cX2_stepOf 30 = .ok (.ireturn, 1) := by decide +kernel
set_option maxRecDepth 20000 in
theorem ggX2_joinOf_X3_isState : GoodIn wsX2_joinOf wsX3_isState := goodIn_r _ [4] (by decide +kernel) (by decide +kernel)
set_option maxRecDepth 20000 in
theorem gX2_joinOf_X3_isState_n88 : GoodIn wsX2_joinOf (wsX3_isState) := ggX2_joinOf_X3_isState
theorem dX2_joinOf_0 : decode cX2_joinOf 0 = .ok (.iload_n 1, 1) := by decide +kernel
theorem dX2_joinOf_1 : decode cX2_joinOf 1 = .ok (.invokestatic 88, 3) := by decide +kernel
theorem dX2_joinOf_4 : decode cX2_joinOf 4 = .ok (.ifCond .eq 24, 3) := by decide +kernel
theorem dX2_joinOf_7 : decode cX2_joinOf 7 = .ok (.iload_n 2, 1) := by decide +kernel
theorem dX2_joinOf_8 : decode cX2_joinOf 8 = .ok (.invokestatic 88, 3) := by decide +kernel
theorem dX2_joinOf_11 : decode cX2_joinOf 11 = .ok (.ifCond .eq 17, 3) := by decide +kernel
theorem dX2_joinOf_14 : decode cX2_joinOf 14 = .ok (.aload_n 0, 1) := by decide +kernel
theorem dX2_joinOf_15 : decode cX2_joinOf 15 = .ok (.getfield 19, 3) := by decide +kernel
theorem dX2_joinOf_18 : decode cX2_joinOf 18 = .ok (.iload_n 1, 1) := by decide +kernel
theorem dX2_joinOf_19 : decode cX2_joinOf 19 = .ok (.bipush 8, 2) := by decide +kernel
theorem dX2_joinOf_21 : decode cX2_joinOf 21 = .ok (.imul, 1) := by decide +kernel
theorem dX2_joinOf_22 : decode cX2_joinOf 22 = .ok (.iload_n 2, 1) := by decide +kernel
theorem dX2_joinOf_23 : decode cX2_joinOf 23 = .ok (.iadd, 1) := by decide +kernel
theorem dX2_joinOf_24 : decode cX2_joinOf 24 = .ok (.iaload, 1) := by decide +kernel
theorem dX2_joinOf_25 : decode cX2_joinOf 25 = .ok (.goto 4, 3) := by decide +kernel
theorem dX2_joinOf_28 : decode cX2_joinOf 28 = .ok (.iconst 0, 1) := by decide +kernel
theorem dX2_joinOf_29 : decode cX2_joinOf 29 = .ok (.ireturn, 1) := by decide +kernel
set_option maxRecDepth 20000 in
theorem ggX3_init_X2_init : GoodIn wsX3_init wsX2_init := goodIn_r _ [16, 17, 2, 3, 18, 19, 20, 21, 22, 23, 24, 25, 35, 36, 37, 38, 39, 40, 41] (by decide +kernel) (by decide +kernel)
set_option maxRecDepth 20000 in
theorem gX3_init_X2_init_n23 : GoodIn wsX3_init (wsX2_init) := ggX3_init_X2_init
set_option maxRecDepth 20000 in
theorem ggX3_init_X1_init : GoodIn wsX3_init wsX1_init := goodIn_r _ [27, 28, 2, 3, 29, 30, 42] (by decide +kernel) (by decide +kernel)
set_option maxRecDepth 20000 in
theorem gX3_init_X1_init_n30 : GoodIn wsX3_init (wsX1_init) := ggX3_init_X1_init
theorem dX3_init_0 : decode cX3_init 0 = .ok (.aload_n 0, 1) := by decide +kernel
theorem dX3_init_1 : decode cX3_init 1 = .ok (.invokespecial 3, 3) := by decide +kernel
theorem dX3_init_4 : decode cX3_init 4 = .ok (.aload_n 0, 1) := by decide +kernel
theorem dX3_init_5 : decode cX3_init 5 = .ok (.bipush 12, 2) := by decide +kernel
theorem dX3_init_7 : decode cX3_init 7 = .ok (.anewarray 11, 3) := by decide +kernel
theorem dX3_init_10 : decode cX3_init 10 = .ok (.putfield 13, 3) := by decide +kernel
theorem dX3_init_13 : decode cX3_init 13 = .ok (.aload_n 0, 1) := by decide +kernel
theorem dX3_init_14 : decode cX3_init 14 = .ok (.iconst 0, 1) := by decide +kernel
theorem dX3_init_15 : decode cX3_init 15 = .ok (.putfield 17, 3) := by decide +kernel
theorem dX3_init_18 : decode cX3_init 18 = .ok (.aload_n 0, 1) := by decide +kernel
theorem dX3_init_19 : decode cX3_init 19 = .ok (.new 21, 3) := by decide +kernel
theorem dX3_init_22 : decode cX3_init 22 = .ok (.dup, 1) := by decide +kernel
theorem dX3_init_23 : decode cX3_init 23 = .ok (.invokespecial 23, 3) := by decide +kernel
theorem dX3_init_26 : decode cX3_init 26 = .ok (.putfield 24, 3) := by decide +kernel
theorem dX3_init_29 : decode cX3_init 29 = .ok (.aload_n 0, 1) := by decide +kernel
theorem dX3_init_30 : decode cX3_init 30 = .ok (.new 28, 3) := by decide +kernel
theorem dX3_init_33 : decode cX3_init 33 = .ok (.dup, 1) := by decide +kernel
theorem dX3_init_34 : decode cX3_init 34 = .ok (.invokespecial 30, 3) := by decide +kernel
theorem dX3_init_37 : decode cX3_init 37 = .ok (.putfield 31, 3) := by decide +kernel
theorem dX3_init_40 : decode cX3_init 40 = .ok (.return_, 1) := by decide +kernel
set_option maxRecDepth 20000 in
theorem ggX3_fold_X0_init : GoodIn wsX3_fold wsX0_init := goodIn_r _ [8, 9, 10, 11, 12, 13, 14, 15, 16, 17, 22, 23, 24, 25] (by decide +kernel) (by decide +kernel)
set_option maxRecDepth 20000 in
theorem gX3_fold_X0_init : GoodIn wsX3_fold (wsX0_init) := ggX3_fold_X0_init
theorem dX3_fold_0 : decode cX3_fold 0 = .ok (.iload_n 1, 1) := by decide +kernel
theorem dX3_fold_1 : decode cX3_fold 1 = .ok (.ifCond .lt 8, 3) := by decide +kernel
theorem dX3_fold_4 : decode cX3_fold 4 = .ok (.iload_n 1, 1) := by decide +kernel
theorem dX3_fold_5 : decode cX3_fold 5 = .ok (.iconst 4, 1) := by decide +kernel
theorem dX3_fold_6 : decode cX3_fold 6 = .ok (.if_icmp .le 6, 3) := by decide +kernel
theorem dX3_fold_9 : decode cX3_fold 9 = .ok (.bipush (-2), 2) := by decide +kernel
theorem dX3_fold_11 : decode cX3_fold 11 = .ok (.ireturn, 1) := by decide +kernel
theorem dX3_fold_12 : decode cX3_fold 12 = .ok (.aload_n 0, 1) := by decide +kernel
theorem dX3_fold_13 : decode cX3_fold 13 = .ok (.getfield 17, 3) := by decide +kernel
theorem dX3_fold_16 : decode cX3_fold 16 = .ok (.bipush 12, 2) := by decide +kernel
theorem dX3_fold_18 : decode cX3_fold 18 = .ok (.if_icmp .lt 6, 3) := by decide +kernel
theorem dX3_fold_21 : decode cX3_fold 21 = .ok (.bipush (-4), 2) := by decide +kernel
theorem dX3_fold_23 : decode cX3_fold 23 = .ok (.ireturn, 1) := by decide +kernel
theorem dX3_fold_24 : decode cX3_fold 24 = .ok (.aload_n 0, 1) := by decide +kernel
theorem dX3_fold_25 : decode cX3_fold 25 = .ok (.getfield 13, 3) := by decide +kernel
theorem dX3_fold_28 : decode cX3_fold 28 = .ok (.aload_n 0, 1) := by decide +kernel
theorem dX3_fold_29 : decode cX3_fold 29 = .ok (.getfield 17, 3) := by decide +kernel
theorem dX3_fold_32 : decode cX3_fold 32 = .ok (.new 11, 3) := by decide +kernel
theorem dX3_fold_35 : decode cX3_fold 35 = .ok (.dup, 1) := by decide +kernel
theorem dX3_fold_36 : decode cX3_fold 36 = .ok (.iload_n 1, 1) := by decide +kernel
theorem dX3_fold_37 : decode cX3_fold 37 = .ok (.invokespecial 35, 3) := by decide +kernel
theorem dX3_fold_40 : decode cX3_fold 40 = .ok (.aastore, 1) := by decide +kernel
theorem dX3_fold_41 : decode cX3_fold 41 = .ok (.aload_n 0, 1) := by decide +kernel
theorem dX3_fold_42 : decode cX3_fold 42 = .ok (.dup, 1) := by decide +kernel
theorem dX3_fold_43 : decode cX3_fold 43 = .ok (.getfield 17, 3) := by decide +kernel
theorem dX3_fold_46 : decode cX3_fold 46 = .ok (.iconst 1, 1) := by decide +kernel
theorem dX3_fold_47 : decode cX3_fold 47 = .ok (.iadd, 1) := by decide +kernel
theorem dX3_fold_48 : decode cX3_fold 48 = .ok (.putfield 17, 3) := by decide +kernel
theorem dX3_fold_51 : decode cX3_fold 51 = .ok (.aload_n 0, 1) := by decide +kernel
theorem dX3_fold_52 : decode cX3_fold 52 = .ok (.getfield 17, 3) := by decide +kernel
theorem dX3_fold_55 : decode cX3_fold 55 = .ok (.iconst 1, 1) := by decide +kernel
theorem dX3_fold_56 : decode cX3_fold 56 = .ok (.isub, 1) := by decide +kernel
theorem dX3_fold_57 : decode cX3_fold 57 = .ok (.ireturn, 1) := by decide +kernel
set_option maxRecDepth 20000 in
theorem ggX3_add_X3_addRow : GoodIn wsX3_add wsX3_addRow := goodIn_r _ [5, 6, 7, 8, 9, 10, 11, 4, 12, 13, 14, 15, 16, 17, 18, 19, 20, 21, 22, 23, 24, 25, 26, 27, 28, 29, 30, 31, 32, 33, 34, 35, 36, 37, 38, 39, 40, 41, 42, 43] (by decide +kernel) (by decide +kernel)
set_option maxRecDepth 20000 in
theorem gX3_add_X3_addRow : GoodIn wsX3_add (wsV RX3 38 RX3 yX3_addRow wsX3_addRow) := goodIn_app (goodIn_of _ (by decide +kernel)) ggX3_add_X3_addRow
theorem dX3_add_0 : decode cX3_add 0 = .ok (.aload_n 0, 1) := by decide +kernel
theorem dX3_add_1 : decode cX3_add 1 = .ok (.iload_n 1, 1) := by decide +kernel
theorem dX3_add_2 : decode cX3_add 2 = .ok (.iconst 0, 1) := by decide +kernel
theorem dX3_add_3 : decode cX3_add 3 = .ok (.iload_n 2, 1) := by decide +kernel
theorem dX3_add_4 : decode cX3_add 4 = .ok (.lload_n 3, 1) := by decide +kernel
theorem dX3_add_5 : decode cX3_add 5 = .ok (.invokevirtual 38, 3) := by decide +kernel
theorem dX3_add_8 : decode cX3_add 8 = .ok (.ireturn, 1) := by decide +kernel
set_option maxRecDepth 20000 in
theorem ggX3_addReal_X3_withOneZero : GoodIn wsX3_addReal wsX3_withOneZero := goodIn_r _ [4, 5] (by decide +kernel) (by decide +kernel)
set_option maxRecDepth 20000 in
theorem gX3_addReal_X3_withOneZero : GoodIn wsX3_addReal (va_wsS RX3 42 yX3_withOneZero wsX3_withOneZero) := goodIn_app (goodIn_of _ (by decide +kernel)) ggX3_addReal_X3_withOneZero
set_option maxRecDepth 20000 in
theorem ggX3_addReal_X3_addRow : GoodIn wsX3_addReal wsX3_addRow := goodIn_r _ [9, 10, 11, 12, 13, 14, 15, 3, 16, 17, 18, 19, 20, 21, 22, 23, 24, 25, 26, 27, 28, 29, 30, 31, 32, 33, 34, 35, 36, 37, 38, 39, 40, 41, 42, 43, 44, 45, 46, 47] (by decide +kernel) (by decide +kernel)
set_option maxRecDepth 20000 in
theorem gX3_addReal_X3_addRow : GoodIn wsX3_addReal (wsV RX3 38 RX3 yX3_addRow wsX3_addRow) := goodIn_app (goodIn_of _ (by decide +kernel)) ggX3_addReal_X3_addRow
theorem dX3_addReal_0 : decode cX3_addReal 0 = .ok (.aload_n 0, 1) := by decide +kernel
theorem dX3_addReal_1 : decode cX3_addReal 1 = .ok (.iload_n 1, 1) := by decide +kernel
theorem dX3_addReal_2 : decode cX3_addReal 2 = .ok (.iconst 1, 1) := by decide +kernel
theorem dX3_addReal_3 : decode cX3_addReal 3 = .ok (.iload_n 2, 1) := by decide +kernel
theorem dX3_addReal_4 : decode cX3_addReal 4 = .ok (.lload_n 3, 1) := by decide +kernel
theorem dX3_addReal_5 : decode cX3_addReal 5 = .ok (.invokestatic 42, 3) := by decide +kernel
theorem dX3_addReal_8 : decode cX3_addReal 8 = .ok (.invokevirtual 38, 3) := by decide +kernel
theorem dX3_addReal_11 : decode cX3_addReal 11 = .ok (.ireturn, 1) := by decide +kernel
set_option maxRecDepth 20000 in
theorem ggX3_remove_X3_removeRow : GoodIn wsX3_remove wsX3_removeRow := goodIn_r _ [5, 6, 7, 8, 9, 10, 4, 11, 12, 13, 14, 15, 16, 17, 18, 19, 20, 21, 22, 23, 24, 25, 26, 27, 28, 29, 30, 31, 32, 33, 34, 35, 36, 37] (by decide +kernel) (by decide +kernel)
set_option maxRecDepth 20000 in
theorem gX3_remove_X3_removeRow : GoodIn wsX3_remove (wsV RX3 46 RX3 yX3_removeRow wsX3_removeRow) := goodIn_app (goodIn_of _ (by decide +kernel)) ggX3_remove_X3_removeRow
theorem dX3_remove_0 : decode cX3_remove 0 = .ok (.aload_n 0, 1) := by decide +kernel
theorem dX3_remove_1 : decode cX3_remove 1 = .ok (.iload_n 1, 1) := by decide +kernel
theorem dX3_remove_2 : decode cX3_remove 2 = .ok (.iconst 0, 1) := by decide +kernel
theorem dX3_remove_3 : decode cX3_remove 3 = .ok (.iload_n 2, 1) := by decide +kernel
theorem dX3_remove_4 : decode cX3_remove 4 = .ok (.lload_n 3, 1) := by decide +kernel
theorem dX3_remove_5 : decode cX3_remove 5 = .ok (.invokevirtual 46, 3) := by decide +kernel
theorem dX3_remove_8 : decode cX3_remove 8 = .ok (.ireturn, 1) := by decide +kernel
set_option maxRecDepth 20000 in
theorem ggX3_removeReal_X3_withOneZero : GoodIn wsX3_removeReal wsX3_withOneZero := goodIn_r _ [4, 5] (by decide +kernel) (by decide +kernel)
set_option maxRecDepth 20000 in
theorem gX3_removeReal_X3_withOneZero : GoodIn wsX3_removeReal (va_wsS RX3 42 yX3_withOneZero wsX3_withOneZero) := goodIn_app (goodIn_of _ (by decide +kernel)) ggX3_removeReal_X3_withOneZero
set_option maxRecDepth 20000 in
theorem ggX3_removeReal_X3_removeRow : GoodIn wsX3_removeReal wsX3_removeRow := goodIn_r _ [9, 10, 11, 12, 13, 14, 3, 15, 16, 17, 18, 19, 20, 21, 22, 23, 24, 25, 26, 27, 28, 29, 30, 31, 32, 33, 34, 35, 36, 37, 38, 39, 40, 41] (by decide +kernel) (by decide +kernel)
set_option maxRecDepth 20000 in
theorem gX3_removeReal_X3_removeRow : GoodIn wsX3_removeReal (wsV RX3 46 RX3 yX3_removeRow wsX3_removeRow) := goodIn_app (goodIn_of _ (by decide +kernel)) ggX3_removeReal_X3_removeRow
theorem dX3_removeReal_0 : decode cX3_removeReal 0 = .ok (.aload_n 0, 1) := by decide +kernel
theorem dX3_removeReal_1 : decode cX3_removeReal 1 = .ok (.iload_n 1, 1) := by decide +kernel
theorem dX3_removeReal_2 : decode cX3_removeReal 2 = .ok (.iconst 1, 1) := by decide +kernel
theorem dX3_removeReal_3 : decode cX3_removeReal 3 = .ok (.iload_n 2, 1) := by decide +kernel
theorem dX3_removeReal_4 : decode cX3_removeReal 4 = .ok (.lload_n 3, 1) := by decide +kernel
theorem dX3_removeReal_5 : decode cX3_removeReal 5 = .ok (.invokestatic 42, 3) := by decide +kernel
theorem dX3_removeReal_8 : decode cX3_removeReal 8 = .ok (.invokevirtual 46, 3) := by decide +kernel
theorem dX3_removeReal_11 : decode cX3_removeReal 11 = .ok (.ireturn, 1) := by decide +kernel
set_option maxRecDepth 20000 in
theorem ggX3_merge_X3_foldNumbered : GoodIn wsX3_merge wsX3_foldNumbered := goodIn_r _ [7, 8, 9, 30, 31, 32, 33] (by decide +kernel) (by decide +kernel)
set_option maxRecDepth 20000 in
theorem gX3_merge_X3_foldNumbered : GoodIn wsX3_merge (wsV RX3 49 RX3 yX3_foldNumbered wsX3_foldNumbered) := goodIn_app (goodIn_of _ (by decide +kernel)) ggX3_merge_X3_foldNumbered
set_option maxRecDepth 20000 in
theorem ggX3_merge_X0_takeAllOf : GoodIn wsX3_merge wsX0_takeAllOf := goodIn_r _ [14, 15, 16, 17, 18, 19, 20, 13, 21, 22, 23, 24, 25, 26, 27, 28, 29] (by decide +kernel) (by decide +kernel)
set_option maxRecDepth 20000 in
theorem gX3_merge_X0_takeAllOf : GoodIn wsX3_merge (wsV RX3 59 RX0 yX0_takeAllOf wsX0_takeAllOf) := goodIn_app (goodIn_of _ (by decide +kernel)) ggX3_merge_X0_takeAllOf
theorem dX3_merge_0 : decode cX3_merge 0 = .ok (.aload_n 0, 1) := by decide +kernel
theorem dX3_merge_1 : decode cX3_merge 1 = .ok (.iload_n 1, 1) := by decide +kernel
theorem dX3_merge_2 : decode cX3_merge 2 = .ok (.invokevirtual 49, 3) := by decide +kernel
theorem dX3_merge_5 : decode cX3_merge 5 = .ok (.astore_n 3, 1) := by decide +kernel
theorem dX3_merge_6 : decode cX3_merge 6 = .ok (.aload_n 0, 1) := by decide +kernel
theorem dX3_merge_7 : decode cX3_merge 7 = .ok (.iload_n 2, 1) := by decide +kernel
theorem dX3_merge_8 : decode cX3_merge 8 = .ok (.invokevirtual 49, 3) := by decide +kernel
theorem dX3_merge_11 : decode cX3_merge 11 = .ok (.astore 4, 2) := by decide +kernel
theorem dX3_merge_13 : decode cX3_merge 13 = .ok (.aload_n 3, 1) := by decide +kernel
theorem dX3_merge_14 : decode cX3_merge 14 = .ok (.ifnull 13, 3) := by decide +kernel
theorem dX3_merge_17 : decode cX3_merge 17 = .ok (.aload 4, 2) := by decide +kernel
theorem dX3_merge_19 : decode cX3_merge 19 = .ok (.ifnull 8, 3) := by decide +kernel
theorem dX3_merge_22 : decode cX3_merge 22 = .ok (.iload_n 1, 1) := by decide +kernel
theorem dX3_merge_23 : decode cX3_merge 23 = .ok (.iload_n 2, 1) := by decide +kernel
theorem dX3_merge_24 : decode cX3_merge 24 = .ok (.if_icmp .ne 5, 3) := by decide +kernel
theorem dX3_merge_27 : decode cX3_merge 27 = .ok (.iconst (-1), 1) := by decide +kernel
theorem dX3_merge_28 : decode cX3_merge 28 = .ok (.ireturn, 1) := by decide +kernel
theorem dX3_merge_29 : decode cX3_merge 29 = .ok (.aload_n 3, 1) := by decide +kernel
theorem dX3_merge_30 : decode cX3_merge 30 = .ok (.getfield 53, 3) := by decide +kernel
theorem dX3_merge_33 : decode cX3_merge 33 = .ok (.aload 4, 2) := by decide +kernel
theorem dX3_merge_35 : decode cX3_merge 35 = .ok (.getfield 53, 3) := by decide +kernel
theorem dX3_merge_38 : decode cX3_merge 38 = .ok (.if_icmp .eq 6, 3) := by decide +kernel
theorem dX3_merge_41 : decode cX3_merge 41 = .ok (.bipush (-3), 2) := by decide +kernel
theorem dX3_merge_43 : decode cX3_merge 43 = .ok (.ireturn, 1) := by decide +kernel
theorem dX3_merge_44 : decode cX3_merge 44 = .ok (.aload_n 3, 1) := by decide +kernel
theorem dX3_merge_45 : decode cX3_merge 45 = .ok (.getfield 56, 3) := by decide +kernel
theorem dX3_merge_48 : decode cX3_merge 48 = .ok (.aload 4, 2) := by decide +kernel
theorem dX3_merge_50 : decode cX3_merge 50 = .ok (.getfield 56, 3) := by decide +kernel
theorem dX3_merge_53 : decode cX3_merge 53 = .ok (.iadd, 1) := by decide +kernel
theorem dX3_merge_54 : decode cX3_merge 54 = .ok (.bipush 64, 2) := by decide +kernel
theorem dX3_merge_56 : decode cX3_merge 56 = .ok (.if_icmp .le 6, 3) := by decide +kernel
theorem dX3_merge_59 : decode cX3_merge 59 = .ok (.bipush (-4), 2) := by decide +kernel
theorem dX3_merge_61 : decode cX3_merge 61 = .ok (.ireturn, 1) := by decide +kernel
theorem dX3_merge_62 : decode cX3_merge 62 = .ok (.aload_n 3, 1) := by decide +kernel
theorem dX3_merge_63 : decode cX3_merge 63 = .ok (.aload 4, 2) := by decide +kernel
theorem dX3_merge_65 : decode cX3_merge 65 = .ok (.invokevirtual 59, 3) := by decide +kernel
theorem dX3_merge_68 : decode cX3_merge 68 = .ok (.aload_n 3, 1) := by decide +kernel
theorem dX3_merge_69 : decode cX3_merge 69 = .ok (.getfield 56, 3) := by decide +kernel
theorem dX3_merge_72 : decode cX3_merge 72 = .ok (.ireturn, 1) := by decide +kernel
set_option maxRecDepth 20000 in
theorem ggX3_same_X3_foldNumbered : GoodIn wsX3_same wsX3_foldNumbered := goodIn_r _ [6, 7, 8, 25, 26, 27, 28] (by decide +kernel) (by decide +kernel)
set_option maxRecDepth 20000 in
theorem gX3_same_X3_foldNumbered : GoodIn wsX3_same (wsV RX3 49 RX3 yX3_foldNumbered wsX3_foldNumbered) := goodIn_app (goodIn_of _ (by decide +kernel)) ggX3_same_X3_foldNumbered
set_option maxRecDepth 20000 in
theorem ggX3_same_X0_hasTheRowsOf : GoodIn wsX3_same wsX0_hasTheRowsOf := goodIn_r _ [13, 14, 15, 16, 17, 18, 19, 12, 20, 21, 22, 23, 24] (by decide +kernel) (by decide +kernel)
set_option maxRecDepth 20000 in
theorem gX3_same_X0_hasTheRowsOf : GoodIn wsX3_same (wsV RX3 63 RX0 yX0_hasTheRowsOf wsX0_hasTheRowsOf) := goodIn_app (goodIn_of _ (by decide +kernel)) ggX3_same_X0_hasTheRowsOf
theorem dX3_same_0 : decode cX3_same 0 = .ok (.aload_n 0, 1) := by decide +kernel
theorem dX3_same_1 : decode cX3_same 1 = .ok (.iload_n 1, 1) := by decide +kernel
theorem dX3_same_2 : decode cX3_same 2 = .ok (.invokevirtual 49, 3) := by decide +kernel
theorem dX3_same_5 : decode cX3_same 5 = .ok (.astore_n 3, 1) := by decide +kernel
theorem dX3_same_6 : decode cX3_same 6 = .ok (.aload_n 0, 1) := by decide +kernel
theorem dX3_same_7 : decode cX3_same 7 = .ok (.iload_n 2, 1) := by decide +kernel
theorem dX3_same_8 : decode cX3_same 8 = .ok (.invokevirtual 49, 3) := by decide +kernel
theorem dX3_same_11 : decode cX3_same 11 = .ok (.astore 4, 2) := by decide +kernel
theorem dX3_same_13 : decode cX3_same 13 = .ok (.aload_n 3, 1) := by decide +kernel
theorem dX3_same_14 : decode cX3_same 14 = .ok (.ifnull 8, 3) := by decide +kernel
theorem dX3_same_17 : decode cX3_same 17 = .ok (.aload 4, 2) := by decide +kernel
theorem dX3_same_19 : decode cX3_same 19 = .ok (.ifnonnull 5, 3) := by decide +kernel
theorem dX3_same_22 : decode cX3_same 22 = .ok (.iconst 0, 1) := by decide +kernel
theorem dX3_same_23 : decode cX3_same 23 = .ok (.ireturn, 1) := by decide +kernel
theorem dX3_same_24 : decode cX3_same 24 = .ok (.aload_n 3, 1) := by decide +kernel
theorem dX3_same_25 : decode cX3_same 25 = .ok (.getfield 53, 3) := by decide +kernel
theorem dX3_same_28 : decode cX3_same 28 = .ok (.aload 4, 2) := by decide +kernel
theorem dX3_same_30 : decode cX3_same 30 = .ok (.getfield 53, 3) := by decide +kernel
theorem dX3_same_33 : decode cX3_same 33 = .ok (.if_icmp .ne 16, 3) := by decide +kernel
theorem dX3_same_36 : decode cX3_same 36 = .ok (.aload_n 3, 1) := by decide +kernel
theorem dX3_same_37 : decode cX3_same 37 = .ok (.aload 4, 2) := by decide +kernel
theorem dX3_same_39 : decode cX3_same 39 = .ok (.invokevirtual 63, 3) := by decide +kernel
theorem dX3_same_42 : decode cX3_same 42 = .ok (.ifCond .eq 7, 3) := by decide +kernel
theorem dX3_same_45 : decode cX3_same 45 = .ok (.iconst 1, 1) := by decide +kernel
theorem dX3_same_46 : decode cX3_same 46 = .ok (.goto 4, 3) := by decide +kernel
theorem dX3_same_49 : decode cX3_same 49 = .ok (.iconst 0, 1) := by decide +kernel
theorem dX3_same_50 : decode cX3_same 50 = .ok (.ireturn, 1) := by decide +kernel
set_option maxRecDepth 20000 in
theorem ggX3_rows_X3_foldNumbered : GoodIn wsX3_rows wsX3_foldNumbered := goodIn_r _ [6, 7, 8, 13, 14, 15, 16] (by decide +kernel) (by decide +kernel)
set_option maxRecDepth 20000 in
theorem gX3_rows_X3_foldNumbered : GoodIn wsX3_rows (wsV RX3 49 RX3 yX3_foldNumbered wsX3_foldNumbered) := goodIn_app (goodIn_of _ (by decide +kernel)) ggX3_rows_X3_foldNumbered
theorem dX3_rows_0 : decode cX3_rows 0 = .ok (.aload_n 0, 1) := by decide +kernel
theorem dX3_rows_1 : decode cX3_rows 1 = .ok (.iload_n 1, 1) := by decide +kernel
theorem dX3_rows_2 : decode cX3_rows 2 = .ok (.invokevirtual 49, 3) := by decide +kernel
theorem dX3_rows_5 : decode cX3_rows 5 = .ok (.astore_n 2, 1) := by decide +kernel
theorem dX3_rows_6 : decode cX3_rows 6 = .ok (.aload_n 2, 1) := by decide +kernel
theorem dX3_rows_7 : decode cX3_rows 7 = .ok (.ifnonnull 7, 3) := by decide +kernel
theorem dX3_rows_10 : decode cX3_rows 10 = .ok (.iconst (-1), 1) := by decide +kernel
theorem dX3_rows_11 : decode cX3_rows 11 = .ok (.goto 7, 3) := by decide +kernel
theorem dX3_rows_14 : decode cX3_rows 14 = .ok (.aload_n 2, 1) := by decide +kernel
theorem dX3_rows_15 : decode cX3_rows 15 = .ok (.getfield 56, 3) := by decide +kernel
theorem dX3_rows_18 : decode cX3_rows 18 = .ok (.ireturn, 1) := by decide +kernel
set_option maxRecDepth 20000 in
theorem ggX3_limb_X3_foldOfKind : GoodIn wsX3_limb wsX3_foldOfKind := goodIn_r _ [8, 9, 10, 11, 12, 7, 13, 14, 15, 30, 31, 32, 33, 34, 35, 36, 37] (by decide +kernel) (by decide +kernel)
set_option maxRecDepth 20000 in
theorem gX3_limb_X3_foldOfKind : GoodIn wsX3_limb (wsV RX3 67 RX3 yX3_foldOfKind wsX3_foldOfKind) := goodIn_app (goodIn_of _ (by decide +kernel)) ggX3_limb_X3_foldOfKind
set_option maxRecDepth 20000 in
theorem ggX3_limb_X0_limbOfSum : GoodIn wsX3_limb wsX0_limbOfSum := goodIn_r _ [20, 21, 22, 23, 30, 31, 32, 33] (by decide +kernel) (by decide +kernel)
set_option maxRecDepth 20000 in
theorem gX3_limb_X0_limbOfSum : GoodIn wsX3_limb (wsV RX3 78 RX0 yX0_limbOfSum wsX0_limbOfSum) := goodIn_app (goodIn_of _ (by decide +kernel)) ggX3_limb_X0_limbOfSum
theorem dX3_limb_0 : decode cX3_limb 0 = .ok (.aload_n 0, 1) := by decide +kernel
theorem dX3_limb_1 : decode cX3_limb 1 = .ok (.iload_n 1, 1) := by decide +kernel
theorem dX3_limb_2 : decode cX3_limb 2 = .ok (.iconst 0, 1) := by decide +kernel
theorem dX3_limb_3 : decode cX3_limb 3 = .ok (.invokevirtual 67, 3) := by decide +kernel
theorem dX3_limb_6 : decode cX3_limb 6 = .ok (.astore_n 3, 1) := by decide +kernel
theorem dX3_limb_7 : decode cX3_limb 7 = .ok (.aload_n 3, 1) := by decide +kernel
theorem dX3_limb_8 : decode cX3_limb 8 = .ok (.ifnonnull 5, 3) := by decide +kernel
theorem dX3_limb_11 : decode cX3_limb 11 = .ok (.iconst 0, 1) := by decide +kernel
theorem dX3_limb_12 : decode cX3_limb 12 = .ok (.ireturn, 1) := by decide +kernel
theorem dX3_limb_13 : decode cX3_limb 13 = .ok (.iload_n 2, 1) := by decide +kernel
theorem dX3_limb_14 : decode cX3_limb 14 = .ok (.ifCond .lt 8, 3) := by decide +kernel
theorem dX3_limb_17 : decode cX3_limb 17 = .ok (.iload_n 2, 1) := by decide +kernel
theorem dX3_limb_18 : decode cX3_limb 18 = .ok (.iconst 2, 1) := by decide +kernel
theorem dX3_limb_19 : decode cX3_limb 19 = .ok (.if_icmp .le 13, 3) := by decide +kernel
theorem dX3_limb_22 : decode cX3_limb 22 = .ok (.new 71, 3) := by decide +kernel
theorem dX3_limb_25 : decode cX3_limb 25 = .ok (.dup, 1) := by decide +kernel
theorem dX3_limb_26 : decode cX3_limb 26 = .ok (.ldc 73, 2) := by decide +kernel
theorem dX3_limb_28 : decode cX3_limb 28 = .ok (.invokespecial 75, 3) := by decide +kernel
theorem dX3_limb_31 : decode cX3_limb 31 = .ok (.athrow, 1) := by decide +kernel
theorem dX3_limb_32 : decode cX3_limb 32 = .ok (.aload_n 3, 1) := by decide +kernel
theorem dX3_limb_33 : decode cX3_limb 33 = .ok (.iload_n 2, 1) := by decide +kernel
theorem dX3_limb_34 : decode cX3_limb 34 = .ok (.invokevirtual 78, 3) := by decide +kernel
theorem dX3_limb_37 : decode cX3_limb 37 = .ok (.ireturn, 1) := by decide +kernel
set_option maxRecDepth 20000 in
theorem ggX3_real_X3_foldOfKind : GoodIn wsX3_real wsX3_foldOfKind := goodIn_r _ [6, 7, 8, 9, 10, 5, 11, 12, 13, 82, 83, 84, 85, 78, 79, 80, 81] (by decide +kernel) (by decide +kernel)
set_option maxRecDepth 20000 in
theorem gX3_real_X3_foldOfKind : GoodIn wsX3_real (wsV RX3 67 RX3 yX3_foldOfKind wsX3_foldOfKind) := goodIn_app (goodIn_of _ (by decide +kernel)) ggX3_real_X3_foldOfKind
set_option maxRecDepth 20000 in
theorem ggX3_real_X1_roundedSumOf : GoodIn wsX3_real wsX1_roundedSumOf := goodIn_r _ [18, 19, 20, 21, 22, 23, 24, 25, 17, 26, 27, 28, 29, 30, 31, 32, 33, 34, 35, 36, 37, 38, 39, 40, 41, 42, 43, 44, 45, 46, 47, 48, 49, 50, 51, 52, 53, 54, 55, 56, 57, 58, 59, 60, 61, 62, 63, 64, 65, 66, 67, 68, 69, 70, 71, 72, 73, 74, 75, 76, 77, 86, 82, 83, 84, 85] (by decide +kernel) (by decide +kernel)
set_option maxRecDepth 20000 in
theorem gX3_real_X1_roundedSumOf : GoodIn wsX3_real (wsV RX3 82 RX1 yX1_roundedSumOf wsX1_roundedSumOf) := goodIn_app (goodIn_of _ (by decide +kernel)) ggX3_real_X1_roundedSumOf
theorem dX3_real_0 : decode cX3_real 0 = .ok (.aload_n 0, 1) := by decide +kernel
theorem dX3_real_1 : decode cX3_real 1 = .ok (.iload_n 1, 1) := by decide +kernel
theorem dX3_real_2 : decode cX3_real 2 = .ok (.iconst 1, 1) := by decide +kernel
theorem dX3_real_3 : decode cX3_real 3 = .ok (.invokevirtual 67, 3) := by decide +kernel
theorem dX3_real_6 : decode cX3_real 6 = .ok (.astore_n 2, 1) := by decide +kernel
theorem dX3_real_7 : decode cX3_real 7 = .ok (.aload_n 2, 1) := by decide +kernel
theorem dX3_real_8 : decode cX3_real 8 = .ok (.ifnonnull 7, 3) := by decide +kernel
theorem dX3_real_11 : decode cX3_real 11 = .ok (.lconst 0, 1) := by decide +kernel
theorem dX3_real_12 : decode cX3_real 12 = .ok (.goto 11, 3) := by decide +kernel
theorem dX3_real_15 : decode cX3_real 15 = .ok (.aload_n 0, 1) := by decide +kernel
theorem dX3_real_16 : decode cX3_real 16 = .ok (.getfield 31, 3) := by decide +kernel
theorem dX3_real_19 : decode cX3_real 19 = .ok (.aload_n 2, 1) := by decide +kernel
theorem dX3_real_20 : decode cX3_real 20 = .ok (.invokevirtual 82, 3) := by decide +kernel
theorem dX3_real_23 : decode cX3_real 23 = .ok (.lreturn, 1) := by decide +kernel
set_option maxRecDepth 20000 in
theorem ggX3_mean_X3_foldOfKind : GoodIn wsX3_mean wsX3_foldOfKind := goodIn_r _ [9, 10, 11, 12, 13, 8, 14, 15, 16, 34, 35, 36, 37, 38, 39, 40, 41] (by decide +kernel) (by decide +kernel)
set_option maxRecDepth 20000 in
theorem gX3_mean_X3_foldOfKind : GoodIn wsX3_mean (wsV RX3 67 RX3 yX3_foldOfKind wsX3_foldOfKind) := goodIn_app (goodIn_of _ (by decide +kernel)) ggX3_mean_X3_foldOfKind
set_option maxRecDepth 20000 in
theorem ggX3_mean_X0_sumOfValues : GoodIn wsX3_mean wsX0_sumOfValues := goodIn_r _ [21, 22, 23, 34, 35, 36, 37] (by decide +kernel) (by decide +kernel)
set_option maxRecDepth 20000 in
theorem gX3_mean_X0_sumOfValues : GoodIn wsX3_mean (wsV RX3 93 RX0 yX0_sumOfValues wsX0_sumOfValues) := goodIn_app (goodIn_of _ (by decide +kernel)) ggX3_mean_X0_sumOfValues
set_option maxRecDepth 20000 in
theorem ggX3_mean_X3_partOfFraction : GoodIn wsX3_mean wsX3_partOfFraction := goodIn_r _ [26, 27, 28, 29, 30, 31, 32, 8, 33] (by decide +kernel) (by decide +kernel)
set_option maxRecDepth 20000 in
theorem gX3_mean_X3_partOfFraction : GoodIn wsX3_mean (va_wsS RX3 97 yX3_partOfFraction wsX3_partOfFraction) := goodIn_app (goodIn_of _ (by decide +kernel)) ggX3_mean_X3_partOfFraction
theorem dX3_mean_0 : decode cX3_mean 0 = .ok (.aload_n 0, 1) := by decide +kernel
theorem dX3_mean_1 : decode cX3_mean 1 = .ok (.iload_n 1, 1) := by decide +kernel
theorem dX3_mean_2 : decode cX3_mean 2 = .ok (.iconst 2, 1) := by decide +kernel
theorem dX3_mean_3 : decode cX3_mean 3 = .ok (.invokevirtual 67, 3) := by decide +kernel
theorem dX3_mean_6 : decode cX3_mean 6 = .ok (.astore_n 3, 1) := by decide +kernel
theorem dX3_mean_7 : decode cX3_mean 7 = .ok (.aload_n 3, 1) := by decide +kernel
theorem dX3_mean_8 : decode cX3_mean 8 = .ok (.ifnull 12, 3) := by decide +kernel
theorem dX3_mean_11 : decode cX3_mean 11 = .ok (.iload_n 2, 1) := by decide +kernel
theorem dX3_mean_12 : decode cX3_mean 12 = .ok (.ifCond .lt 8, 3) := by decide +kernel
theorem dX3_mean_15 : decode cX3_mean 15 = .ok (.iload_n 2, 1) := by decide +kernel
theorem dX3_mean_16 : decode cX3_mean 16 = .ok (.iconst 1, 1) := by decide +kernel
theorem dX3_mean_17 : decode cX3_mean 17 = .ok (.if_icmp .le 7, 3) := by decide +kernel
theorem dX3_mean_20 : decode cX3_mean 20 = .ok (.ldc2_w 86, 3) := by decide +kernel
theorem dX3_mean_23 : decode cX3_mean 23 = .ok (.lreturn, 1) := by decide +kernel
theorem dX3_mean_24 : decode cX3_mean 24 = .ok (.aload_n 3, 1) := by decide +kernel
theorem dX3_mean_25 : decode cX3_mean 25 = .ok (.getfield 56, 3) := by decide +kernel
theorem dX3_mean_28 : decode cX3_mean 28 = .ok (.ifCond .ne 13, 3) := by decide +kernel
theorem dX3_mean_31 : decode cX3_mean 31 = .ok (.new 88, 3) := by decide +kernel
theorem dX3_mean_34 : decode cX3_mean 34 = .ok (.dup, 1) := by decide +kernel
theorem dX3_mean_35 : decode cX3_mean 35 = .ok (.ldc 90, 2) := by decide +kernel
theorem dX3_mean_37 : decode cX3_mean 37 = .ok (.invokespecial 92, 3) := by decide +kernel
theorem dX3_mean_40 : decode cX3_mean 40 = .ok (.athrow, 1) := by decide +kernel
theorem dX3_mean_41 : decode cX3_mean 41 = .ok (.aload_n 3, 1) := by decide +kernel
theorem dX3_mean_42 : decode cX3_mean 42 = .ok (.invokevirtual 93, 3) := by decide +kernel
theorem dX3_mean_45 : decode cX3_mean 45 = .ok (.aload_n 3, 1) := by decide +kernel
