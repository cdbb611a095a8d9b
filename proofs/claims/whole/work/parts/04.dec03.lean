theorem dX4_bitsOf_8 : decode cX4_bitsOf 8 = .ok (.lconst 0, 1) := by decide +kernel
theorem dX4_bitsOf_9 : decode cX4_bitsOf 9 = .ok (.goto 4, 3) := by decide +kernel
theorem dX4_bitsOf_12 : decode cX4_bitsOf 12 = .ok (.lload_n 0, 1) := by decide +kernel
theorem dX4_bitsOf_13 : decode cX4_bitsOf 13 = .ok (.lreturn, 1) := by decide +kernel
theorem dX4_isFinite_0 : decode cX4_isFinite 0 = .ok (.lload_n 0, 1) := by decide +kernel
theorem dX4_isFinite_1 : decode cX4_isFinite 1 = .ok (.bipush 52, 2) := by decide +kernel
theorem dX4_isFinite_3 : decode cX4_isFinite 3 = .ok (.lushr, 1) := by decide +kernel
theorem dX4_isFinite_4 : decode cX4_isFinite 4 = .ok (.ldc2_w 81, 3) := by decide +kernel
theorem dX4_isFinite_7 : decode cX4_isFinite 7 = .ok (.land, 1) := by decide +kernel
theorem dX4_isFinite_8 : decode cX4_isFinite 8 = .ok (.ldc2_w 81, 3) := by decide +kernel
theorem dX4_isFinite_11 : decode cX4_isFinite 11 = .ok (.lcmp, 1) := by decide +kernel
theorem dX4_isFinite_12 : decode cX4_isFinite 12 = .ok (.ifCond .eq 7, 3) := by decide +kernel
theorem dX4_isFinite_15 : decode cX4_isFinite 15 = .ok (.iconst 1, 1) := by decide +kernel
theorem dX4_isFinite_16 : decode cX4_isFinite 16 = .ok (.goto 4, 3) := by decide +kernel
theorem dX4_isFinite_19 : decode cX4_isFinite 19 = .ok (.iconst 0, 1) := by decide +kernel
theorem dX4_isFinite_20 : decode cX4_isFinite 20 = .ok (.ireturn, 1) := by decide +kernel
set_option maxRecDepth 20000 in
theorem ggX4_addReal_X4_isFold : GoodIn wsX4_addReal wsX4_isFold := goodIn_r _ [8, 9, 27, 28, 29, 30, 31, 32, 33, 34, 35, 36, 37, 38, 39, 40, 41, 42, 43, 44, 45] (by decide +kernel) (by decide +kernel)
set_option maxRecDepth 20000 in
theorem gX4_addReal_X4_isFold : GoodIn wsX4_addReal (wsV RX4 55 RX4 yX4_isFold wsX4_isFold) := goodIn_app (goodIn_of _ (by decide +kernel)) ggX4_addReal_X4_isFold
set_option maxRecDepth 20000 in
theorem ggX4_addReal_X4_in : GoodIn wsX4_addReal wsX4_in := goodIn_r _ [12] (by decide +kernel) (by decide +kernel)
set_option maxRecDepth 20000 in
theorem gX4_addReal_X4_in : GoodIn wsX4_addReal (va_wsS RX4 63 yX4_in wsX4_in) := goodIn_app (goodIn_of _ (by decide +kernel)) ggX4_addReal_X4_in
set_option maxRecDepth 20000 in
theorem ggX4_addReal_X4_isFinite : GoodIn wsX4_addReal wsX4_isFinite := goodIn_r _ [15, 16] (by decide +kernel) (by decide +kernel)
set_option maxRecDepth 20000 in
theorem gX4_addReal_X4_isFinite : GoodIn wsX4_addReal (va_wsS RX4 83 yX4_isFinite wsX4_isFinite) := goodIn_app (goodIn_of _ (by decide +kernel)) ggX4_addReal_X4_isFinite
set_option maxRecDepth 20000 in
theorem ggX4_addReal_X4_bitsOf : GoodIn wsX4_addReal wsX4_bitsOf := goodIn_r _ [19] (by decide +kernel) (by decide +kernel)
set_option maxRecDepth 20000 in
theorem gX4_addReal_X4_bitsOf : GoodIn wsX4_addReal (va_wsS RX4 87 yX4_bitsOf wsX4_bitsOf) := goodIn_app (goodIn_of _ (by decide +kernel)) ggX4_addReal_X4_bitsOf
set_option maxRecDepth 20000 in
theorem ggX4_addReal_X4_put : GoodIn wsX4_addReal wsX4_put := goodIn_r _ [23, 24, 25, 26, 27, 28, 29, 30, 31, 32, 33, 34, 35, 36, 37, 38, 39, 40, 41, 42, 43, 44, 45] (by decide +kernel) (by decide +kernel)
set_option maxRecDepth 20000 in
theorem gX4_addReal_X4_put : GoodIn wsX4_addReal (wsV RX4 77 RX4 yX4_put wsX4_put) := goodIn_app (goodIn_of _ (by decide +kernel)) ggX4_addReal_X4_put
theorem dX4_addReal_0 : decode cX4_addReal 0 = .ok (.aload_n 0, 1) := by decide +kernel
theorem dX4_addReal_1 : decode cX4_addReal 1 = .ok (.iconst 0, 1) := by decide +kernel
theorem dX4_addReal_2 : decode cX4_addReal 2 = .ok (.putfield 52, 3) := by decide +kernel
theorem dX4_addReal_5 : decode cX4_addReal 5 = .ok (.aload_n 0, 1) := by decide +kernel
theorem dX4_addReal_6 : decode cX4_addReal 6 = .ok (.iload_n 1, 1) := by decide +kernel
theorem dX4_addReal_7 : decode cX4_addReal 7 = .ok (.invokevirtual 55, 3) := by decide +kernel
theorem dX4_addReal_10 : decode cX4_addReal 10 = .ok (.ifCond .ne 5, 3) := by decide +kernel
theorem dX4_addReal_13 : decode cX4_addReal 13 = .ok (.iconst (-1), 1) := by decide +kernel
theorem dX4_addReal_14 : decode cX4_addReal 14 = .ok (.ireturn, 1) := by decide +kernel
theorem dX4_addReal_15 : decode cX4_addReal 15 = .ok (.aload_n 0, 1) := by decide +kernel
theorem dX4_addReal_16 : decode cX4_addReal 16 = .ok (.getfield 7, 3) := by decide +kernel
theorem dX4_addReal_19 : decode cX4_addReal 19 = .ok (.iload_n 1, 1) := by decide +kernel
theorem dX4_addReal_20 : decode cX4_addReal 20 = .ok (.iaload, 1) := by decide +kernel
theorem dX4_addReal_21 : decode cX4_addReal 21 = .ok (.iconst 1, 1) := by decide +kernel
theorem dX4_addReal_22 : decode cX4_addReal 22 = .ok (.if_icmp .eq 6, 3) := by decide +kernel
theorem dX4_addReal_25 : decode cX4_addReal 25 = .ok (.bipush (-3), 2) := by decide +kernel
theorem dX4_addReal_27 : decode cX4_addReal 27 = .ok (.ireturn, 1) := by decide +kernel
theorem dX4_addReal_28 : decode cX4_addReal 28 = .ok (.iload_n 2, 1) := by decide +kernel
theorem dX4_addReal_29 : decode cX4_addReal 29 = .ok (.i2l, 1) := by decide +kernel
theorem dX4_addReal_30 : decode cX4_addReal 30 = .ok (.lconst 0, 1) := by decide +kernel
theorem dX4_addReal_31 : decode cX4_addReal 31 = .ok (.ldc2_w 61, 3) := by decide +kernel
theorem dX4_addReal_34 : decode cX4_addReal 34 = .ok (.invokestatic 63, 3) := by decide +kernel
theorem dX4_addReal_37 : decode cX4_addReal 37 = .ok (.ifCond .eq 23, 3) := by decide +kernel
theorem dX4_addReal_40 : decode cX4_addReal 40 = .ok (.lload_n 3, 1) := by decide +kernel
theorem dX4_addReal_41 : decode cX4_addReal 41 = .ok (.invokestatic 83, 3) := by decide +kernel
theorem dX4_addReal_44 : decode cX4_addReal 44 = .ok (.ifCond .eq 16, 3) := by decide +kernel
theorem dX4_addReal_47 : decode cX4_addReal 47 = .ok (.aload_n 0, 1) := by decide +kernel
theorem dX4_addReal_48 : decode cX4_addReal 48 = .ok (.iload_n 1, 1) := by decide +kernel
theorem dX4_addReal_49 : decode cX4_addReal 49 = .ok (.iload_n 2, 1) := by decide +kernel
theorem dX4_addReal_50 : decode cX4_addReal 50 = .ok (.lload_n 3, 1) := by decide +kernel
theorem dX4_addReal_51 : decode cX4_addReal 51 = .ok (.invokestatic 87, 3) := by decide +kernel
theorem dX4_addReal_54 : decode cX4_addReal 54 = .ok (.invokevirtual 77, 3) := by decide +kernel
theorem dX4_addReal_57 : decode cX4_addReal 57 = .ok (.goto 5, 3) := by decide +kernel
theorem dX4_addReal_60 : decode cX4_addReal 60 = .ok (.bipush (-2), 2) := by decide +kernel
theorem dX4_addReal_62 : decode cX4_addReal 62 = .ok (.ireturn, 1) := by decide +kernel
theorem dX4_take_0 : decode cX4_take 0 = .ok (.bipush 64, 2) := by decide +kernel
theorem dX4_take_2 : decode cX4_take 2 = .ok (.iload_n 1, 1) := by decide +kernel
theorem dX4_take_3 : decode cX4_take 3 = .ok (.imul, 1) := by decide +kernel
theorem dX4_take_4 : decode cX4_take 4 = .ok (.istore 5, 2) := by decide +kernel
theorem dX4_take_6 : decode cX4_take 6 = .ok (.iload 5, 2) := by decide +kernel
theorem dX4_take_8 : decode cX4_take 8 = .ok (.bipush 64, 2) := by decide +kernel
theorem dX4_take_10 : decode cX4_take 10 = .ok (.iload_n 1, 1) := by decide +kernel
theorem dX4_take_11 : decode cX4_take 11 = .ok (.imul, 1) := by decide +kernel
theorem dX4_take_12 : decode cX4_take 12 = .ok (.aload_n 0, 1) := by decide +kernel
theorem dX4_take_13 : decode cX4_take 13 = .ok (.getfield 13, 3) := by decide +kernel
theorem dX4_take_16 : decode cX4_take 16 = .ok (.iload_n 1, 1) := by decide +kernel
theorem dX4_take_17 : decode cX4_take 17 = .ok (.iaload, 1) := by decide +kernel
theorem dX4_take_18 : decode cX4_take 18 = .ok (.iadd, 1) := by decide +kernel
theorem dX4_take_19 : decode cX4_take 19 = .ok (.if_icmp .ge 95, 3) := by decide +kernel
theorem dX4_take_22 : decode cX4_take 22 = .ok (.aload_n 0, 1) := by decide +kernel
theorem dX4_take_23 : decode cX4_take 23 = .ok (.getfield 16, 3) := by decide +kernel
theorem dX4_take_26 : decode cX4_take 26 = .ok (.iload 5, 2) := by decide +kernel
theorem dX4_take_28 : decode cX4_take 28 = .ok (.iaload, 1) := by decide +kernel
theorem dX4_take_29 : decode cX4_take 29 = .ok (.iload_n 2, 1) := by decide +kernel
theorem dX4_take_30 : decode cX4_take 30 = .ok (.if_icmp .ne 78, 3) := by decide +kernel
theorem dX4_take_33 : decode cX4_take 33 = .ok (.aload_n 0, 1) := by decide +kernel
theorem dX4_take_34 : decode cX4_take 34 = .ok (.getfield 19, 3) := by decide +kernel
theorem dX4_take_37 : decode cX4_take 37 = .ok (.iload 5, 2) := by decide +kernel
theorem dX4_take_39 : decode cX4_take 39 = .ok (.laload, 1) := by decide +kernel
theorem dX4_take_40 : decode cX4_take 40 = .ok (.lload_n 3, 1) := by decide +kernel
theorem dX4_take_41 : decode cX4_take 41 = .ok (.lcmp, 1) := by decide +kernel
theorem dX4_take_42 : decode cX4_take 42 = .ok (.ifCond .ne 66, 3) := by decide +kernel
theorem dX4_take_45 : decode cX4_take 45 = .ok (.aload_n 0, 1) := by decide +kernel
theorem dX4_take_46 : decode cX4_take 46 = .ok (.getfield 13, 3) := by decide +kernel
theorem dX4_take_49 : decode cX4_take 49 = .ok (.iload_n 1, 1) := by decide +kernel
theorem dX4_take_50 : decode cX4_take 50 = .ok (.dup2, 1) := by decide +kernel
theorem dX4_take_51 : decode cX4_take 51 = .ok (.iaload, 1) := by decide +kernel
theorem dX4_take_52 : decode cX4_take 52 = .ok (.iconst 1, 1) := by decide +kernel
theorem dX4_take_53 : decode cX4_take 53 = .ok (.isub, 1) := by decide +kernel
theorem dX4_take_54 : decode cX4_take 54 = .ok (.iastore, 1) := by decide +kernel
theorem dX4_take_55 : decode cX4_take 55 = .ok (.aload_n 0, 1) := by decide +kernel
theorem dX4_take_56 : decode cX4_take 56 = .ok (.getfield 16, 3) := by decide +kernel
theorem dX4_take_59 : decode cX4_take 59 = .ok (.iload 5, 2) := by decide +kernel
theorem dX4_take_61 : decode cX4_take 61 = .ok (.aload_n 0, 1) := by decide +kernel
theorem dX4_take_62 : decode cX4_take 62 = .ok (.getfield 16, 3) := by decide +kernel
theorem dX4_take_65 : decode cX4_take 65 = .ok (.bipush 64, 2) := by decide +kernel
theorem dX4_take_67 : decode cX4_take 67 = .ok (.iload_n 1, 1) := by decide +kernel
theorem dX4_take_68 : decode cX4_take 68 = .ok (.imul, 1) := by decide +kernel
theorem dX4_take_69 : decode cX4_take 69 = .ok (.aload_n 0, 1) := by decide +kernel
theorem dX4_take_70 : decode cX4_take 70 = .ok (.getfield 13, 3) := by decide +kernel
theorem dX4_take_73 : decode cX4_take 73 = .ok (.iload_n 1, 1) := by decide +kernel
theorem dX4_take_74 : decode cX4_take 74 = .ok (.iaload, 1) := by decide +kernel
theorem dX4_take_75 : decode cX4_take 75 = .ok (.iadd, 1) := by decide +kernel
theorem dX4_take_76 : decode cX4_take 76 = .ok (.iaload, 1) := by decide +kernel
theorem dX4_take_77 : decode cX4_take 77 = .ok (.iastore, 1) := by decide +kernel
theorem dX4_take_78 : decode cX4_take 78 = .ok (.aload_n 0, 1) := by decide +kernel
theorem dX4_take_79 : decode cX4_take 79 = .ok (.getfield 19, 3) := by decide +kernel
theorem dX4_take_82 : decode cX4_take 82 = .ok (.iload 5, 2) := by decide +kernel
theorem dX4_take_84 : decode cX4_take 84 = .ok (.aload_n 0, 1) := by decide +kernel
theorem dX4_take_85 : decode cX4_take 85 = .ok (.getfield 19, 3) := by decide +kernel
theorem dX4_take_88 : decode cX4_take 88 = .ok (.bipush 64, 2) := by decide +kernel
theorem dX4_take_90 : decode cX4_take 90 = .ok (.iload_n 1, 1) := by decide +kernel
theorem dX4_take_91 : decode cX4_take 91 = .ok (.imul, 1) := by decide +kernel
theorem dX4_take_92 : decode cX4_take 92 = .ok (.aload_n 0, 1) := by decide +kernel
theorem dX4_take_93 : decode cX4_take 93 = .ok (.getfield 13, 3) := by decide +kernel
theorem dX4_take_96 : decode cX4_take 96 = .ok (.iload_n 1, 1) := by decide +kernel
theorem dX4_take_97 : decode cX4_take 97 = .ok (.iaload, 1) := by decide +kernel
theorem dX4_take_98 : decode cX4_take 98 = .ok (.iadd, 1) := by decide +kernel
theorem dX4_take_99 : decode cX4_take 99 = .ok (.laload, 1) := by decide +kernel
theorem dX4_take_100 : decode cX4_take 100 = .ok (.lastore, 1) := by decide +kernel
theorem dX4_take_101 : decode cX4_take 101 = .ok (.aload_n 0, 1) := by decide +kernel
theorem dX4_take_102 : decode cX4_take 102 = .ok (.getfield 13, 3) := by decide +kernel
theorem dX4_take_105 : decode cX4_take 105 = .ok (.iload_n 1, 1) := by decide +kernel
theorem dX4_take_106 : decode cX4_take 106 = .ok (.iaload, 1) := by decide +kernel
theorem dX4_take_107 : decode cX4_take 107 = .ok (.ireturn, 1) := by decide +kernel
theorem dX4_take_108 : decode cX4_take 108 = .ok (.iinc 5 1, 3) := by decide +kernel
theorem dX4_take_111 : decode cX4_take 111 = .ok (.goto (-105), 3) := by decide +kernel
theorem dX4_take_114 : decode cX4_take 114 = .ok (.bipush (-3), 2) := by decide +kernel
theorem dX4_take_116 : decode cX4_take 116 = .ok (.ireturn, 1) := by decide +kernel
set_option maxRecDepth 20000 in
theorem ggX4_remove_X4_isFold : GoodIn wsX4_remove wsX4_isFold := goodIn_r _ [7, 8, 16, 17, 18, 19, 20, 21, 22, 23, 24, 25, 26, 27, 28, 29, 30, 31, 32, 33, 34] (by decide +kernel) (by decide +kernel)
set_option maxRecDepth 20000 in
theorem gX4_remove_X4_isFold : GoodIn wsX4_remove (wsV RX4 55 RX4 yX4_isFold wsX4_isFold) := goodIn_app (goodIn_of _ (by decide +kernel)) ggX4_remove_X4_isFold
set_option maxRecDepth 20000 in
theorem ggX4_remove_X4_take : GoodIn wsX4_remove wsX4_take := goodIn_r _ [12, 13, 14, 15, 16, 17, 18, 19, 20, 21, 22, 23, 24, 25, 26, 27, 28, 29, 30, 31, 32, 33, 34] (by decide +kernel) (by decide +kernel)
set_option maxRecDepth 20000 in
theorem gX4_remove_X4_take : GoodIn wsX4_remove (wsV RX4 91 RX4 yX4_take wsX4_take) := goodIn_app (goodIn_of _ (by decide +kernel)) ggX4_remove_X4_take
theorem dX4_remove_0 : decode cX4_remove 0 = .ok (.aload_n 0, 1) := by decide +kernel
theorem dX4_remove_1 : decode cX4_remove 1 = .ok (.iconst 0, 1) := by decide +kernel
theorem dX4_remove_2 : decode cX4_remove 2 = .ok (.putfield 52, 3) := by decide +kernel
theorem dX4_remove_5 : decode cX4_remove 5 = .ok (.aload_n 0, 1) := by decide +kernel
theorem dX4_remove_6 : decode cX4_remove 6 = .ok (.iload_n 1, 1) := by decide +kernel
theorem dX4_remove_7 : decode cX4_remove 7 = .ok (.invokevirtual 55, 3) := by decide +kernel
theorem dX4_remove_10 : decode cX4_remove 10 = .ok (.ifCond .ne 5, 3) := by decide +kernel
theorem dX4_remove_13 : decode cX4_remove 13 = .ok (.iconst (-1), 1) := by decide +kernel
theorem dX4_remove_14 : decode cX4_remove 14 = .ok (.ireturn, 1) := by decide +kernel
theorem dX4_remove_15 : decode cX4_remove 15 = .ok (.aload_n 0, 1) := by decide +kernel
theorem dX4_remove_16 : decode cX4_remove 16 = .ok (.getfield 7, 3) := by decide +kernel
theorem dX4_remove_19 : decode cX4_remove 19 = .ok (.iload_n 1, 1) := by decide +kernel
theorem dX4_remove_20 : decode cX4_remove 20 = .ok (.iaload, 1) := by decide +kernel
theorem dX4_remove_21 : decode cX4_remove 21 = .ok (.iconst 1, 1) := by decide +kernel
theorem dX4_remove_22 : decode cX4_remove 22 = .ok (.if_icmp .ne 8, 3) := by decide +kernel
theorem dX4_remove_25 : decode cX4_remove 25 = .ok (.bipush (-3), 2) := by decide +kernel
theorem dX4_remove_27 : decode cX4_remove 27 = .ok (.goto 10, 3) := by decide +kernel
theorem dX4_remove_30 : decode cX4_remove 30 = .ok (.aload_n 0, 1) := by decide +kernel
theorem dX4_remove_31 : decode cX4_remove 31 = .ok (.iload_n 1, 1) := by decide +kernel
theorem dX4_remove_32 : decode cX4_remove 32 = .ok (.iload_n 2, 1) := by decide +kernel
theorem dX4_remove_33 : decode cX4_remove 33 = .ok (.lload_n 3, 1) := by decide +kernel
theorem dX4_remove_34 : decode cX4_remove 34 = .ok (.invokevirtual 91, 3) := by decide +kernel
theorem dX4_remove_37 : decode cX4_remove 37 = .ok (.ireturn, 1) := by decide +kernel
set_option maxRecDepth 20000 in
theorem ggX4_removeReal_X4_isFold : GoodIn wsX4_removeReal wsX4_isFold := goodIn_r _ [7, 8, 23, 24, 25, 26, 27, 28, 29, 30, 31, 32, 33, 34, 35, 36, 37, 38, 39, 40, 41] (by decide +kernel) (by decide +kernel)
set_option maxRecDepth 20000 in
theorem gX4_removeReal_X4_isFold : GoodIn wsX4_removeReal (wsV RX4 55 RX4 yX4_isFold wsX4_isFold) := goodIn_app (goodIn_of _ (by decide +kernel)) ggX4_removeReal_X4_isFold
set_option maxRecDepth 20000 in
theorem ggX4_removeReal_X4_isFinite : GoodIn wsX4_removeReal wsX4_isFinite := goodIn_r _ [11, 12] (by decide +kernel) (by decide +kernel)
set_option maxRecDepth 20000 in
theorem gX4_removeReal_X4_isFinite : GoodIn wsX4_removeReal (va_wsS RX4 83 yX4_isFinite wsX4_isFinite) := goodIn_app (goodIn_of _ (by decide +kernel)) ggX4_removeReal_X4_isFinite
set_option maxRecDepth 20000 in
theorem ggX4_removeReal_X4_bitsOf : GoodIn wsX4_removeReal wsX4_bitsOf := goodIn_r _ [15] (by decide +kernel) (by decide +kernel)
set_option maxRecDepth 20000 in
theorem gX4_removeReal_X4_bitsOf : GoodIn wsX4_removeReal (va_wsS RX4 87 yX4_bitsOf wsX4_bitsOf) := goodIn_app (goodIn_of _ (by decide +kernel)) ggX4_removeReal_X4_bitsOf
set_option maxRecDepth 20000 in
theorem ggX4_removeReal_X4_take : GoodIn wsX4_removeReal wsX4_take := goodIn_r _ [19, 20, 21, 22, 23, 24, 25, 26, 27, 28, 29, 30, 31, 32, 33, 34, 35, 36, 37, 38, 39, 40, 41] (by decide +kernel) (by decide +kernel)
set_option maxRecDepth 20000 in
theorem gX4_removeReal_X4_take : GoodIn wsX4_removeReal (wsV RX4 91 RX4 yX4_take wsX4_take) := goodIn_app (goodIn_of _ (by decide +kernel)) ggX4_removeReal_X4_take
theorem dX4_removeReal_0 : decode cX4_removeReal 0 = .ok (.aload_n 0, 1) := by decide +kernel
theorem dX4_removeReal_1 : decode cX4_removeReal 1 = .ok (.iconst 0, 1) := by decide +kernel
theorem dX4_removeReal_2 : decode cX4_removeReal 2 = .ok (.putfield 52, 3) := by decide +kernel
theorem dX4_removeReal_5 : decode cX4_removeReal 5 = .ok (.aload_n 0, 1) := by decide +kernel
theorem dX4_removeReal_6 : decode cX4_removeReal 6 = .ok (.iload_n 1, 1) := by decide +kernel
theorem dX4_removeReal_7 : decode cX4_removeReal 7 = .ok (.invokevirtual 55, 3) := by decide +kernel
theorem dX4_removeReal_10 : decode cX4_removeReal 10 = .ok (.ifCond .ne 5, 3) := by decide +kernel
theorem dX4_removeReal_13 : decode cX4_removeReal 13 = .ok (.iconst (-1), 1) := by decide +kernel
theorem dX4_removeReal_14 : decode cX4_removeReal 14 = .ok (.ireturn, 1) := by decide +kernel
theorem dX4_removeReal_15 : decode cX4_removeReal 15 = .ok (.aload_n 0, 1) := by decide +kernel
theorem dX4_removeReal_16 : decode cX4_removeReal 16 = .ok (.getfield 7, 3) := by decide +kernel
theorem dX4_removeReal_19 : decode cX4_removeReal 19 = .ok (.iload_n 1, 1) := by decide +kernel
theorem dX4_removeReal_20 : decode cX4_removeReal 20 = .ok (.iaload, 1) := by decide +kernel
theorem dX4_removeReal_21 : decode cX4_removeReal 21 = .ok (.iconst 1, 1) := by decide +kernel
theorem dX4_removeReal_22 : decode cX4_removeReal 22 = .ok (.if_icmp .ne 10, 3) := by decide +kernel
theorem dX4_removeReal_25 : decode cX4_removeReal 25 = .ok (.lload_n 3, 1) := by decide +kernel
theorem dX4_removeReal_26 : decode cX4_removeReal 26 = .ok (.invokestatic 83, 3) := by decide +kernel
theorem dX4_removeReal_29 : decode cX4_removeReal 29 = .ok (.ifCond .ne 8, 3) := by decide +kernel
theorem dX4_removeReal_32 : decode cX4_removeReal 32 = .ok (.bipush (-3), 2) := by decide +kernel
theorem dX4_removeReal_34 : decode cX4_removeReal 34 = .ok (.goto 13, 3) := by decide +kernel
theorem dX4_removeReal_37 : decode cX4_removeReal 37 = .ok (.aload_n 0, 1) := by decide +kernel
theorem dX4_removeReal_38 : decode cX4_removeReal 38 = .ok (.iload_n 1, 1) := by decide +kernel
theorem dX4_removeReal_39 : decode cX4_removeReal 39 = .ok (.iload_n 2, 1) := by decide +kernel
theorem dX4_removeReal_40 : decode cX4_removeReal 40 = .ok (.lload_n 3, 1) := by decide +kernel
theorem dX4_removeReal_41 : decode cX4_removeReal 41 = .ok (.invokestatic 87, 3) := by decide +kernel
theorem dX4_removeReal_44 : decode cX4_removeReal 44 = .ok (.invokevirtual 91, 3) := by decide +kernel
theorem dX4_removeReal_47 : decode cX4_removeReal 47 = .ok (.ireturn, 1) := by decide +kernel
set_option maxRecDepth 20000 in
theorem ggX4_merge_X4_isFold : GoodIn wsX4_merge wsX4_isFold := goodIn_r _ [10, 11, 12, 13, 14, 15, 16, 17, 18, 19, 20, 21, 22, 23, 24, 25, 26, 27, 28, 29, 30] (by decide +kernel) (by decide +kernel)
set_option maxRecDepth 20000 in
theorem gX4_merge_X4_isFold : GoodIn wsX4_merge (wsV RX4 55 RX4 yX4_isFold wsX4_isFold) := goodIn_app (goodIn_of _ (by decide +kernel)) ggX4_merge_X4_isFold
theorem dX4_merge_0 : decode cX4_merge 0 = .ok (.aload_n 0, 1) := by decide +kernel
theorem dX4_merge_1 : decode cX4_merge 1 = .ok (.iconst 0, 1) := by decide +kernel
theorem dX4_merge_2 : decode cX4_merge 2 = .ok (.putfield 52, 3) := by decide +kernel
theorem dX4_merge_5 : decode cX4_merge 5 = .ok (.aload_n 0, 1) := by decide +kernel
theorem dX4_merge_6 : decode cX4_merge 6 = .ok (.iload_n 1, 1) := by decide +kernel
theorem dX4_merge_7 : decode cX4_merge 7 = .ok (.invokevirtual 55, 3) := by decide +kernel
theorem dX4_merge_10 : decode cX4_merge 10 = .ok (.ifCond .eq 16, 3) := by decide +kernel
theorem dX4_merge_13 : decode cX4_merge 13 = .ok (.aload_n 0, 1) := by decide +kernel
theorem dX4_merge_14 : decode cX4_merge 14 = .ok (.iload_n 2, 1) := by decide +kernel
theorem dX4_merge_15 : decode cX4_merge 15 = .ok (.invokevirtual 55, 3) := by decide +kernel
theorem dX4_merge_18 : decode cX4_merge 18 = .ok (.ifCond .eq 8, 3) := by decide +kernel
theorem dX4_merge_21 : decode cX4_merge 21 = .ok (.iload_n 1, 1) := by decide +kernel
theorem dX4_merge_22 : decode cX4_merge 22 = .ok (.iload_n 2, 1) := by decide +kernel
theorem dX4_merge_23 : decode cX4_merge 23 = .ok (.if_icmp .ne 5, 3) := by decide +kernel
theorem dX4_merge_26 : decode cX4_merge 26 = .ok (.iconst (-1), 1) := by decide +kernel
theorem dX4_merge_27 : decode cX4_merge 27 = .ok (.ireturn, 1) := by decide +kernel
theorem dX4_merge_28 : decode cX4_merge 28 = .ok (.aload_n 0, 1) := by decide +kernel
theorem dX4_merge_29 : decode cX4_merge 29 = .ok (.getfield 7, 3) := by decide +kernel
theorem dX4_merge_32 : decode cX4_merge 32 = .ok (.iload_n 1, 1) := by decide +kernel
theorem dX4_merge_33 : decode cX4_merge 33 = .ok (.iaload, 1) := by decide +kernel
theorem dX4_merge_34 : decode cX4_merge 34 = .ok (.aload_n 0, 1) := by decide +kernel
theorem dX4_merge_35 : decode cX4_merge 35 = .ok (.getfield 7, 3) := by decide +kernel
theorem dX4_merge_38 : decode cX4_merge 38 = .ok (.iload_n 2, 1) := by decide +kernel
theorem dX4_merge_39 : decode cX4_merge 39 = .ok (.iaload, 1) := by decide +kernel
theorem dX4_merge_40 : decode cX4_merge 40 = .ok (.if_icmp .eq 6, 3) := by decide +kernel
theorem dX4_merge_43 : decode cX4_merge 43 = .ok (.bipush (-3), 2) := by decide +kernel
theorem dX4_merge_45 : decode cX4_merge 45 = .ok (.ireturn, 1) := by decide +kernel
theorem dX4_merge_46 : decode cX4_merge 46 = .ok (.aload_n 0, 1) := by decide +kernel
theorem dX4_merge_47 : decode cX4_merge 47 = .ok (.getfield 13, 3) := by decide +kernel
theorem dX4_merge_50 : decode cX4_merge 50 = .ok (.iload_n 1, 1) := by decide +kernel
theorem dX4_merge_51 : decode cX4_merge 51 = .ok (.iaload, 1) := by decide +kernel
theorem dX4_merge_52 : decode cX4_merge 52 = .ok (.aload_n 0, 1) := by decide +kernel
theorem dX4_merge_53 : decode cX4_merge 53 = .ok (.getfield 13, 3) := by decide +kernel
theorem dX4_merge_56 : decode cX4_merge 56 = .ok (.iload_n 2, 1) := by decide +kernel
theorem dX4_merge_57 : decode cX4_merge 57 = .ok (.iaload, 1) := by decide +kernel
theorem dX4_merge_58 : decode cX4_merge 58 = .ok (.iadd, 1) := by decide +kernel
theorem dX4_merge_59 : decode cX4_merge 59 = .ok (.bipush 64, 2) := by decide +kernel
theorem dX4_merge_61 : decode cX4_merge 61 = .ok (.if_icmp .le 6, 3) := by decide +kernel
theorem dX4_merge_64 : decode cX4_merge 64 = .ok (.bipush (-4), 2) := by decide +kernel
theorem dX4_merge_66 : decode cX4_merge 66 = .ok (.ireturn, 1) := by decide +kernel
theorem dX4_merge_67 : decode cX4_merge 67 = .ok (.iconst 0, 1) := by decide +kernel
theorem dX4_merge_68 : decode cX4_merge 68 = .ok (.istore_n 3, 1) := by decide +kernel
theorem dX4_merge_69 : decode cX4_merge 69 = .ok (.iload_n 3, 1) := by decide +kernel
theorem dX4_merge_70 : decode cX4_merge 70 = .ok (.aload_n 0, 1) := by decide +kernel
theorem dX4_merge_71 : decode cX4_merge 71 = .ok (.getfield 13, 3) := by decide +kernel
theorem dX4_merge_74 : decode cX4_merge 74 = .ok (.iload_n 2, 1) := by decide +kernel
theorem dX4_merge_75 : decode cX4_merge 75 = .ok (.iaload, 1) := by decide +kernel
theorem dX4_merge_76 : decode cX4_merge 76 = .ok (.if_icmp .ge 73, 3) := by decide +kernel
theorem dX4_merge_79 : decode cX4_merge 79 = .ok (.aload_n 0, 1) := by decide +kernel
theorem dX4_merge_80 : decode cX4_merge 80 = .ok (.getfield 16, 3) := by decide +kernel
theorem dX4_merge_83 : decode cX4_merge 83 = .ok (.bipush 64, 2) := by decide +kernel
theorem dX4_merge_85 : decode cX4_merge 85 = .ok (.iload_n 1, 1) := by decide +kernel
theorem dX4_merge_86 : decode cX4_merge 86 = .ok (.imul, 1) := by decide +kernel
theorem dX4_merge_87 : decode cX4_merge 87 = .ok (.aload_n 0, 1) := by decide +kernel
theorem dX4_merge_88 : decode cX4_merge 88 = .ok (.getfield 13, 3) := by decide +kernel
theorem dX4_merge_91 : decode cX4_merge 91 = .ok (.iload_n 1, 1) := by decide +kernel
theorem dX4_merge_92 : decode cX4_merge 92 = .ok (.iaload, 1) := by decide +kernel
theorem dX4_merge_93 : decode cX4_merge 93 = .ok (.iadd, 1) := by decide +kernel
theorem dX4_merge_94 : decode cX4_merge 94 = .ok (.aload_n 0, 1) := by decide +kernel
theorem dX4_merge_95 : decode cX4_merge 95 = .ok (.getfield 16, 3) := by decide +kernel
theorem dX4_merge_98 : decode cX4_merge 98 = .ok (.bipush 64, 2) := by decide +kernel
theorem dX4_merge_100 : decode cX4_merge 100 = .ok (.iload_n 2, 1) := by decide +kernel
theorem dX4_merge_101 : decode cX4_merge 101 = .ok (.imul, 1) := by decide +kernel
theorem dX4_merge_102 : decode cX4_merge 102 = .ok (.iload_n 3, 1) := by decide +kernel
theorem dX4_merge_103 : decode cX4_merge 103 = .ok (.iadd, 1) := by decide +kernel
theorem dX4_merge_104 : decode cX4_merge 104 = .ok (.iaload, 1) := by decide +kernel
theorem dX4_merge_105 : decode cX4_merge 105 = .ok (.iastore, 1) := by decide +kernel
theorem dX4_merge_106 : decode cX4_merge 106 = .ok (.aload_n 0, 1) := by decide +kernel
theorem dX4_merge_107 : decode cX4_merge 107 = .ok (.getfield 19, 3) := by decide +kernel
theorem dX4_merge_110 : decode cX4_merge 110 = .ok (.bipush 64, 2) := by decide +kernel
theorem dX4_merge_112 : decode cX4_merge 112 = .ok (.iload_n 1, 1) := by decide +kernel
theorem dX4_merge_113 : decode cX4_merge 113 = .ok (.imul, 1) := by decide +kernel
theorem dX4_merge_114 : decode cX4_merge 114 = .ok (.aload_n 0, 1) := by decide +kernel
theorem dX4_merge_115 : decode cX4_merge 115 = .ok (.getfield 13, 3) := by decide +kernel
theorem dX4_merge_118 : decode cX4_merge 118 = .ok (.iload_n 1, 1) := by decide +kernel
theorem dX4_merge_119 : decode cX4_merge 119 = .ok (.iaload, 1) := by decide +kernel
theorem dX4_merge_120 : decode cX4_merge 120 = .ok (.iadd, 1) := by decide +kernel
theorem dX4_merge_121 : decode cX4_merge 121 = .ok (.aload_n 0, 1) := by decide +kernel
theorem dX4_merge_122 : decode cX4_merge 122 = .ok (.getfield 19, 3) := by decide +kernel
theorem dX4_merge_125 : decode cX4_merge 125 = .ok (.bipush 64, 2) := by decide +kernel
theorem dX4_merge_127 : decode cX4_merge 127 = .ok (.iload_n 2, 1) := by decide +kernel
theorem dX4_merge_128 : decode cX4_merge 128 = .ok (.imul, 1) := by decide +kernel
theorem dX4_merge_129 : decode cX4_merge 129 = .ok (.iload_n 3, 1) := by decide +kernel
theorem dX4_merge_130 : decode cX4_merge 130 = .ok (.iadd, 1) := by decide +kernel
theorem dX4_merge_131 : decode cX4_merge 131 = .ok (.laload, 1) := by decide +kernel
theorem dX4_merge_132 : decode cX4_merge 132 = .ok (.lastore, 1) := by decide +kernel
theorem dX4_merge_133 : decode cX4_merge 133 = .ok (.aload_n 0, 1) := by decide +kernel
theorem dX4_merge_134 : decode cX4_merge 134 = .ok (.getfield 13, 3) := by decide +kernel
theorem dX4_merge_137 : decode cX4_merge 137 = .ok (.iload_n 1, 1) := by decide +kernel
theorem dX4_merge_138 : decode cX4_merge 138 = .ok (.dup2, 1) := by decide +kernel
theorem dX4_merge_139 : decode cX4_merge 139 = .ok (.iaload, 1) := by decide +kernel
theorem dX4_merge_140 : decode cX4_merge 140 = .ok (.iconst 1, 1) := by decide +kernel
theorem dX4_merge_141 : decode cX4_merge 141 = .ok (.iadd, 1) := by decide +kernel
theorem dX4_merge_142 : decode cX4_merge 142 = .ok (.iastore, 1) := by decide +kernel
theorem dX4_merge_143 : decode cX4_merge 143 = .ok (.iinc 3 1, 3) := by decide +kernel
theorem dX4_merge_146 : decode cX4_merge 146 = .ok (.goto (-77), 3) := by decide +kernel
theorem dX4_merge_149 : decode cX4_merge 149 = .ok (.aload_n 0, 1) := by decide +kernel
theorem dX4_merge_150 : decode cX4_merge 150 = .ok (.getfield 13, 3) := by decide +kernel
theorem dX4_merge_153 : decode cX4_merge 153 = .ok (.iload_n 2, 1) := by decide +kernel
theorem dX4_merge_154 : decode cX4_merge 154 = .ok (.iconst 0, 1) := by decide +kernel
theorem dX4_merge_155 : decode cX4_merge 155 = .ok (.iastore, 1) := by decide +kernel
theorem dX4_merge_156 : decode cX4_merge 156 = .ok (.aload_n 0, 1) := by decide +kernel
theorem dX4_merge_157 : decode cX4_merge 157 = .ok (.getfield 13, 3) := by decide +kernel
theorem dX4_merge_160 : decode cX4_merge 160 = .ok (.iload_n 1, 1) := by decide +kernel
theorem dX4_merge_161 : decode cX4_merge 161 = .ok (.iaload, 1) := by decide +kernel
theorem dX4_merge_162 : decode cX4_merge 162 = .ok (.ireturn, 1) := by decide +kernel
theorem dX4_like_0 : decode cX4_like 0 = .ok (.iconst 0, 1) := by decide +kernel
theorem dX4_like_1 : decode cX4_like 1 = .ok (.istore 5, 2) := by decide +kernel
theorem dX4_like_3 : decode cX4_like 3 = .ok (.bipush 64, 2) := by decide +kernel
theorem dX4_like_5 : decode cX4_like 5 = .ok (.iload_n 1, 1) := by decide +kernel
theorem dX4_like_6 : decode cX4_like 6 = .ok (.imul, 1) := by decide +kernel
theorem dX4_like_7 : decode cX4_like 7 = .ok (.istore 6, 2) := by decide +kernel
theorem dX4_like_9 : decode cX4_like 9 = .ok (.iload 6, 2) := by decide +kernel
theorem dX4_like_11 : decode cX4_like 11 = .ok (.bipush 64, 2) := by decide +kernel
theorem dX4_like_13 : decode cX4_like 13 = .ok (.iload_n 1, 1) := by decide +kernel
theorem dX4_like_14 : decode cX4_like 14 = .ok (.imul, 1) := by decide +kernel
theorem dX4_like_15 : decode cX4_like 15 = .ok (.aload_n 0, 1) := by decide +kernel
theorem dX4_like_16 : decode cX4_like 16 = .ok (.getfield 13, 3) := by decide +kernel
theorem dX4_like_19 : decode cX4_like 19 = .ok (.iload_n 1, 1) := by decide +kernel
theorem dX4_like_20 : decode cX4_like 20 = .ok (.iaload, 1) := by decide +kernel
theorem dX4_like_21 : decode cX4_like 21 = .ok (.iadd, 1) := by decide +kernel
theorem dX4_like_22 : decode cX4_like 22 = .ok (.if_icmp .ge 42, 3) := by decide +kernel
theorem dX4_like_25 : decode cX4_like 25 = .ok (.iload 5, 2) := by decide +kernel
theorem dX4_like_27 : decode cX4_like 27 = .ok (.aload_n 0, 1) := by decide +kernel
theorem dX4_like_28 : decode cX4_like 28 = .ok (.getfield 16, 3) := by decide +kernel
theorem dX4_like_31 : decode cX4_like 31 = .ok (.iload 6, 2) := by decide +kernel
theorem dX4_like_33 : decode cX4_like 33 = .ok (.iaload, 1) := by decide +kernel
theorem dX4_like_34 : decode cX4_like 34 = .ok (.iload_n 2, 1) := by decide +kernel
theorem dX4_like_35 : decode cX4_like 35 = .ok (.if_icmp .ne 19, 3) := by decide +kernel
theorem dX4_like_38 : decode cX4_like 38 = .ok (.aload_n 0, 1) := by decide +kernel
theorem dX4_like_39 : decode cX4_like 39 = .ok (.getfield 19, 3) := by decide +kernel
theorem dX4_like_42 : decode cX4_like 42 = .ok (.iload 6, 2) := by decide +kernel
theorem dX4_like_44 : decode cX4_like 44 = .ok (.laload, 1) := by decide +kernel
theorem dX4_like_45 : decode cX4_like 45 = .ok (.lload_n 3, 1) := by decide +kernel
theorem dX4_like_46 : decode cX4_like 46 = .ok (.lcmp, 1) := by decide +kernel
theorem dX4_like_47 : decode cX4_like 47 = .ok (.ifCond .ne 7, 3) := by decide +kernel
theorem dX4_like_50 : decode cX4_like 50 = .ok (.iconst 1, 1) := by decide +kernel
theorem dX4_like_51 : decode cX4_like 51 = .ok (.goto 4, 3) := by decide +kernel
theorem dX4_like_54 : decode cX4_like 54 = .ok (.iconst 0, 1) := by decide +kernel
theorem dX4_like_55 : decode cX4_like 55 = .ok (.iadd, 1) := by decide +kernel
theorem dX4_like_56 : decode cX4_like 56 = .ok (.istore 5, 2) := by decide +kernel
theorem dX4_like_58 : decode cX4_like 58 = .ok (.iinc 6 1, 3) := by decide +kernel
theorem dX4_like_61 : decode cX4_like 61 = .ok (.goto (-52), 3) := by decide +kernel
theorem dX4_like_64 : decode cX4_like 64 = .ok (.iload 5, 2) := by decide +kernel
theorem dX4_like_66 : decode cX4_like 66 = .ok (.ireturn, 1) := by decide +kernel
set_option maxRecDepth 20000 in
theorem ggX4_same_X4_isFold : GoodIn wsX4_same wsX4_isFold := goodIn_r _ [10, 11, 16, 17, 18, 19, 20, 21, 22, 23, 24, 25, 26, 27, 28, 29, 30, 31, 32, 33, 34] (by decide +kernel) (by decide +kernel)
set_option maxRecDepth 20000 in
theorem gX4_same_X4_isFold : GoodIn wsX4_same (wsV RX4 55 RX4 yX4_isFold wsX4_isFold) := goodIn_app (goodIn_of _ (by decide +kernel)) ggX4_same_X4_isFold
set_option maxRecDepth 20000 in
theorem ggX4_same_X4_like : GoodIn wsX4_same wsX4_like := goodIn_r _ [15, 3, 4, 5, 16, 17, 18, 19, 20, 21, 22, 23, 24, 25, 26, 27, 28, 29, 30, 31, 32, 33, 34] (by decide +kernel) (by decide +kernel)
set_option maxRecDepth 20000 in
theorem gX4_same_X4_like : GoodIn wsX4_same (wsV RX4 94 RX4 yX4_like wsX4_like) := goodIn_app (goodIn_of _ (by decide +kernel)) ggX4_same_X4_like
theorem dX4_same_0 : decode cX4_same 0 = .ok (.aload_n 0, 1) := by decide +kernel
theorem dX4_same_1 : decode cX4_same 1 = .ok (.iconst 0, 1) := by decide +kernel
theorem dX4_same_2 : decode cX4_same 2 = .ok (.putfield 52, 3) := by decide +kernel
theorem dX4_same_5 : decode cX4_same 5 = .ok (.aload_n 0, 1) := by decide +kernel
theorem dX4_same_6 : decode cX4_same 6 = .ok (.iload_n 1, 1) := by decide +kernel
theorem dX4_same_7 : decode cX4_same 7 = .ok (.invokevirtual 55, 3) := by decide +kernel
theorem dX4_same_10 : decode cX4_same 10 = .ok (.ifCond .eq 41, 3) := by decide +kernel
theorem dX4_same_13 : decode cX4_same 13 = .ok (.aload_n 0, 1) := by decide +kernel
theorem dX4_same_14 : decode cX4_same 14 = .ok (.iload_n 2, 1) := by decide +kernel
theorem dX4_same_15 : decode cX4_same 15 = .ok (.invokevirtual 55, 3) := by decide +kernel
theorem dX4_same_18 : decode cX4_same 18 = .ok (.ifCond .eq 33, 3) := by decide +kernel
theorem dX4_same_21 : decode cX4_same 21 = .ok (.aload_n 0, 1) := by decide +kernel
theorem dX4_same_22 : decode cX4_same 22 = .ok (.getfield 7, 3) := by decide +kernel
theorem dX4_same_25 : decode cX4_same 25 = .ok (.iload_n 1, 1) := by decide +kernel
theorem dX4_same_26 : decode cX4_same 26 = .ok (.iaload, 1) := by decide +kernel
theorem dX4_same_27 : decode cX4_same 27 = .ok (.aload_n 0, 1) := by decide +kernel
theorem dX4_same_28 : decode cX4_same 28 = .ok (.getfield 7, 3) := by decide +kernel
theorem dX4_same_31 : decode cX4_same 31 = .ok (.iload_n 2, 1) := by decide +kernel
theorem dX4_same_32 : decode cX4_same 32 = .ok (.iaload, 1) := by decide +kernel
theorem dX4_same_33 : decode cX4_same 33 = .ok (.if_icmp .ne 18, 3) := by decide +kernel
theorem dX4_same_36 : decode cX4_same 36 = .ok (.aload_n 0, 1) := by decide +kernel
theorem dX4_same_37 : decode cX4_same 37 = .ok (.getfield 13, 3) := by decide +kernel
theorem dX4_same_40 : decode cX4_same 40 = .ok (.iload_n 1, 1) := by decide +kernel
theorem dX4_same_41 : decode cX4_same 41 = .ok (.iaload, 1) := by decide +kernel
theorem dX4_same_42 : decode cX4_same 42 = .ok (.aload_n 0, 1) := by decide +kernel
theorem dX4_same_43 : decode cX4_same 43 = .ok (.getfield 13, 3) := by decide +kernel
theorem dX4_same_46 : decode cX4_same 46 = .ok (.iload_n 2, 1) := by decide +kernel
theorem dX4_same_47 : decode cX4_same 47 = .ok (.iaload, 1) := by decide +kernel
theorem dX4_same_48 : decode cX4_same 48 = .ok (.if_icmp .eq 5, 3) := by decide +kernel
theorem dX4_same_51 : decode cX4_same 51 = .ok (.iconst 0, 1) := by decide +kernel
theorem dX4_same_52 : decode cX4_same 52 = .ok (.ireturn, 1) := by decide +kernel
theorem dX4_same_53 : decode cX4_same 53 = .ok (.iconst 1, 1) := by decide +kernel
theorem dX4_same_54 : decode cX4_same 54 = .ok (.istore_n 3, 1) := by decide +kernel
theorem dX4_same_55 : decode cX4_same 55 = .ok (.bipush 64, 2) := by decide +kernel
theorem dX4_same_57 : decode cX4_same 57 = .ok (.iload_n 1, 1) := by decide +kernel
theorem dX4_same_58 : decode cX4_same 58 = .ok (.imul, 1) := by decide +kernel
theorem dX4_same_59 : decode cX4_same 59 = .ok (.istore 4, 2) := by decide +kernel
theorem dX4_same_61 : decode cX4_same 61 = .ok (.iload 4, 2) := by decide +kernel
theorem dX4_same_63 : decode cX4_same 63 = .ok (.bipush 64, 2) := by decide +kernel
theorem dX4_same_65 : decode cX4_same 65 = .ok (.iload_n 1, 1) := by decide +kernel
theorem dX4_same_66 : decode cX4_same 66 = .ok (.imul, 1) := by decide +kernel
theorem dX4_same_67 : decode cX4_same 67 = .ok (.aload_n 0, 1) := by decide +kernel
theorem dX4_same_68 : decode cX4_same 68 = .ok (.getfield 13, 3) := by decide +kernel
theorem dX4_same_71 : decode cX4_same 71 = .ok (.iload_n 1, 1) := by decide +kernel
theorem dX4_same_72 : decode cX4_same 72 = .ok (.iaload, 1) := by decide +kernel
theorem dX4_same_73 : decode cX4_same 73 = .ok (.iadd, 1) := by decide +kernel
theorem dX4_same_74 : decode cX4_same 74 = .ok (.if_icmp .ge 60, 3) := by decide +kernel
theorem dX4_same_77 : decode cX4_same 77 = .ok (.iload_n 3, 1) := by decide +kernel
theorem dX4_same_78 : decode cX4_same 78 = .ok (.ifCond .eq 48, 3) := by decide +kernel
theorem dX4_same_81 : decode cX4_same 81 = .ok (.aload_n 0, 1) := by decide +kernel
theorem dX4_same_82 : decode cX4_same 82 = .ok (.iload_n 1, 1) := by decide +kernel
theorem dX4_same_83 : decode cX4_same 83 = .ok (.aload_n 0, 1) := by decide +kernel
theorem dX4_same_84 : decode cX4_same 84 = .ok (.getfield 16, 3) := by decide +kernel
theorem dX4_same_87 : decode cX4_same 87 = .ok (.iload 4, 2) := by decide +kernel
theorem dX4_same_89 : decode cX4_same 89 = .ok (.iaload, 1) := by decide +kernel
theorem dX4_same_90 : decode cX4_same 90 = .ok (.aload_n 0, 1) := by decide +kernel
theorem dX4_same_91 : decode cX4_same 91 = .ok (.getfield 19, 3) := by decide +kernel
theorem dX4_same_94 : decode cX4_same 94 = .ok (.iload 4, 2) := by decide +kernel
theorem dX4_same_96 : decode cX4_same 96 = .ok (.laload, 1) := by decide +kernel
theorem dX4_same_97 : decode cX4_same 97 = .ok (.invokevirtual 94, 3) := by decide +kernel
theorem dX4_same_100 : decode cX4_same 100 = .ok (.aload_n 0, 1) := by decide +kernel
theorem dX4_same_101 : decode cX4_same 101 = .ok (.iload_n 2, 1) := by decide +kernel
theorem dX4_same_102 : decode cX4_same 102 = .ok (.aload_n 0, 1) := by decide +kernel
theorem dX4_same_103 : decode cX4_same 103 = .ok (.getfield 16, 3) := by decide +kernel
theorem dX4_same_106 : decode cX4_same 106 = .ok (.iload 4, 2) := by decide +kernel
theorem dX4_same_108 : decode cX4_same 108 = .ok (.iaload, 1) := by decide +kernel
theorem dX4_same_109 : decode cX4_same 109 = .ok (.aload_n 0, 1) := by decide +kernel
theorem dX4_same_110 : decode cX4_same 110 = .ok (.getfield 19, 3) := by decide +kernel
theorem dX4_same_113 : decode cX4_same 113 = .ok (.iload 4, 2) := by decide +kernel
theorem dX4_same_115 : decode cX4_same 115 = .ok (.laload, 1) := by decide +kernel
theorem dX4_same_116 : decode cX4_same 116 = .ok (.invokevirtual 94, 3) := by decide +kernel
theorem dX4_same_119 : decode cX4_same 119 = .ok (.if_icmp .ne 7, 3) := by decide +kernel
theorem dX4_same_122 : decode cX4_same 122 = .ok (.iconst 1, 1) := by decide +kernel
theorem dX4_same_123 : decode cX4_same 123 = .ok (.goto 4, 3) := by decide +kernel
theorem dX4_same_126 : decode cX4_same 126 = .ok (.iconst 0, 1) := by decide +kernel
theorem dX4_same_127 : decode cX4_same 127 = .ok (.istore_n 3, 1) := by decide +kernel
theorem dX4_same_128 : decode cX4_same 128 = .ok (.iinc 4 1, 3) := by decide +kernel
theorem dX4_same_131 : decode cX4_same 131 = .ok (.goto (-70), 3) := by decide +kernel
theorem dX4_same_134 : decode cX4_same 134 = .ok (.iload_n 3, 1) := by decide +kernel
theorem dX4_same_135 : decode cX4_same 135 = .ok (.ireturn, 1) := by decide +kernel
set_option maxRecDepth 20000 in
theorem ggX4_rows_X4_isFold : GoodIn wsX4_rows wsX4_isFold := goodIn_r _ [7, 8, 9, 10, 11, 12, 13, 14, 15, 16, 17, 18, 19, 20, 21, 22, 23, 24, 25, 26, 27] (by decide +kernel) (by decide +kernel)
set_option maxRecDepth 20000 in
theorem gX4_rows_X4_isFold : GoodIn wsX4_rows (wsV RX4 55 RX4 yX4_isFold wsX4_isFold) := goodIn_app (goodIn_of _ (by decide +kernel)) ggX4_rows_X4_isFold
theorem dX4_rows_0 : decode cX4_rows 0 = .ok (.aload_n 0, 1) := by decide +kernel
theorem dX4_rows_1 : decode cX4_rows 1 = .ok (.iconst 0, 1) := by decide +kernel
theorem dX4_rows_2 : decode cX4_rows 2 = .ok (.putfield 52, 3) := by decide +kernel
theorem dX4_rows_5 : decode cX4_rows 5 = .ok (.aload_n 0, 1) := by decide +kernel
theorem dX4_rows_6 : decode cX4_rows 6 = .ok (.iload_n 1, 1) := by decide +kernel
theorem dX4_rows_7 : decode cX4_rows 7 = .ok (.invokevirtual 55, 3) := by decide +kernel
theorem dX4_rows_10 : decode cX4_rows 10 = .ok (.ifCond .eq 12, 3) := by decide +kernel
theorem dX4_rows_13 : decode cX4_rows 13 = .ok (.aload_n 0, 1) := by decide +kernel
theorem dX4_rows_14 : decode cX4_rows 14 = .ok (.getfield 13, 3) := by decide +kernel
theorem dX4_rows_17 : decode cX4_rows 17 = .ok (.iload_n 1, 1) := by decide +kernel
theorem dX4_rows_18 : decode cX4_rows 18 = .ok (.iaload, 1) := by decide +kernel
theorem dX4_rows_19 : decode cX4_rows 19 = .ok (.goto 4, 3) := by decide +kernel
theorem dX4_rows_22 : decode cX4_rows 22 = .ok (.iconst (-1), 1) := by decide +kernel
theorem dX4_rows_23 : decode cX4_rows 23 = .ok (.ireturn, 1) := by decide +kernel
set_option maxRecDepth 20000 in
theorem ggX4_limb_X4_isOf : GoodIn wsX4_limb wsX4_isOf := goodIn_r _ [9, 10, 11, 12, 13, 8, 14, 15, 16, 17, 18, 19, 20, 21, 22, 23, 24, 25, 26, 27, 28, 29, 30, 31, 32, 33, 34] (by decide +kernel) (by decide +kernel)
set_option maxRecDepth 20000 in
theorem gX4_limb_X4_isOf : GoodIn wsX4_limb (wsV RX4 97 RX4 yX4_isOf wsX4_isOf) := goodIn_app (goodIn_of _ (by decide +kernel)) ggX4_limb_X4_isOf
theorem dX4_limb_0 : decode cX4_limb 0 = .ok (.aload_n 0, 1) := by decide +kernel
theorem dX4_limb_1 : decode cX4_limb 1 = .ok (.iconst 0, 1) := by decide +kernel
theorem dX4_limb_2 : decode cX4_limb 2 = .ok (.putfield 52, 3) := by decide +kernel
theorem dX4_limb_5 : decode cX4_limb 5 = .ok (.aload_n 0, 1) := by decide +kernel
theorem dX4_limb_6 : decode cX4_limb 6 = .ok (.iload_n 1, 1) := by decide +kernel
theorem dX4_limb_7 : decode cX4_limb 7 = .ok (.iconst 0, 1) := by decide +kernel
theorem dX4_limb_8 : decode cX4_limb 8 = .ok (.invokevirtual 97, 3) := by decide +kernel
theorem dX4_limb_11 : decode cX4_limb 11 = .ok (.ifCond .ne 5, 3) := by decide +kernel
theorem dX4_limb_14 : decode cX4_limb 14 = .ok (.iconst 0, 1) := by decide +kernel
theorem dX4_limb_15 : decode cX4_limb 15 = .ok (.ireturn, 1) := by decide +kernel
theorem dX4_limb_16 : decode cX4_limb 16 = .ok (.iload_n 2, 1) := by decide +kernel
theorem dX4_limb_17 : decode cX4_limb 17 = .ok (.ifCond .lt 8, 3) := by decide +kernel
theorem dX4_limb_20 : decode cX4_limb 20 = .ok (.iload_n 2, 1) := by decide +kernel
theorem dX4_limb_21 : decode cX4_limb 21 = .ok (.iconst 2, 1) := by decide +kernel
theorem dX4_limb_22 : decode cX4_limb 22 = .ok (.if_icmp .le 10, 3) := by decide +kernel
theorem dX4_limb_25 : decode cX4_limb 25 = .ok (.aload_n 0, 1) := by decide +kernel
theorem dX4_limb_26 : decode cX4_limb 26 = .ok (.iconst 1, 1) := by decide +kernel
theorem dX4_limb_27 : decode cX4_limb 27 = .ok (.putfield 52, 3) := by decide +kernel
theorem dX4_limb_30 : decode cX4_limb 30 = .ok (.iconst 0, 1) := by decide +kernel
theorem dX4_limb_31 : decode cX4_limb 31 = .ok (.ireturn, 1) := by decide +kernel
theorem dX4_limb_32 : decode cX4_limb 32 = .ok (.lconst 0, 1) := by decide +kernel
theorem dX4_limb_33 : decode cX4_limb 33 = .ok (.lstore_n 3, 1) := by decide +kernel
theorem dX4_limb_34 : decode cX4_limb 34 = .ok (.lconst 0, 1) := by decide +kernel
theorem dX4_limb_35 : decode cX4_limb 35 = .ok (.lstore 5, 2) := by decide +kernel
theorem dX4_limb_37 : decode cX4_limb 37 = .ok (.bipush 64, 2) := by decide +kernel
theorem dX4_limb_39 : decode cX4_limb 39 = .ok (.iload_n 1, 1) := by decide +kernel
theorem dX4_limb_40 : decode cX4_limb 40 = .ok (.imul, 1) := by decide +kernel
theorem dX4_limb_41 : decode cX4_limb 41 = .ok (.istore 7, 2) := by decide +kernel
theorem dX4_limb_43 : decode cX4_limb 43 = .ok (.iload 7, 2) := by decide +kernel
theorem dX4_limb_45 : decode cX4_limb 45 = .ok (.bipush 64, 2) := by decide +kernel
theorem dX4_limb_47 : decode cX4_limb 47 = .ok (.iload_n 1, 1) := by decide +kernel
theorem dX4_limb_48 : decode cX4_limb 48 = .ok (.imul, 1) := by decide +kernel
theorem dX4_limb_49 : decode cX4_limb 49 = .ok (.aload_n 0, 1) := by decide +kernel
theorem dX4_limb_50 : decode cX4_limb 50 = .ok (.getfield 13, 3) := by decide +kernel
theorem dX4_limb_53 : decode cX4_limb 53 = .ok (.iload_n 1, 1) := by decide +kernel
theorem dX4_limb_54 : decode cX4_limb 54 = .ok (.iaload, 1) := by decide +kernel
theorem dX4_limb_55 : decode cX4_limb 55 = .ok (.iadd, 1) := by decide +kernel
theorem dX4_limb_56 : decode cX4_limb 56 = .ok (.if_icmp .ge 38, 3) := by decide +kernel
theorem dX4_limb_59 : decode cX4_limb 59 = .ok (.lload_n 3, 1) := by decide +kernel
theorem dX4_limb_60 : decode cX4_limb 60 = .ok (.aload_n 0, 1) := by decide +kernel
theorem dX4_limb_61 : decode cX4_limb 61 = .ok (.getfield 19, 3) := by decide +kernel
theorem dX4_limb_64 : decode cX4_limb 64 = .ok (.iload 7, 2) := by decide +kernel
theorem dX4_limb_66 : decode cX4_limb 66 = .ok (.laload, 1) := by decide +kernel
theorem dX4_limb_67 : decode cX4_limb 67 = .ok (.ldc2_w 101, 3) := by decide +kernel
theorem dX4_limb_70 : decode cX4_limb 70 = .ok (.land, 1) := by decide +kernel
theorem dX4_limb_71 : decode cX4_limb 71 = .ok (.ladd, 1) := by decide +kernel
theorem dX4_limb_72 : decode cX4_limb 72 = .ok (.lstore_n 3, 1) := by decide +kernel
theorem dX4_limb_73 : decode cX4_limb 73 = .ok (.lload 5, 2) := by decide +kernel
theorem dX4_limb_75 : decode cX4_limb 75 = .ok (.aload_n 0, 1) := by decide +kernel
theorem dX4_limb_76 : decode cX4_limb 76 = .ok (.getfield 19, 3) := by decide +kernel
theorem dX4_limb_79 : decode cX4_limb 79 = .ok (.iload 7, 2) := by decide +kernel
theorem dX4_limb_81 : decode cX4_limb 81 = .ok (.laload, 1) := by decide +kernel
theorem dX4_limb_82 : decode cX4_limb 82 = .ok (.bipush 32, 2) := by decide +kernel
theorem dX4_limb_84 : decode cX4_limb 84 = .ok (.lshr, 1) := by decide +kernel
theorem dX4_limb_85 : decode cX4_limb 85 = .ok (.ladd, 1) := by decide +kernel
theorem dX4_limb_86 : decode cX4_limb 86 = .ok (.lstore 5, 2) := by decide +kernel
theorem dX4_limb_88 : decode cX4_limb 88 = .ok (.iinc 7 1, 3) := by decide +kernel
theorem dX4_limb_91 : decode cX4_limb 91 = .ok (.goto (-48), 3) := by decide +kernel
theorem dX4_limb_94 : decode cX4_limb 94 = .ok (.lload 5, 2) := by decide +kernel
theorem dX4_limb_96 : decode cX4_limb 96 = .ok (.lload_n 3, 1) := by decide +kernel
theorem dX4_limb_97 : decode cX4_limb 97 = .ok (.bipush 32, 2) := by decide +kernel
theorem dX4_limb_99 : decode cX4_limb 99 = .ok (.lshr, 1) := by decide +kernel
theorem dX4_limb_100 : decode cX4_limb 100 = .ok (.ladd, 1) := by decide +kernel
theorem dX4_limb_101 : decode cX4_limb 101 = .ok (.lstore 5, 2) := by decide +kernel
theorem dX4_limb_103 : decode cX4_limb 103 = .ok (.iload_n 2, 1) := by decide +kernel
theorem dX4_limb_104 : decode cX4_limb 104 = .ok (.ifCond .ne 8, 3) := by decide +kernel
theorem dX4_limb_107 : decode cX4_limb 107 = .ok (.lload_n 3, 1) := by decide +kernel
theorem dX4_limb_108 : decode cX4_limb 108 = .ok (.l2i, 1) := by decide +kernel
theorem dX4_limb_109 : decode cX4_limb 109 = .ok (.goto 20, 3) := by decide +kernel
theorem dX4_limb_112 : decode cX4_limb 112 = .ok (.iload_n 2, 1) := by decide +kernel
theorem dX4_limb_113 : decode cX4_limb 113 = .ok (.iconst 1, 1) := by decide +kernel
theorem dX4_limb_114 : decode cX4_limb 114 = .ok (.if_icmp .ne 9, 3) := by decide +kernel
theorem dX4_limb_117 : decode cX4_limb 117 = .ok (.lload 5, 2) := by decide +kernel
theorem dX4_limb_119 : decode cX4_limb 119 = .ok (.l2i, 1) := by decide +kernel
theorem dX4_limb_120 : decode cX4_limb 120 = .ok (.goto 9, 3) := by decide +kernel
theorem dX4_limb_123 : decode cX4_limb 123 = .ok (.lload 5, 2) := by decide +kernel
theorem dX4_limb_125 : decode cX4_limb 125 = .ok (.bipush 32, 2) := by decide +kernel
theorem dX4_limb_127 : decode cX4_limb 127 = .ok (.lshr, 1) := by decide +kernel
theorem dX4_limb_128 : decode cX4_limb 128 = .ok (.l2i, 1) := by decide +kernel
theorem dX4_limb_129 : decode cX4_limb 129 = .ok (.ireturn, 1) := by decide +kernel
theorem dX4_move_0 : decode cX4_move 0 = .ok (.iload_n 3, 1) := by decide +kernel
theorem dX4_move_1 : decode cX4_move 1 = .ok (.bipush 32, 2) := by decide +kernel
theorem dX4_move_3 : decode cX4_move 3 = .ok (.idiv, 1) := by decide +kernel
theorem dX4_move_4 : decode cX4_move 4 = .ok (.istore 6, 2) := by decide +kernel
theorem dX4_move_6 : decode cX4_move 6 = .ok (.iload_n 3, 1) := by decide +kernel
theorem dX4_move_7 : decode cX4_move 7 = .ok (.bipush 32, 2) := by decide +kernel
theorem dX4_move_9 : decode cX4_move 9 = .ok (.irem, 1) := by decide +kernel
theorem dX4_move_10 : decode cX4_move 10 = .ok (.istore 7, 2) := by decide +kernel
theorem dX4_move_12 : decode cX4_move 12 = .ok (.lload_n 1, 1) := by decide +kernel
theorem dX4_move_13 : decode cX4_move 13 = .ok (.ldc2_w 101, 3) := by decide +kernel
theorem dX4_move_16 : decode cX4_move 16 = .ok (.land, 1) := by decide +kernel
theorem dX4_move_17 : decode cX4_move 17 = .ok (.iload 7, 2) := by decide +kernel
theorem dX4_move_19 : decode cX4_move 19 = .ok (.lshl, 1) := by decide +kernel
theorem dX4_move_20 : decode cX4_move 20 = .ok (.lstore 8, 2) := by decide +kernel
theorem dX4_move_22 : decode cX4_move 22 = .ok (.lload_n 1, 1) := by decide +kernel
theorem dX4_move_23 : decode cX4_move 23 = .ok (.bipush 32, 2) := by decide +kernel
theorem dX4_move_25 : decode cX4_move 25 = .ok (.lushr, 1) := by decide +kernel
theorem dX4_move_26 : decode cX4_move 26 = .ok (.iload 7, 2) := by decide +kernel
theorem dX4_move_28 : decode cX4_move 28 = .ok (.lshl, 1) := by decide +kernel
theorem dX4_move_29 : decode cX4_move 29 = .ok (.lstore 10, 2) := by decide +kernel
theorem dX4_move_31 : decode cX4_move 31 = .ok (.aload_n 0, 1) := by decide +kernel
theorem dX4_move_32 : decode cX4_move 32 = .ok (.getfield 23, 3) := by decide +kernel
theorem dX4_move_35 : decode cX4_move 35 = .ok (.iload 6, 2) := by decide +kernel
theorem dX4_move_37 : decode cX4_move 37 = .ok (.dup2, 1) := by decide +kernel
theorem dX4_move_38 : decode cX4_move 38 = .ok (.laload, 1) := by decide +kernel
theorem dX4_move_39 : decode cX4_move 39 = .ok (.lload 4, 2) := by decide +kernel
theorem dX4_move_41 : decode cX4_move 41 = .ok (.lload 8, 2) := by decide +kernel
theorem dX4_move_43 : decode cX4_move 43 = .ok (.ldc2_w 101, 3) := by decide +kernel
theorem dX4_move_46 : decode cX4_move 46 = .ok (.land, 1) := by decide +kernel
theorem dX4_move_47 : decode cX4_move 47 = .ok (.lmul, 1) := by decide +kernel
theorem dX4_move_48 : decode cX4_move 48 = .ok (.ladd, 1) := by decide +kernel
theorem dX4_move_49 : decode cX4_move 49 = .ok (.lastore, 1) := by decide +kernel
theorem dX4_move_50 : decode cX4_move 50 = .ok (.aload_n 0, 1) := by decide +kernel
theorem dX4_move_51 : decode cX4_move 51 = .ok (.getfield 23, 3) := by decide +kernel
theorem dX4_move_54 : decode cX4_move 54 = .ok (.iload 6, 2) := by decide +kernel
theorem dX4_move_56 : decode cX4_move 56 = .ok (.iconst 1, 1) := by decide +kernel
theorem dX4_move_57 : decode cX4_move 57 = .ok (.iadd, 1) := by decide +kernel
theorem dX4_move_58 : decode cX4_move 58 = .ok (.dup2, 1) := by decide +kernel
theorem dX4_move_59 : decode cX4_move 59 = .ok (.laload, 1) := by decide +kernel
theorem dX4_move_60 : decode cX4_move 60 = .ok (.lload 4, 2) := by decide +kernel
theorem dX4_move_62 : decode cX4_move 62 = .ok (.lload 8, 2) := by decide +kernel
theorem dX4_move_64 : decode cX4_move 64 = .ok (.bipush 32, 2) := by decide +kernel
theorem dX4_move_66 : decode cX4_move 66 = .ok (.lushr, 1) := by decide +kernel
theorem dX4_move_67 : decode cX4_move 67 = .ok (.lload 10, 2) := by decide +kernel
theorem dX4_move_69 : decode cX4_move 69 = .ok (.ldc2_w 101, 3) := by decide +kernel
theorem dX4_move_72 : decode cX4_move 72 = .ok (.land, 1) := by decide +kernel
theorem dX4_move_73 : decode cX4_move 73 = .ok (.ladd, 1) := by decide +kernel
theorem dX4_move_74 : decode cX4_move 74 = .ok (.lmul, 1) := by decide +kernel
theorem dX4_move_75 : decode cX4_move 75 = .ok (.ladd, 1) := by decide +kernel
theorem dX4_move_76 : decode cX4_move 76 = .ok (.lastore, 1) := by decide +kernel
theorem dX4_move_77 : decode cX4_move 77 = .ok (.aload_n 0, 1) := by decide +kernel
theorem dX4_move_78 : decode cX4_move 78 = .ok (.getfield 23, 3) := by decide +kernel
theorem dX4_move_81 : decode cX4_move 81 = .ok (.iload 6, 2) := by decide +kernel
theorem dX4_move_83 : decode cX4_move 83 = .ok (.iconst 2, 1) := by decide +kernel
theorem dX4_move_84 : decode cX4_move 84 = .ok (.iadd, 1) := by decide +kernel
theorem dX4_move_85 : decode cX4_move 85 = .ok (.dup2, 1) := by decide +kernel
theorem dX4_move_86 : decode cX4_move 86 = .ok (.laload, 1) := by decide +kernel
theorem dX4_move_87 : decode cX4_move 87 = .ok (.lload 4, 2) := by decide +kernel
theorem dX4_move_89 : decode cX4_move 89 = .ok (.lload 10, 2) := by decide +kernel
theorem dX4_move_91 : decode cX4_move 91 = .ok (.bipush 32, 2) := by decide +kernel
theorem dX4_move_93 : decode cX4_move 93 = .ok (.lushr, 1) := by decide +kernel
theorem dX4_move_94 : decode cX4_move 94 = .ok (.lmul, 1) := by decide +kernel
theorem dX4_move_95 : decode cX4_move 95 = .ok (.ladd, 1) := by decide +kernel
theorem dX4_move_96 : decode cX4_move 96 = .ok (.lastore, 1) := by decide +kernel
theorem dX4_move_97 : decode cX4_move 97 = .ok (.return_, 1) := by decide +kernel
set_option maxRecDepth 20000 in
theorem ggX4_sum_X4_move : GoodIn wsX4_sum wsX4_move := goodIn_r _ [13, 8, 1, 14, 15, 16, 17, 18, 19, 20, 21, 22, 23, 24, 25, 26, 27, 28, 29, 30, 31, 32] (by decide +kernel) (by decide +kernel)
set_option maxRecDepth 20000 in
theorem gX4_sum_X4_move : GoodIn wsX4_sum (wsV RX4 109 RX4 yX4_move wsX4_move) := goodIn_app (goodIn_of _ (by decide +kernel)) ggX4_sum_X4_move
theorem dX4_sum_0 : decode cX4_sum 0 = .ok (.iconst 0, 1) := by decide +kernel
theorem dX4_sum_1 : decode cX4_sum 1 = .ok (.istore_n 3, 1) := by decide +kernel
theorem dX4_sum_2 : decode cX4_sum 2 = .ok (.iload_n 3, 1) := by decide +kernel
theorem dX4_sum_3 : decode cX4_sum 3 = .ok (.bipush 70, 2) := by decide +kernel
theorem dX4_sum_5 : decode cX4_sum 5 = .ok (.if_icmp .ge 16, 3) := by decide +kernel
theorem dX4_sum_8 : decode cX4_sum 8 = .ok (.aload_n 0, 1) := by decide +kernel
theorem dX4_sum_9 : decode cX4_sum 9 = .ok (.getfield 23, 3) := by decide +kernel
theorem dX4_sum_12 : decode cX4_sum 12 = .ok (.iload_n 3, 1) := by decide +kernel
theorem dX4_sum_13 : decode cX4_sum 13 = .ok (.lconst 0, 1) := by decide +kernel
theorem dX4_sum_14 : decode cX4_sum 14 = .ok (.lastore, 1) := by decide +kernel
theorem dX4_sum_15 : decode cX4_sum 15 = .ok (.iinc 3 1, 3) := by decide +kernel
theorem dX4_sum_18 : decode cX4_sum 18 = .ok (.goto (-16), 3) := by decide +kernel
theorem dX4_sum_21 : decode cX4_sum 21 = .ok (.bipush 64, 2) := by decide +kernel
theorem dX4_sum_23 : decode cX4_sum 23 = .ok (.iload_n 1, 1) := by decide +kernel
theorem dX4_sum_24 : decode cX4_sum 24 = .ok (.imul, 1) := by decide +kernel
theorem dX4_sum_25 : decode cX4_sum 25 = .ok (.istore_n 3, 1) := by decide +kernel
theorem dX4_sum_26 : decode cX4_sum 26 = .ok (.iload_n 3, 1) := by decide +kernel
theorem dX4_sum_27 : decode cX4_sum 27 = .ok (.bipush 64, 2) := by decide +kernel
theorem dX4_sum_29 : decode cX4_sum 29 = .ok (.iload_n 1, 1) := by decide +kernel
theorem dX4_sum_30 : decode cX4_sum 30 = .ok (.imul, 1) := by decide +kernel
theorem dX4_sum_31 : decode cX4_sum 31 = .ok (.aload_n 0, 1) := by decide +kernel
theorem dX4_sum_32 : decode cX4_sum 32 = .ok (.getfield 13, 3) := by decide +kernel
theorem dX4_sum_35 : decode cX4_sum 35 = .ok (.iload_n 1, 1) := by decide +kernel
theorem dX4_sum_36 : decode cX4_sum 36 = .ok (.iaload, 1) := by decide +kernel
theorem dX4_sum_37 : decode cX4_sum 37 = .ok (.iadd, 1) := by decide +kernel
theorem dX4_sum_38 : decode cX4_sum 38 = .ok (.if_icmp .ge 97, 3) := by decide +kernel
theorem dX4_sum_41 : decode cX4_sum 41 = .ok (.aload_n 0, 1) := by decide +kernel
theorem dX4_sum_42 : decode cX4_sum 42 = .ok (.getfield 19, 3) := by decide +kernel
theorem dX4_sum_45 : decode cX4_sum 45 = .ok (.iload_n 3, 1) := by decide +kernel
theorem dX4_sum_46 : decode cX4_sum 46 = .ok (.laload, 1) := by decide +kernel
theorem dX4_sum_47 : decode cX4_sum 47 = .ok (.lstore 4, 2) := by decide +kernel
theorem dX4_sum_49 : decode cX4_sum 49 = .ok (.lload 4, 2) := by decide +kernel
theorem dX4_sum_51 : decode cX4_sum 51 = .ok (.bipush 52, 2) := by decide +kernel
theorem dX4_sum_53 : decode cX4_sum 53 = .ok (.lushr, 1) := by decide +kernel
theorem dX4_sum_54 : decode cX4_sum 54 = .ok (.ldc2_w 81, 3) := by decide +kernel
theorem dX4_sum_57 : decode cX4_sum 57 = .ok (.land, 1) := by decide +kernel
theorem dX4_sum_58 : decode cX4_sum 58 = .ok (.l2i, 1) := by decide +kernel
theorem dX4_sum_59 : decode cX4_sum 59 = .ok (.istore 6, 2) := by decide +kernel
theorem dX4_sum_61 : decode cX4_sum 61 = .ok (.lload 4, 2) := by decide +kernel
theorem dX4_sum_63 : decode cX4_sum 63 = .ok (.ldc2_w 103, 3) := by decide +kernel
theorem dX4_sum_66 : decode cX4_sum 66 = .ok (.land, 1) := by decide +kernel
theorem dX4_sum_67 : decode cX4_sum 67 = .ok (.lstore 7, 2) := by decide +kernel
theorem dX4_sum_69 : decode cX4_sum 69 = .ok (.lload 4, 2) := by decide +kernel
theorem dX4_sum_71 : decode cX4_sum 71 = .ok (.lconst 0, 1) := by decide +kernel
theorem dX4_sum_72 : decode cX4_sum 72 = .ok (.lcmp, 1) := by decide +kernel
theorem dX4_sum_73 : decode cX4_sum 73 = .ok (.ifCond .ge 7, 3) := by decide +kernel
theorem dX4_sum_76 : decode cX4_sum 76 = .ok (.iconst 1, 1) := by decide +kernel
theorem dX4_sum_77 : decode cX4_sum 77 = .ok (.goto 4, 3) := by decide +kernel
theorem dX4_sum_80 : decode cX4_sum 80 = .ok (.iconst 0, 1) := by decide +kernel
theorem dX4_sum_81 : decode cX4_sum 81 = .ok (.istore 9, 2) := by decide +kernel
theorem dX4_sum_83 : decode cX4_sum 83 = .ok (.aload_n 0, 1) := by decide +kernel
theorem dX4_sum_84 : decode cX4_sum 84 = .ok (.iload 6, 2) := by decide +kernel
theorem dX4_sum_86 : decode cX4_sum 86 = .ok (.ifCond .ne 8, 3) := by decide +kernel
theorem dX4_sum_89 : decode cX4_sum 89 = .ok (.lload 7, 2) := by decide +kernel
theorem dX4_sum_91 : decode cX4_sum 91 = .ok (.goto 9, 3) := by decide +kernel
theorem dX4_sum_94 : decode cX4_sum 94 = .ok (.lload 7, 2) := by decide +kernel
theorem dX4_sum_96 : decode cX4_sum 96 = .ok (.ldc2_w 105, 3) := by decide +kernel
theorem dX4_sum_99 : decode cX4_sum 99 = .ok (.ladd, 1) := by decide +kernel
theorem dX4_sum_100 : decode cX4_sum 100 = .ok (.iload 6, 2) := by decide +kernel
theorem dX4_sum_102 : decode cX4_sum 102 = .ok (.ifCond .ne 7, 3) := by decide +kernel
theorem dX4_sum_105 : decode cX4_sum 105 = .ok (.iconst 0, 1) := by decide +kernel
theorem dX4_sum_106 : decode cX4_sum 106 = .ok (.goto 7, 3) := by decide +kernel
theorem dX4_sum_109 : decode cX4_sum 109 = .ok (.iload 6, 2) := by decide +kernel
theorem dX4_sum_111 : decode cX4_sum 111 = .ok (.iconst 1, 1) := by decide +kernel
theorem dX4_sum_112 : decode cX4_sum 112 = .ok (.isub, 1) := by decide +kernel
theorem dX4_sum_113 : decode cX4_sum 113 = .ok (.iload 9, 2) := by decide +kernel
theorem dX4_sum_115 : decode cX4_sum 115 = .ok (.iload_n 2, 1) := by decide +kernel
theorem dX4_sum_116 : decode cX4_sum 116 = .ok (.if_icmp .ne 7, 3) := by decide +kernel
theorem dX4_sum_119 : decode cX4_sum 119 = .ok (.lconst 1, 1) := by decide +kernel
theorem dX4_sum_120 : decode cX4_sum 120 = .ok (.goto 6, 3) := by decide +kernel
theorem dX4_sum_123 : decode cX4_sum 123 = .ok (.ldc2_w 107, 3) := by decide +kernel
theorem dX4_sum_126 : decode cX4_sum 126 = .ok (.invokevirtual 109, 3) := by decide +kernel
theorem dX4_sum_129 : decode cX4_sum 129 = .ok (.iinc 3 1, 3) := by decide +kernel
theorem dX4_sum_132 : decode cX4_sum 132 = .ok (.goto (-106), 3) := by decide +kernel
theorem dX4_sum_135 : decode cX4_sum 135 = .ok (.lconst 0, 1) := by decide +kernel
theorem dX4_sum_136 : decode cX4_sum 136 = .ok (.lstore_n 3, 1) := by decide +kernel
theorem dX4_sum_137 : decode cX4_sum 137 = .ok (.iconst 0, 1) := by decide +kernel
theorem dX4_sum_138 : decode cX4_sum 138 = .ok (.istore 5, 2) := by decide +kernel
theorem dX4_sum_140 : decode cX4_sum 140 = .ok (.iload 5, 2) := by decide +kernel
theorem dX4_sum_142 : decode cX4_sum 142 = .ok (.bipush 70, 2) := by decide +kernel
theorem dX4_sum_144 : decode cX4_sum 144 = .ok (.if_icmp .ge 39, 3) := by decide +kernel
theorem dX4_sum_147 : decode cX4_sum 147 = .ok (.aload_n 0, 1) := by decide +kernel
theorem dX4_sum_148 : decode cX4_sum 148 = .ok (.getfield 23, 3) := by decide +kernel
theorem dX4_sum_151 : decode cX4_sum 151 = .ok (.iload 5, 2) := by decide +kernel
theorem dX4_sum_153 : decode cX4_sum 153 = .ok (.laload, 1) := by decide +kernel
theorem dX4_sum_154 : decode cX4_sum 154 = .ok (.lload_n 3, 1) := by decide +kernel
theorem dX4_sum_155 : decode cX4_sum 155 = .ok (.ladd, 1) := by decide +kernel
theorem dX4_sum_156 : decode cX4_sum 156 = .ok (.lstore 6, 2) := by decide +kernel
theorem dX4_sum_158 : decode cX4_sum 158 = .ok (.lload 6, 2) := by decide +kernel
theorem dX4_sum_160 : decode cX4_sum 160 = .ok (.bipush 32, 2) := by decide +kernel
theorem dX4_sum_162 : decode cX4_sum 162 = .ok (.lshr, 1) := by decide +kernel
theorem dX4_sum_163 : decode cX4_sum 163 = .ok (.lstore_n 3, 1) := by decide +kernel
theorem dX4_sum_164 : decode cX4_sum 164 = .ok (.aload_n 0, 1) := by decide +kernel
theorem dX4_sum_165 : decode cX4_sum 165 = .ok (.getfield 23, 3) := by decide +kernel
theorem dX4_sum_168 : decode cX4_sum 168 = .ok (.iload 5, 2) := by decide +kernel
theorem dX4_sum_170 : decode cX4_sum 170 = .ok (.lload 6, 2) := by decide +kernel
theorem dX4_sum_172 : decode cX4_sum 172 = .ok (.ldc2_w 101, 3) := by decide +kernel
theorem dX4_sum_175 : decode cX4_sum 175 = .ok (.land, 1) := by decide +kernel
theorem dX4_sum_176 : decode cX4_sum 176 = .ok (.lastore, 1) := by decide +kernel
theorem dX4_sum_177 : decode cX4_sum 177 = .ok (.iinc 5 1, 3) := by decide +kernel
theorem dX4_sum_180 : decode cX4_sum 180 = .ok (.goto (-40), 3) := by decide +kernel
theorem dX4_sum_183 : decode cX4_sum 183 = .ok (.lload_n 3, 1) := by decide +kernel
theorem dX4_sum_184 : decode cX4_sum 184 = .ok (.lconst 0, 1) := by decide +kernel
theorem dX4_sum_185 : decode cX4_sum 185 = .ok (.lcmp, 1) := by decide +kernel
theorem dX4_sum_186 : decode cX4_sum 186 = .ok (.ifCond .lt 7, 3) := by decide +kernel
theorem dX4_sum_189 : decode cX4_sum 189 = .ok (.iconst 1, 1) := by decide +kernel
theorem dX4_sum_190 : decode cX4_sum 190 = .ok (.goto 4, 3) := by decide +kernel
theorem dX4_sum_193 : decode cX4_sum 193 = .ok (.iconst 0, 1) := by decide +kernel
theorem dX4_sum_194 : decode cX4_sum 194 = .ok (.ireturn, 1) := by decide +kernel
theorem dX4_bit_0 : decode cX4_bit 0 = .ok (.aload_n 0, 1) := by decide +kernel
theorem dX4_bit_1 : decode cX4_bit 1 = .ok (.getfield 23, 3) := by decide +kernel
theorem dX4_bit_4 : decode cX4_bit 4 = .ok (.iload_n 1, 1) := by decide +kernel
theorem dX4_bit_5 : decode cX4_bit 5 = .ok (.bipush 32, 2) := by decide +kernel
theorem dX4_bit_7 : decode cX4_bit 7 = .ok (.idiv, 1) := by decide +kernel
theorem dX4_bit_8 : decode cX4_bit 8 = .ok (.laload, 1) := by decide +kernel
theorem dX4_bit_9 : decode cX4_bit 9 = .ok (.iload_n 1, 1) := by decide +kernel
theorem dX4_bit_10 : decode cX4_bit 10 = .ok (.bipush 32, 2) := by decide +kernel
theorem dX4_bit_12 : decode cX4_bit 12 = .ok (.irem, 1) := by decide +kernel
theorem dX4_bit_13 : decode cX4_bit 13 = .ok (.lushr, 1) := by decide +kernel
theorem dX4_bit_14 : decode cX4_bit 14 = .ok (.lconst 1, 1) := by decide +kernel
theorem dX4_bit_15 : decode cX4_bit 15 = .ok (.land, 1) := by decide +kernel
theorem dX4_bit_16 : decode cX4_bit 16 = .ok (.lreturn, 1) := by decide +kernel
set_option maxRecDepth 20000 in
theorem ggX4_nearest_X4_bit : GoodIn wsX4_nearest wsX4_bit := goodIn_r _ [9, 10, 11, 12, 13, 14, 15, 16, 17, 18, 19, 20, 21, 22, 23, 24, 25, 26, 27, 28, 29] (by decide +kernel) (by decide +kernel)
set_option maxRecDepth 20000 in
theorem gX4_nearest_X4_bit : GoodIn wsX4_nearest (wsV RX4 113 RX4 yX4_bit wsX4_bit) := goodIn_app (goodIn_of _ (by decide +kernel)) ggX4_nearest_X4_bit
theorem dX4_nearest_0 : decode cX4_nearest 0 = .ok (.sipush 2239, 3) := by decide +kernel
theorem dX4_nearest_3 : decode cX4_nearest 3 = .ok (.istore_n 1, 1) := by decide +kernel
theorem dX4_nearest_4 : decode cX4_nearest 4 = .ok (.iload_n 1, 1) := by decide +kernel
theorem dX4_nearest_5 : decode cX4_nearest 5 = .ok (.ifCond .lt 19, 3) := by decide +kernel
theorem dX4_nearest_8 : decode cX4_nearest 8 = .ok (.aload_n 0, 1) := by decide +kernel
theorem dX4_nearest_9 : decode cX4_nearest 9 = .ok (.iload_n 1, 1) := by decide +kernel
theorem dX4_nearest_10 : decode cX4_nearest 10 = .ok (.invokevirtual 113, 3) := by decide +kernel
theorem dX4_nearest_13 : decode cX4_nearest 13 = .ok (.lconst 0, 1) := by decide +kernel
theorem dX4_nearest_14 : decode cX4_nearest 14 = .ok (.lcmp, 1) := by decide +kernel
theorem dX4_nearest_15 : decode cX4_nearest 15 = .ok (.ifCond .ne 9, 3) := by decide +kernel
theorem dX4_nearest_18 : decode cX4_nearest 18 = .ok (.iinc 1 (-1), 3) := by decide +kernel
theorem dX4_nearest_21 : decode cX4_nearest 21 = .ok (.goto (-17), 3) := by decide +kernel
theorem dX4_nearest_24 : decode cX4_nearest 24 = .ok (.iload_n 1, 1) := by decide +kernel
theorem dX4_nearest_25 : decode cX4_nearest 25 = .ok (.bipush 52, 2) := by decide +kernel
theorem dX4_nearest_27 : decode cX4_nearest 27 = .ok (.if_icmp .le 10, 3) := by decide +kernel
theorem dX4_nearest_30 : decode cX4_nearest 30 = .ok (.iload_n 1, 1) := by decide +kernel
theorem dX4_nearest_31 : decode cX4_nearest 31 = .ok (.bipush 52, 2) := by decide +kernel
theorem dX4_nearest_33 : decode cX4_nearest 33 = .ok (.isub, 1) := by decide +kernel
theorem dX4_nearest_34 : decode cX4_nearest 34 = .ok (.goto 4, 3) := by decide +kernel
theorem dX4_nearest_37 : decode cX4_nearest 37 = .ok (.iconst 0, 1) := by decide +kernel
theorem dX4_nearest_38 : decode cX4_nearest 38 = .ok (.istore_n 2, 1) := by decide +kernel
theorem dX4_nearest_39 : decode cX4_nearest 39 = .ok (.lconst 0, 1) := by decide +kernel
theorem dX4_nearest_40 : decode cX4_nearest 40 = .ok (.lstore_n 3, 1) := by decide +kernel
theorem dX4_nearest_41 : decode cX4_nearest 41 = .ok (.iload_n 1, 1) := by decide +kernel
theorem dX4_nearest_42 : decode cX4_nearest 42 = .ok (.istore 5, 2) := by decide +kernel
theorem dX4_nearest_44 : decode cX4_nearest 44 = .ok (.iload 5, 2) := by decide +kernel
theorem dX4_nearest_46 : decode cX4_nearest 46 = .ok (.iload_n 2, 1) := by decide +kernel
theorem dX4_nearest_47 : decode cX4_nearest 47 = .ok (.if_icmp .lt 22, 3) := by decide +kernel
theorem dX4_nearest_50 : decode cX4_nearest 50 = .ok (.ldc2_w 117, 3) := by decide +kernel
theorem dX4_nearest_53 : decode cX4_nearest 53 = .ok (.lload_n 3, 1) := by decide +kernel
theorem dX4_nearest_54 : decode cX4_nearest 54 = .ok (.lmul, 1) := by decide +kernel
theorem dX4_nearest_55 : decode cX4_nearest 55 = .ok (.aload_n 0, 1) := by decide +kernel
theorem dX4_nearest_56 : decode cX4_nearest 56 = .ok (.iload 5, 2) := by decide +kernel
theorem dX4_nearest_58 : decode cX4_nearest 58 = .ok (.invokevirtual 113, 3) := by decide +kernel
theorem dX4_nearest_61 : decode cX4_nearest 61 = .ok (.ladd, 1) := by decide +kernel
theorem dX4_nearest_62 : decode cX4_nearest 62 = .ok (.lstore_n 3, 1) := by decide +kernel
theorem dX4_nearest_63 : decode cX4_nearest 63 = .ok (.iinc 5 (-1), 3) := by decide +kernel
theorem dX4_nearest_66 : decode cX4_nearest 66 = .ok (.goto (-22), 3) := by decide +kernel
theorem dX4_nearest_69 : decode cX4_nearest 69 = .ok (.iload_n 2, 1) := by decide +kernel
theorem dX4_nearest_70 : decode cX4_nearest 70 = .ok (.ifCond .ne 5, 3) := by decide +kernel
theorem dX4_nearest_73 : decode cX4_nearest 73 = .ok (.lload_n 3, 1) := by decide +kernel
theorem dX4_nearest_74 : decode cX4_nearest 74 = .ok (.lreturn, 1) := by decide +kernel
theorem dX4_nearest_75 : decode cX4_nearest 75 = .ok (.iconst 0, 1) := by decide +kernel
theorem dX4_nearest_76 : decode cX4_nearest 76 = .ok (.istore 5, 2) := by decide +kernel
theorem dX4_nearest_78 : decode cX4_nearest 78 = .ok (.iconst 0, 1) := by decide +kernel
theorem dX4_nearest_79 : decode cX4_nearest 79 = .ok (.istore 6, 2) := by decide +kernel
theorem dX4_nearest_81 : decode cX4_nearest 81 = .ok (.iload 6, 2) := by decide +kernel
theorem dX4_nearest_83 : decode cX4_nearest 83 = .ok (.iload_n 2, 1) := by decide +kernel
theorem dX4_nearest_84 : decode cX4_nearest 84 = .ok (.iconst 1, 1) := by decide +kernel
theorem dX4_nearest_85 : decode cX4_nearest 85 = .ok (.isub, 1) := by decide +kernel
theorem dX4_nearest_86 : decode cX4_nearest 86 = .ok (.if_icmp .ge 32, 3) := by decide +kernel
theorem dX4_nearest_89 : decode cX4_nearest 89 = .ok (.iload 5, 2) := by decide +kernel
theorem dX4_nearest_91 : decode cX4_nearest 91 = .ok (.ifCond .ne 14, 3) := by decide +kernel
theorem dX4_nearest_94 : decode cX4_nearest 94 = .ok (.aload_n 0, 1) := by decide +kernel
theorem dX4_nearest_95 : decode cX4_nearest 95 = .ok (.iload 6, 2) := by decide +kernel
theorem dX4_nearest_97 : decode cX4_nearest 97 = .ok (.invokevirtual 113, 3) := by decide +kernel
theorem dX4_nearest_100 : decode cX4_nearest 100 = .ok (.lconst 1, 1) := by decide +kernel
theorem dX4_nearest_101 : decode cX4_nearest 101 = .ok (.lcmp, 1) := by decide +kernel
theorem dX4_nearest_102 : decode cX4_nearest 102 = .ok (.ifCond .ne 7, 3) := by decide +kernel
theorem dX4_nearest_105 : decode cX4_nearest 105 = .ok (.iconst 1, 1) := by decide +kernel
theorem dX4_nearest_106 : decode cX4_nearest 106 = .ok (.goto 4, 3) := by decide +kernel
theorem dX4_nearest_109 : decode cX4_nearest 109 = .ok (.iconst 0, 1) := by decide +kernel
theorem dX4_nearest_110 : decode cX4_nearest 110 = .ok (.istore 5, 2) := by decide +kernel
theorem dX4_nearest_112 : decode cX4_nearest 112 = .ok (.iinc 6 1, 3) := by decide +kernel
theorem dX4_nearest_115 : decode cX4_nearest 115 = .ok (.goto (-34), 3) := by decide +kernel
theorem dX4_nearest_118 : decode cX4_nearest 118 = .ok (.aload_n 0, 1) := by decide +kernel
theorem dX4_nearest_119 : decode cX4_nearest 119 = .ok (.iload_n 2, 1) := by decide +kernel
theorem dX4_nearest_120 : decode cX4_nearest 120 = .ok (.iconst 1, 1) := by decide +kernel
theorem dX4_nearest_121 : decode cX4_nearest 121 = .ok (.isub, 1) := by decide +kernel
theorem dX4_nearest_122 : decode cX4_nearest 122 = .ok (.invokevirtual 113, 3) := by decide +kernel
theorem dX4_nearest_125 : decode cX4_nearest 125 = .ok (.lconst 1, 1) := by decide +kernel
theorem dX4_nearest_126 : decode cX4_nearest 126 = .ok (.lcmp, 1) := by decide +kernel
theorem dX4_nearest_127 : decode cX4_nearest 127 = .ok (.ifCond .ne 22, 3) := by decide +kernel
theorem dX4_nearest_130 : decode cX4_nearest 130 = .ok (.iload 5, 2) := by decide +kernel
theorem dX4_nearest_132 : decode cX4_nearest 132 = .ok (.ifCond .ne 13, 3) := by decide +kernel
theorem dX4_nearest_135 : decode cX4_nearest 135 = .ok (.lload_n 3, 1) := by decide +kernel
theorem dX4_nearest_136 : decode cX4_nearest 136 = .ok (.ldc2_w 117, 3) := by decide +kernel
theorem dX4_nearest_139 : decode cX4_nearest 139 = .ok (.lrem, 1) := by decide +kernel
theorem dX4_nearest_140 : decode cX4_nearest 140 = .ok (.lconst 1, 1) := by decide +kernel
theorem dX4_nearest_141 : decode cX4_nearest 141 = .ok (.lcmp, 1) := by decide +kernel
theorem dX4_nearest_142 : decode cX4_nearest 142 = .ok (.ifCond .ne 7, 3) := by decide +kernel
theorem dX4_nearest_145 : decode cX4_nearest 145 = .ok (.lload_n 3, 1) := by decide +kernel
theorem dX4_nearest_146 : decode cX4_nearest 146 = .ok (.lconst 1, 1) := by decide +kernel
