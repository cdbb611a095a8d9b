theorem dX4_look_1 : decode cX4_look 1 = .ok (.getfield 32, 3) := by decide +kernel
theorem dX4_look_4 : decode cX4_look 4 = .ok (.bipush 8, 2) := by decide +kernel
theorem dX4_look_6 : decode cX4_look 6 = .ok (.iload_n 1, 1) := by decide +kernel
theorem dX4_look_7 : decode cX4_look 7 = .ok (.imul, 1) := by decide +kernel
theorem dX4_look_8 : decode cX4_look 8 = .ok (.aload_n 0, 1) := by decide +kernel
theorem dX4_look_9 : decode cX4_look 9 = .ok (.getfield 155, 3) := by decide +kernel
theorem dX4_look_12 : decode cX4_look 12 = .ok (.iadd, 1) := by decide +kernel
theorem dX4_look_13 : decode cX4_look 13 = .ok (.iaload, 1) := by decide +kernel
theorem dX4_look_14 : decode cX4_look 14 = .ok (.iload_n 1, 1) := by decide +kernel
theorem dX4_look_15 : decode cX4_look 15 = .ok (.if_icmp .eq 14, 3) := by decide +kernel
theorem dX4_look_18 : decode cX4_look 18 = .ok (.aload_n 0, 1) := by decide +kernel
theorem dX4_look_19 : decode cX4_look 19 = .ok (.iconst 1, 1) := by decide +kernel
theorem dX4_look_20 : decode cX4_look 20 = .ok (.putfield 158, 3) := by decide +kernel
theorem dX4_look_23 : decode cX4_look 23 = .ok (.aload_n 0, 1) := by decide +kernel
theorem dX4_look_24 : decode cX4_look 24 = .ok (.iload_n 1, 1) := by decide +kernel
theorem dX4_look_25 : decode cX4_look 25 = .ok (.putfield 161, 3) := by decide +kernel
theorem dX4_look_28 : decode cX4_look 28 = .ok (.return_, 1) := by decide +kernel
theorem dX4_look_29 : decode cX4_look 29 = .ok (.iconst 0, 1) := by decide +kernel
theorem dX4_look_30 : decode cX4_look 30 = .ok (.istore_n 2, 1) := by decide +kernel
theorem dX4_look_31 : decode cX4_look 31 = .ok (.iload_n 2, 1) := by decide +kernel
theorem dX4_look_32 : decode cX4_look 32 = .ok (.bipush 32, 2) := by decide +kernel
theorem dX4_look_34 : decode cX4_look 34 = .ok (.if_icmp .ge 92, 3) := by decide +kernel
theorem dX4_look_37 : decode cX4_look 37 = .ok (.aload_n 0, 1) := by decide +kernel
theorem dX4_look_38 : decode cX4_look 38 = .ok (.getfield 158, 3) := by decide +kernel
theorem dX4_look_41 : decode cX4_look 41 = .ok (.ifCond .ne 85, 3) := by decide +kernel
theorem dX4_look_44 : decode cX4_look 44 = .ok (.iload_n 2, 1) := by decide +kernel
theorem dX4_look_45 : decode cX4_look 45 = .ok (.iconst 4, 1) := by decide +kernel
theorem dX4_look_46 : decode cX4_look 46 = .ok (.idiv, 1) := by decide +kernel
theorem dX4_look_47 : decode cX4_look 47 = .ok (.istore_n 3, 1) := by decide +kernel
theorem dX4_look_48 : decode cX4_look 48 = .ok (.aload_n 0, 1) := by decide +kernel
theorem dX4_look_49 : decode cX4_look 49 = .ok (.getfield 35, 3) := by decide +kernel
theorem dX4_look_52 : decode cX4_look 52 = .ok (.iload_n 3, 1) := by decide +kernel
theorem dX4_look_53 : decode cX4_look 53 = .ok (.baload, 1) := by decide +kernel
theorem dX4_look_54 : decode cX4_look 54 = .ok (.ifCond .eq 66, 3) := by decide +kernel
theorem dX4_look_57 : decode cX4_look 57 = .ok (.aload_n 0, 1) := by decide +kernel
theorem dX4_look_58 : decode cX4_look 58 = .ok (.getfield 32, 3) := by decide +kernel
theorem dX4_look_61 : decode cX4_look 61 = .ok (.bipush 8, 2) := by decide +kernel
theorem dX4_look_63 : decode cX4_look 63 = .ok (.iload_n 1, 1) := by decide +kernel
theorem dX4_look_64 : decode cX4_look 64 = .ok (.imul, 1) := by decide +kernel
theorem dX4_look_65 : decode cX4_look 65 = .ok (.aload_n 0, 1) := by decide +kernel
theorem dX4_look_66 : decode cX4_look 66 = .ok (.getfield 29, 3) := by decide +kernel
theorem dX4_look_69 : decode cX4_look 69 = .ok (.iload_n 2, 1) := by decide +kernel
theorem dX4_look_70 : decode cX4_look 70 = .ok (.iaload, 1) := by decide +kernel
theorem dX4_look_71 : decode cX4_look 71 = .ok (.iadd, 1) := by decide +kernel
theorem dX4_look_72 : decode cX4_look 72 = .ok (.iaload, 1) := by decide +kernel
theorem dX4_look_73 : decode cX4_look 73 = .ok (.aload_n 0, 1) := by decide +kernel
theorem dX4_look_74 : decode cX4_look 74 = .ok (.getfield 29, 3) := by decide +kernel
theorem dX4_look_77 : decode cX4_look 77 = .ok (.iconst 4, 1) := by decide +kernel
theorem dX4_look_78 : decode cX4_look 78 = .ok (.aload_n 0, 1) := by decide +kernel
theorem dX4_look_79 : decode cX4_look 79 = .ok (.getfield 32, 3) := by decide +kernel
theorem dX4_look_82 : decode cX4_look 82 = .ok (.bipush 8, 2) := by decide +kernel
theorem dX4_look_84 : decode cX4_look 84 = .ok (.iload_n 1, 1) := by decide +kernel
theorem dX4_look_85 : decode cX4_look 85 = .ok (.imul, 1) := by decide +kernel
theorem dX4_look_86 : decode cX4_look 86 = .ok (.iload_n 3, 1) := by decide +kernel
theorem dX4_look_87 : decode cX4_look 87 = .ok (.iadd, 1) := by decide +kernel
theorem dX4_look_88 : decode cX4_look 88 = .ok (.iaload, 1) := by decide +kernel
theorem dX4_look_89 : decode cX4_look 89 = .ok (.imul, 1) := by decide +kernel
theorem dX4_look_90 : decode cX4_look 90 = .ok (.iload_n 2, 1) := by decide +kernel
theorem dX4_look_91 : decode cX4_look 91 = .ok (.iconst 4, 1) := by decide +kernel
theorem dX4_look_92 : decode cX4_look 92 = .ok (.irem, 1) := by decide +kernel
theorem dX4_look_93 : decode cX4_look 93 = .ok (.iadd, 1) := by decide +kernel
theorem dX4_look_94 : decode cX4_look 94 = .ok (.iaload, 1) := by decide +kernel
theorem dX4_look_95 : decode cX4_look 95 = .ok (.if_icmp .eq 25, 3) := by decide +kernel
theorem dX4_look_98 : decode cX4_look 98 = .ok (.aload_n 0, 1) := by decide +kernel
theorem dX4_look_99 : decode cX4_look 99 = .ok (.iconst 2, 1) := by decide +kernel
theorem dX4_look_100 : decode cX4_look 100 = .ok (.putfield 158, 3) := by decide +kernel
theorem dX4_look_103 : decode cX4_look 103 = .ok (.aload_n 0, 1) := by decide +kernel
theorem dX4_look_104 : decode cX4_look 104 = .ok (.iload_n 1, 1) := by decide +kernel
theorem dX4_look_105 : decode cX4_look 105 = .ok (.putfield 161, 3) := by decide +kernel
theorem dX4_look_108 : decode cX4_look 108 = .ok (.aload_n 0, 1) := by decide +kernel
theorem dX4_look_109 : decode cX4_look 109 = .ok (.iload_n 3, 1) := by decide +kernel
theorem dX4_look_110 : decode cX4_look 110 = .ok (.putfield 164, 3) := by decide +kernel
theorem dX4_look_113 : decode cX4_look 113 = .ok (.aload_n 0, 1) := by decide +kernel
theorem dX4_look_114 : decode cX4_look 114 = .ok (.iload_n 2, 1) := by decide +kernel
theorem dX4_look_115 : decode cX4_look 115 = .ok (.iconst 4, 1) := by decide +kernel
theorem dX4_look_116 : decode cX4_look 116 = .ok (.irem, 1) := by decide +kernel
theorem dX4_look_117 : decode cX4_look 117 = .ok (.putfield 167, 3) := by decide +kernel
theorem dX4_look_120 : decode cX4_look 120 = .ok (.iinc 2 1, 3) := by decide +kernel
theorem dX4_look_123 : decode cX4_look 123 = .ok (.goto (-92), 3) := by decide +kernel
theorem dX4_look_126 : decode cX4_look 126 = .ok (.return_, 1) := by decide +kernel
set_option maxRecDepth 20000 in
theorem ggX4_check_X4_in : GoodIn wsX4_check wsX4_in := goodIn_r _ [11] (by decide +kernel) (by decide +kernel)
set_option maxRecDepth 20000 in
theorem gX4_check_X4_in : GoodIn wsX4_check (va_wsS RX4 63 yX4_in wsX4_in) := goodIn_app (goodIn_of _ (by decide +kernel)) ggX4_check_X4_in
set_option maxRecDepth 20000 in
theorem ggX4_check_X4_reach : GoodIn wsX4_check wsX4_reach := goodIn_r _ [15, 4, 16, 17, 23, 24, 25, 26, 27, 28, 29, 30, 31, 32, 33, 34, 35, 36, 37, 38, 39, 40, 41] (by decide +kernel) (by decide +kernel)
set_option maxRecDepth 20000 in
theorem gX4_check_X4_reach : GoodIn wsX4_check (wsV RX4 170 RX4 yX4_reach wsX4_reach) := goodIn_app (goodIn_of _ (by decide +kernel)) ggX4_check_X4_reach
set_option maxRecDepth 20000 in
theorem ggX4_check_X4_look : GoodIn wsX4_check wsX4_look := goodIn_r _ [21, 22, 16, 3, 5, 4, 17, 6, 7, 23, 24, 25, 26, 27, 28, 29, 30, 31, 32, 33, 34, 35, 36, 37, 38, 39, 40, 41] (by decide +kernel) (by decide +kernel)
set_option maxRecDepth 20000 in
theorem gX4_check_X4_look : GoodIn wsX4_check (wsV RX4 173 RX4 yX4_look wsX4_look) := goodIn_app (goodIn_of _ (by decide +kernel)) ggX4_check_X4_look
theorem dX4_check_0 : decode cX4_check 0 = .ok (.aload_n 0, 1) := by decide +kernel
theorem dX4_check_1 : decode cX4_check 1 = .ok (.iconst 0, 1) := by decide +kernel
theorem dX4_check_2 : decode cX4_check 2 = .ok (.putfield 52, 3) := by decide +kernel
theorem dX4_check_5 : decode cX4_check 5 = .ok (.iload_n 1, 1) := by decide +kernel
theorem dX4_check_6 : decode cX4_check 6 = .ok (.i2l, 1) := by decide +kernel
theorem dX4_check_7 : decode cX4_check 7 = .ok (.lconst 0, 1) := by decide +kernel
theorem dX4_check_8 : decode cX4_check 8 = .ok (.ldc2_w 71, 3) := by decide +kernel
theorem dX4_check_11 : decode cX4_check 11 = .ok (.invokestatic 63, 3) := by decide +kernel
theorem dX4_check_14 : decode cX4_check 14 = .ok (.ifCond .ne 6, 3) := by decide +kernel
theorem dX4_check_17 : decode cX4_check 17 = .ok (.bipush (-2), 2) := by decide +kernel
theorem dX4_check_19 : decode cX4_check 19 = .ok (.ireturn, 1) := by decide +kernel
theorem dX4_check_20 : decode cX4_check 20 = .ok (.aload_n 0, 1) := by decide +kernel
theorem dX4_check_21 : decode cX4_check 21 = .ok (.invokevirtual 170, 3) := by decide +kernel
theorem dX4_check_24 : decode cX4_check 24 = .ok (.aload_n 0, 1) := by decide +kernel
theorem dX4_check_25 : decode cX4_check 25 = .ok (.iconst 0, 1) := by decide +kernel
theorem dX4_check_26 : decode cX4_check 26 = .ok (.putfield 158, 3) := by decide +kernel
theorem dX4_check_29 : decode cX4_check 29 = .ok (.iconst 0, 1) := by decide +kernel
theorem dX4_check_30 : decode cX4_check 30 = .ok (.istore_n 2, 1) := by decide +kernel
theorem dX4_check_31 : decode cX4_check 31 = .ok (.iload_n 2, 1) := by decide +kernel
theorem dX4_check_32 : decode cX4_check 32 = .ok (.bipush 8, 2) := by decide +kernel
theorem dX4_check_34 : decode cX4_check 34 = .ok (.if_icmp .ge 30, 3) := by decide +kernel
theorem dX4_check_37 : decode cX4_check 37 = .ok (.aload_n 0, 1) := by decide +kernel
theorem dX4_check_38 : decode cX4_check 38 = .ok (.getfield 158, 3) := by decide +kernel
theorem dX4_check_41 : decode cX4_check 41 = .ok (.ifCond .ne 23, 3) := by decide +kernel
theorem dX4_check_44 : decode cX4_check 44 = .ok (.aload_n 0, 1) := by decide +kernel
theorem dX4_check_45 : decode cX4_check 45 = .ok (.getfield 35, 3) := by decide +kernel
theorem dX4_check_48 : decode cX4_check 48 = .ok (.iload_n 2, 1) := by decide +kernel
theorem dX4_check_49 : decode cX4_check 49 = .ok (.baload, 1) := by decide +kernel
theorem dX4_check_50 : decode cX4_check 50 = .ok (.ifCond .eq 8, 3) := by decide +kernel
theorem dX4_check_53 : decode cX4_check 53 = .ok (.aload_n 0, 1) := by decide +kernel
theorem dX4_check_54 : decode cX4_check 54 = .ok (.iload_n 2, 1) := by decide +kernel
theorem dX4_check_55 : decode cX4_check 55 = .ok (.invokevirtual 173, 3) := by decide +kernel
theorem dX4_check_58 : decode cX4_check 58 = .ok (.iinc 2 1, 3) := by decide +kernel
theorem dX4_check_61 : decode cX4_check 61 = .ok (.goto (-30), 3) := by decide +kernel
theorem dX4_check_64 : decode cX4_check 64 = .ok (.iload_n 1, 1) := by decide +kernel
theorem dX4_check_65 : decode cX4_check 65 = .ok (.ifCond .ne 8, 3) := by decide +kernel
theorem dX4_check_68 : decode cX4_check 68 = .ok (.aload_n 0, 1) := by decide +kernel
theorem dX4_check_69 : decode cX4_check 69 = .ok (.getfield 158, 3) := by decide +kernel
theorem dX4_check_72 : decode cX4_check 72 = .ok (.ireturn, 1) := by decide +kernel
theorem dX4_check_73 : decode cX4_check 73 = .ok (.aload_n 0, 1) := by decide +kernel
theorem dX4_check_74 : decode cX4_check 74 = .ok (.getfield 158, 3) := by decide +kernel
theorem dX4_check_77 : decode cX4_check 77 = .ok (.ifCond .eq 16, 3) := by decide +kernel
theorem dX4_check_80 : decode cX4_check 80 = .ok (.aload_n 0, 1) := by decide +kernel
theorem dX4_check_81 : decode cX4_check 81 = .ok (.getfield 158, 3) := by decide +kernel
theorem dX4_check_84 : decode cX4_check 84 = .ok (.iconst 1, 1) := by decide +kernel
theorem dX4_check_85 : decode cX4_check 85 = .ok (.if_icmp .ne 11, 3) := by decide +kernel
theorem dX4_check_88 : decode cX4_check 88 = .ok (.iload_n 1, 1) := by decide +kernel
theorem dX4_check_89 : decode cX4_check 89 = .ok (.iconst 1, 1) := by decide +kernel
theorem dX4_check_90 : decode cX4_check 90 = .ok (.if_icmp .le 6, 3) := by decide +kernel
theorem dX4_check_93 : decode cX4_check 93 = .ok (.bipush (-3), 2) := by decide +kernel
theorem dX4_check_95 : decode cX4_check 95 = .ok (.ireturn, 1) := by decide +kernel
theorem dX4_check_96 : decode cX4_check 96 = .ok (.iload_n 1, 1) := by decide +kernel
theorem dX4_check_97 : decode cX4_check 97 = .ok (.iconst 1, 1) := by decide +kernel
theorem dX4_check_98 : decode cX4_check 98 = .ok (.if_icmp .ne 10, 3) := by decide +kernel
theorem dX4_check_101 : decode cX4_check 101 = .ok (.aload_n 0, 1) := by decide +kernel
theorem dX4_check_102 : decode cX4_check 102 = .ok (.getfield 161, 3) := by decide +kernel
theorem dX4_check_105 : decode cX4_check 105 = .ok (.goto 19, 3) := by decide +kernel
theorem dX4_check_108 : decode cX4_check 108 = .ok (.iload_n 1, 1) := by decide +kernel
theorem dX4_check_109 : decode cX4_check 109 = .ok (.iconst 2, 1) := by decide +kernel
theorem dX4_check_110 : decode cX4_check 110 = .ok (.if_icmp .ne 10, 3) := by decide +kernel
theorem dX4_check_113 : decode cX4_check 113 = .ok (.aload_n 0, 1) := by decide +kernel
theorem dX4_check_114 : decode cX4_check 114 = .ok (.getfield 164, 3) := by decide +kernel
theorem dX4_check_117 : decode cX4_check 117 = .ok (.goto 7, 3) := by decide +kernel
theorem dX4_check_120 : decode cX4_check 120 = .ok (.aload_n 0, 1) := by decide +kernel
theorem dX4_check_121 : decode cX4_check 121 = .ok (.getfield 167, 3) := by decide +kernel
theorem dX4_check_124 : decode cX4_check 124 = .ok (.ireturn, 1) := by decide +kernel
set_option maxRecDepth 20000 in
theorem ggX4_halved_X4_single : GoodIn wsX4_halved wsX4_single := goodIn_r _ [10, 11, 12, 13, 14, 15, 16, 17, 18, 19, 20, 21, 22, 23, 24, 25, 26, 27, 28, 29, 30, 31, 32, 33] (by decide +kernel) (by decide +kernel)
set_option maxRecDepth 20000 in
theorem gX4_halved_X4_single : GoodIn wsX4_halved (wsV RX4 176 RX4 yX4_single wsX4_single) := goodIn_app (goodIn_of _ (by decide +kernel)) ggX4_halved_X4_single
theorem dX4_halved_0 : decode cX4_halved 0 = .ok (.iconst 1, 1) := by decide +kernel
theorem dX4_halved_1 : decode cX4_halved 1 = .ok (.istore_n 2, 1) := by decide +kernel
theorem dX4_halved_2 : decode cX4_halved 2 = .ok (.iconst 0, 1) := by decide +kernel
theorem dX4_halved_3 : decode cX4_halved 3 = .ok (.istore_n 3, 1) := by decide +kernel
theorem dX4_halved_4 : decode cX4_halved 4 = .ok (.aload_n 0, 1) := by decide +kernel
theorem dX4_halved_5 : decode cX4_halved 5 = .ok (.getfield 39, 3) := by decide +kernel
theorem dX4_halved_8 : decode cX4_halved 8 = .ok (.iconst 0, 1) := by decide +kernel
theorem dX4_halved_9 : decode cX4_halved 9 = .ok (.iconst 0, 1) := by decide +kernel
theorem dX4_halved_10 : decode cX4_halved 10 = .ok (.iastore, 1) := by decide +kernel
theorem dX4_halved_11 : decode cX4_halved 11 = .ok (.aload_n 0, 1) := by decide +kernel
theorem dX4_halved_12 : decode cX4_halved 12 = .ok (.getfield 42, 3) := by decide +kernel
theorem dX4_halved_15 : decode cX4_halved 15 = .ok (.iconst 0, 1) := by decide +kernel
theorem dX4_halved_16 : decode cX4_halved 16 = .ok (.aload_n 0, 1) := by decide +kernel
theorem dX4_halved_17 : decode cX4_halved 17 = .ok (.getfield 13, 3) := by decide +kernel
theorem dX4_halved_20 : decode cX4_halved 20 = .ok (.iload_n 1, 1) := by decide +kernel
theorem dX4_halved_21 : decode cX4_halved 21 = .ok (.iaload, 1) := by decide +kernel
theorem dX4_halved_22 : decode cX4_halved 22 = .ok (.iastore, 1) := by decide +kernel
theorem dX4_halved_23 : decode cX4_halved 23 = .ok (.iload_n 2, 1) := by decide +kernel
theorem dX4_halved_24 : decode cX4_halved 24 = .ok (.ifCond .le 153, 3) := by decide +kernel
theorem dX4_halved_27 : decode cX4_halved 27 = .ok (.iinc 2 (-1), 3) := by decide +kernel
theorem dX4_halved_30 : decode cX4_halved 30 = .ok (.aload_n 0, 1) := by decide +kernel
theorem dX4_halved_31 : decode cX4_halved 31 = .ok (.getfield 39, 3) := by decide +kernel
theorem dX4_halved_34 : decode cX4_halved 34 = .ok (.iload_n 2, 1) := by decide +kernel
theorem dX4_halved_35 : decode cX4_halved 35 = .ok (.iaload, 1) := by decide +kernel
theorem dX4_halved_36 : decode cX4_halved 36 = .ok (.istore 4, 2) := by decide +kernel
theorem dX4_halved_38 : decode cX4_halved 38 = .ok (.aload_n 0, 1) := by decide +kernel
theorem dX4_halved_39 : decode cX4_halved 39 = .ok (.getfield 42, 3) := by decide +kernel
theorem dX4_halved_42 : decode cX4_halved 42 = .ok (.iload_n 2, 1) := by decide +kernel
theorem dX4_halved_43 : decode cX4_halved 43 = .ok (.iaload, 1) := by decide +kernel
theorem dX4_halved_44 : decode cX4_halved 44 = .ok (.istore 5, 2) := by decide +kernel
theorem dX4_halved_46 : decode cX4_halved 46 = .ok (.iload 5, 2) := by decide +kernel
theorem dX4_halved_48 : decode cX4_halved 48 = .ok (.ifCond .ne 40, 3) := by decide +kernel
theorem dX4_halved_51 : decode cX4_halved 51 = .ok (.iinc 3 (-1), 3) := by decide +kernel
theorem dX4_halved_54 : decode cX4_halved 54 = .ok (.aload_n 0, 1) := by decide +kernel
theorem dX4_halved_55 : decode cX4_halved 55 = .ok (.getfield 45, 3) := by decide +kernel
theorem dX4_halved_58 : decode cX4_halved 58 = .ok (.iload_n 3, 1) := by decide +kernel
theorem dX4_halved_59 : decode cX4_halved 59 = .ok (.iconst 1, 1) := by decide +kernel
theorem dX4_halved_60 : decode cX4_halved 60 = .ok (.isub, 1) := by decide +kernel
theorem dX4_halved_61 : decode cX4_halved 61 = .ok (.aload_n 0, 1) := by decide +kernel
theorem dX4_halved_62 : decode cX4_halved 62 = .ok (.getfield 32, 3) := by decide +kernel
theorem dX4_halved_65 : decode cX4_halved 65 = .ok (.bipush 8, 2) := by decide +kernel
theorem dX4_halved_67 : decode cX4_halved 67 = .ok (.aload_n 0, 1) := by decide +kernel
theorem dX4_halved_68 : decode cX4_halved 68 = .ok (.getfield 45, 3) := by decide +kernel
theorem dX4_halved_71 : decode cX4_halved 71 = .ok (.iload_n 3, 1) := by decide +kernel
theorem dX4_halved_72 : decode cX4_halved 72 = .ok (.iconst 1, 1) := by decide +kernel
theorem dX4_halved_73 : decode cX4_halved 73 = .ok (.isub, 1) := by decide +kernel
theorem dX4_halved_74 : decode cX4_halved 74 = .ok (.iaload, 1) := by decide +kernel
theorem dX4_halved_75 : decode cX4_halved 75 = .ok (.imul, 1) := by decide +kernel
theorem dX4_halved_76 : decode cX4_halved 76 = .ok (.aload_n 0, 1) := by decide +kernel
theorem dX4_halved_77 : decode cX4_halved 77 = .ok (.getfield 45, 3) := by decide +kernel
theorem dX4_halved_80 : decode cX4_halved 80 = .ok (.iload_n 3, 1) := by decide +kernel
theorem dX4_halved_81 : decode cX4_halved 81 = .ok (.iaload, 1) := by decide +kernel
theorem dX4_halved_82 : decode cX4_halved 82 = .ok (.iadd, 1) := by decide +kernel
theorem dX4_halved_83 : decode cX4_halved 83 = .ok (.iaload, 1) := by decide +kernel
theorem dX4_halved_84 : decode cX4_halved 84 = .ok (.iastore, 1) := by decide +kernel
theorem dX4_halved_85 : decode cX4_halved 85 = .ok (.goto 89, 3) := by decide +kernel
theorem dX4_halved_88 : decode cX4_halved 88 = .ok (.iload 5, 2) := by decide +kernel
theorem dX4_halved_90 : decode cX4_halved 90 = .ok (.iconst 1, 1) := by decide +kernel
theorem dX4_halved_91 : decode cX4_halved 91 = .ok (.if_icmp .ne 21, 3) := by decide +kernel
theorem dX4_halved_94 : decode cX4_halved 94 = .ok (.aload_n 0, 1) := by decide +kernel
theorem dX4_halved_95 : decode cX4_halved 95 = .ok (.getfield 45, 3) := by decide +kernel
theorem dX4_halved_98 : decode cX4_halved 98 = .ok (.iload_n 3, 1) := by decide +kernel
theorem dX4_halved_99 : decode cX4_halved 99 = .ok (.aload_n 0, 1) := by decide +kernel
theorem dX4_halved_100 : decode cX4_halved 100 = .ok (.iload 4, 2) := by decide +kernel
theorem dX4_halved_102 : decode cX4_halved 102 = .ok (.invokevirtual 176, 3) := by decide +kernel
theorem dX4_halved_105 : decode cX4_halved 105 = .ok (.iastore, 1) := by decide +kernel
theorem dX4_halved_106 : decode cX4_halved 106 = .ok (.iinc 3 1, 3) := by decide +kernel
theorem dX4_halved_109 : decode cX4_halved 109 = .ok (.goto 65, 3) := by decide +kernel
theorem dX4_halved_112 : decode cX4_halved 112 = .ok (.aload_n 0, 1) := by decide +kernel
theorem dX4_halved_113 : decode cX4_halved 113 = .ok (.getfield 42, 3) := by decide +kernel
theorem dX4_halved_116 : decode cX4_halved 116 = .ok (.iload_n 2, 1) := by decide +kernel
theorem dX4_halved_117 : decode cX4_halved 117 = .ok (.iconst 0, 1) := by decide +kernel
theorem dX4_halved_118 : decode cX4_halved 118 = .ok (.iastore, 1) := by decide +kernel
theorem dX4_halved_119 : decode cX4_halved 119 = .ok (.aload_n 0, 1) := by decide +kernel
theorem dX4_halved_120 : decode cX4_halved 120 = .ok (.getfield 39, 3) := by decide +kernel
theorem dX4_halved_123 : decode cX4_halved 123 = .ok (.iload_n 2, 1) := by decide +kernel
theorem dX4_halved_124 : decode cX4_halved 124 = .ok (.iconst 1, 1) := by decide +kernel
theorem dX4_halved_125 : decode cX4_halved 125 = .ok (.iadd, 1) := by decide +kernel
theorem dX4_halved_126 : decode cX4_halved 126 = .ok (.iload 4, 2) := by decide +kernel
theorem dX4_halved_128 : decode cX4_halved 128 = .ok (.iload 5, 2) := by decide +kernel
theorem dX4_halved_130 : decode cX4_halved 130 = .ok (.iconst 2, 1) := by decide +kernel
theorem dX4_halved_131 : decode cX4_halved 131 = .ok (.idiv, 1) := by decide +kernel
theorem dX4_halved_132 : decode cX4_halved 132 = .ok (.iadd, 1) := by decide +kernel
theorem dX4_halved_133 : decode cX4_halved 133 = .ok (.iastore, 1) := by decide +kernel
theorem dX4_halved_134 : decode cX4_halved 134 = .ok (.aload_n 0, 1) := by decide +kernel
theorem dX4_halved_135 : decode cX4_halved 135 = .ok (.getfield 42, 3) := by decide +kernel
theorem dX4_halved_138 : decode cX4_halved 138 = .ok (.iload_n 2, 1) := by decide +kernel
theorem dX4_halved_139 : decode cX4_halved 139 = .ok (.iconst 1, 1) := by decide +kernel
theorem dX4_halved_140 : decode cX4_halved 140 = .ok (.iadd, 1) := by decide +kernel
theorem dX4_halved_141 : decode cX4_halved 141 = .ok (.iload 5, 2) := by decide +kernel
theorem dX4_halved_143 : decode cX4_halved 143 = .ok (.iload 5, 2) := by decide +kernel
theorem dX4_halved_145 : decode cX4_halved 145 = .ok (.iconst 2, 1) := by decide +kernel
theorem dX4_halved_146 : decode cX4_halved 146 = .ok (.idiv, 1) := by decide +kernel
theorem dX4_halved_147 : decode cX4_halved 147 = .ok (.isub, 1) := by decide +kernel
theorem dX4_halved_148 : decode cX4_halved 148 = .ok (.iastore, 1) := by decide +kernel
theorem dX4_halved_149 : decode cX4_halved 149 = .ok (.aload_n 0, 1) := by decide +kernel
theorem dX4_halved_150 : decode cX4_halved 150 = .ok (.getfield 39, 3) := by decide +kernel
theorem dX4_halved_153 : decode cX4_halved 153 = .ok (.iload_n 2, 1) := by decide +kernel
theorem dX4_halved_154 : decode cX4_halved 154 = .ok (.iconst 2, 1) := by decide +kernel
theorem dX4_halved_155 : decode cX4_halved 155 = .ok (.iadd, 1) := by decide +kernel
theorem dX4_halved_156 : decode cX4_halved 156 = .ok (.iload 4, 2) := by decide +kernel
theorem dX4_halved_158 : decode cX4_halved 158 = .ok (.iastore, 1) := by decide +kernel
theorem dX4_halved_159 : decode cX4_halved 159 = .ok (.aload_n 0, 1) := by decide +kernel
theorem dX4_halved_160 : decode cX4_halved 160 = .ok (.getfield 42, 3) := by decide +kernel
theorem dX4_halved_163 : decode cX4_halved 163 = .ok (.iload_n 2, 1) := by decide +kernel
theorem dX4_halved_164 : decode cX4_halved 164 = .ok (.iconst 2, 1) := by decide +kernel
theorem dX4_halved_165 : decode cX4_halved 165 = .ok (.iadd, 1) := by decide +kernel
theorem dX4_halved_166 : decode cX4_halved 166 = .ok (.iload 5, 2) := by decide +kernel
theorem dX4_halved_168 : decode cX4_halved 168 = .ok (.iconst 2, 1) := by decide +kernel
theorem dX4_halved_169 : decode cX4_halved 169 = .ok (.idiv, 1) := by decide +kernel
theorem dX4_halved_170 : decode cX4_halved 170 = .ok (.iastore, 1) := by decide +kernel
theorem dX4_halved_171 : decode cX4_halved 171 = .ok (.iinc 2 3, 3) := by decide +kernel
theorem dX4_halved_174 : decode cX4_halved 174 = .ok (.goto (-151), 3) := by decide +kernel
theorem dX4_halved_177 : decode cX4_halved 177 = .ok (.aload_n 0, 1) := by decide +kernel
theorem dX4_halved_178 : decode cX4_halved 178 = .ok (.getfield 45, 3) := by decide +kernel
theorem dX4_halved_181 : decode cX4_halved 181 = .ok (.iconst 0, 1) := by decide +kernel
theorem dX4_halved_182 : decode cX4_halved 182 = .ok (.iaload, 1) := by decide +kernel
theorem dX4_halved_183 : decode cX4_halved 183 = .ok (.ireturn, 1) := by decide +kernel
theorem dX4_single_0 : decode cX4_single 0 = .ok (.aload_n 0, 1) := by decide +kernel
theorem dX4_single_1 : decode cX4_single 1 = .ok (.getfield 29, 3) := by decide +kernel
theorem dX4_single_4 : decode cX4_single 4 = .ok (.iconst 4, 1) := by decide +kernel
theorem dX4_single_5 : decode cX4_single 5 = .ok (.aload_n 0, 1) := by decide +kernel
theorem dX4_single_6 : decode cX4_single 6 = .ok (.getfield 155, 3) := by decide +kernel
theorem dX4_single_9 : decode cX4_single 9 = .ok (.imul, 1) := by decide +kernel
theorem dX4_single_10 : decode cX4_single 10 = .ok (.aload_n 0, 1) := by decide +kernel
theorem dX4_single_11 : decode cX4_single 11 = .ok (.getfield 19, 3) := by decide +kernel
theorem dX4_single_14 : decode cX4_single 14 = .ok (.aload_n 0, 1) := by decide +kernel
theorem dX4_single_15 : decode cX4_single 15 = .ok (.getfield 26, 3) := by decide +kernel
theorem dX4_single_18 : decode cX4_single 18 = .ok (.iload_n 1, 1) := by decide +kernel
theorem dX4_single_19 : decode cX4_single 19 = .ok (.iaload, 1) := by decide +kernel
theorem dX4_single_20 : decode cX4_single 20 = .ok (.laload, 1) := by decide +kernel
theorem dX4_single_21 : decode cX4_single 21 = .ok (.l2i, 1) := by decide +kernel
theorem dX4_single_22 : decode cX4_single 22 = .ok (.iadd, 1) := by decide +kernel
theorem dX4_single_23 : decode cX4_single 23 = .ok (.iaload, 1) := by decide +kernel
theorem dX4_single_24 : decode cX4_single 24 = .ok (.ireturn, 1) := by decide +kernel
set_option maxRecDepth 20000 in
theorem ggX4_joined_X4_isFold : GoodIn wsX4_joined wsX4_isFold := goodIn_r _ [11, 12, 39, 40, 41, 42, 43, 44, 45, 46, 47, 48, 49, 50, 51, 52, 53, 54, 55, 56, 57] (by decide +kernel) (by decide +kernel)
set_option maxRecDepth 20000 in
theorem gX4_joined_X4_isFold : GoodIn wsX4_joined (wsV RX4 55 RX4 yX4_isFold wsX4_isFold) := goodIn_app (goodIn_of _ (by decide +kernel)) ggX4_joined_X4_isFold
set_option maxRecDepth 20000 in
theorem ggX4_joined_X4_in : GoodIn wsX4_joined wsX4_in := goodIn_r _ [15] (by decide +kernel) (by decide +kernel)
set_option maxRecDepth 20000 in
theorem gX4_joined_X4_in : GoodIn wsX4_joined (va_wsS RX4 63 yX4_in wsX4_in) := goodIn_app (goodIn_of _ (by decide +kernel)) ggX4_joined_X4_in
set_option maxRecDepth 20000 in
theorem ggX4_joined_X4_lay : GoodIn wsX4_joined wsX4_lay := goodIn_r _ [19, 4, 20, 21, 22, 23, 10, 24, 25, 26, 39, 40, 41, 42, 43, 44, 45, 46, 47, 48, 49, 50, 51, 52, 53, 54, 55, 56, 57] (by decide +kernel) (by decide +kernel)
set_option maxRecDepth 20000 in
theorem gX4_joined_X4_lay : GoodIn wsX4_joined (wsV RX4 148 RX4 yX4_lay wsX4_lay) := goodIn_app (goodIn_of _ (by decide +kernel)) ggX4_joined_X4_lay
set_option maxRecDepth 20000 in
theorem ggX4_joined_X4_halved : GoodIn wsX4_joined wsX4_halved := goodIn_r _ [30, 31, 32, 4, 33, 6, 34, 35, 36, 10, 37, 38, 5, 26, 20, 39, 40, 41, 42, 43, 44, 45, 46, 47, 48, 49, 50, 51, 52, 53, 54, 55, 56, 57] (by decide +kernel) (by decide +kernel)
set_option maxRecDepth 20000 in
theorem gX4_joined_X4_halved : GoodIn wsX4_joined (wsV RX4 180 RX4 yX4_halved wsX4_halved) := goodIn_app (goodIn_of _ (by decide +kernel)) ggX4_joined_X4_halved
set_option maxRecDepth 20000 in
theorem ggX4_joined_X4_single : GoodIn wsX4_joined wsX4_single := goodIn_r _ [37, 38, 5, 26, 20, 39, 40, 41, 42, 43, 44, 45, 46, 47, 48, 49, 50, 51, 52, 53, 54, 55, 56, 57] (by decide +kernel) (by decide +kernel)
set_option maxRecDepth 20000 in
theorem gX4_joined_X4_single : GoodIn wsX4_joined (wsV RX4 176 RX4 yX4_single wsX4_single) := goodIn_app (goodIn_of _ (by decide +kernel)) ggX4_joined_X4_single
theorem dX4_joined_0 : decode cX4_joined 0 = .ok (.aload_n 0, 1) := by decide +kernel
theorem dX4_joined_1 : decode cX4_joined 1 = .ok (.iconst 0, 1) := by decide +kernel
theorem dX4_joined_2 : decode cX4_joined 2 = .ok (.putfield 52, 3) := by decide +kernel
theorem dX4_joined_5 : decode cX4_joined 5 = .ok (.aload_n 0, 1) := by decide +kernel
theorem dX4_joined_6 : decode cX4_joined 6 = .ok (.iload_n 1, 1) := by decide +kernel
theorem dX4_joined_7 : decode cX4_joined 7 = .ok (.invokevirtual 55, 3) := by decide +kernel
theorem dX4_joined_10 : decode cX4_joined 10 = .ok (.ifCond .ne 5, 3) := by decide +kernel
theorem dX4_joined_13 : decode cX4_joined 13 = .ok (.iconst (-1), 1) := by decide +kernel
theorem dX4_joined_14 : decode cX4_joined 14 = .ok (.ireturn, 1) := by decide +kernel
theorem dX4_joined_15 : decode cX4_joined 15 = .ok (.aload_n 0, 1) := by decide +kernel
theorem dX4_joined_16 : decode cX4_joined 16 = .ok (.getfield 7, 3) := by decide +kernel
theorem dX4_joined_19 : decode cX4_joined 19 = .ok (.iload_n 1, 1) := by decide +kernel
theorem dX4_joined_20 : decode cX4_joined 20 = .ok (.iaload, 1) := by decide +kernel
theorem dX4_joined_21 : decode cX4_joined 21 = .ok (.iconst 4, 1) := by decide +kernel
theorem dX4_joined_22 : decode cX4_joined 22 = .ok (.if_icmp .eq 6, 3) := by decide +kernel
theorem dX4_joined_25 : decode cX4_joined 25 = .ok (.bipush (-3), 2) := by decide +kernel
theorem dX4_joined_27 : decode cX4_joined 27 = .ok (.ireturn, 1) := by decide +kernel
theorem dX4_joined_28 : decode cX4_joined 28 = .ok (.iload_n 2, 1) := by decide +kernel
theorem dX4_joined_29 : decode cX4_joined 29 = .ok (.i2l, 1) := by decide +kernel
theorem dX4_joined_30 : decode cX4_joined 30 = .ok (.lconst 0, 1) := by decide +kernel
theorem dX4_joined_31 : decode cX4_joined 31 = .ok (.ldc2_w 117, 3) := by decide +kernel
theorem dX4_joined_34 : decode cX4_joined 34 = .ok (.invokestatic 63, 3) := by decide +kernel
theorem dX4_joined_37 : decode cX4_joined 37 = .ok (.ifCond .ne 6, 3) := by decide +kernel
theorem dX4_joined_40 : decode cX4_joined 40 = .ok (.bipush (-2), 2) := by decide +kernel
theorem dX4_joined_42 : decode cX4_joined 42 = .ok (.ireturn, 1) := by decide +kernel
theorem dX4_joined_43 : decode cX4_joined 43 = .ok (.aload_n 0, 1) := by decide +kernel
theorem dX4_joined_44 : decode cX4_joined 44 = .ok (.getfield 13, 3) := by decide +kernel
theorem dX4_joined_47 : decode cX4_joined 47 = .ok (.iload_n 1, 1) := by decide +kernel
theorem dX4_joined_48 : decode cX4_joined 48 = .ok (.iaload, 1) := by decide +kernel
theorem dX4_joined_49 : decode cX4_joined 49 = .ok (.istore_n 3, 1) := by decide +kernel
theorem dX4_joined_50 : decode cX4_joined 50 = .ok (.iload_n 3, 1) := by decide +kernel
theorem dX4_joined_51 : decode cX4_joined 51 = .ok (.ifCond .ne 8, 3) := by decide +kernel
theorem dX4_joined_54 : decode cX4_joined 54 = .ok (.aload_n 0, 1) := by decide +kernel
theorem dX4_joined_55 : decode cX4_joined 55 = .ok (.getfield 155, 3) := by decide +kernel
theorem dX4_joined_58 : decode cX4_joined 58 = .ok (.ireturn, 1) := by decide +kernel
theorem dX4_joined_59 : decode cX4_joined 59 = .ok (.aload_n 0, 1) := by decide +kernel
theorem dX4_joined_60 : decode cX4_joined 60 = .ok (.iload_n 1, 1) := by decide +kernel
theorem dX4_joined_61 : decode cX4_joined 61 = .ok (.invokevirtual 148, 3) := by decide +kernel
theorem dX4_joined_64 : decode cX4_joined 64 = .ok (.iload_n 2, 1) := by decide +kernel
theorem dX4_joined_65 : decode cX4_joined 65 = .ok (.ifCond .ne 9, 3) := by decide +kernel
theorem dX4_joined_68 : decode cX4_joined 68 = .ok (.aload_n 0, 1) := by decide +kernel
theorem dX4_joined_69 : decode cX4_joined 69 = .ok (.iload_n 1, 1) := by decide +kernel
theorem dX4_joined_70 : decode cX4_joined 70 = .ok (.invokevirtual 180, 3) := by decide +kernel
theorem dX4_joined_73 : decode cX4_joined 73 = .ok (.ireturn, 1) := by decide +kernel
theorem dX4_joined_74 : decode cX4_joined 74 = .ok (.aload_n 0, 1) := by decide +kernel
theorem dX4_joined_75 : decode cX4_joined 75 = .ok (.iload_n 2, 1) := by decide +kernel
theorem dX4_joined_76 : decode cX4_joined 76 = .ok (.iconst 1, 1) := by decide +kernel
theorem dX4_joined_77 : decode cX4_joined 77 = .ok (.if_icmp .ne 7, 3) := by decide +kernel
theorem dX4_joined_80 : decode cX4_joined 80 = .ok (.iconst 0, 1) := by decide +kernel
theorem dX4_joined_81 : decode cX4_joined 81 = .ok (.goto 6, 3) := by decide +kernel
theorem dX4_joined_84 : decode cX4_joined 84 = .ok (.iload_n 3, 1) := by decide +kernel
theorem dX4_joined_85 : decode cX4_joined 85 = .ok (.iconst 1, 1) := by decide +kernel
theorem dX4_joined_86 : decode cX4_joined 86 = .ok (.isub, 1) := by decide +kernel
theorem dX4_joined_87 : decode cX4_joined 87 = .ok (.invokevirtual 176, 3) := by decide +kernel
theorem dX4_joined_90 : decode cX4_joined 90 = .ok (.istore 4, 2) := by decide +kernel
theorem dX4_joined_92 : decode cX4_joined 92 = .ok (.iconst 1, 1) := by decide +kernel
theorem dX4_joined_93 : decode cX4_joined 93 = .ok (.istore 5, 2) := by decide +kernel
theorem dX4_joined_95 : decode cX4_joined 95 = .ok (.iload 5, 2) := by decide +kernel
theorem dX4_joined_97 : decode cX4_joined 97 = .ok (.iload_n 3, 1) := by decide +kernel
theorem dX4_joined_98 : decode cX4_joined 98 = .ok (.if_icmp .ge 57, 3) := by decide +kernel
theorem dX4_joined_101 : decode cX4_joined 101 = .ok (.iload_n 2, 1) := by decide +kernel
theorem dX4_joined_102 : decode cX4_joined 102 = .ok (.iconst 1, 1) := by decide +kernel
theorem dX4_joined_103 : decode cX4_joined 103 = .ok (.if_icmp .ne 23, 3) := by decide +kernel
theorem dX4_joined_106 : decode cX4_joined 106 = .ok (.aload_n 0, 1) := by decide +kernel
theorem dX4_joined_107 : decode cX4_joined 107 = .ok (.getfield 32, 3) := by decide +kernel
theorem dX4_joined_110 : decode cX4_joined 110 = .ok (.bipush 8, 2) := by decide +kernel
theorem dX4_joined_112 : decode cX4_joined 112 = .ok (.iload 4, 2) := by decide +kernel
theorem dX4_joined_114 : decode cX4_joined 114 = .ok (.imul, 1) := by decide +kernel
theorem dX4_joined_115 : decode cX4_joined 115 = .ok (.aload_n 0, 1) := by decide +kernel
theorem dX4_joined_116 : decode cX4_joined 116 = .ok (.iload 5, 2) := by decide +kernel
theorem dX4_joined_118 : decode cX4_joined 118 = .ok (.invokevirtual 176, 3) := by decide +kernel
theorem dX4_joined_121 : decode cX4_joined 121 = .ok (.iadd, 1) := by decide +kernel
theorem dX4_joined_122 : decode cX4_joined 122 = .ok (.iaload, 1) := by decide +kernel
theorem dX4_joined_123 : decode cX4_joined 123 = .ok (.goto 24, 3) := by decide +kernel
theorem dX4_joined_126 : decode cX4_joined 126 = .ok (.aload_n 0, 1) := by decide +kernel
theorem dX4_joined_127 : decode cX4_joined 127 = .ok (.getfield 32, 3) := by decide +kernel
theorem dX4_joined_130 : decode cX4_joined 130 = .ok (.bipush 8, 2) := by decide +kernel
theorem dX4_joined_132 : decode cX4_joined 132 = .ok (.aload_n 0, 1) := by decide +kernel
theorem dX4_joined_133 : decode cX4_joined 133 = .ok (.iload_n 3, 1) := by decide +kernel
theorem dX4_joined_134 : decode cX4_joined 134 = .ok (.iconst 1, 1) := by decide +kernel
theorem dX4_joined_135 : decode cX4_joined 135 = .ok (.isub, 1) := by decide +kernel
theorem dX4_joined_136 : decode cX4_joined 136 = .ok (.iload 5, 2) := by decide +kernel
theorem dX4_joined_138 : decode cX4_joined 138 = .ok (.isub, 1) := by decide +kernel
theorem dX4_joined_139 : decode cX4_joined 139 = .ok (.invokevirtual 176, 3) := by decide +kernel
theorem dX4_joined_142 : decode cX4_joined 142 = .ok (.imul, 1) := by decide +kernel
theorem dX4_joined_143 : decode cX4_joined 143 = .ok (.iload 4, 2) := by decide +kernel
theorem dX4_joined_145 : decode cX4_joined 145 = .ok (.iadd, 1) := by decide +kernel
theorem dX4_joined_146 : decode cX4_joined 146 = .ok (.iaload, 1) := by decide +kernel
theorem dX4_joined_147 : decode cX4_joined 147 = .ok (.istore 4, 2) := by decide +kernel
theorem dX4_joined_149 : decode cX4_joined 149 = .ok (.iinc 5 1, 3) := by decide +kernel
theorem dX4_joined_152 : decode cX4_joined 152 = .ok (.goto (-57), 3) := by decide +kernel
theorem dX4_joined_155 : decode cX4_joined 155 = .ok (.iload 4, 2) := by decide +kernel
theorem dX4_joined_157 : decode cX4_joined 157 = .ok (.ireturn, 1) := by decide +kernel
theorem dJx00060_init_a7421_0 : decode cJx00060_init_a7421 0 = .ok (.aload_n 0, 1) := by decide +kernel
theorem dJx00060_init_a7421_1 : decode cJx00060_init_a7421 1 = .ok (.aload_n 1, 1) := by decide +kernel
theorem dJx00060_init_a7421_2 : decode cJx00060_init_a7421 2 = .ok (.invokespecial 7, 3) := by decide +kernel
theorem dJx00060_init_a7421_5 : decode cJx00060_init_a7421 5 = .ok (.return_, 1) := by decide +kernel
theorem dJ6_numberOfLeadingZeros_0f7a4_0 : decode cJ6_numberOfLeadingZeros_0f7a4 0 = .ok (.iload_n 0, 1) := by decide +kernel
theorem dJ6_numberOfLeadingZeros_0f7a4_1 : decode cJ6_numberOfLeadingZeros_0f7a4 1 = .ok (.ifCond .gt 14, 3) := by decide +kernel
theorem dJ6_numberOfLeadingZeros_0f7a4_4 : decode cJ6_numberOfLeadingZeros_0f7a4 4 = .ok (.iload_n 0, 1) := by decide +kernel
theorem dJ6_numberOfLeadingZeros_0f7a4_5 : decode cJ6_numberOfLeadingZeros_0f7a4 5 = .ok (.ifCond .ne 8, 3) := by decide +kernel
theorem dJ6_numberOfLeadingZeros_0f7a4_8 : decode cJ6_numberOfLeadingZeros_0f7a4 8 = .ok (.bipush 32, 2) := by decide +kernel
theorem dJ6_numberOfLeadingZeros_0f7a4_10 : decode cJ6_numberOfLeadingZeros_0f7a4 10 = .ok (.goto 4, 3) := by decide +kernel
theorem dJ6_numberOfLeadingZeros_0f7a4_13 : decode cJ6_numberOfLeadingZeros_0f7a4 13 = .ok (.iconst 0, 1) := by decide +kernel
theorem dJ6_numberOfLeadingZeros_0f7a4_14 : decode cJ6_numberOfLeadingZeros_0f7a4 14 = .ok (.ireturn, 1) := by decide +kernel
theorem dJ6_numberOfLeadingZeros_0f7a4_15 : decode cJ6_numberOfLeadingZeros_0f7a4 15 = .ok (.bipush 31, 2) := by decide +kernel
theorem dJ6_numberOfLeadingZeros_0f7a4_17 : decode cJ6_numberOfLeadingZeros_0f7a4 17 = .ok (.istore_n 1, 1) := by decide +kernel
theorem dJ6_numberOfLeadingZeros_0f7a4_18 : decode cJ6_numberOfLeadingZeros_0f7a4 18 = .ok (.iload_n 0, 1) := by decide +kernel
theorem dJ6_numberOfLeadingZeros_0f7a4_19 : decode cJ6_numberOfLeadingZeros_0f7a4 19 = .ok (.ldc_w 264, 3) := by decide +kernel
theorem dJ6_numberOfLeadingZeros_0f7a4_22 : decode cJ6_numberOfLeadingZeros_0f7a4 22 = .ok (.if_icmp .lt 11, 3) := by decide +kernel
theorem dJ6_numberOfLeadingZeros_0f7a4_25 : decode cJ6_numberOfLeadingZeros_0f7a4 25 = .ok (.iinc 1 (-16), 3) := by decide +kernel
theorem dJ6_numberOfLeadingZeros_0f7a4_28 : decode cJ6_numberOfLeadingZeros_0f7a4 28 = .ok (.iload_n 0, 1) := by decide +kernel
theorem dJ6_numberOfLeadingZeros_0f7a4_29 : decode cJ6_numberOfLeadingZeros_0f7a4 29 = .ok (.bipush 16, 2) := by decide +kernel
theorem dJ6_numberOfLeadingZeros_0f7a4_31 : decode cJ6_numberOfLeadingZeros_0f7a4 31 = .ok (.iushr, 1) := by decide +kernel
theorem dJ6_numberOfLeadingZeros_0f7a4_32 : decode cJ6_numberOfLeadingZeros_0f7a4 32 = .ok (.istore_n 0, 1) := by decide +kernel
theorem dJ6_numberOfLeadingZeros_0f7a4_33 : decode cJ6_numberOfLeadingZeros_0f7a4 33 = .ok (.iload_n 0, 1) := by decide +kernel
theorem dJ6_numberOfLeadingZeros_0f7a4_34 : decode cJ6_numberOfLeadingZeros_0f7a4 34 = .ok (.sipush 256, 3) := by decide +kernel
theorem dJ6_numberOfLeadingZeros_0f7a4_37 : decode cJ6_numberOfLeadingZeros_0f7a4 37 = .ok (.if_icmp .lt 11, 3) := by decide +kernel
theorem dJ6_numberOfLeadingZeros_0f7a4_40 : decode cJ6_numberOfLeadingZeros_0f7a4 40 = .ok (.iinc 1 (-8), 3) := by decide +kernel
theorem dJ6_numberOfLeadingZeros_0f7a4_43 : decode cJ6_numberOfLeadingZeros_0f7a4 43 = .ok (.iload_n 0, 1) := by decide +kernel
theorem dJ6_numberOfLeadingZeros_0f7a4_44 : decode cJ6_numberOfLeadingZeros_0f7a4 44 = .ok (.bipush 8, 2) := by decide +kernel
theorem dJ6_numberOfLeadingZeros_0f7a4_46 : decode cJ6_numberOfLeadingZeros_0f7a4 46 = .ok (.iushr, 1) := by decide +kernel
theorem dJ6_numberOfLeadingZeros_0f7a4_47 : decode cJ6_numberOfLeadingZeros_0f7a4 47 = .ok (.istore_n 0, 1) := by decide +kernel
theorem dJ6_numberOfLeadingZeros_0f7a4_48 : decode cJ6_numberOfLeadingZeros_0f7a4 48 = .ok (.iload_n 0, 1) := by decide +kernel
theorem dJ6_numberOfLeadingZeros_0f7a4_49 : decode cJ6_numberOfLeadingZeros_0f7a4 49 = .ok (.bipush 16, 2) := by decide +kernel
theorem dJ6_numberOfLeadingZeros_0f7a4_51 : decode cJ6_numberOfLeadingZeros_0f7a4 51 = .ok (.if_icmp .lt 10, 3) := by decide +kernel
theorem dJ6_numberOfLeadingZeros_0f7a4_54 : decode cJ6_numberOfLeadingZeros_0f7a4 54 = .ok (.iinc 1 (-4), 3) := by decide +kernel
theorem dJ6_numberOfLeadingZeros_0f7a4_57 : decode cJ6_numberOfLeadingZeros_0f7a4 57 = .ok (.iload_n 0, 1) := by decide +kernel
theorem dJ6_numberOfLeadingZeros_0f7a4_58 : decode cJ6_numberOfLeadingZeros_0f7a4 58 = .ok (.iconst 4, 1) := by decide +kernel
theorem dJ6_numberOfLeadingZeros_0f7a4_59 : decode cJ6_numberOfLeadingZeros_0f7a4 59 = .ok (.iushr, 1) := by decide +kernel
theorem dJ6_numberOfLeadingZeros_0f7a4_60 : decode cJ6_numberOfLeadingZeros_0f7a4 60 = .ok (.istore_n 0, 1) := by decide +kernel
theorem dJ6_numberOfLeadingZeros_0f7a4_61 : decode cJ6_numberOfLeadingZeros_0f7a4 61 = .ok (.iload_n 0, 1) := by decide +kernel
theorem dJ6_numberOfLeadingZeros_0f7a4_62 : decode cJ6_numberOfLeadingZeros_0f7a4 62 = .ok (.iconst 4, 1) := by decide +kernel
theorem dJ6_numberOfLeadingZeros_0f7a4_63 : decode cJ6_numberOfLeadingZeros_0f7a4 63 = .ok (.if_icmp .lt 10, 3) := by decide +kernel
theorem dJ6_numberOfLeadingZeros_0f7a4_66 : decode cJ6_numberOfLeadingZeros_0f7a4 66 = .ok (.iinc 1 (-2), 3) := by decide +kernel
theorem dJ6_numberOfLeadingZeros_0f7a4_69 : decode cJ6_numberOfLeadingZeros_0f7a4 69 = .ok (.iload_n 0, 1) := by decide +kernel
theorem dJ6_numberOfLeadingZeros_0f7a4_70 : decode cJ6_numberOfLeadingZeros_0f7a4 70 = .ok (.iconst 2, 1) := by decide +kernel
theorem dJ6_numberOfLeadingZeros_0f7a4_71 : decode cJ6_numberOfLeadingZeros_0f7a4 71 = .ok (.iushr, 1) := by decide +kernel
theorem dJ6_numberOfLeadingZeros_0f7a4_72 : decode cJ6_numberOfLeadingZeros_0f7a4 72 = .ok (.istore_n 0, 1) := by decide +kernel
theorem dJ6_numberOfLeadingZeros_0f7a4_73 : decode cJ6_numberOfLeadingZeros_0f7a4 73 = .ok (.iload_n 1, 1) := by decide +kernel
theorem dJ6_numberOfLeadingZeros_0f7a4_74 : decode cJ6_numberOfLeadingZeros_0f7a4 74 = .ok (.iload_n 0, 1) := by decide +kernel
theorem dJ6_numberOfLeadingZeros_0f7a4_75 : decode cJ6_numberOfLeadingZeros_0f7a4 75 = .ok (.iconst 1, 1) := by decide +kernel
theorem dJ6_numberOfLeadingZeros_0f7a4_76 : decode cJ6_numberOfLeadingZeros_0f7a4 76 = .ok (.iushr, 1) := by decide +kernel
theorem dJ6_numberOfLeadingZeros_0f7a4_77 : decode cJ6_numberOfLeadingZeros_0f7a4 77 = .ok (.isub, 1) := by decide +kernel
theorem dJ6_numberOfLeadingZeros_0f7a4_78 : decode cJ6_numberOfLeadingZeros_0f7a4 78 = .ok (.ireturn, 1) := by decide +kernel
set_option maxRecDepth 20000 in
theorem ggJ13_numberOfLeadingZeros_95d88_J6_numberOfLeadingZeros_0f7a4 : GoodIn wsJ13_numberOfLeadingZeros_95d88 wsJ6_numberOfLeadingZeros_0f7a4 := goodIn_r _ [4, 5] (by decide +kernel) (by decide +kernel)
set_option maxRecDepth 20000 in
theorem gJ13_numberOfLeadingZeros_95d88_J6_numberOfLeadingZeros_0f7a4 : GoodIn wsJ13_numberOfLeadingZeros_95d88 (va_wsS RJ13 308 yJ6_numberOfLeadingZeros_0f7a4 wsJ6_numberOfLeadingZeros_0f7a4) := goodIn_app (goodIn_of _ (by decide +kernel)) ggJ13_numberOfLeadingZeros_95d88_J6_numberOfLeadingZeros_0f7a4
theorem dJ13_numberOfLeadingZeros_95d88_0 : decode cJ13_numberOfLeadingZeros_95d88 0 = .ok (.lload_n 0, 1) := by decide +kernel
theorem dJ13_numberOfLeadingZeros_95d88_1 : decode cJ13_numberOfLeadingZeros_95d88 1 = .ok (.bipush 32, 2) := by decide +kernel
theorem dJ13_numberOfLeadingZeros_95d88_3 : decode cJ13_numberOfLeadingZeros_95d88 3 = .ok (.lushr, 1) := by decide +kernel
theorem dJ13_numberOfLeadingZeros_95d88_4 : decode cJ13_numberOfLeadingZeros_95d88 4 = .ok (.l2i, 1) := by decide +kernel
theorem dJ13_numberOfLeadingZeros_95d88_5 : decode cJ13_numberOfLeadingZeros_95d88 5 = .ok (.istore_n 2, 1) := by decide +kernel
theorem dJ13_numberOfLeadingZeros_95d88_6 : decode cJ13_numberOfLeadingZeros_95d88 6 = .ok (.iload_n 2, 1) := by decide +kernel
theorem dJ13_numberOfLeadingZeros_95d88_7 : decode cJ13_numberOfLeadingZeros_95d88 7 = .ok (.ifCond .ne 14, 3) := by decide +kernel
theorem dJ13_numberOfLeadingZeros_95d88_10 : decode cJ13_numberOfLeadingZeros_95d88 10 = .ok (.bipush 32, 2) := by decide +kernel
theorem dJ13_numberOfLeadingZeros_95d88_12 : decode cJ13_numberOfLeadingZeros_95d88 12 = .ok (.lload_n 0, 1) := by decide +kernel
theorem dJ13_numberOfLeadingZeros_95d88_13 : decode cJ13_numberOfLeadingZeros_95d88 13 = .ok (.l2i, 1) := by decide +kernel
theorem dJ13_numberOfLeadingZeros_95d88_14 : decode cJ13_numberOfLeadingZeros_95d88 14 = .ok (.invokestatic 308, 3) := by decide +kernel
theorem dJ13_numberOfLeadingZeros_95d88_17 : decode cJ13_numberOfLeadingZeros_95d88 17 = .ok (.iadd, 1) := by decide +kernel
theorem dJ13_numberOfLeadingZeros_95d88_18 : decode cJ13_numberOfLeadingZeros_95d88 18 = .ok (.goto 7, 3) := by decide +kernel
theorem dJ13_numberOfLeadingZeros_95d88_21 : decode cJ13_numberOfLeadingZeros_95d88 21 = .ok (.iload_n 2, 1) := by decide +kernel
theorem dJ13_numberOfLeadingZeros_95d88_22 : decode cJ13_numberOfLeadingZeros_95d88 22 = .ok (.invokestatic 308, 3) := by decide +kernel
theorem dJ13_numberOfLeadingZeros_95d88_25 : decode cJ13_numberOfLeadingZeros_95d88 25 = .ok (.ireturn, 1) := by decide +kernel
theorem dJ9_abs_067f4_0 : decode cJ9_abs_067f4 0 = .ok (.lload_n 0, 1) := by decide +kernel
theorem dJ9_abs_067f4_1 : decode cJ9_abs_067f4 1 = .ok (.lconst 0, 1) := by decide +kernel
theorem dJ9_abs_067f4_2 : decode cJ9_abs_067f4 2 = .ok (.lcmp, 1) := by decide +kernel
theorem dJ9_abs_067f4_3 : decode cJ9_abs_067f4 3 = .ok (.ifCond .ge 8, 3) := by decide +kernel
theorem dJ9_abs_067f4_6 : decode cJ9_abs_067f4 6 = .ok (.lload_n 0, 1) := by decide +kernel
theorem dJ9_abs_067f4_7 : decode cJ9_abs_067f4 7 = .ok (.lneg, 1) := by decide +kernel
theorem dJ9_abs_067f4_8 : decode cJ9_abs_067f4 8 = .ok (.goto 4, 3) := by decide +kernel
theorem dJ9_abs_067f4_11 : decode cJ9_abs_067f4 11 = .ok (.lload_n 0, 1) := by decide +kernel
theorem dJ9_abs_067f4_12 : decode cJ9_abs_067f4 12 = .ok (.lreturn, 1) := by decide +kernel
theorem dJ9_max_f86c9_0 : decode cJ9_max_f86c9 0 = .ok (.lload_n 0, 1) := by decide +kernel
theorem dJ9_max_f86c9_1 : decode cJ9_max_f86c9 1 = .ok (.lload_n 2, 1) := by decide +kernel
theorem dJ9_max_f86c9_2 : decode cJ9_max_f86c9 2 = .ok (.lcmp, 1) := by decide +kernel
theorem dJ9_max_f86c9_3 : decode cJ9_max_f86c9 3 = .ok (.ifCond .lt 7, 3) := by decide +kernel
theorem dJ9_max_f86c9_6 : decode cJ9_max_f86c9 6 = .ok (.lload_n 0, 1) := by decide +kernel
theorem dJ9_max_f86c9_7 : decode cJ9_max_f86c9 7 = .ok (.goto 4, 3) := by decide +kernel
theorem dJ9_max_f86c9_10 : decode cJ9_max_f86c9 10 = .ok (.lload_n 2, 1) := by decide +kernel
theorem dJ9_max_f86c9_11 : decode cJ9_max_f86c9 11 = .ok (.lreturn, 1) := by decide +kernel
theorem dJ9_min_f86c9_0 : decode cJ9_min_f86c9 0 = .ok (.lload_n 0, 1) := by decide +kernel
theorem dJ9_min_f86c9_1 : decode cJ9_min_f86c9 1 = .ok (.lload_n 2, 1) := by decide +kernel
theorem dJ9_min_f86c9_2 : decode cJ9_min_f86c9 2 = .ok (.lcmp, 1) := by decide +kernel
theorem dJ9_min_f86c9_3 : decode cJ9_min_f86c9 3 = .ok (.ifCond .gt 7, 3) := by decide +kernel
theorem dJ9_min_f86c9_6 : decode cJ9_min_f86c9 6 = .ok (.lload_n 0, 1) := by decide +kernel
theorem dJ9_min_f86c9_7 : decode cJ9_min_f86c9 7 = .ok (.goto 4, 3) := by decide +kernel
theorem dJ9_min_f86c9_10 : decode cJ9_min_f86c9 10 = .ok (.lload_n 2, 1) := by decide +kernel
theorem dJ9_min_f86c9_11 : decode cJ9_min_f86c9 11 = .ok (.lreturn, 1) := by decide +kernel
