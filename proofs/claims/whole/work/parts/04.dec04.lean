theorem dX4_nearest_147 : decode cX4_nearest 147 = .ok (.ladd, 1) := by decide +kernel
theorem dX4_nearest_148 : decode cX4_nearest 148 = .ok (.lstore_n 3, 1) := by decide +kernel
theorem dX4_nearest_149 : decode cX4_nearest 149 = .ok (.lload_n 3, 1) := by decide +kernel
theorem dX4_nearest_150 : decode cX4_nearest 150 = .ok (.ldc2_w 119, 3) := by decide +kernel
theorem dX4_nearest_153 : decode cX4_nearest 153 = .ok (.lcmp, 1) := by decide +kernel
theorem dX4_nearest_154 : decode cX4_nearest 154 = .ok (.ifCond .ne 10, 3) := by decide +kernel
theorem dX4_nearest_157 : decode cX4_nearest 157 = .ok (.ldc2_w 105, 3) := by decide +kernel
theorem dX4_nearest_160 : decode cX4_nearest 160 = .ok (.lstore_n 3, 1) := by decide +kernel
theorem dX4_nearest_161 : decode cX4_nearest 161 = .ok (.iinc 2 1, 3) := by decide +kernel
theorem dX4_nearest_164 : decode cX4_nearest 164 = .ok (.iload_n 2, 1) := by decide +kernel
theorem dX4_nearest_165 : decode cX4_nearest 165 = .ok (.sipush 2045, 3) := by decide +kernel
theorem dX4_nearest_168 : decode cX4_nearest 168 = .ok (.if_icmp .le 9, 3) := by decide +kernel
theorem dX4_nearest_171 : decode cX4_nearest 171 = .ok (.ldc2_w 121, 3) := by decide +kernel
theorem dX4_nearest_174 : decode cX4_nearest 174 = .ok (.goto 17, 3) := by decide +kernel
theorem dX4_nearest_177 : decode cX4_nearest 177 = .ok (.iload_n 2, 1) := by decide +kernel
theorem dX4_nearest_178 : decode cX4_nearest 178 = .ok (.i2l, 1) := by decide +kernel
theorem dX4_nearest_179 : decode cX4_nearest 179 = .ok (.lconst 1, 1) := by decide +kernel
theorem dX4_nearest_180 : decode cX4_nearest 180 = .ok (.ladd, 1) := by decide +kernel
theorem dX4_nearest_181 : decode cX4_nearest 181 = .ok (.ldc2_w 105, 3) := by decide +kernel
theorem dX4_nearest_184 : decode cX4_nearest 184 = .ok (.lmul, 1) := by decide +kernel
theorem dX4_nearest_185 : decode cX4_nearest 185 = .ok (.lload_n 3, 1) := by decide +kernel
theorem dX4_nearest_186 : decode cX4_nearest 186 = .ok (.ladd, 1) := by decide +kernel
theorem dX4_nearest_187 : decode cX4_nearest 187 = .ok (.ldc2_w 105, 3) := by decide +kernel
theorem dX4_nearest_190 : decode cX4_nearest 190 = .ok (.lsub, 1) := by decide +kernel
theorem dX4_nearest_191 : decode cX4_nearest 191 = .ok (.lreturn, 1) := by decide +kernel
set_option maxRecDepth 20000 in
theorem ggX4_real_X4_isOf : GoodIn wsX4_real wsX4_isOf := goodIn_r _ [7, 8, 9, 10, 11, 6, 12, 13, 41, 42, 43, 44, 45, 46, 47, 48, 49, 50, 51, 52, 53, 54, 55, 56, 57, 58, 59] (by decide +kernel) (by decide +kernel)
set_option maxRecDepth 20000 in
theorem gX4_real_X4_isOf : GoodIn wsX4_real (wsV RX4 97 RX4 yX4_isOf wsX4_isOf) := goodIn_app (goodIn_of _ (by decide +kernel)) ggX4_real_X4_isOf
set_option maxRecDepth 20000 in
theorem ggX4_real_X4_sum : GoodIn wsX4_real wsX4_sum := goodIn_r _ [17, 18, 19, 20, 21, 22, 23, 24, 25, 26, 27, 28, 6, 29, 41, 42, 43, 44, 45, 46, 47, 48, 49, 50, 51, 52, 53, 54, 55, 56, 57, 58, 59] (by decide +kernel) (by decide +kernel)
set_option maxRecDepth 20000 in
theorem gX4_real_X4_sum : GoodIn wsX4_real (wsV RX4 123 RX4 yX4_sum wsX4_sum) := goodIn_app (goodIn_of _ (by decide +kernel)) ggX4_real_X4_sum
set_option maxRecDepth 20000 in
theorem ggX4_real_X4_nearest : GoodIn wsX4_real wsX4_nearest := goodIn_r _ [33, 34, 35, 23, 36, 37, 38, 39, 6, 40, 18, 41, 42, 43, 44, 45, 46, 47, 48, 49, 50, 51, 52, 53, 54, 55, 56, 57, 58, 59] (by decide +kernel) (by decide +kernel)
set_option maxRecDepth 20000 in
theorem gX4_real_X4_nearest : GoodIn wsX4_real (wsV RX4 127 RX4 yX4_nearest wsX4_nearest) := goodIn_app (goodIn_of _ (by decide +kernel)) ggX4_real_X4_nearest
theorem dX4_real_0 : decode cX4_real 0 = .ok (.aload_n 0, 1) := by decide +kernel
theorem dX4_real_1 : decode cX4_real 1 = .ok (.iconst 0, 1) := by decide +kernel
theorem dX4_real_2 : decode cX4_real 2 = .ok (.putfield 52, 3) := by decide +kernel
theorem dX4_real_5 : decode cX4_real 5 = .ok (.aload_n 0, 1) := by decide +kernel
theorem dX4_real_6 : decode cX4_real 6 = .ok (.iload_n 1, 1) := by decide +kernel
theorem dX4_real_7 : decode cX4_real 7 = .ok (.iconst 1, 1) := by decide +kernel
theorem dX4_real_8 : decode cX4_real 8 = .ok (.invokevirtual 97, 3) := by decide +kernel
theorem dX4_real_11 : decode cX4_real 11 = .ok (.ifCond .ne 5, 3) := by decide +kernel
theorem dX4_real_14 : decode cX4_real 14 = .ok (.lconst 0, 1) := by decide +kernel
theorem dX4_real_15 : decode cX4_real 15 = .ok (.lreturn, 1) := by decide +kernel
theorem dX4_real_16 : decode cX4_real 16 = .ok (.aload_n 0, 1) := by decide +kernel
theorem dX4_real_17 : decode cX4_real 17 = .ok (.iload_n 1, 1) := by decide +kernel
theorem dX4_real_18 : decode cX4_real 18 = .ok (.iconst 0, 1) := by decide +kernel
theorem dX4_real_19 : decode cX4_real 19 = .ok (.invokevirtual 123, 3) := by decide +kernel
theorem dX4_real_22 : decode cX4_real 22 = .ok (.ifCond .ne 7, 3) := by decide +kernel
theorem dX4_real_25 : decode cX4_real 25 = .ok (.iconst 1, 1) := by decide +kernel
theorem dX4_real_26 : decode cX4_real 26 = .ok (.goto 4, 3) := by decide +kernel
theorem dX4_real_29 : decode cX4_real 29 = .ok (.iconst 0, 1) := by decide +kernel
theorem dX4_real_30 : decode cX4_real 30 = .ok (.istore_n 2, 1) := by decide +kernel
theorem dX4_real_31 : decode cX4_real 31 = .ok (.iload_n 2, 1) := by decide +kernel
theorem dX4_real_32 : decode cX4_real 32 = .ok (.ifCond .eq 10, 3) := by decide +kernel
theorem dX4_real_35 : decode cX4_real 35 = .ok (.aload_n 0, 1) := by decide +kernel
theorem dX4_real_36 : decode cX4_real 36 = .ok (.iload_n 1, 1) := by decide +kernel
theorem dX4_real_37 : decode cX4_real 37 = .ok (.iconst 1, 1) := by decide +kernel
theorem dX4_real_38 : decode cX4_real 38 = .ok (.invokevirtual 123, 3) := by decide +kernel
theorem dX4_real_41 : decode cX4_real 41 = .ok (.istore_n 2, 1) := by decide +kernel
theorem dX4_real_42 : decode cX4_real 42 = .ok (.aload_n 0, 1) := by decide +kernel
theorem dX4_real_43 : decode cX4_real 43 = .ok (.invokevirtual 127, 3) := by decide +kernel
theorem dX4_real_46 : decode cX4_real 46 = .ok (.lstore_n 3, 1) := by decide +kernel
theorem dX4_real_47 : decode cX4_real 47 = .ok (.iload_n 2, 1) := by decide +kernel
theorem dX4_real_48 : decode cX4_real 48 = .ok (.ifCond .eq 11, 3) := by decide +kernel
theorem dX4_real_51 : decode cX4_real 51 = .ok (.lload_n 3, 1) := by decide +kernel
theorem dX4_real_52 : decode cX4_real 52 = .ok (.ldc2_w 131, 3) := by decide +kernel
theorem dX4_real_55 : decode cX4_real 55 = .ok (.lor, 1) := by decide +kernel
theorem dX4_real_56 : decode cX4_real 56 = .ok (.goto 4, 3) := by decide +kernel
theorem dX4_real_59 : decode cX4_real 59 = .ok (.lload_n 3, 1) := by decide +kernel
theorem dX4_real_60 : decode cX4_real 60 = .ok (.lreturn, 1) := by decide +kernel
theorem dX4_divisor_0 : decode cX4_divisor 0 = .ok (.lload_n 0, 1) := by decide +kernel
theorem dX4_divisor_1 : decode cX4_divisor 1 = .ok (.lconst 0, 1) := by decide +kernel
theorem dX4_divisor_2 : decode cX4_divisor 2 = .ok (.lcmp, 1) := by decide +kernel
theorem dX4_divisor_3 : decode cX4_divisor 3 = .ok (.ifCond .ge 8, 3) := by decide +kernel
theorem dX4_divisor_6 : decode cX4_divisor 6 = .ok (.lload_n 0, 1) := by decide +kernel
theorem dX4_divisor_7 : decode cX4_divisor 7 = .ok (.lneg, 1) := by decide +kernel
theorem dX4_divisor_8 : decode cX4_divisor 8 = .ok (.goto 4, 3) := by decide +kernel
theorem dX4_divisor_11 : decode cX4_divisor 11 = .ok (.lload_n 0, 1) := by decide +kernel
theorem dX4_divisor_12 : decode cX4_divisor 12 = .ok (.lstore 4, 2) := by decide +kernel
theorem dX4_divisor_14 : decode cX4_divisor 14 = .ok (.lload_n 2, 1) := by decide +kernel
theorem dX4_divisor_15 : decode cX4_divisor 15 = .ok (.lstore 6, 2) := by decide +kernel
theorem dX4_divisor_17 : decode cX4_divisor 17 = .ok (.lload 6, 2) := by decide +kernel
theorem dX4_divisor_19 : decode cX4_divisor 19 = .ok (.lconst 0, 1) := by decide +kernel
theorem dX4_divisor_20 : decode cX4_divisor 20 = .ok (.lcmp, 1) := by decide +kernel
theorem dX4_divisor_21 : decode cX4_divisor 21 = .ok (.ifCond .eq 21, 3) := by decide +kernel
theorem dX4_divisor_24 : decode cX4_divisor 24 = .ok (.lload 4, 2) := by decide +kernel
theorem dX4_divisor_26 : decode cX4_divisor 26 = .ok (.lload 6, 2) := by decide +kernel
theorem dX4_divisor_28 : decode cX4_divisor 28 = .ok (.lrem, 1) := by decide +kernel
theorem dX4_divisor_29 : decode cX4_divisor 29 = .ok (.lstore 8, 2) := by decide +kernel
theorem dX4_divisor_31 : decode cX4_divisor 31 = .ok (.lload 6, 2) := by decide +kernel
theorem dX4_divisor_33 : decode cX4_divisor 33 = .ok (.lstore 4, 2) := by decide +kernel
theorem dX4_divisor_35 : decode cX4_divisor 35 = .ok (.lload 8, 2) := by decide +kernel
theorem dX4_divisor_37 : decode cX4_divisor 37 = .ok (.lstore 6, 2) := by decide +kernel
theorem dX4_divisor_39 : decode cX4_divisor 39 = .ok (.goto (-22), 3) := by decide +kernel
theorem dX4_divisor_42 : decode cX4_divisor 42 = .ok (.lload 4, 2) := by decide +kernel
theorem dX4_divisor_44 : decode cX4_divisor 44 = .ok (.lreturn, 1) := by decide +kernel
set_option maxRecDepth 20000 in
theorem ggX4_part_X4_divisor : GoodIn wsX4_part wsX4_divisor := goodIn_r _ [4] (by decide +kernel) (by decide +kernel)
set_option maxRecDepth 20000 in
theorem gX4_part_X4_divisor : GoodIn wsX4_part (va_wsS RX4 133 yX4_divisor wsX4_divisor) := goodIn_app (goodIn_of _ (by decide +kernel)) ggX4_part_X4_divisor
theorem dX4_part_0 : decode cX4_part 0 = .ok (.lload_n 0, 1) := by decide +kernel
theorem dX4_part_1 : decode cX4_part 1 = .ok (.lload_n 2, 1) := by decide +kernel
theorem dX4_part_2 : decode cX4_part 2 = .ok (.invokestatic 133, 3) := by decide +kernel
theorem dX4_part_5 : decode cX4_part 5 = .ok (.lstore 5, 2) := by decide +kernel
theorem dX4_part_7 : decode cX4_part 7 = .ok (.iload 4, 2) := by decide +kernel
theorem dX4_part_9 : decode cX4_part 9 = .ok (.ifCond .ne 10, 3) := by decide +kernel
theorem dX4_part_12 : decode cX4_part 12 = .ok (.lload_n 0, 1) := by decide +kernel
theorem dX4_part_13 : decode cX4_part 13 = .ok (.lload 5, 2) := by decide +kernel
theorem dX4_part_15 : decode cX4_part 15 = .ok (.ldiv, 1) := by decide +kernel
theorem dX4_part_16 : decode cX4_part 16 = .ok (.goto 7, 3) := by decide +kernel
theorem dX4_part_19 : decode cX4_part 19 = .ok (.lload_n 2, 1) := by decide +kernel
theorem dX4_part_20 : decode cX4_part 20 = .ok (.lload 5, 2) := by decide +kernel
theorem dX4_part_22 : decode cX4_part 22 = .ok (.ldiv, 1) := by decide +kernel
theorem dX4_part_23 : decode cX4_part 23 = .ok (.lreturn, 1) := by decide +kernel
theorem dX4_summed_0 : decode cX4_summed 0 = .ok (.lconst 0, 1) := by decide +kernel
theorem dX4_summed_1 : decode cX4_summed 1 = .ok (.lstore_n 3, 1) := by decide +kernel
theorem dX4_summed_2 : decode cX4_summed 2 = .ok (.bipush 64, 2) := by decide +kernel
theorem dX4_summed_4 : decode cX4_summed 4 = .ok (.iload_n 1, 1) := by decide +kernel
theorem dX4_summed_5 : decode cX4_summed 5 = .ok (.imul, 1) := by decide +kernel
theorem dX4_summed_6 : decode cX4_summed 6 = .ok (.istore 5, 2) := by decide +kernel
theorem dX4_summed_8 : decode cX4_summed 8 = .ok (.iload 5, 2) := by decide +kernel
theorem dX4_summed_10 : decode cX4_summed 10 = .ok (.bipush 64, 2) := by decide +kernel
theorem dX4_summed_12 : decode cX4_summed 12 = .ok (.iload_n 1, 1) := by decide +kernel
theorem dX4_summed_13 : decode cX4_summed 13 = .ok (.imul, 1) := by decide +kernel
theorem dX4_summed_14 : decode cX4_summed 14 = .ok (.aload_n 0, 1) := by decide +kernel
theorem dX4_summed_15 : decode cX4_summed 15 = .ok (.getfield 13, 3) := by decide +kernel
theorem dX4_summed_18 : decode cX4_summed 18 = .ok (.iload_n 1, 1) := by decide +kernel
theorem dX4_summed_19 : decode cX4_summed 19 = .ok (.iaload, 1) := by decide +kernel
theorem dX4_summed_20 : decode cX4_summed 20 = .ok (.iadd, 1) := by decide +kernel
theorem dX4_summed_21 : decode cX4_summed 21 = .ok (.if_icmp .ge 41, 3) := by decide +kernel
theorem dX4_summed_24 : decode cX4_summed 24 = .ok (.lload_n 3, 1) := by decide +kernel
theorem dX4_summed_25 : decode cX4_summed 25 = .ok (.iload_n 2, 1) := by decide +kernel
theorem dX4_summed_26 : decode cX4_summed 26 = .ok (.ifCond .eq 21, 3) := by decide +kernel
theorem dX4_summed_29 : decode cX4_summed 29 = .ok (.aload_n 0, 1) := by decide +kernel
theorem dX4_summed_30 : decode cX4_summed 30 = .ok (.getfield 19, 3) := by decide +kernel
theorem dX4_summed_33 : decode cX4_summed 33 = .ok (.iload 5, 2) := by decide +kernel
theorem dX4_summed_35 : decode cX4_summed 35 = .ok (.laload, 1) := by decide +kernel
theorem dX4_summed_36 : decode cX4_summed 36 = .ok (.aload_n 0, 1) := by decide +kernel
theorem dX4_summed_37 : decode cX4_summed 37 = .ok (.getfield 19, 3) := by decide +kernel
theorem dX4_summed_40 : decode cX4_summed 40 = .ok (.iload 5, 2) := by decide +kernel
theorem dX4_summed_42 : decode cX4_summed 42 = .ok (.laload, 1) := by decide +kernel
theorem dX4_summed_43 : decode cX4_summed 43 = .ok (.lmul, 1) := by decide +kernel
theorem dX4_summed_44 : decode cX4_summed 44 = .ok (.goto 10, 3) := by decide +kernel
theorem dX4_summed_47 : decode cX4_summed 47 = .ok (.aload_n 0, 1) := by decide +kernel
theorem dX4_summed_48 : decode cX4_summed 48 = .ok (.getfield 19, 3) := by decide +kernel
theorem dX4_summed_51 : decode cX4_summed 51 = .ok (.iload 5, 2) := by decide +kernel
theorem dX4_summed_53 : decode cX4_summed 53 = .ok (.laload, 1) := by decide +kernel
theorem dX4_summed_54 : decode cX4_summed 54 = .ok (.ladd, 1) := by decide +kernel
theorem dX4_summed_55 : decode cX4_summed 55 = .ok (.lstore_n 3, 1) := by decide +kernel
theorem dX4_summed_56 : decode cX4_summed 56 = .ok (.iinc 5 1, 3) := by decide +kernel
theorem dX4_summed_59 : decode cX4_summed 59 = .ok (.goto (-51), 3) := by decide +kernel
theorem dX4_summed_62 : decode cX4_summed 62 = .ok (.lload_n 3, 1) := by decide +kernel
theorem dX4_summed_63 : decode cX4_summed 63 = .ok (.lreturn, 1) := by decide +kernel
set_option maxRecDepth 20000 in
theorem ggX4_mean_X4_isOf : GoodIn wsX4_mean wsX4_isOf := goodIn_r _ [8, 9, 10, 11, 12, 7, 13, 14, 29, 30, 31, 32, 33, 34, 35, 36, 37, 38, 39, 40, 41, 42, 43, 44, 45, 46, 47] (by decide +kernel) (by decide +kernel)
set_option maxRecDepth 20000 in
theorem gX4_mean_X4_isOf : GoodIn wsX4_mean (wsV RX4 97 RX4 yX4_isOf wsX4_isOf) := goodIn_app (goodIn_of _ (by decide +kernel)) ggX4_mean_X4_isOf
set_option maxRecDepth 20000 in
theorem ggX4_mean_X4_in : GoodIn wsX4_mean wsX4_in := goodIn_r _ [17] (by decide +kernel) (by decide +kernel)
set_option maxRecDepth 20000 in
theorem gX4_mean_X4_in : GoodIn wsX4_mean (va_wsS RX4 63 yX4_in wsX4_in) := goodIn_app (goodIn_of _ (by decide +kernel)) ggX4_mean_X4_in
set_option maxRecDepth 20000 in
theorem ggX4_mean_X4_summed : GoodIn wsX4_mean wsX4_summed := goodIn_r _ [21, 3, 22, 29, 30, 31, 32, 33, 34, 35, 36, 37, 38, 39, 40, 41, 42, 43, 44, 45, 46, 47] (by decide +kernel) (by decide +kernel)
set_option maxRecDepth 20000 in
theorem gX4_mean_X4_summed : GoodIn wsX4_mean (wsV RX4 137 RX4 yX4_summed wsX4_summed) := goodIn_app (goodIn_of _ (by decide +kernel)) ggX4_mean_X4_summed
set_option maxRecDepth 20000 in
theorem ggX4_mean_X4_part : GoodIn wsX4_mean wsX4_part := goodIn_r _ [25, 26, 27, 7, 28] (by decide +kernel) (by decide +kernel)
set_option maxRecDepth 20000 in
theorem gX4_mean_X4_part : GoodIn wsX4_mean (va_wsS RX4 141 yX4_part wsX4_part) := goodIn_app (goodIn_of _ (by decide +kernel)) ggX4_mean_X4_part
theorem dX4_mean_0 : decode cX4_mean 0 = .ok (.aload_n 0, 1) := by decide +kernel
theorem dX4_mean_1 : decode cX4_mean 1 = .ok (.iconst 0, 1) := by decide +kernel
theorem dX4_mean_2 : decode cX4_mean 2 = .ok (.putfield 52, 3) := by decide +kernel
theorem dX4_mean_5 : decode cX4_mean 5 = .ok (.aload_n 0, 1) := by decide +kernel
theorem dX4_mean_6 : decode cX4_mean 6 = .ok (.iload_n 1, 1) := by decide +kernel
theorem dX4_mean_7 : decode cX4_mean 7 = .ok (.iconst 2, 1) := by decide +kernel
theorem dX4_mean_8 : decode cX4_mean 8 = .ok (.invokevirtual 97, 3) := by decide +kernel
theorem dX4_mean_11 : decode cX4_mean 11 = .ok (.ifCond .eq 13, 3) := by decide +kernel
theorem dX4_mean_14 : decode cX4_mean 14 = .ok (.iload_n 2, 1) := by decide +kernel
theorem dX4_mean_15 : decode cX4_mean 15 = .ok (.i2l, 1) := by decide +kernel
theorem dX4_mean_16 : decode cX4_mean 16 = .ok (.lconst 0, 1) := by decide +kernel
theorem dX4_mean_17 : decode cX4_mean 17 = .ok (.lconst 1, 1) := by decide +kernel
theorem dX4_mean_18 : decode cX4_mean 18 = .ok (.invokestatic 63, 3) := by decide +kernel
theorem dX4_mean_21 : decode cX4_mean 21 = .ok (.ifCond .ne 7, 3) := by decide +kernel
theorem dX4_mean_24 : decode cX4_mean 24 = .ok (.ldc2_w 131, 3) := by decide +kernel
theorem dX4_mean_27 : decode cX4_mean 27 = .ok (.lreturn, 1) := by decide +kernel
theorem dX4_mean_28 : decode cX4_mean 28 = .ok (.aload_n 0, 1) := by decide +kernel
theorem dX4_mean_29 : decode cX4_mean 29 = .ok (.getfield 13, 3) := by decide +kernel
theorem dX4_mean_32 : decode cX4_mean 32 = .ok (.iload_n 1, 1) := by decide +kernel
theorem dX4_mean_33 : decode cX4_mean 33 = .ok (.iaload, 1) := by decide +kernel
theorem dX4_mean_34 : decode cX4_mean 34 = .ok (.ifCond .ne 10, 3) := by decide +kernel
theorem dX4_mean_37 : decode cX4_mean 37 = .ok (.aload_n 0, 1) := by decide +kernel
theorem dX4_mean_38 : decode cX4_mean 38 = .ok (.iconst 1, 1) := by decide +kernel
theorem dX4_mean_39 : decode cX4_mean 39 = .ok (.putfield 52, 3) := by decide +kernel
theorem dX4_mean_42 : decode cX4_mean 42 = .ok (.lconst 0, 1) := by decide +kernel
theorem dX4_mean_43 : decode cX4_mean 43 = .ok (.lreturn, 1) := by decide +kernel
theorem dX4_mean_44 : decode cX4_mean 44 = .ok (.aload_n 0, 1) := by decide +kernel
theorem dX4_mean_45 : decode cX4_mean 45 = .ok (.iload_n 1, 1) := by decide +kernel
theorem dX4_mean_46 : decode cX4_mean 46 = .ok (.iconst 0, 1) := by decide +kernel
theorem dX4_mean_47 : decode cX4_mean 47 = .ok (.invokevirtual 137, 3) := by decide +kernel
theorem dX4_mean_50 : decode cX4_mean 50 = .ok (.aload_n 0, 1) := by decide +kernel
theorem dX4_mean_51 : decode cX4_mean 51 = .ok (.getfield 13, 3) := by decide +kernel
theorem dX4_mean_54 : decode cX4_mean 54 = .ok (.iload_n 1, 1) := by decide +kernel
theorem dX4_mean_55 : decode cX4_mean 55 = .ok (.iaload, 1) := by decide +kernel
theorem dX4_mean_56 : decode cX4_mean 56 = .ok (.i2l, 1) := by decide +kernel
theorem dX4_mean_57 : decode cX4_mean 57 = .ok (.iload_n 2, 1) := by decide +kernel
theorem dX4_mean_58 : decode cX4_mean 58 = .ok (.invokestatic 141, 3) := by decide +kernel
theorem dX4_mean_61 : decode cX4_mean 61 = .ok (.lreturn, 1) := by decide +kernel
set_option maxRecDepth 20000 in
theorem ggX4_spread_X4_isOf : GoodIn wsX4_spread wsX4_isOf := goodIn_r _ [8, 9, 10, 11, 12, 7, 13, 14, 29, 30, 31, 32, 33, 34, 35, 36, 37, 38, 39, 40, 41, 42, 43, 44, 45, 46, 47] (by decide +kernel) (by decide +kernel)
set_option maxRecDepth 20000 in
theorem gX4_spread_X4_isOf : GoodIn wsX4_spread (wsV RX4 97 RX4 yX4_isOf wsX4_isOf) := goodIn_app (goodIn_of _ (by decide +kernel)) ggX4_spread_X4_isOf
set_option maxRecDepth 20000 in
theorem ggX4_spread_X4_in : GoodIn wsX4_spread wsX4_in := goodIn_r _ [17] (by decide +kernel) (by decide +kernel)
set_option maxRecDepth 20000 in
theorem gX4_spread_X4_in : GoodIn wsX4_spread (va_wsS RX4 63 yX4_in wsX4_in) := goodIn_app (goodIn_of _ (by decide +kernel)) ggX4_spread_X4_in
set_option maxRecDepth 20000 in
theorem ggX4_spread_X4_summed : GoodIn wsX4_spread wsX4_summed := goodIn_r _ [21, 3, 22, 29, 30, 31, 32, 33, 34, 35, 36, 37, 38, 39, 40, 41, 42, 43, 44, 45, 46, 47] (by decide +kernel) (by decide +kernel)
set_option maxRecDepth 20000 in
theorem gX4_spread_X4_summed : GoodIn wsX4_spread (wsV RX4 137 RX4 yX4_summed wsX4_summed) := goodIn_app (goodIn_of _ (by decide +kernel)) ggX4_spread_X4_summed
set_option maxRecDepth 20000 in
theorem ggX4_spread_X4_part : GoodIn wsX4_spread wsX4_part := goodIn_r _ [25, 26, 27, 7, 28] (by decide +kernel) (by decide +kernel)
set_option maxRecDepth 20000 in
theorem gX4_spread_X4_part : GoodIn wsX4_spread (va_wsS RX4 141 yX4_part wsX4_part) := goodIn_app (goodIn_of _ (by decide +kernel)) ggX4_spread_X4_part
theorem dX4_spread_0 : decode cX4_spread 0 = .ok (.aload_n 0, 1) := by decide +kernel
theorem dX4_spread_1 : decode cX4_spread 1 = .ok (.iconst 0, 1) := by decide +kernel
theorem dX4_spread_2 : decode cX4_spread 2 = .ok (.putfield 52, 3) := by decide +kernel
theorem dX4_spread_5 : decode cX4_spread 5 = .ok (.aload_n 0, 1) := by decide +kernel
theorem dX4_spread_6 : decode cX4_spread 6 = .ok (.iload_n 1, 1) := by decide +kernel
theorem dX4_spread_7 : decode cX4_spread 7 = .ok (.iconst 2, 1) := by decide +kernel
theorem dX4_spread_8 : decode cX4_spread 8 = .ok (.invokevirtual 97, 3) := by decide +kernel
theorem dX4_spread_11 : decode cX4_spread 11 = .ok (.ifCond .eq 13, 3) := by decide +kernel
theorem dX4_spread_14 : decode cX4_spread 14 = .ok (.iload_n 2, 1) := by decide +kernel
theorem dX4_spread_15 : decode cX4_spread 15 = .ok (.i2l, 1) := by decide +kernel
theorem dX4_spread_16 : decode cX4_spread 16 = .ok (.lconst 0, 1) := by decide +kernel
theorem dX4_spread_17 : decode cX4_spread 17 = .ok (.lconst 1, 1) := by decide +kernel
theorem dX4_spread_18 : decode cX4_spread 18 = .ok (.invokestatic 63, 3) := by decide +kernel
theorem dX4_spread_21 : decode cX4_spread 21 = .ok (.ifCond .ne 7, 3) := by decide +kernel
theorem dX4_spread_24 : decode cX4_spread 24 = .ok (.ldc2_w 131, 3) := by decide +kernel
theorem dX4_spread_27 : decode cX4_spread 27 = .ok (.lreturn, 1) := by decide +kernel
theorem dX4_spread_28 : decode cX4_spread 28 = .ok (.aload_n 0, 1) := by decide +kernel
theorem dX4_spread_29 : decode cX4_spread 29 = .ok (.getfield 13, 3) := by decide +kernel
theorem dX4_spread_32 : decode cX4_spread 32 = .ok (.iload_n 1, 1) := by decide +kernel
theorem dX4_spread_33 : decode cX4_spread 33 = .ok (.iaload, 1) := by decide +kernel
theorem dX4_spread_34 : decode cX4_spread 34 = .ok (.ifCond .ne 10, 3) := by decide +kernel
theorem dX4_spread_37 : decode cX4_spread 37 = .ok (.aload_n 0, 1) := by decide +kernel
theorem dX4_spread_38 : decode cX4_spread 38 = .ok (.iconst 1, 1) := by decide +kernel
theorem dX4_spread_39 : decode cX4_spread 39 = .ok (.putfield 52, 3) := by decide +kernel
theorem dX4_spread_42 : decode cX4_spread 42 = .ok (.lconst 0, 1) := by decide +kernel
theorem dX4_spread_43 : decode cX4_spread 43 = .ok (.lreturn, 1) := by decide +kernel
theorem dX4_spread_44 : decode cX4_spread 44 = .ok (.aload_n 0, 1) := by decide +kernel
theorem dX4_spread_45 : decode cX4_spread 45 = .ok (.getfield 13, 3) := by decide +kernel
theorem dX4_spread_48 : decode cX4_spread 48 = .ok (.iload_n 1, 1) := by decide +kernel
theorem dX4_spread_49 : decode cX4_spread 49 = .ok (.iaload, 1) := by decide +kernel
theorem dX4_spread_50 : decode cX4_spread 50 = .ok (.i2l, 1) := by decide +kernel
theorem dX4_spread_51 : decode cX4_spread 51 = .ok (.lstore_n 3, 1) := by decide +kernel
theorem dX4_spread_52 : decode cX4_spread 52 = .ok (.aload_n 0, 1) := by decide +kernel
theorem dX4_spread_53 : decode cX4_spread 53 = .ok (.iload_n 1, 1) := by decide +kernel
theorem dX4_spread_54 : decode cX4_spread 54 = .ok (.iconst 0, 1) := by decide +kernel
theorem dX4_spread_55 : decode cX4_spread 55 = .ok (.invokevirtual 137, 3) := by decide +kernel
theorem dX4_spread_58 : decode cX4_spread 58 = .ok (.lstore 5, 2) := by decide +kernel
theorem dX4_spread_60 : decode cX4_spread 60 = .ok (.lload_n 3, 1) := by decide +kernel
theorem dX4_spread_61 : decode cX4_spread 61 = .ok (.aload_n 0, 1) := by decide +kernel
theorem dX4_spread_62 : decode cX4_spread 62 = .ok (.iload_n 1, 1) := by decide +kernel
theorem dX4_spread_63 : decode cX4_spread 63 = .ok (.iconst 1, 1) := by decide +kernel
theorem dX4_spread_64 : decode cX4_spread 64 = .ok (.invokevirtual 137, 3) := by decide +kernel
theorem dX4_spread_67 : decode cX4_spread 67 = .ok (.lmul, 1) := by decide +kernel
theorem dX4_spread_68 : decode cX4_spread 68 = .ok (.lload 5, 2) := by decide +kernel
theorem dX4_spread_70 : decode cX4_spread 70 = .ok (.lload 5, 2) := by decide +kernel
theorem dX4_spread_72 : decode cX4_spread 72 = .ok (.lmul, 1) := by decide +kernel
theorem dX4_spread_73 : decode cX4_spread 73 = .ok (.lsub, 1) := by decide +kernel
theorem dX4_spread_74 : decode cX4_spread 74 = .ok (.lload_n 3, 1) := by decide +kernel
theorem dX4_spread_75 : decode cX4_spread 75 = .ok (.lload_n 3, 1) := by decide +kernel
theorem dX4_spread_76 : decode cX4_spread 76 = .ok (.lmul, 1) := by decide +kernel
theorem dX4_spread_77 : decode cX4_spread 77 = .ok (.iload_n 2, 1) := by decide +kernel
theorem dX4_spread_78 : decode cX4_spread 78 = .ok (.invokestatic 141, 3) := by decide +kernel
theorem dX4_spread_81 : decode cX4_spread 81 = .ok (.lreturn, 1) := by decide +kernel
set_option maxRecDepth 20000 in
theorem ggX4_least_X4_isOf : GoodIn wsX4_least wsX4_isOf := goodIn_r _ [9, 10, 11, 12, 13, 8, 14, 15, 19, 20, 21, 22, 23, 24, 25, 26, 27, 28, 29, 30, 31, 32, 33, 34, 35, 36, 37] (by decide +kernel) (by decide +kernel)
set_option maxRecDepth 20000 in
theorem gX4_least_X4_isOf : GoodIn wsX4_least (wsV RX4 97 RX4 yX4_isOf wsX4_isOf) := goodIn_app (goodIn_of _ (by decide +kernel)) ggX4_least_X4_isOf
set_option maxRecDepth 20000 in
theorem ggX4_least_X4_in : GoodIn wsX4_least wsX4_in := goodIn_r _ [18] (by decide +kernel) (by decide +kernel)
set_option maxRecDepth 20000 in
theorem gX4_least_X4_in : GoodIn wsX4_least (va_wsS RX4 63 yX4_in wsX4_in) := goodIn_app (goodIn_of _ (by decide +kernel)) ggX4_least_X4_in
theorem dX4_least_0 : decode cX4_least 0 = .ok (.aload_n 0, 1) := by decide +kernel
theorem dX4_least_1 : decode cX4_least 1 = .ok (.iconst 0, 1) := by decide +kernel
theorem dX4_least_2 : decode cX4_least 2 = .ok (.putfield 52, 3) := by decide +kernel
theorem dX4_least_5 : decode cX4_least 5 = .ok (.aload_n 0, 1) := by decide +kernel
theorem dX4_least_6 : decode cX4_least 6 = .ok (.iload_n 1, 1) := by decide +kernel
theorem dX4_least_7 : decode cX4_least 7 = .ok (.iconst 3, 1) := by decide +kernel
theorem dX4_least_8 : decode cX4_least 8 = .ok (.invokevirtual 97, 3) := by decide +kernel
theorem dX4_least_11 : decode cX4_least 11 = .ok (.ifCond .eq 22, 3) := by decide +kernel
theorem dX4_least_14 : decode cX4_least 14 = .ok (.iload_n 2, 1) := by decide +kernel
theorem dX4_least_15 : decode cX4_least 15 = .ok (.i2l, 1) := by decide +kernel
theorem dX4_least_16 : decode cX4_least 16 = .ok (.lconst 0, 1) := by decide +kernel
theorem dX4_least_17 : decode cX4_least 17 = .ok (.lconst 1, 1) := by decide +kernel
theorem dX4_least_18 : decode cX4_least 18 = .ok (.invokestatic 63, 3) := by decide +kernel
theorem dX4_least_21 : decode cX4_least 21 = .ok (.ifCond .eq 12, 3) := by decide +kernel
theorem dX4_least_24 : decode cX4_least 24 = .ok (.aload_n 0, 1) := by decide +kernel
theorem dX4_least_25 : decode cX4_least 25 = .ok (.getfield 13, 3) := by decide +kernel
theorem dX4_least_28 : decode cX4_least 28 = .ok (.iload_n 1, 1) := by decide +kernel
theorem dX4_least_29 : decode cX4_least 29 = .ok (.iaload, 1) := by decide +kernel
theorem dX4_least_30 : decode cX4_least 30 = .ok (.ifCond .ne 7, 3) := by decide +kernel
theorem dX4_least_33 : decode cX4_least 33 = .ok (.ldc2_w 131, 3) := by decide +kernel
theorem dX4_least_36 : decode cX4_least 36 = .ok (.lreturn, 1) := by decide +kernel
theorem dX4_least_37 : decode cX4_least 37 = .ok (.aload_n 0, 1) := by decide +kernel
theorem dX4_least_38 : decode cX4_least 38 = .ok (.getfield 19, 3) := by decide +kernel
theorem dX4_least_41 : decode cX4_least 41 = .ok (.bipush 64, 2) := by decide +kernel
theorem dX4_least_43 : decode cX4_least 43 = .ok (.iload_n 1, 1) := by decide +kernel
theorem dX4_least_44 : decode cX4_least 44 = .ok (.imul, 1) := by decide +kernel
theorem dX4_least_45 : decode cX4_least 45 = .ok (.laload, 1) := by decide +kernel
theorem dX4_least_46 : decode cX4_least 46 = .ok (.lstore_n 3, 1) := by decide +kernel
theorem dX4_least_47 : decode cX4_least 47 = .ok (.bipush 64, 2) := by decide +kernel
theorem dX4_least_49 : decode cX4_least 49 = .ok (.iload_n 1, 1) := by decide +kernel
theorem dX4_least_50 : decode cX4_least 50 = .ok (.imul, 1) := by decide +kernel
theorem dX4_least_51 : decode cX4_least 51 = .ok (.istore 5, 2) := by decide +kernel
theorem dX4_least_53 : decode cX4_least 53 = .ok (.iload 5, 2) := by decide +kernel
theorem dX4_least_55 : decode cX4_least 55 = .ok (.bipush 64, 2) := by decide +kernel
theorem dX4_least_57 : decode cX4_least 57 = .ok (.iload_n 1, 1) := by decide +kernel
theorem dX4_least_58 : decode cX4_least 58 = .ok (.imul, 1) := by decide +kernel
theorem dX4_least_59 : decode cX4_least 59 = .ok (.aload_n 0, 1) := by decide +kernel
theorem dX4_least_60 : decode cX4_least 60 = .ok (.getfield 13, 3) := by decide +kernel
theorem dX4_least_63 : decode cX4_least 63 = .ok (.iload_n 1, 1) := by decide +kernel
theorem dX4_least_64 : decode cX4_least 64 = .ok (.iaload, 1) := by decide +kernel
theorem dX4_least_65 : decode cX4_least 65 = .ok (.iadd, 1) := by decide +kernel
theorem dX4_least_66 : decode cX4_least 66 = .ok (.if_icmp .ge 63, 3) := by decide +kernel
theorem dX4_least_69 : decode cX4_least 69 = .ok (.iload_n 2, 1) := by decide +kernel
theorem dX4_least_70 : decode cX4_least 70 = .ok (.ifCond .ne 29, 3) := by decide +kernel
theorem dX4_least_73 : decode cX4_least 73 = .ok (.aload_n 0, 1) := by decide +kernel
theorem dX4_least_74 : decode cX4_least 74 = .ok (.getfield 19, 3) := by decide +kernel
theorem dX4_least_77 : decode cX4_least 77 = .ok (.iload 5, 2) := by decide +kernel
theorem dX4_least_79 : decode cX4_least 79 = .ok (.laload, 1) := by decide +kernel
theorem dX4_least_80 : decode cX4_least 80 = .ok (.lload_n 3, 1) := by decide +kernel
theorem dX4_least_81 : decode cX4_least 81 = .ok (.lcmp, 1) := by decide +kernel
theorem dX4_least_82 : decode cX4_least 82 = .ok (.ifCond .ge 13, 3) := by decide +kernel
theorem dX4_least_85 : decode cX4_least 85 = .ok (.aload_n 0, 1) := by decide +kernel
theorem dX4_least_86 : decode cX4_least 86 = .ok (.getfield 19, 3) := by decide +kernel
theorem dX4_least_89 : decode cX4_least 89 = .ok (.iload 5, 2) := by decide +kernel
theorem dX4_least_91 : decode cX4_least 91 = .ok (.laload, 1) := by decide +kernel
theorem dX4_least_92 : decode cX4_least 92 = .ok (.goto 30, 3) := by decide +kernel
theorem dX4_least_95 : decode cX4_least 95 = .ok (.lload_n 3, 1) := by decide +kernel
theorem dX4_least_96 : decode cX4_least 96 = .ok (.goto 26, 3) := by decide +kernel
theorem dX4_least_99 : decode cX4_least 99 = .ok (.aload_n 0, 1) := by decide +kernel
theorem dX4_least_100 : decode cX4_least 100 = .ok (.getfield 19, 3) := by decide +kernel
theorem dX4_least_103 : decode cX4_least 103 = .ok (.iload 5, 2) := by decide +kernel
theorem dX4_least_105 : decode cX4_least 105 = .ok (.laload, 1) := by decide +kernel
theorem dX4_least_106 : decode cX4_least 106 = .ok (.lload_n 3, 1) := by decide +kernel
theorem dX4_least_107 : decode cX4_least 107 = .ok (.lcmp, 1) := by decide +kernel
theorem dX4_least_108 : decode cX4_least 108 = .ok (.ifCond .le 13, 3) := by decide +kernel
theorem dX4_least_111 : decode cX4_least 111 = .ok (.aload_n 0, 1) := by decide +kernel
theorem dX4_least_112 : decode cX4_least 112 = .ok (.getfield 19, 3) := by decide +kernel
theorem dX4_least_115 : decode cX4_least 115 = .ok (.iload 5, 2) := by decide +kernel
theorem dX4_least_117 : decode cX4_least 117 = .ok (.laload, 1) := by decide +kernel
theorem dX4_least_118 : decode cX4_least 118 = .ok (.goto 4, 3) := by decide +kernel
theorem dX4_least_121 : decode cX4_least 121 = .ok (.lload_n 3, 1) := by decide +kernel
theorem dX4_least_122 : decode cX4_least 122 = .ok (.lstore_n 3, 1) := by decide +kernel
theorem dX4_least_123 : decode cX4_least 123 = .ok (.iinc 5 1, 3) := by decide +kernel
theorem dX4_least_126 : decode cX4_least 126 = .ok (.goto (-73), 3) := by decide +kernel
theorem dX4_least_129 : decode cX4_least 129 = .ok (.lload_n 3, 1) := by decide +kernel
theorem dX4_least_130 : decode cX4_least 130 = .ok (.lreturn, 1) := by decide +kernel
set_option maxRecDepth 20000 in
theorem ggX4_rank_X4_isFold : GoodIn wsX4_rank wsX4_isFold := goodIn_r _ [9, 10, 11, 12, 13, 14, 15, 16, 17, 18, 19, 20, 21, 22, 23, 24, 25, 26, 27, 28, 29] (by decide +kernel) (by decide +kernel)
set_option maxRecDepth 20000 in
theorem gX4_rank_X4_isFold : GoodIn wsX4_rank (wsV RX4 55 RX4 yX4_isFold wsX4_isFold) := goodIn_app (goodIn_of _ (by decide +kernel)) ggX4_rank_X4_isFold
theorem dX4_rank_0 : decode cX4_rank 0 = .ok (.aload_n 0, 1) := by decide +kernel
theorem dX4_rank_1 : decode cX4_rank 1 = .ok (.iconst 0, 1) := by decide +kernel
theorem dX4_rank_2 : decode cX4_rank 2 = .ok (.putfield 52, 3) := by decide +kernel
theorem dX4_rank_5 : decode cX4_rank 5 = .ok (.aload_n 0, 1) := by decide +kernel
theorem dX4_rank_6 : decode cX4_rank 6 = .ok (.iload_n 1, 1) := by decide +kernel
theorem dX4_rank_7 : decode cX4_rank 7 = .ok (.invokevirtual 55, 3) := by decide +kernel
theorem dX4_rank_10 : decode cX4_rank 10 = .ok (.ifCond .ne 5, 3) := by decide +kernel
theorem dX4_rank_13 : decode cX4_rank 13 = .ok (.iconst (-1), 1) := by decide +kernel
theorem dX4_rank_14 : decode cX4_rank 14 = .ok (.ireturn, 1) := by decide +kernel
theorem dX4_rank_15 : decode cX4_rank 15 = .ok (.aload_n 0, 1) := by decide +kernel
theorem dX4_rank_16 : decode cX4_rank 16 = .ok (.getfield 7, 3) := by decide +kernel
theorem dX4_rank_19 : decode cX4_rank 19 = .ok (.iload_n 1, 1) := by decide +kernel
theorem dX4_rank_20 : decode cX4_rank 20 = .ok (.iaload, 1) := by decide +kernel
theorem dX4_rank_21 : decode cX4_rank 21 = .ok (.iconst 3, 1) := by decide +kernel
theorem dX4_rank_22 : decode cX4_rank 22 = .ok (.if_icmp .eq 6, 3) := by decide +kernel
theorem dX4_rank_25 : decode cX4_rank 25 = .ok (.bipush (-3), 2) := by decide +kernel
theorem dX4_rank_27 : decode cX4_rank 27 = .ok (.ireturn, 1) := by decide +kernel
theorem dX4_rank_28 : decode cX4_rank 28 = .ok (.iconst 0, 1) := by decide +kernel
theorem dX4_rank_29 : decode cX4_rank 29 = .ok (.istore 4, 2) := by decide +kernel
theorem dX4_rank_31 : decode cX4_rank 31 = .ok (.bipush 64, 2) := by decide +kernel
theorem dX4_rank_33 : decode cX4_rank 33 = .ok (.iload_n 1, 1) := by decide +kernel
theorem dX4_rank_34 : decode cX4_rank 34 = .ok (.imul, 1) := by decide +kernel
theorem dX4_rank_35 : decode cX4_rank 35 = .ok (.istore 5, 2) := by decide +kernel
theorem dX4_rank_37 : decode cX4_rank 37 = .ok (.iload 5, 2) := by decide +kernel
theorem dX4_rank_39 : decode cX4_rank 39 = .ok (.bipush 64, 2) := by decide +kernel
theorem dX4_rank_41 : decode cX4_rank 41 = .ok (.iload_n 1, 1) := by decide +kernel
theorem dX4_rank_42 : decode cX4_rank 42 = .ok (.imul, 1) := by decide +kernel
theorem dX4_rank_43 : decode cX4_rank 43 = .ok (.aload_n 0, 1) := by decide +kernel
theorem dX4_rank_44 : decode cX4_rank 44 = .ok (.getfield 13, 3) := by decide +kernel
theorem dX4_rank_47 : decode cX4_rank 47 = .ok (.iload_n 1, 1) := by decide +kernel
theorem dX4_rank_48 : decode cX4_rank 48 = .ok (.iaload, 1) := by decide +kernel
theorem dX4_rank_49 : decode cX4_rank 49 = .ok (.iadd, 1) := by decide +kernel
theorem dX4_rank_50 : decode cX4_rank 50 = .ok (.if_icmp .ge 31, 3) := by decide +kernel
theorem dX4_rank_53 : decode cX4_rank 53 = .ok (.iload 4, 2) := by decide +kernel
theorem dX4_rank_55 : decode cX4_rank 55 = .ok (.aload_n 0, 1) := by decide +kernel
theorem dX4_rank_56 : decode cX4_rank 56 = .ok (.getfield 19, 3) := by decide +kernel
theorem dX4_rank_59 : decode cX4_rank 59 = .ok (.iload 5, 2) := by decide +kernel
theorem dX4_rank_61 : decode cX4_rank 61 = .ok (.laload, 1) := by decide +kernel
theorem dX4_rank_62 : decode cX4_rank 62 = .ok (.lload_n 2, 1) := by decide +kernel
theorem dX4_rank_63 : decode cX4_rank 63 = .ok (.lcmp, 1) := by decide +kernel
theorem dX4_rank_64 : decode cX4_rank 64 = .ok (.ifCond .ge 7, 3) := by decide +kernel
theorem dX4_rank_67 : decode cX4_rank 67 = .ok (.iconst 1, 1) := by decide +kernel
theorem dX4_rank_68 : decode cX4_rank 68 = .ok (.goto 4, 3) := by decide +kernel
theorem dX4_rank_71 : decode cX4_rank 71 = .ok (.iconst 0, 1) := by decide +kernel
theorem dX4_rank_72 : decode cX4_rank 72 = .ok (.iadd, 1) := by decide +kernel
theorem dX4_rank_73 : decode cX4_rank 73 = .ok (.istore 4, 2) := by decide +kernel
theorem dX4_rank_75 : decode cX4_rank 75 = .ok (.iinc 5 1, 3) := by decide +kernel
theorem dX4_rank_78 : decode cX4_rank 78 = .ok (.goto (-41), 3) := by decide +kernel
theorem dX4_rank_81 : decode cX4_rank 81 = .ok (.iload 4, 2) := by decide +kernel
theorem dX4_rank_83 : decode cX4_rank 83 = .ok (.ireturn, 1) := by decide +kernel
set_option maxRecDepth 20000 in
theorem ggX4_unlike_X4_isFold : GoodIn wsX4_unlike wsX4_isFold := goodIn_r _ [9, 10, 11, 12, 13, 14, 15, 16, 17, 18, 19, 20, 21, 22, 23, 24, 25, 26, 27, 28, 29] (by decide +kernel) (by decide +kernel)
set_option maxRecDepth 20000 in
theorem gX4_unlike_X4_isFold : GoodIn wsX4_unlike (wsV RX4 55 RX4 yX4_isFold wsX4_isFold) := goodIn_app (goodIn_of _ (by decide +kernel)) ggX4_unlike_X4_isFold
theorem dX4_unlike_0 : decode cX4_unlike 0 = .ok (.aload_n 0, 1) := by decide +kernel
theorem dX4_unlike_1 : decode cX4_unlike 1 = .ok (.iconst 0, 1) := by decide +kernel
theorem dX4_unlike_2 : decode cX4_unlike 2 = .ok (.putfield 52, 3) := by decide +kernel
theorem dX4_unlike_5 : decode cX4_unlike 5 = .ok (.aload_n 0, 1) := by decide +kernel
theorem dX4_unlike_6 : decode cX4_unlike 6 = .ok (.iload_n 1, 1) := by decide +kernel
theorem dX4_unlike_7 : decode cX4_unlike 7 = .ok (.invokevirtual 55, 3) := by decide +kernel
theorem dX4_unlike_10 : decode cX4_unlike 10 = .ok (.ifCond .ne 5, 3) := by decide +kernel
theorem dX4_unlike_13 : decode cX4_unlike 13 = .ok (.iconst (-1), 1) := by decide +kernel
theorem dX4_unlike_14 : decode cX4_unlike 14 = .ok (.ireturn, 1) := by decide +kernel
theorem dX4_unlike_15 : decode cX4_unlike 15 = .ok (.aload_n 0, 1) := by decide +kernel
theorem dX4_unlike_16 : decode cX4_unlike 16 = .ok (.getfield 7, 3) := by decide +kernel
theorem dX4_unlike_19 : decode cX4_unlike 19 = .ok (.iload_n 1, 1) := by decide +kernel
theorem dX4_unlike_20 : decode cX4_unlike 20 = .ok (.iaload, 1) := by decide +kernel
theorem dX4_unlike_21 : decode cX4_unlike 21 = .ok (.iconst 3, 1) := by decide +kernel
theorem dX4_unlike_22 : decode cX4_unlike 22 = .ok (.if_icmp .eq 6, 3) := by decide +kernel
theorem dX4_unlike_25 : decode cX4_unlike 25 = .ok (.bipush (-3), 2) := by decide +kernel
theorem dX4_unlike_27 : decode cX4_unlike 27 = .ok (.ireturn, 1) := by decide +kernel
theorem dX4_unlike_28 : decode cX4_unlike 28 = .ok (.iconst 0, 1) := by decide +kernel
theorem dX4_unlike_29 : decode cX4_unlike 29 = .ok (.istore_n 2, 1) := by decide +kernel
theorem dX4_unlike_30 : decode cX4_unlike 30 = .ok (.bipush 64, 2) := by decide +kernel
theorem dX4_unlike_32 : decode cX4_unlike 32 = .ok (.iload_n 1, 1) := by decide +kernel
theorem dX4_unlike_33 : decode cX4_unlike 33 = .ok (.imul, 1) := by decide +kernel
theorem dX4_unlike_34 : decode cX4_unlike 34 = .ok (.istore_n 3, 1) := by decide +kernel
theorem dX4_unlike_35 : decode cX4_unlike 35 = .ok (.iload_n 3, 1) := by decide +kernel
theorem dX4_unlike_36 : decode cX4_unlike 36 = .ok (.bipush 64, 2) := by decide +kernel
theorem dX4_unlike_38 : decode cX4_unlike 38 = .ok (.iload_n 1, 1) := by decide +kernel
theorem dX4_unlike_39 : decode cX4_unlike 39 = .ok (.imul, 1) := by decide +kernel
theorem dX4_unlike_40 : decode cX4_unlike 40 = .ok (.aload_n 0, 1) := by decide +kernel
theorem dX4_unlike_41 : decode cX4_unlike 41 = .ok (.getfield 13, 3) := by decide +kernel
theorem dX4_unlike_44 : decode cX4_unlike 44 = .ok (.iload_n 1, 1) := by decide +kernel
theorem dX4_unlike_45 : decode cX4_unlike 45 = .ok (.iaload, 1) := by decide +kernel
theorem dX4_unlike_46 : decode cX4_unlike 46 = .ok (.iadd, 1) := by decide +kernel
theorem dX4_unlike_47 : decode cX4_unlike 47 = .ok (.if_icmp .ge 72, 3) := by decide +kernel
theorem dX4_unlike_50 : decode cX4_unlike 50 = .ok (.iconst 1, 1) := by decide +kernel
theorem dX4_unlike_51 : decode cX4_unlike 51 = .ok (.istore 4, 2) := by decide +kernel
theorem dX4_unlike_53 : decode cX4_unlike 53 = .ok (.bipush 64, 2) := by decide +kernel
theorem dX4_unlike_55 : decode cX4_unlike 55 = .ok (.iload_n 1, 1) := by decide +kernel
theorem dX4_unlike_56 : decode cX4_unlike 56 = .ok (.imul, 1) := by decide +kernel
theorem dX4_unlike_57 : decode cX4_unlike 57 = .ok (.istore 5, 2) := by decide +kernel
theorem dX4_unlike_59 : decode cX4_unlike 59 = .ok (.iload 5, 2) := by decide +kernel
theorem dX4_unlike_61 : decode cX4_unlike 61 = .ok (.iload_n 3, 1) := by decide +kernel
theorem dX4_unlike_62 : decode cX4_unlike 62 = .ok (.if_icmp .ge 38, 3) := by decide +kernel
theorem dX4_unlike_65 : decode cX4_unlike 65 = .ok (.iload 4, 2) := by decide +kernel
theorem dX4_unlike_67 : decode cX4_unlike 67 = .ok (.ifCond .eq 24, 3) := by decide +kernel
theorem dX4_unlike_70 : decode cX4_unlike 70 = .ok (.aload_n 0, 1) := by decide +kernel
theorem dX4_unlike_71 : decode cX4_unlike 71 = .ok (.getfield 19, 3) := by decide +kernel
theorem dX4_unlike_74 : decode cX4_unlike 74 = .ok (.iload 5, 2) := by decide +kernel
theorem dX4_unlike_76 : decode cX4_unlike 76 = .ok (.laload, 1) := by decide +kernel
theorem dX4_unlike_77 : decode cX4_unlike 77 = .ok (.aload_n 0, 1) := by decide +kernel
theorem dX4_unlike_78 : decode cX4_unlike 78 = .ok (.getfield 19, 3) := by decide +kernel
theorem dX4_unlike_81 : decode cX4_unlike 81 = .ok (.iload_n 3, 1) := by decide +kernel
theorem dX4_unlike_82 : decode cX4_unlike 82 = .ok (.laload, 1) := by decide +kernel
theorem dX4_unlike_83 : decode cX4_unlike 83 = .ok (.lcmp, 1) := by decide +kernel
theorem dX4_unlike_84 : decode cX4_unlike 84 = .ok (.ifCond .eq 7, 3) := by decide +kernel
theorem dX4_unlike_87 : decode cX4_unlike 87 = .ok (.iconst 1, 1) := by decide +kernel
theorem dX4_unlike_88 : decode cX4_unlike 88 = .ok (.goto 4, 3) := by decide +kernel
theorem dX4_unlike_91 : decode cX4_unlike 91 = .ok (.iconst 0, 1) := by decide +kernel
theorem dX4_unlike_92 : decode cX4_unlike 92 = .ok (.istore 4, 2) := by decide +kernel
theorem dX4_unlike_94 : decode cX4_unlike 94 = .ok (.iinc 5 1, 3) := by decide +kernel
theorem dX4_unlike_97 : decode cX4_unlike 97 = .ok (.goto (-38), 3) := by decide +kernel
theorem dX4_unlike_100 : decode cX4_unlike 100 = .ok (.iload_n 2, 1) := by decide +kernel
theorem dX4_unlike_101 : decode cX4_unlike 101 = .ok (.iload 4, 2) := by decide +kernel
theorem dX4_unlike_103 : decode cX4_unlike 103 = .ok (.ifCond .eq 7, 3) := by decide +kernel
theorem dX4_unlike_106 : decode cX4_unlike 106 = .ok (.iconst 1, 1) := by decide +kernel
theorem dX4_unlike_107 : decode cX4_unlike 107 = .ok (.goto 4, 3) := by decide +kernel
theorem dX4_unlike_110 : decode cX4_unlike 110 = .ok (.iconst 0, 1) := by decide +kernel
theorem dX4_unlike_111 : decode cX4_unlike 111 = .ok (.iadd, 1) := by decide +kernel
theorem dX4_unlike_112 : decode cX4_unlike 112 = .ok (.istore_n 2, 1) := by decide +kernel
theorem dX4_unlike_113 : decode cX4_unlike 113 = .ok (.iinc 3 1, 3) := by decide +kernel
theorem dX4_unlike_116 : decode cX4_unlike 116 = .ok (.goto (-81), 3) := by decide +kernel
theorem dX4_unlike_119 : decode cX4_unlike 119 = .ok (.iload_n 2, 1) := by decide +kernel
theorem dX4_unlike_120 : decode cX4_unlike 120 = .ok (.ireturn, 1) := by decide +kernel
theorem dX4_isAhead_0 : decode cX4_isAhead 0 = .ok (.aload_n 0, 1) := by decide +kernel
theorem dX4_isAhead_1 : decode cX4_isAhead 1 = .ok (.getfield 16, 3) := by decide +kernel
theorem dX4_isAhead_4 : decode cX4_isAhead 4 = .ok (.iload_n 1, 1) := by decide +kernel
theorem dX4_isAhead_5 : decode cX4_isAhead 5 = .ok (.iaload, 1) := by decide +kernel
theorem dX4_isAhead_6 : decode cX4_isAhead 6 = .ok (.aload_n 0, 1) := by decide +kernel
theorem dX4_isAhead_7 : decode cX4_isAhead 7 = .ok (.getfield 16, 3) := by decide +kernel
theorem dX4_isAhead_10 : decode cX4_isAhead 10 = .ok (.iload_n 2, 1) := by decide +kernel
theorem dX4_isAhead_11 : decode cX4_isAhead 11 = .ok (.iaload, 1) := by decide +kernel
theorem dX4_isAhead_12 : decode cX4_isAhead 12 = .ok (.if_icmp .lt 34, 3) := by decide +kernel
theorem dX4_isAhead_15 : decode cX4_isAhead 15 = .ok (.aload_n 0, 1) := by decide +kernel
theorem dX4_isAhead_16 : decode cX4_isAhead 16 = .ok (.getfield 16, 3) := by decide +kernel
theorem dX4_isAhead_19 : decode cX4_isAhead 19 = .ok (.iload_n 1, 1) := by decide +kernel
theorem dX4_isAhead_20 : decode cX4_isAhead 20 = .ok (.iaload, 1) := by decide +kernel
theorem dX4_isAhead_21 : decode cX4_isAhead 21 = .ok (.aload_n 0, 1) := by decide +kernel
theorem dX4_isAhead_22 : decode cX4_isAhead 22 = .ok (.getfield 16, 3) := by decide +kernel
theorem dX4_isAhead_25 : decode cX4_isAhead 25 = .ok (.iload_n 2, 1) := by decide +kernel
theorem dX4_isAhead_26 : decode cX4_isAhead 26 = .ok (.iaload, 1) := by decide +kernel
theorem dX4_isAhead_27 : decode cX4_isAhead 27 = .ok (.if_icmp .ne 23, 3) := by decide +kernel
theorem dX4_isAhead_30 : decode cX4_isAhead 30 = .ok (.aload_n 0, 1) := by decide +kernel
theorem dX4_isAhead_31 : decode cX4_isAhead 31 = .ok (.getfield 19, 3) := by decide +kernel
theorem dX4_isAhead_34 : decode cX4_isAhead 34 = .ok (.iload_n 1, 1) := by decide +kernel
theorem dX4_isAhead_35 : decode cX4_isAhead 35 = .ok (.laload, 1) := by decide +kernel
theorem dX4_isAhead_36 : decode cX4_isAhead 36 = .ok (.aload_n 0, 1) := by decide +kernel
theorem dX4_isAhead_37 : decode cX4_isAhead 37 = .ok (.getfield 19, 3) := by decide +kernel
theorem dX4_isAhead_40 : decode cX4_isAhead 40 = .ok (.iload_n 2, 1) := by decide +kernel
theorem dX4_isAhead_41 : decode cX4_isAhead 41 = .ok (.laload, 1) := by decide +kernel
theorem dX4_isAhead_42 : decode cX4_isAhead 42 = .ok (.lcmp, 1) := by decide +kernel
theorem dX4_isAhead_43 : decode cX4_isAhead 43 = .ok (.ifCond .ge 7, 3) := by decide +kernel
theorem dX4_isAhead_46 : decode cX4_isAhead 46 = .ok (.iconst 1, 1) := by decide +kernel
theorem dX4_isAhead_47 : decode cX4_isAhead 47 = .ok (.goto 4, 3) := by decide +kernel
theorem dX4_isAhead_50 : decode cX4_isAhead 50 = .ok (.iconst 0, 1) := by decide +kernel
theorem dX4_isAhead_51 : decode cX4_isAhead 51 = .ok (.ireturn, 1) := by decide +kernel
set_option maxRecDepth 20000 in
theorem ggX4_lay_X4_isAhead : GoodIn wsX4_lay wsX4_isAhead := goodIn_r _ [7, 8, 9, 10, 11, 12, 13, 14, 15, 16, 17, 18, 19, 20, 21, 22, 23, 24, 25, 26, 27, 28] (by decide +kernel) (by decide +kernel)
set_option maxRecDepth 20000 in
theorem gX4_lay_X4_isAhead : GoodIn wsX4_lay (wsV RX4 145 RX4 yX4_isAhead wsX4_isAhead) := goodIn_app (goodIn_of _ (by decide +kernel)) ggX4_lay_X4_isAhead
theorem dX4_lay_0 : decode cX4_lay 0 = .ok (.iconst 0, 1) := by decide +kernel
theorem dX4_lay_1 : decode cX4_lay 1 = .ok (.istore_n 2, 1) := by decide +kernel
theorem dX4_lay_2 : decode cX4_lay 2 = .ok (.iload_n 2, 1) := by decide +kernel
theorem dX4_lay_3 : decode cX4_lay 3 = .ok (.aload_n 0, 1) := by decide +kernel
theorem dX4_lay_4 : decode cX4_lay 4 = .ok (.getfield 13, 3) := by decide +kernel
theorem dX4_lay_7 : decode cX4_lay 7 = .ok (.iload_n 1, 1) := by decide +kernel
theorem dX4_lay_8 : decode cX4_lay 8 = .ok (.iaload, 1) := by decide +kernel
theorem dX4_lay_9 : decode cX4_lay 9 = .ok (.if_icmp .ge 71, 3) := by decide +kernel
theorem dX4_lay_12 : decode cX4_lay 12 = .ok (.bipush 64, 2) := by decide +kernel
theorem dX4_lay_14 : decode cX4_lay 14 = .ok (.iload_n 1, 1) := by decide +kernel
theorem dX4_lay_15 : decode cX4_lay 15 = .ok (.imul, 1) := by decide +kernel
theorem dX4_lay_16 : decode cX4_lay 16 = .ok (.iload_n 2, 1) := by decide +kernel
theorem dX4_lay_17 : decode cX4_lay 17 = .ok (.iadd, 1) := by decide +kernel
theorem dX4_lay_18 : decode cX4_lay 18 = .ok (.istore_n 3, 1) := by decide +kernel
theorem dX4_lay_19 : decode cX4_lay 19 = .ok (.iload_n 2, 1) := by decide +kernel
theorem dX4_lay_20 : decode cX4_lay 20 = .ok (.istore 4, 2) := by decide +kernel
theorem dX4_lay_22 : decode cX4_lay 22 = .ok (.iload 4, 2) := by decide +kernel
theorem dX4_lay_24 : decode cX4_lay 24 = .ok (.ifCond .le 42, 3) := by decide +kernel
theorem dX4_lay_27 : decode cX4_lay 27 = .ok (.aload_n 0, 1) := by decide +kernel
theorem dX4_lay_28 : decode cX4_lay 28 = .ok (.iload_n 3, 1) := by decide +kernel
theorem dX4_lay_29 : decode cX4_lay 29 = .ok (.aload_n 0, 1) := by decide +kernel
theorem dX4_lay_30 : decode cX4_lay 30 = .ok (.getfield 26, 3) := by decide +kernel
theorem dX4_lay_33 : decode cX4_lay 33 = .ok (.iload 4, 2) := by decide +kernel
theorem dX4_lay_35 : decode cX4_lay 35 = .ok (.iconst 1, 1) := by decide +kernel
theorem dX4_lay_36 : decode cX4_lay 36 = .ok (.isub, 1) := by decide +kernel
theorem dX4_lay_37 : decode cX4_lay 37 = .ok (.iaload, 1) := by decide +kernel
theorem dX4_lay_38 : decode cX4_lay 38 = .ok (.invokevirtual 145, 3) := by decide +kernel
theorem dX4_lay_41 : decode cX4_lay 41 = .ok (.ifCond .eq 25, 3) := by decide +kernel
theorem dX4_lay_44 : decode cX4_lay 44 = .ok (.aload_n 0, 1) := by decide +kernel
theorem dX4_lay_45 : decode cX4_lay 45 = .ok (.getfield 26, 3) := by decide +kernel
theorem dX4_lay_48 : decode cX4_lay 48 = .ok (.iload 4, 2) := by decide +kernel
theorem dX4_lay_50 : decode cX4_lay 50 = .ok (.aload_n 0, 1) := by decide +kernel
theorem dX4_lay_51 : decode cX4_lay 51 = .ok (.getfield 26, 3) := by decide +kernel
theorem dX4_lay_54 : decode cX4_lay 54 = .ok (.iload 4, 2) := by decide +kernel
theorem dX4_lay_56 : decode cX4_lay 56 = .ok (.iconst 1, 1) := by decide +kernel
theorem dX4_lay_57 : decode cX4_lay 57 = .ok (.isub, 1) := by decide +kernel
theorem dX4_lay_58 : decode cX4_lay 58 = .ok (.iaload, 1) := by decide +kernel
theorem dX4_lay_59 : decode cX4_lay 59 = .ok (.iastore, 1) := by decide +kernel
theorem dX4_lay_60 : decode cX4_lay 60 = .ok (.iinc 4 (-1), 3) := by decide +kernel
theorem dX4_lay_63 : decode cX4_lay 63 = .ok (.goto (-41), 3) := by decide +kernel
theorem dX4_lay_66 : decode cX4_lay 66 = .ok (.aload_n 0, 1) := by decide +kernel
theorem dX4_lay_67 : decode cX4_lay 67 = .ok (.getfield 26, 3) := by decide +kernel
theorem dX4_lay_70 : decode cX4_lay 70 = .ok (.iload 4, 2) := by decide +kernel
theorem dX4_lay_72 : decode cX4_lay 72 = .ok (.iload_n 3, 1) := by decide +kernel
theorem dX4_lay_73 : decode cX4_lay 73 = .ok (.iastore, 1) := by decide +kernel
theorem dX4_lay_74 : decode cX4_lay 74 = .ok (.iinc 2 1, 3) := by decide +kernel
theorem dX4_lay_77 : decode cX4_lay 77 = .ok (.goto (-75), 3) := by decide +kernel
theorem dX4_lay_80 : decode cX4_lay 80 = .ok (.return_, 1) := by decide +kernel
set_option maxRecDepth 20000 in
theorem ggX4_item_X4_isFold : GoodIn wsX4_item wsX4_isFold := goodIn_r _ [11, 12, 22, 23, 24, 25, 26, 27, 28, 29, 30, 31, 32, 33, 34, 35, 36, 37, 38, 39, 40] (by decide +kernel) (by decide +kernel)
set_option maxRecDepth 20000 in
theorem gX4_item_X4_isFold : GoodIn wsX4_item (wsV RX4 55 RX4 yX4_isFold wsX4_isFold) := goodIn_app (goodIn_of _ (by decide +kernel)) ggX4_item_X4_isFold
set_option maxRecDepth 20000 in
theorem ggX4_item_X4_lay : GoodIn wsX4_item wsX4_lay := goodIn_r _ [16, 3, 6, 17, 18, 19, 10, 20, 21, 5, 22, 23, 24, 25, 26, 27, 28, 29, 30, 31, 32, 33, 34, 35, 36, 37, 38, 39, 40] (by decide +kernel) (by decide +kernel)
set_option maxRecDepth 20000 in
theorem gX4_item_X4_lay : GoodIn wsX4_item (wsV RX4 148 RX4 yX4_lay wsX4_lay) := goodIn_app (goodIn_of _ (by decide +kernel)) ggX4_item_X4_lay
theorem dX4_item_0 : decode cX4_item 0 = .ok (.aload_n 0, 1) := by decide +kernel
theorem dX4_item_1 : decode cX4_item 1 = .ok (.iconst 0, 1) := by decide +kernel
theorem dX4_item_2 : decode cX4_item 2 = .ok (.putfield 52, 3) := by decide +kernel
theorem dX4_item_5 : decode cX4_item 5 = .ok (.aload_n 0, 1) := by decide +kernel
theorem dX4_item_6 : decode cX4_item 6 = .ok (.iload_n 1, 1) := by decide +kernel
theorem dX4_item_7 : decode cX4_item 7 = .ok (.invokevirtual 55, 3) := by decide +kernel
theorem dX4_item_10 : decode cX4_item 10 = .ok (.ifCond .eq 27, 3) := by decide +kernel
theorem dX4_item_13 : decode cX4_item 13 = .ok (.aload_n 0, 1) := by decide +kernel
theorem dX4_item_14 : decode cX4_item 14 = .ok (.getfield 7, 3) := by decide +kernel
theorem dX4_item_17 : decode cX4_item 17 = .ok (.iload_n 1, 1) := by decide +kernel
theorem dX4_item_18 : decode cX4_item 18 = .ok (.iaload, 1) := by decide +kernel
theorem dX4_item_19 : decode cX4_item 19 = .ok (.iconst 1, 1) := by decide +kernel
theorem dX4_item_20 : decode cX4_item 20 = .ok (.if_icmp .eq 17, 3) := by decide +kernel
theorem dX4_item_23 : decode cX4_item 23 = .ok (.iload_n 2, 1) := by decide +kernel
theorem dX4_item_24 : decode cX4_item 24 = .ok (.ifCond .lt 13, 3) := by decide +kernel
theorem dX4_item_27 : decode cX4_item 27 = .ok (.iload_n 2, 1) := by decide +kernel
theorem dX4_item_28 : decode cX4_item 28 = .ok (.aload_n 0, 1) := by decide +kernel
theorem dX4_item_29 : decode cX4_item 29 = .ok (.getfield 13, 3) := by decide +kernel
theorem dX4_item_32 : decode cX4_item 32 = .ok (.iload_n 1, 1) := by decide +kernel
theorem dX4_item_33 : decode cX4_item 33 = .ok (.iaload, 1) := by decide +kernel
theorem dX4_item_34 : decode cX4_item 34 = .ok (.if_icmp .lt 7, 3) := by decide +kernel
theorem dX4_item_37 : decode cX4_item 37 = .ok (.ldc2_w 131, 3) := by decide +kernel
theorem dX4_item_40 : decode cX4_item 40 = .ok (.lreturn, 1) := by decide +kernel
theorem dX4_item_41 : decode cX4_item 41 = .ok (.aload_n 0, 1) := by decide +kernel
theorem dX4_item_42 : decode cX4_item 42 = .ok (.iload_n 1, 1) := by decide +kernel
theorem dX4_item_43 : decode cX4_item 43 = .ok (.invokevirtual 148, 3) := by decide +kernel
theorem dX4_item_46 : decode cX4_item 46 = .ok (.aload_n 0, 1) := by decide +kernel
theorem dX4_item_47 : decode cX4_item 47 = .ok (.getfield 19, 3) := by decide +kernel
theorem dX4_item_50 : decode cX4_item 50 = .ok (.aload_n 0, 1) := by decide +kernel
theorem dX4_item_51 : decode cX4_item 51 = .ok (.getfield 26, 3) := by decide +kernel
theorem dX4_item_54 : decode cX4_item 54 = .ok (.iload_n 2, 1) := by decide +kernel
theorem dX4_item_55 : decode cX4_item 55 = .ok (.iaload, 1) := by decide +kernel
theorem dX4_item_56 : decode cX4_item 56 = .ok (.laload, 1) := by decide +kernel
theorem dX4_item_57 : decode cX4_item 57 = .ok (.lreturn, 1) := by decide +kernel
theorem dX4_isState_0 : decode cX4_isState 0 = .ok (.iload_n 0, 1) := by decide +kernel
theorem dX4_isState_1 : decode cX4_isState 1 = .ok (.ifCond .lt 13, 3) := by decide +kernel
theorem dX4_isState_4 : decode cX4_isState 4 = .ok (.iload_n 0, 1) := by decide +kernel
theorem dX4_isState_5 : decode cX4_isState 5 = .ok (.bipush 8, 2) := by decide +kernel
theorem dX4_isState_7 : decode cX4_isState 7 = .ok (.if_icmp .ge 7, 3) := by decide +kernel
theorem dX4_isState_10 : decode cX4_isState 10 = .ok (.iconst 1, 1) := by decide +kernel
theorem dX4_isState_11 : decode cX4_isState 11 = .ok (.goto 4, 3) := by decide +kernel
theorem dX4_isState_14 : decode cX4_isState 14 = .ok (.iconst 0, 1) := by decide +kernel
theorem dX4_isState_15 : decode cX4_isState 15 = .ok (.ireturn, 1) := by decide +kernel
set_option maxRecDepth 20000 in
theorem ggX4_start_X4_isState : GoodIn wsX4_start wsX4_isState := goodIn_r _ [6] (by decide +kernel) (by decide +kernel)
set_option maxRecDepth 20000 in
theorem gX4_start_X4_isState : GoodIn wsX4_start (va_wsS RX4 152 yX4_isState wsX4_isState) := goodIn_app (goodIn_of _ (by decide +kernel)) ggX4_start_X4_isState
theorem dX4_start_0 : decode cX4_start 0 = .ok (.aload_n 0, 1) := by decide +kernel
theorem dX4_start_1 : decode cX4_start 1 = .ok (.iconst 0, 1) := by decide +kernel
theorem dX4_start_2 : decode cX4_start 2 = .ok (.putfield 52, 3) := by decide +kernel
theorem dX4_start_5 : decode cX4_start 5 = .ok (.iload_n 1, 1) := by decide +kernel
theorem dX4_start_6 : decode cX4_start 6 = .ok (.invokestatic 152, 3) := by decide +kernel
theorem dX4_start_9 : decode cX4_start 9 = .ok (.ifCond .ne 6, 3) := by decide +kernel
theorem dX4_start_12 : decode cX4_start 12 = .ok (.bipush (-2), 2) := by decide +kernel
theorem dX4_start_14 : decode cX4_start 14 = .ok (.ireturn, 1) := by decide +kernel
theorem dX4_start_15 : decode cX4_start 15 = .ok (.aload_n 0, 1) := by decide +kernel
theorem dX4_start_16 : decode cX4_start 16 = .ok (.getfield 155, 3) := by decide +kernel
theorem dX4_start_19 : decode cX4_start 19 = .ok (.istore_n 2, 1) := by decide +kernel
theorem dX4_start_20 : decode cX4_start 20 = .ok (.aload_n 0, 1) := by decide +kernel
theorem dX4_start_21 : decode cX4_start 21 = .ok (.iload_n 1, 1) := by decide +kernel
theorem dX4_start_22 : decode cX4_start 22 = .ok (.putfield 155, 3) := by decide +kernel
theorem dX4_start_25 : decode cX4_start 25 = .ok (.iload_n 2, 1) := by decide +kernel
theorem dX4_start_26 : decode cX4_start 26 = .ok (.ireturn, 1) := by decide +kernel
set_option maxRecDepth 20000 in
theorem ggX4_step_X4_isState : GoodIn wsX4_step wsX4_isState := goodIn_r _ [7] (by decide +kernel) (by decide +kernel)
set_option maxRecDepth 20000 in
theorem gX4_step_X4_isState : GoodIn wsX4_step (va_wsS RX4 152 yX4_isState wsX4_isState) := goodIn_app (goodIn_of _ (by decide +kernel)) ggX4_step_X4_isState
set_option maxRecDepth 20000 in
theorem ggX4_step_X4_in : GoodIn wsX4_step wsX4_in := goodIn_r _ [10] (by decide +kernel) (by decide +kernel)
set_option maxRecDepth 20000 in
theorem gX4_step_X4_in : GoodIn wsX4_step (va_wsS RX4 63 yX4_in wsX4_in) := goodIn_app (goodIn_of _ (by decide +kernel)) ggX4_step_X4_in
theorem dX4_step_0 : decode cX4_step 0 = .ok (.aload_n 0, 1) := by decide +kernel
theorem dX4_step_1 : decode cX4_step 1 = .ok (.iconst 0, 1) := by decide +kernel
theorem dX4_step_2 : decode cX4_step 2 = .ok (.putfield 52, 3) := by decide +kernel
theorem dX4_step_5 : decode cX4_step 5 = .ok (.iload_n 1, 1) := by decide +kernel
theorem dX4_step_6 : decode cX4_step 6 = .ok (.invokestatic 152, 3) := by decide +kernel
theorem dX4_step_9 : decode cX4_step 9 = .ok (.ifCond .eq 22, 3) := by decide +kernel
theorem dX4_step_12 : decode cX4_step 12 = .ok (.iload_n 2, 1) := by decide +kernel
theorem dX4_step_13 : decode cX4_step 13 = .ok (.i2l, 1) := by decide +kernel
theorem dX4_step_14 : decode cX4_step 14 = .ok (.lconst 0, 1) := by decide +kernel
theorem dX4_step_15 : decode cX4_step 15 = .ok (.ldc2_w 71, 3) := by decide +kernel
theorem dX4_step_18 : decode cX4_step 18 = .ok (.invokestatic 63, 3) := by decide +kernel
theorem dX4_step_21 : decode cX4_step 21 = .ok (.ifCond .eq 10, 3) := by decide +kernel
theorem dX4_step_24 : decode cX4_step 24 = .ok (.iload_n 3, 1) := by decide +kernel
theorem dX4_step_25 : decode cX4_step 25 = .ok (.invokestatic 152, 3) := by decide +kernel
theorem dX4_step_28 : decode cX4_step 28 = .ok (.ifCond .ne 6, 3) := by decide +kernel
theorem dX4_step_31 : decode cX4_step 31 = .ok (.bipush (-2), 2) := by decide +kernel
theorem dX4_step_33 : decode cX4_step 33 = .ok (.ireturn, 1) := by decide +kernel
theorem dX4_step_34 : decode cX4_step 34 = .ok (.aload_n 0, 1) := by decide +kernel
theorem dX4_step_35 : decode cX4_step 35 = .ok (.getfield 29, 3) := by decide +kernel
theorem dX4_step_38 : decode cX4_step 38 = .ok (.iconst 4, 1) := by decide +kernel
theorem dX4_step_39 : decode cX4_step 39 = .ok (.iload_n 1, 1) := by decide +kernel
theorem dX4_step_40 : decode cX4_step 40 = .ok (.imul, 1) := by decide +kernel
theorem dX4_step_41 : decode cX4_step 41 = .ok (.iload_n 2, 1) := by decide +kernel
theorem dX4_step_42 : decode cX4_step 42 = .ok (.iadd, 1) := by decide +kernel
theorem dX4_step_43 : decode cX4_step 43 = .ok (.iaload, 1) := by decide +kernel
theorem dX4_step_44 : decode cX4_step 44 = .ok (.istore 4, 2) := by decide +kernel
theorem dX4_step_46 : decode cX4_step 46 = .ok (.aload_n 0, 1) := by decide +kernel
theorem dX4_step_47 : decode cX4_step 47 = .ok (.getfield 29, 3) := by decide +kernel
theorem dX4_step_50 : decode cX4_step 50 = .ok (.iconst 4, 1) := by decide +kernel
theorem dX4_step_51 : decode cX4_step 51 = .ok (.iload_n 1, 1) := by decide +kernel
theorem dX4_step_52 : decode cX4_step 52 = .ok (.imul, 1) := by decide +kernel
theorem dX4_step_53 : decode cX4_step 53 = .ok (.iload_n 2, 1) := by decide +kernel
theorem dX4_step_54 : decode cX4_step 54 = .ok (.iadd, 1) := by decide +kernel
theorem dX4_step_55 : decode cX4_step 55 = .ok (.iload_n 3, 1) := by decide +kernel
theorem dX4_step_56 : decode cX4_step 56 = .ok (.iastore, 1) := by decide +kernel
theorem dX4_step_57 : decode cX4_step 57 = .ok (.iload 4, 2) := by decide +kernel
theorem dX4_step_59 : decode cX4_step 59 = .ok (.ireturn, 1) := by decide +kernel
set_option maxRecDepth 20000 in
theorem ggX4_join_X4_isState : GoodIn wsX4_join wsX4_isState := goodIn_r _ [6] (by decide +kernel) (by decide +kernel)
set_option maxRecDepth 20000 in
theorem gX4_join_X4_isState : GoodIn wsX4_join (va_wsS RX4 152 yX4_isState wsX4_isState) := goodIn_app (goodIn_of _ (by decide +kernel)) ggX4_join_X4_isState
theorem dX4_join_0 : decode cX4_join 0 = .ok (.aload_n 0, 1) := by decide +kernel
theorem dX4_join_1 : decode cX4_join 1 = .ok (.iconst 0, 1) := by decide +kernel
theorem dX4_join_2 : decode cX4_join 2 = .ok (.putfield 52, 3) := by decide +kernel
theorem dX4_join_5 : decode cX4_join 5 = .ok (.iload_n 1, 1) := by decide +kernel
theorem dX4_join_6 : decode cX4_join 6 = .ok (.invokestatic 152, 3) := by decide +kernel
theorem dX4_join_9 : decode cX4_join 9 = .ok (.ifCond .eq 17, 3) := by decide +kernel
theorem dX4_join_12 : decode cX4_join 12 = .ok (.iload_n 2, 1) := by decide +kernel
theorem dX4_join_13 : decode cX4_join 13 = .ok (.invokestatic 152, 3) := by decide +kernel
theorem dX4_join_16 : decode cX4_join 16 = .ok (.ifCond .eq 10, 3) := by decide +kernel
theorem dX4_join_19 : decode cX4_join 19 = .ok (.iload_n 3, 1) := by decide +kernel
theorem dX4_join_20 : decode cX4_join 20 = .ok (.invokestatic 152, 3) := by decide +kernel
theorem dX4_join_23 : decode cX4_join 23 = .ok (.ifCond .ne 6, 3) := by decide +kernel
theorem dX4_join_26 : decode cX4_join 26 = .ok (.bipush (-2), 2) := by decide +kernel
theorem dX4_join_28 : decode cX4_join 28 = .ok (.ireturn, 1) := by decide +kernel
theorem dX4_join_29 : decode cX4_join 29 = .ok (.aload_n 0, 1) := by decide +kernel
theorem dX4_join_30 : decode cX4_join 30 = .ok (.getfield 32, 3) := by decide +kernel
theorem dX4_join_33 : decode cX4_join 33 = .ok (.bipush 8, 2) := by decide +kernel
theorem dX4_join_35 : decode cX4_join 35 = .ok (.iload_n 1, 1) := by decide +kernel
theorem dX4_join_36 : decode cX4_join 36 = .ok (.imul, 1) := by decide +kernel
theorem dX4_join_37 : decode cX4_join 37 = .ok (.iload_n 2, 1) := by decide +kernel
theorem dX4_join_38 : decode cX4_join 38 = .ok (.iadd, 1) := by decide +kernel
theorem dX4_join_39 : decode cX4_join 39 = .ok (.iaload, 1) := by decide +kernel
theorem dX4_join_40 : decode cX4_join 40 = .ok (.istore 4, 2) := by decide +kernel
theorem dX4_join_42 : decode cX4_join 42 = .ok (.aload_n 0, 1) := by decide +kernel
theorem dX4_join_43 : decode cX4_join 43 = .ok (.getfield 32, 3) := by decide +kernel
theorem dX4_join_46 : decode cX4_join 46 = .ok (.bipush 8, 2) := by decide +kernel
theorem dX4_join_48 : decode cX4_join 48 = .ok (.iload_n 1, 1) := by decide +kernel
theorem dX4_join_49 : decode cX4_join 49 = .ok (.imul, 1) := by decide +kernel
theorem dX4_join_50 : decode cX4_join 50 = .ok (.iload_n 2, 1) := by decide +kernel
theorem dX4_join_51 : decode cX4_join 51 = .ok (.iadd, 1) := by decide +kernel
theorem dX4_join_52 : decode cX4_join 52 = .ok (.iload_n 3, 1) := by decide +kernel
theorem dX4_join_53 : decode cX4_join 53 = .ok (.iastore, 1) := by decide +kernel
theorem dX4_join_54 : decode cX4_join 54 = .ok (.iload 4, 2) := by decide +kernel
theorem dX4_join_56 : decode cX4_join 56 = .ok (.ireturn, 1) := by decide +kernel
set_option maxRecDepth 20000 in
theorem ggX4_state_X4_isFold : GoodIn wsX4_state wsX4_isFold := goodIn_r _ [12, 13, 23, 24, 25, 26, 27, 28, 29, 30, 31, 32, 33, 34, 35, 36, 37, 38, 39, 40, 41] (by decide +kernel) (by decide +kernel)
set_option maxRecDepth 20000 in
theorem gX4_state_X4_isFold : GoodIn wsX4_state (wsV RX4 55 RX4 yX4_isFold wsX4_isFold) := goodIn_app (goodIn_of _ (by decide +kernel)) ggX4_state_X4_isFold
set_option maxRecDepth 20000 in
theorem ggX4_state_X4_lay : GoodIn wsX4_state wsX4_lay := goodIn_r _ [17, 4, 7, 18, 19, 20, 11, 21, 22, 6, 23, 24, 25, 26, 27, 28, 29, 30, 31, 32, 33, 34, 35, 36, 37, 38, 39, 40, 41] (by decide +kernel) (by decide +kernel)
set_option maxRecDepth 20000 in
theorem gX4_state_X4_lay : GoodIn wsX4_state (wsV RX4 148 RX4 yX4_lay wsX4_lay) := goodIn_app (goodIn_of _ (by decide +kernel)) ggX4_state_X4_lay
theorem dX4_state_0 : decode cX4_state 0 = .ok (.aload_n 0, 1) := by decide +kernel
theorem dX4_state_1 : decode cX4_state 1 = .ok (.iconst 0, 1) := by decide +kernel
theorem dX4_state_2 : decode cX4_state 2 = .ok (.putfield 52, 3) := by decide +kernel
theorem dX4_state_5 : decode cX4_state 5 = .ok (.aload_n 0, 1) := by decide +kernel
theorem dX4_state_6 : decode cX4_state 6 = .ok (.iload_n 1, 1) := by decide +kernel
theorem dX4_state_7 : decode cX4_state 7 = .ok (.invokevirtual 55, 3) := by decide +kernel
theorem dX4_state_10 : decode cX4_state 10 = .ok (.ifCond .ne 5, 3) := by decide +kernel
theorem dX4_state_13 : decode cX4_state 13 = .ok (.iconst (-1), 1) := by decide +kernel
theorem dX4_state_14 : decode cX4_state 14 = .ok (.ireturn, 1) := by decide +kernel
theorem dX4_state_15 : decode cX4_state 15 = .ok (.aload_n 0, 1) := by decide +kernel
theorem dX4_state_16 : decode cX4_state 16 = .ok (.getfield 7, 3) := by decide +kernel
theorem dX4_state_19 : decode cX4_state 19 = .ok (.iload_n 1, 1) := by decide +kernel
theorem dX4_state_20 : decode cX4_state 20 = .ok (.iaload, 1) := by decide +kernel
theorem dX4_state_21 : decode cX4_state 21 = .ok (.iconst 4, 1) := by decide +kernel
theorem dX4_state_22 : decode cX4_state 22 = .ok (.if_icmp .eq 6, 3) := by decide +kernel
theorem dX4_state_25 : decode cX4_state 25 = .ok (.bipush (-3), 2) := by decide +kernel
theorem dX4_state_27 : decode cX4_state 27 = .ok (.ireturn, 1) := by decide +kernel
theorem dX4_state_28 : decode cX4_state 28 = .ok (.aload_n 0, 1) := by decide +kernel
theorem dX4_state_29 : decode cX4_state 29 = .ok (.iload_n 1, 1) := by decide +kernel
theorem dX4_state_30 : decode cX4_state 30 = .ok (.invokevirtual 148, 3) := by decide +kernel
theorem dX4_state_33 : decode cX4_state 33 = .ok (.aload_n 0, 1) := by decide +kernel
theorem dX4_state_34 : decode cX4_state 34 = .ok (.getfield 155, 3) := by decide +kernel
theorem dX4_state_37 : decode cX4_state 37 = .ok (.istore_n 2, 1) := by decide +kernel
theorem dX4_state_38 : decode cX4_state 38 = .ok (.iconst 0, 1) := by decide +kernel
theorem dX4_state_39 : decode cX4_state 39 = .ok (.istore_n 3, 1) := by decide +kernel
theorem dX4_state_40 : decode cX4_state 40 = .ok (.iload_n 3, 1) := by decide +kernel
theorem dX4_state_41 : decode cX4_state 41 = .ok (.aload_n 0, 1) := by decide +kernel
theorem dX4_state_42 : decode cX4_state 42 = .ok (.getfield 13, 3) := by decide +kernel
theorem dX4_state_45 : decode cX4_state 45 = .ok (.iload_n 1, 1) := by decide +kernel
theorem dX4_state_46 : decode cX4_state 46 = .ok (.iaload, 1) := by decide +kernel
theorem dX4_state_47 : decode cX4_state 47 = .ok (.if_icmp .ge 31, 3) := by decide +kernel
theorem dX4_state_50 : decode cX4_state 50 = .ok (.aload_n 0, 1) := by decide +kernel
theorem dX4_state_51 : decode cX4_state 51 = .ok (.getfield 29, 3) := by decide +kernel
theorem dX4_state_54 : decode cX4_state 54 = .ok (.iconst 4, 1) := by decide +kernel
theorem dX4_state_55 : decode cX4_state 55 = .ok (.iload_n 2, 1) := by decide +kernel
theorem dX4_state_56 : decode cX4_state 56 = .ok (.imul, 1) := by decide +kernel
theorem dX4_state_57 : decode cX4_state 57 = .ok (.aload_n 0, 1) := by decide +kernel
theorem dX4_state_58 : decode cX4_state 58 = .ok (.getfield 19, 3) := by decide +kernel
theorem dX4_state_61 : decode cX4_state 61 = .ok (.aload_n 0, 1) := by decide +kernel
theorem dX4_state_62 : decode cX4_state 62 = .ok (.getfield 26, 3) := by decide +kernel
theorem dX4_state_65 : decode cX4_state 65 = .ok (.iload_n 3, 1) := by decide +kernel
theorem dX4_state_66 : decode cX4_state 66 = .ok (.iaload, 1) := by decide +kernel
theorem dX4_state_67 : decode cX4_state 67 = .ok (.laload, 1) := by decide +kernel
theorem dX4_state_68 : decode cX4_state 68 = .ok (.l2i, 1) := by decide +kernel
theorem dX4_state_69 : decode cX4_state 69 = .ok (.iadd, 1) := by decide +kernel
theorem dX4_state_70 : decode cX4_state 70 = .ok (.iaload, 1) := by decide +kernel
theorem dX4_state_71 : decode cX4_state 71 = .ok (.istore_n 2, 1) := by decide +kernel
theorem dX4_state_72 : decode cX4_state 72 = .ok (.iinc 3 1, 3) := by decide +kernel
theorem dX4_state_75 : decode cX4_state 75 = .ok (.goto (-35), 3) := by decide +kernel
theorem dX4_state_78 : decode cX4_state 78 = .ok (.iload_n 2, 1) := by decide +kernel
theorem dX4_state_79 : decode cX4_state 79 = .ok (.ireturn, 1) := by decide +kernel
theorem dX4_reach_0 : decode cX4_reach 0 = .ok (.iconst 0, 1) := by decide +kernel
theorem dX4_reach_1 : decode cX4_reach 1 = .ok (.istore_n 1, 1) := by decide +kernel
theorem dX4_reach_2 : decode cX4_reach 2 = .ok (.iload_n 1, 1) := by decide +kernel
theorem dX4_reach_3 : decode cX4_reach 3 = .ok (.bipush 8, 2) := by decide +kernel
theorem dX4_reach_5 : decode cX4_reach 5 = .ok (.if_icmp .ge 28, 3) := by decide +kernel
theorem dX4_reach_8 : decode cX4_reach 8 = .ok (.aload_n 0, 1) := by decide +kernel
theorem dX4_reach_9 : decode cX4_reach 9 = .ok (.getfield 35, 3) := by decide +kernel
theorem dX4_reach_12 : decode cX4_reach 12 = .ok (.iload_n 1, 1) := by decide +kernel
theorem dX4_reach_13 : decode cX4_reach 13 = .ok (.iload_n 1, 1) := by decide +kernel
theorem dX4_reach_14 : decode cX4_reach 14 = .ok (.aload_n 0, 1) := by decide +kernel
theorem dX4_reach_15 : decode cX4_reach 15 = .ok (.getfield 155, 3) := by decide +kernel
theorem dX4_reach_18 : decode cX4_reach 18 = .ok (.if_icmp .ne 7, 3) := by decide +kernel
theorem dX4_reach_21 : decode cX4_reach 21 = .ok (.iconst 1, 1) := by decide +kernel
theorem dX4_reach_22 : decode cX4_reach 22 = .ok (.goto 4, 3) := by decide +kernel
theorem dX4_reach_25 : decode cX4_reach 25 = .ok (.iconst 0, 1) := by decide +kernel
theorem dX4_reach_26 : decode cX4_reach 26 = .ok (.bastore, 1) := by decide +kernel
theorem dX4_reach_27 : decode cX4_reach 27 = .ok (.iinc 1 1, 3) := by decide +kernel
theorem dX4_reach_30 : decode cX4_reach 30 = .ok (.goto (-28), 3) := by decide +kernel
theorem dX4_reach_33 : decode cX4_reach 33 = .ok (.iconst 0, 1) := by decide +kernel
theorem dX4_reach_34 : decode cX4_reach 34 = .ok (.istore_n 1, 1) := by decide +kernel
theorem dX4_reach_35 : decode cX4_reach 35 = .ok (.iload_n 1, 1) := by decide +kernel
theorem dX4_reach_36 : decode cX4_reach 36 = .ok (.bipush 8, 2) := by decide +kernel
theorem dX4_reach_38 : decode cX4_reach 38 = .ok (.if_icmp .ge 64, 3) := by decide +kernel
theorem dX4_reach_41 : decode cX4_reach 41 = .ok (.iconst 0, 1) := by decide +kernel
theorem dX4_reach_42 : decode cX4_reach 42 = .ok (.istore_n 2, 1) := by decide +kernel
theorem dX4_reach_43 : decode cX4_reach 43 = .ok (.iload_n 2, 1) := by decide +kernel
theorem dX4_reach_44 : decode cX4_reach 44 = .ok (.bipush 32, 2) := by decide +kernel
theorem dX4_reach_46 : decode cX4_reach 46 = .ok (.if_icmp .ge 50, 3) := by decide +kernel
theorem dX4_reach_49 : decode cX4_reach 49 = .ok (.aload_n 0, 1) := by decide +kernel
theorem dX4_reach_50 : decode cX4_reach 50 = .ok (.getfield 35, 3) := by decide +kernel
theorem dX4_reach_53 : decode cX4_reach 53 = .ok (.aload_n 0, 1) := by decide +kernel
theorem dX4_reach_54 : decode cX4_reach 54 = .ok (.getfield 29, 3) := by decide +kernel
theorem dX4_reach_57 : decode cX4_reach 57 = .ok (.iload_n 2, 1) := by decide +kernel
theorem dX4_reach_58 : decode cX4_reach 58 = .ok (.iaload, 1) := by decide +kernel
theorem dX4_reach_59 : decode cX4_reach 59 = .ok (.aload_n 0, 1) := by decide +kernel
theorem dX4_reach_60 : decode cX4_reach 60 = .ok (.getfield 35, 3) := by decide +kernel
theorem dX4_reach_63 : decode cX4_reach 63 = .ok (.aload_n 0, 1) := by decide +kernel
theorem dX4_reach_64 : decode cX4_reach 64 = .ok (.getfield 29, 3) := by decide +kernel
theorem dX4_reach_67 : decode cX4_reach 67 = .ok (.iload_n 2, 1) := by decide +kernel
theorem dX4_reach_68 : decode cX4_reach 68 = .ok (.iaload, 1) := by decide +kernel
theorem dX4_reach_69 : decode cX4_reach 69 = .ok (.baload, 1) := by decide +kernel
theorem dX4_reach_70 : decode cX4_reach 70 = .ok (.ifCond .ne 14, 3) := by decide +kernel
theorem dX4_reach_73 : decode cX4_reach 73 = .ok (.aload_n 0, 1) := by decide +kernel
theorem dX4_reach_74 : decode cX4_reach 74 = .ok (.getfield 35, 3) := by decide +kernel
theorem dX4_reach_77 : decode cX4_reach 77 = .ok (.iload_n 2, 1) := by decide +kernel
theorem dX4_reach_78 : decode cX4_reach 78 = .ok (.iconst 4, 1) := by decide +kernel
theorem dX4_reach_79 : decode cX4_reach 79 = .ok (.idiv, 1) := by decide +kernel
theorem dX4_reach_80 : decode cX4_reach 80 = .ok (.baload, 1) := by decide +kernel
theorem dX4_reach_81 : decode cX4_reach 81 = .ok (.ifCond .eq 7, 3) := by decide +kernel
theorem dX4_reach_84 : decode cX4_reach 84 = .ok (.iconst 1, 1) := by decide +kernel
theorem dX4_reach_85 : decode cX4_reach 85 = .ok (.goto 4, 3) := by decide +kernel
theorem dX4_reach_88 : decode cX4_reach 88 = .ok (.iconst 0, 1) := by decide +kernel
theorem dX4_reach_89 : decode cX4_reach 89 = .ok (.bastore, 1) := by decide +kernel
theorem dX4_reach_90 : decode cX4_reach 90 = .ok (.iinc 2 1, 3) := by decide +kernel
theorem dX4_reach_93 : decode cX4_reach 93 = .ok (.goto (-50), 3) := by decide +kernel
theorem dX4_reach_96 : decode cX4_reach 96 = .ok (.iinc 1 1, 3) := by decide +kernel
theorem dX4_reach_99 : decode cX4_reach 99 = .ok (.goto (-64), 3) := by decide +kernel
theorem dX4_reach_102 : decode cX4_reach 102 = .ok (.return_, 1) := by decide +kernel
theorem dX4_look_0 : decode cX4_look 0 = .ok (.aload_n 0, 1) := by decide +kernel
