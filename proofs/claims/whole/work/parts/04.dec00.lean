theorem dX0_init_0 : decode cX0_init 0 = .ok (.aload_n 0, 1) := by decide +kernel
theorem dX0_init_1 : decode cX0_init 1 = .ok (.invokespecial 3, 3) := by decide +kernel
theorem dX0_init_4 : decode cX0_init 4 = .ok (.aload_n 0, 1) := by decide +kernel
theorem dX0_init_5 : decode cX0_init 5 = .ok (.bipush 64, 2) := by decide +kernel
theorem dX0_init_7 : decode cX0_init 7 = .ok (.newarray .int, 2) := by decide +kernel
theorem dX0_init_9 : decode cX0_init 9 = .ok (.putfield 9, 3) := by decide +kernel
theorem dX0_init_12 : decode cX0_init 12 = .ok (.aload_n 0, 1) := by decide +kernel
theorem dX0_init_13 : decode cX0_init 13 = .ok (.bipush 64, 2) := by decide +kernel
theorem dX0_init_15 : decode cX0_init 15 = .ok (.newarray .long, 2) := by decide +kernel
theorem dX0_init_17 : decode cX0_init 17 = .ok (.putfield 15, 3) := by decide +kernel
theorem dX0_init_20 : decode cX0_init 20 = .ok (.aload_n 0, 1) := by decide +kernel
theorem dX0_init_21 : decode cX0_init 21 = .ok (.iconst 0, 1) := by decide +kernel
theorem dX0_init_22 : decode cX0_init 22 = .ok (.putfield 19, 3) := by decide +kernel
theorem dX0_init_25 : decode cX0_init 25 = .ok (.aload_n 0, 1) := by decide +kernel
theorem dX0_init_26 : decode cX0_init 26 = .ok (.iload_n 1, 1) := by decide +kernel
theorem dX0_init_27 : decode cX0_init 27 = .ok (.putfield 23, 3) := by decide +kernel
theorem dX0_init_30 : decode cX0_init 30 = .ok (.return_, 1) := by decide +kernel
theorem dX0_placeOf_0 : decode cX0_placeOf 0 = .ok (.iconst 0, 1) := by decide +kernel
theorem dX0_placeOf_1 : decode cX0_placeOf 1 = .ok (.istore 4, 2) := by decide +kernel
theorem dX0_placeOf_3 : decode cX0_placeOf 3 = .ok (.iload 4, 2) := by decide +kernel
theorem dX0_placeOf_5 : decode cX0_placeOf 5 = .ok (.aload_n 0, 1) := by decide +kernel
theorem dX0_placeOf_6 : decode cX0_placeOf 6 = .ok (.getfield 19, 3) := by decide +kernel
theorem dX0_placeOf_9 : decode cX0_placeOf 9 = .ok (.if_icmp .ge 46, 3) := by decide +kernel
theorem dX0_placeOf_12 : decode cX0_placeOf 12 = .ok (.aload_n 0, 1) := by decide +kernel
theorem dX0_placeOf_13 : decode cX0_placeOf 13 = .ok (.getfield 9, 3) := by decide +kernel
theorem dX0_placeOf_16 : decode cX0_placeOf 16 = .ok (.iload 4, 2) := by decide +kernel
theorem dX0_placeOf_18 : decode cX0_placeOf 18 = .ok (.iaload, 1) := by decide +kernel
theorem dX0_placeOf_19 : decode cX0_placeOf 19 = .ok (.iload_n 1, 1) := by decide +kernel
theorem dX0_placeOf_20 : decode cX0_placeOf 20 = .ok (.if_icmp .gt 26, 3) := by decide +kernel
theorem dX0_placeOf_23 : decode cX0_placeOf 23 = .ok (.aload_n 0, 1) := by decide +kernel
theorem dX0_placeOf_24 : decode cX0_placeOf 24 = .ok (.getfield 9, 3) := by decide +kernel
theorem dX0_placeOf_27 : decode cX0_placeOf 27 = .ok (.iload 4, 2) := by decide +kernel
theorem dX0_placeOf_29 : decode cX0_placeOf 29 = .ok (.iaload, 1) := by decide +kernel
theorem dX0_placeOf_30 : decode cX0_placeOf 30 = .ok (.iload_n 1, 1) := by decide +kernel
theorem dX0_placeOf_31 : decode cX0_placeOf 31 = .ok (.if_icmp .ne 18, 3) := by decide +kernel
theorem dX0_placeOf_34 : decode cX0_placeOf 34 = .ok (.aload_n 0, 1) := by decide +kernel
theorem dX0_placeOf_35 : decode cX0_placeOf 35 = .ok (.getfield 15, 3) := by decide +kernel
theorem dX0_placeOf_38 : decode cX0_placeOf 38 = .ok (.iload 4, 2) := by decide +kernel
theorem dX0_placeOf_40 : decode cX0_placeOf 40 = .ok (.laload, 1) := by decide +kernel
theorem dX0_placeOf_41 : decode cX0_placeOf 41 = .ok (.lload_n 2, 1) := by decide +kernel
theorem dX0_placeOf_42 : decode cX0_placeOf 42 = .ok (.lcmp, 1) := by decide +kernel
theorem dX0_placeOf_43 : decode cX0_placeOf 43 = .ok (.ifCond .lt 6, 3) := by decide +kernel
theorem dX0_placeOf_46 : decode cX0_placeOf 46 = .ok (.iload 4, 2) := by decide +kernel
theorem dX0_placeOf_48 : decode cX0_placeOf 48 = .ok (.ireturn, 1) := by decide +kernel
theorem dX0_placeOf_49 : decode cX0_placeOf 49 = .ok (.iinc 4 1, 3) := by decide +kernel
theorem dX0_placeOf_52 : decode cX0_placeOf 52 = .ok (.goto (-49), 3) := by decide +kernel
theorem dX0_placeOf_55 : decode cX0_placeOf 55 = .ok (.aload_n 0, 1) := by decide +kernel
theorem dX0_placeOf_56 : decode cX0_placeOf 56 = .ok (.getfield 19, 3) := by decide +kernel
theorem dX0_placeOf_59 : decode cX0_placeOf 59 = .ok (.ireturn, 1) := by decide +kernel
theorem dX0_isRow_0 : decode cX0_isRow 0 = .ok (.iload_n 1, 1) := by decide +kernel
theorem dX0_isRow_1 : decode cX0_isRow 1 = .ok (.ifCond .lt 36, 3) := by decide +kernel
theorem dX0_isRow_4 : decode cX0_isRow 4 = .ok (.iload_n 1, 1) := by decide +kernel
theorem dX0_isRow_5 : decode cX0_isRow 5 = .ok (.aload_n 0, 1) := by decide +kernel
theorem dX0_isRow_6 : decode cX0_isRow 6 = .ok (.getfield 19, 3) := by decide +kernel
theorem dX0_isRow_9 : decode cX0_isRow 9 = .ok (.if_icmp .ge 28, 3) := by decide +kernel
theorem dX0_isRow_12 : decode cX0_isRow 12 = .ok (.aload_n 0, 1) := by decide +kernel
theorem dX0_isRow_13 : decode cX0_isRow 13 = .ok (.getfield 9, 3) := by decide +kernel
theorem dX0_isRow_16 : decode cX0_isRow 16 = .ok (.iload_n 1, 1) := by decide +kernel
theorem dX0_isRow_17 : decode cX0_isRow 17 = .ok (.iaload, 1) := by decide +kernel
theorem dX0_isRow_18 : decode cX0_isRow 18 = .ok (.iload_n 2, 1) := by decide +kernel
theorem dX0_isRow_19 : decode cX0_isRow 19 = .ok (.if_icmp .ne 18, 3) := by decide +kernel
theorem dX0_isRow_22 : decode cX0_isRow 22 = .ok (.aload_n 0, 1) := by decide +kernel
theorem dX0_isRow_23 : decode cX0_isRow 23 = .ok (.getfield 15, 3) := by decide +kernel
theorem dX0_isRow_26 : decode cX0_isRow 26 = .ok (.iload_n 1, 1) := by decide +kernel
theorem dX0_isRow_27 : decode cX0_isRow 27 = .ok (.laload, 1) := by decide +kernel
theorem dX0_isRow_28 : decode cX0_isRow 28 = .ok (.lload_n 3, 1) := by decide +kernel
theorem dX0_isRow_29 : decode cX0_isRow 29 = .ok (.lcmp, 1) := by decide +kernel
theorem dX0_isRow_30 : decode cX0_isRow 30 = .ok (.ifCond .ne 7, 3) := by decide +kernel
theorem dX0_isRow_33 : decode cX0_isRow 33 = .ok (.iconst 1, 1) := by decide +kernel
theorem dX0_isRow_34 : decode cX0_isRow 34 = .ok (.goto 4, 3) := by decide +kernel
theorem dX0_isRow_37 : decode cX0_isRow 37 = .ok (.iconst 0, 1) := by decide +kernel
theorem dX0_isRow_38 : decode cX0_isRow 38 = .ok (.ireturn, 1) := by decide +kernel
set_option maxRecDepth 20000 in
theorem ggX0_insert_X0_placeOf : GoodIn wsX0_insert wsX0_placeOf := goodIn_r _ [8, 1, 2, 3, 9, 10, 11, 12] (by decide +kernel) (by decide +kernel)
set_option maxRecDepth 20000 in
theorem gX0_insert_X0_placeOf : GoodIn wsX0_insert (wsV RX0 26 RX0 yX0_placeOf wsX0_placeOf) := goodIn_app (goodIn_of _ (by decide +kernel)) ggX0_insert_X0_placeOf
theorem dX0_insert_0 : decode cX0_insert 0 = .ok (.aload_n 0, 1) := by decide +kernel
theorem dX0_insert_1 : decode cX0_insert 1 = .ok (.getfield 19, 3) := by decide +kernel
theorem dX0_insert_4 : decode cX0_insert 4 = .ok (.bipush 64, 2) := by decide +kernel
theorem dX0_insert_6 : decode cX0_insert 6 = .ok (.if_icmp .lt 4, 3) := by decide +kernel
theorem dX0_insert_9 : decode cX0_insert 9 = .ok (.return_, 1) := by decide +kernel
theorem dX0_insert_10 : decode cX0_insert 10 = .ok (.aload_n 0, 1) := by decide +kernel
theorem dX0_insert_11 : decode cX0_insert 11 = .ok (.iload_n 1, 1) := by decide +kernel
theorem dX0_insert_12 : decode cX0_insert 12 = .ok (.lload_n 2, 1) := by decide +kernel
theorem dX0_insert_13 : decode cX0_insert 13 = .ok (.invokevirtual 26, 3) := by decide +kernel
theorem dX0_insert_16 : decode cX0_insert 16 = .ok (.istore 4, 2) := by decide +kernel
theorem dX0_insert_18 : decode cX0_insert 18 = .ok (.aload_n 0, 1) := by decide +kernel
theorem dX0_insert_19 : decode cX0_insert 19 = .ok (.getfield 19, 3) := by decide +kernel
theorem dX0_insert_22 : decode cX0_insert 22 = .ok (.istore 5, 2) := by decide +kernel
theorem dX0_insert_24 : decode cX0_insert 24 = .ok (.iload 5, 2) := by decide +kernel
theorem dX0_insert_26 : decode cX0_insert 26 = .ok (.iload 4, 2) := by decide +kernel
theorem dX0_insert_28 : decode cX0_insert 28 = .ok (.if_icmp .le 41, 3) := by decide +kernel
theorem dX0_insert_31 : decode cX0_insert 31 = .ok (.aload_n 0, 1) := by decide +kernel
theorem dX0_insert_32 : decode cX0_insert 32 = .ok (.getfield 9, 3) := by decide +kernel
theorem dX0_insert_35 : decode cX0_insert 35 = .ok (.iload 5, 2) := by decide +kernel
theorem dX0_insert_37 : decode cX0_insert 37 = .ok (.aload_n 0, 1) := by decide +kernel
theorem dX0_insert_38 : decode cX0_insert 38 = .ok (.getfield 9, 3) := by decide +kernel
theorem dX0_insert_41 : decode cX0_insert 41 = .ok (.iload 5, 2) := by decide +kernel
theorem dX0_insert_43 : decode cX0_insert 43 = .ok (.iconst 1, 1) := by decide +kernel
theorem dX0_insert_44 : decode cX0_insert 44 = .ok (.isub, 1) := by decide +kernel
theorem dX0_insert_45 : decode cX0_insert 45 = .ok (.iaload, 1) := by decide +kernel
theorem dX0_insert_46 : decode cX0_insert 46 = .ok (.iastore, 1) := by decide +kernel
theorem dX0_insert_47 : decode cX0_insert 47 = .ok (.aload_n 0, 1) := by decide +kernel
theorem dX0_insert_48 : decode cX0_insert 48 = .ok (.getfield 15, 3) := by decide +kernel
theorem dX0_insert_51 : decode cX0_insert 51 = .ok (.iload 5, 2) := by decide +kernel
theorem dX0_insert_53 : decode cX0_insert 53 = .ok (.aload_n 0, 1) := by decide +kernel
theorem dX0_insert_54 : decode cX0_insert 54 = .ok (.getfield 15, 3) := by decide +kernel
theorem dX0_insert_57 : decode cX0_insert 57 = .ok (.iload 5, 2) := by decide +kernel
theorem dX0_insert_59 : decode cX0_insert 59 = .ok (.iconst 1, 1) := by decide +kernel
theorem dX0_insert_60 : decode cX0_insert 60 = .ok (.isub, 1) := by decide +kernel
theorem dX0_insert_61 : decode cX0_insert 61 = .ok (.laload, 1) := by decide +kernel
theorem dX0_insert_62 : decode cX0_insert 62 = .ok (.lastore, 1) := by decide +kernel
theorem dX0_insert_63 : decode cX0_insert 63 = .ok (.iinc 5 (-1), 3) := by decide +kernel
theorem dX0_insert_66 : decode cX0_insert 66 = .ok (.goto (-42), 3) := by decide +kernel
theorem dX0_insert_69 : decode cX0_insert 69 = .ok (.aload_n 0, 1) := by decide +kernel
theorem dX0_insert_70 : decode cX0_insert 70 = .ok (.getfield 9, 3) := by decide +kernel
theorem dX0_insert_73 : decode cX0_insert 73 = .ok (.iload 4, 2) := by decide +kernel
theorem dX0_insert_75 : decode cX0_insert 75 = .ok (.iload_n 1, 1) := by decide +kernel
theorem dX0_insert_76 : decode cX0_insert 76 = .ok (.iastore, 1) := by decide +kernel
theorem dX0_insert_77 : decode cX0_insert 77 = .ok (.aload_n 0, 1) := by decide +kernel
theorem dX0_insert_78 : decode cX0_insert 78 = .ok (.getfield 15, 3) := by decide +kernel
theorem dX0_insert_81 : decode cX0_insert 81 = .ok (.iload 4, 2) := by decide +kernel
theorem dX0_insert_83 : decode cX0_insert 83 = .ok (.lload_n 2, 1) := by decide +kernel
theorem dX0_insert_84 : decode cX0_insert 84 = .ok (.lastore, 1) := by decide +kernel
theorem dX0_insert_85 : decode cX0_insert 85 = .ok (.aload_n 0, 1) := by decide +kernel
theorem dX0_insert_86 : decode cX0_insert 86 = .ok (.dup, 1) := by decide +kernel
theorem dX0_insert_87 : decode cX0_insert 87 = .ok (.getfield 19, 3) := by decide +kernel
theorem dX0_insert_90 : decode cX0_insert 90 = .ok (.iconst 1, 1) := by decide +kernel
theorem dX0_insert_91 : decode cX0_insert 91 = .ok (.iadd, 1) := by decide +kernel
theorem dX0_insert_92 : decode cX0_insert 92 = .ok (.putfield 19, 3) := by decide +kernel
theorem dX0_insert_95 : decode cX0_insert 95 = .ok (.return_, 1) := by decide +kernel
theorem dX0_takeOut_0 : decode cX0_takeOut 0 = .ok (.iload_n 1, 1) := by decide +kernel
theorem dX0_takeOut_1 : decode cX0_takeOut 1 = .ok (.ifCond .lt 11, 3) := by decide +kernel
theorem dX0_takeOut_4 : decode cX0_takeOut 4 = .ok (.iload_n 1, 1) := by decide +kernel
theorem dX0_takeOut_5 : decode cX0_takeOut 5 = .ok (.aload_n 0, 1) := by decide +kernel
theorem dX0_takeOut_6 : decode cX0_takeOut 6 = .ok (.getfield 19, 3) := by decide +kernel
theorem dX0_takeOut_9 : decode cX0_takeOut 9 = .ok (.if_icmp .lt 4, 3) := by decide +kernel
theorem dX0_takeOut_12 : decode cX0_takeOut 12 = .ok (.return_, 1) := by decide +kernel
theorem dX0_takeOut_13 : decode cX0_takeOut 13 = .ok (.aload_n 0, 1) := by decide +kernel
theorem dX0_takeOut_14 : decode cX0_takeOut 14 = .ok (.dup, 1) := by decide +kernel
theorem dX0_takeOut_15 : decode cX0_takeOut 15 = .ok (.getfield 19, 3) := by decide +kernel
theorem dX0_takeOut_18 : decode cX0_takeOut 18 = .ok (.iconst 1, 1) := by decide +kernel
theorem dX0_takeOut_19 : decode cX0_takeOut 19 = .ok (.isub, 1) := by decide +kernel
theorem dX0_takeOut_20 : decode cX0_takeOut 20 = .ok (.putfield 19, 3) := by decide +kernel
theorem dX0_takeOut_23 : decode cX0_takeOut 23 = .ok (.iload_n 1, 1) := by decide +kernel
theorem dX0_takeOut_24 : decode cX0_takeOut 24 = .ok (.istore_n 2, 1) := by decide +kernel
theorem dX0_takeOut_25 : decode cX0_takeOut 25 = .ok (.iload_n 2, 1) := by decide +kernel
theorem dX0_takeOut_26 : decode cX0_takeOut 26 = .ok (.aload_n 0, 1) := by decide +kernel
theorem dX0_takeOut_27 : decode cX0_takeOut 27 = .ok (.getfield 19, 3) := by decide +kernel
theorem dX0_takeOut_30 : decode cX0_takeOut 30 = .ok (.if_icmp .ge 37, 3) := by decide +kernel
theorem dX0_takeOut_33 : decode cX0_takeOut 33 = .ok (.aload_n 0, 1) := by decide +kernel
theorem dX0_takeOut_34 : decode cX0_takeOut 34 = .ok (.getfield 9, 3) := by decide +kernel
theorem dX0_takeOut_37 : decode cX0_takeOut 37 = .ok (.iload_n 2, 1) := by decide +kernel
theorem dX0_takeOut_38 : decode cX0_takeOut 38 = .ok (.aload_n 0, 1) := by decide +kernel
theorem dX0_takeOut_39 : decode cX0_takeOut 39 = .ok (.getfield 9, 3) := by decide +kernel
theorem dX0_takeOut_42 : decode cX0_takeOut 42 = .ok (.iload_n 2, 1) := by decide +kernel
theorem dX0_takeOut_43 : decode cX0_takeOut 43 = .ok (.iconst 1, 1) := by decide +kernel
theorem dX0_takeOut_44 : decode cX0_takeOut 44 = .ok (.iadd, 1) := by decide +kernel
theorem dX0_takeOut_45 : decode cX0_takeOut 45 = .ok (.iaload, 1) := by decide +kernel
theorem dX0_takeOut_46 : decode cX0_takeOut 46 = .ok (.iastore, 1) := by decide +kernel
theorem dX0_takeOut_47 : decode cX0_takeOut 47 = .ok (.aload_n 0, 1) := by decide +kernel
theorem dX0_takeOut_48 : decode cX0_takeOut 48 = .ok (.getfield 15, 3) := by decide +kernel
theorem dX0_takeOut_51 : decode cX0_takeOut 51 = .ok (.iload_n 2, 1) := by decide +kernel
theorem dX0_takeOut_52 : decode cX0_takeOut 52 = .ok (.aload_n 0, 1) := by decide +kernel
theorem dX0_takeOut_53 : decode cX0_takeOut 53 = .ok (.getfield 15, 3) := by decide +kernel
theorem dX0_takeOut_56 : decode cX0_takeOut 56 = .ok (.iload_n 2, 1) := by decide +kernel
theorem dX0_takeOut_57 : decode cX0_takeOut 57 = .ok (.iconst 1, 1) := by decide +kernel
theorem dX0_takeOut_58 : decode cX0_takeOut 58 = .ok (.iadd, 1) := by decide +kernel
theorem dX0_takeOut_59 : decode cX0_takeOut 59 = .ok (.laload, 1) := by decide +kernel
theorem dX0_takeOut_60 : decode cX0_takeOut 60 = .ok (.lastore, 1) := by decide +kernel
theorem dX0_takeOut_61 : decode cX0_takeOut 61 = .ok (.iinc 2 1, 3) := by decide +kernel
theorem dX0_takeOut_64 : decode cX0_takeOut 64 = .ok (.goto (-39), 3) := by decide +kernel
theorem dX0_takeOut_67 : decode cX0_takeOut 67 = .ok (.return_, 1) := by decide +kernel
set_option maxRecDepth 20000 in
theorem ggX0_takeAllOf_X0_insert : GoodIn wsX0_takeAllOf wsX0_insert := goodIn_r _ [8, 1, 2, 3, 9, 10, 11, 7, 12, 13, 14, 15, 16] (by decide +kernel) (by decide +kernel)
set_option maxRecDepth 20000 in
theorem gX0_takeAllOf_X0_insert : GoodIn wsX0_takeAllOf (wsV RX0 30 RX0 yX0_insert wsX0_insert) := goodIn_app (goodIn_of _ (by decide +kernel)) ggX0_takeAllOf_X0_insert
theorem dX0_takeAllOf_0 : decode cX0_takeAllOf 0 = .ok (.iconst 0, 1) := by decide +kernel
theorem dX0_takeAllOf_1 : decode cX0_takeAllOf 1 = .ok (.istore_n 2, 1) := by decide +kernel
theorem dX0_takeAllOf_2 : decode cX0_takeAllOf 2 = .ok (.iload_n 2, 1) := by decide +kernel
theorem dX0_takeAllOf_3 : decode cX0_takeAllOf 3 = .ok (.aload_n 1, 1) := by decide +kernel
theorem dX0_takeAllOf_4 : decode cX0_takeAllOf 4 = .ok (.getfield 19, 3) := by decide +kernel
theorem dX0_takeAllOf_7 : decode cX0_takeAllOf 7 = .ok (.if_icmp .ge 25, 3) := by decide +kernel
theorem dX0_takeAllOf_10 : decode cX0_takeAllOf 10 = .ok (.aload_n 0, 1) := by decide +kernel
theorem dX0_takeAllOf_11 : decode cX0_takeAllOf 11 = .ok (.aload_n 1, 1) := by decide +kernel
theorem dX0_takeAllOf_12 : decode cX0_takeAllOf 12 = .ok (.getfield 9, 3) := by decide +kernel
theorem dX0_takeAllOf_15 : decode cX0_takeAllOf 15 = .ok (.iload_n 2, 1) := by decide +kernel
theorem dX0_takeAllOf_16 : decode cX0_takeAllOf 16 = .ok (.iaload, 1) := by decide +kernel
theorem dX0_takeAllOf_17 : decode cX0_takeAllOf 17 = .ok (.aload_n 1, 1) := by decide +kernel
theorem dX0_takeAllOf_18 : decode cX0_takeAllOf 18 = .ok (.getfield 15, 3) := by decide +kernel
theorem dX0_takeAllOf_21 : decode cX0_takeAllOf 21 = .ok (.iload_n 2, 1) := by decide +kernel
theorem dX0_takeAllOf_22 : decode cX0_takeAllOf 22 = .ok (.laload, 1) := by decide +kernel
theorem dX0_takeAllOf_23 : decode cX0_takeAllOf 23 = .ok (.invokevirtual 30, 3) := by decide +kernel
theorem dX0_takeAllOf_26 : decode cX0_takeAllOf 26 = .ok (.iinc 2 1, 3) := by decide +kernel
theorem dX0_takeAllOf_29 : decode cX0_takeAllOf 29 = .ok (.goto (-27), 3) := by decide +kernel
theorem dX0_takeAllOf_32 : decode cX0_takeAllOf 32 = .ok (.aload_n 1, 1) := by decide +kernel
theorem dX0_takeAllOf_33 : decode cX0_takeAllOf 33 = .ok (.iconst 0, 1) := by decide +kernel
theorem dX0_takeAllOf_34 : decode cX0_takeAllOf 34 = .ok (.putfield 19, 3) := by decide +kernel
theorem dX0_takeAllOf_37 : decode cX0_takeAllOf 37 = .ok (.return_, 1) := by decide +kernel
set_option maxRecDepth 20000 in
theorem ggX0_hasTheRowsOf_X0_isRow : GoodIn wsX0_hasTheRowsOf wsX0_isRow := goodIn_r _ [8, 1, 2, 3, 9, 10, 11, 12] (by decide +kernel) (by decide +kernel)
set_option maxRecDepth 20000 in
theorem gX0_hasTheRowsOf_X0_isRow : GoodIn wsX0_hasTheRowsOf (wsV RX0 34 RX0 yX0_isRow wsX0_isRow) := goodIn_app (goodIn_of _ (by decide +kernel)) ggX0_hasTheRowsOf_X0_isRow
theorem dX0_hasTheRowsOf_0 : decode cX0_hasTheRowsOf 0 = .ok (.aload_n 0, 1) := by decide +kernel
theorem dX0_hasTheRowsOf_1 : decode cX0_hasTheRowsOf 1 = .ok (.getfield 19, 3) := by decide +kernel
theorem dX0_hasTheRowsOf_4 : decode cX0_hasTheRowsOf 4 = .ok (.aload_n 1, 1) := by decide +kernel
theorem dX0_hasTheRowsOf_5 : decode cX0_hasTheRowsOf 5 = .ok (.getfield 19, 3) := by decide +kernel
theorem dX0_hasTheRowsOf_8 : decode cX0_hasTheRowsOf 8 = .ok (.if_icmp .eq 5, 3) := by decide +kernel
theorem dX0_hasTheRowsOf_11 : decode cX0_hasTheRowsOf 11 = .ok (.iconst 0, 1) := by decide +kernel
theorem dX0_hasTheRowsOf_12 : decode cX0_hasTheRowsOf 12 = .ok (.ireturn, 1) := by decide +kernel
theorem dX0_hasTheRowsOf_13 : decode cX0_hasTheRowsOf 13 = .ok (.iconst 0, 1) := by decide +kernel
theorem dX0_hasTheRowsOf_14 : decode cX0_hasTheRowsOf 14 = .ok (.istore_n 2, 1) := by decide +kernel
theorem dX0_hasTheRowsOf_15 : decode cX0_hasTheRowsOf 15 = .ok (.iload_n 2, 1) := by decide +kernel
theorem dX0_hasTheRowsOf_16 : decode cX0_hasTheRowsOf 16 = .ok (.aload_n 0, 1) := by decide +kernel
theorem dX0_hasTheRowsOf_17 : decode cX0_hasTheRowsOf 17 = .ok (.getfield 19, 3) := by decide +kernel
theorem dX0_hasTheRowsOf_20 : decode cX0_hasTheRowsOf 20 = .ok (.if_icmp .ge 31, 3) := by decide +kernel
theorem dX0_hasTheRowsOf_23 : decode cX0_hasTheRowsOf 23 = .ok (.aload_n 1, 1) := by decide +kernel
theorem dX0_hasTheRowsOf_24 : decode cX0_hasTheRowsOf 24 = .ok (.iload_n 2, 1) := by decide +kernel
theorem dX0_hasTheRowsOf_25 : decode cX0_hasTheRowsOf 25 = .ok (.aload_n 0, 1) := by decide +kernel
theorem dX0_hasTheRowsOf_26 : decode cX0_hasTheRowsOf 26 = .ok (.getfield 9, 3) := by decide +kernel
theorem dX0_hasTheRowsOf_29 : decode cX0_hasTheRowsOf 29 = .ok (.iload_n 2, 1) := by decide +kernel
theorem dX0_hasTheRowsOf_30 : decode cX0_hasTheRowsOf 30 = .ok (.iaload, 1) := by decide +kernel
theorem dX0_hasTheRowsOf_31 : decode cX0_hasTheRowsOf 31 = .ok (.aload_n 0, 1) := by decide +kernel
theorem dX0_hasTheRowsOf_32 : decode cX0_hasTheRowsOf 32 = .ok (.getfield 15, 3) := by decide +kernel
theorem dX0_hasTheRowsOf_35 : decode cX0_hasTheRowsOf 35 = .ok (.iload_n 2, 1) := by decide +kernel
theorem dX0_hasTheRowsOf_36 : decode cX0_hasTheRowsOf 36 = .ok (.laload, 1) := by decide +kernel
theorem dX0_hasTheRowsOf_37 : decode cX0_hasTheRowsOf 37 = .ok (.invokevirtual 34, 3) := by decide +kernel
theorem dX0_hasTheRowsOf_40 : decode cX0_hasTheRowsOf 40 = .ok (.ifCond .ne 5, 3) := by decide +kernel
theorem dX0_hasTheRowsOf_43 : decode cX0_hasTheRowsOf 43 = .ok (.iconst 0, 1) := by decide +kernel
theorem dX0_hasTheRowsOf_44 : decode cX0_hasTheRowsOf 44 = .ok (.ireturn, 1) := by decide +kernel
theorem dX0_hasTheRowsOf_45 : decode cX0_hasTheRowsOf 45 = .ok (.iinc 2 1, 3) := by decide +kernel
theorem dX0_hasTheRowsOf_48 : decode cX0_hasTheRowsOf 48 = .ok (.goto (-33), 3) := by decide +kernel
theorem dX0_hasTheRowsOf_51 : decode cX0_hasTheRowsOf 51 = .ok (.iconst 1, 1) := by decide +kernel
theorem dX0_hasTheRowsOf_52 : decode cX0_hasTheRowsOf 52 = .ok (.ireturn, 1) := by decide +kernel
theorem dX0_limbOfSum_0 : decode cX0_limbOfSum 0 = .ok (.lconst 0, 1) := by decide +kernel
theorem dX0_limbOfSum_1 : decode cX0_limbOfSum 1 = .ok (.lstore_n 2, 1) := by decide +kernel
theorem dX0_limbOfSum_2 : decode cX0_limbOfSum 2 = .ok (.lconst 0, 1) := by decide +kernel
theorem dX0_limbOfSum_3 : decode cX0_limbOfSum 3 = .ok (.lstore 4, 2) := by decide +kernel
theorem dX0_limbOfSum_5 : decode cX0_limbOfSum 5 = .ok (.iconst 0, 1) := by decide +kernel
theorem dX0_limbOfSum_6 : decode cX0_limbOfSum 6 = .ok (.istore 6, 2) := by decide +kernel
theorem dX0_limbOfSum_8 : decode cX0_limbOfSum 8 = .ok (.iload 6, 2) := by decide +kernel
theorem dX0_limbOfSum_10 : decode cX0_limbOfSum 10 = .ok (.aload_n 0, 1) := by decide +kernel
theorem dX0_limbOfSum_11 : decode cX0_limbOfSum 11 = .ok (.getfield 19, 3) := by decide +kernel
theorem dX0_limbOfSum_14 : decode cX0_limbOfSum 14 = .ok (.if_icmp .ge 38, 3) := by decide +kernel
theorem dX0_limbOfSum_17 : decode cX0_limbOfSum 17 = .ok (.lload_n 2, 1) := by decide +kernel
theorem dX0_limbOfSum_18 : decode cX0_limbOfSum 18 = .ok (.aload_n 0, 1) := by decide +kernel
theorem dX0_limbOfSum_19 : decode cX0_limbOfSum 19 = .ok (.getfield 15, 3) := by decide +kernel
theorem dX0_limbOfSum_22 : decode cX0_limbOfSum 22 = .ok (.iload 6, 2) := by decide +kernel
theorem dX0_limbOfSum_24 : decode cX0_limbOfSum 24 = .ok (.laload, 1) := by decide +kernel
theorem dX0_limbOfSum_25 : decode cX0_limbOfSum 25 = .ok (.ldc2_w 38, 3) := by decide +kernel
theorem dX0_limbOfSum_28 : decode cX0_limbOfSum 28 = .ok (.land, 1) := by decide +kernel
theorem dX0_limbOfSum_29 : decode cX0_limbOfSum 29 = .ok (.ladd, 1) := by decide +kernel
theorem dX0_limbOfSum_30 : decode cX0_limbOfSum 30 = .ok (.lstore_n 2, 1) := by decide +kernel
theorem dX0_limbOfSum_31 : decode cX0_limbOfSum 31 = .ok (.lload 4, 2) := by decide +kernel
theorem dX0_limbOfSum_33 : decode cX0_limbOfSum 33 = .ok (.aload_n 0, 1) := by decide +kernel
theorem dX0_limbOfSum_34 : decode cX0_limbOfSum 34 = .ok (.getfield 15, 3) := by decide +kernel
theorem dX0_limbOfSum_37 : decode cX0_limbOfSum 37 = .ok (.iload 6, 2) := by decide +kernel
theorem dX0_limbOfSum_39 : decode cX0_limbOfSum 39 = .ok (.laload, 1) := by decide +kernel
theorem dX0_limbOfSum_40 : decode cX0_limbOfSum 40 = .ok (.bipush 32, 2) := by decide +kernel
theorem dX0_limbOfSum_42 : decode cX0_limbOfSum 42 = .ok (.lshr, 1) := by decide +kernel
theorem dX0_limbOfSum_43 : decode cX0_limbOfSum 43 = .ok (.ladd, 1) := by decide +kernel
theorem dX0_limbOfSum_44 : decode cX0_limbOfSum 44 = .ok (.lstore 4, 2) := by decide +kernel
theorem dX0_limbOfSum_46 : decode cX0_limbOfSum 46 = .ok (.iinc 6 1, 3) := by decide +kernel
theorem dX0_limbOfSum_49 : decode cX0_limbOfSum 49 = .ok (.goto (-41), 3) := by decide +kernel
theorem dX0_limbOfSum_52 : decode cX0_limbOfSum 52 = .ok (.lload 4, 2) := by decide +kernel
theorem dX0_limbOfSum_54 : decode cX0_limbOfSum 54 = .ok (.lload_n 2, 1) := by decide +kernel
theorem dX0_limbOfSum_55 : decode cX0_limbOfSum 55 = .ok (.bipush 32, 2) := by decide +kernel
theorem dX0_limbOfSum_57 : decode cX0_limbOfSum 57 = .ok (.lshr, 1) := by decide +kernel
theorem dX0_limbOfSum_58 : decode cX0_limbOfSum 58 = .ok (.ladd, 1) := by decide +kernel
theorem dX0_limbOfSum_59 : decode cX0_limbOfSum 59 = .ok (.lstore 4, 2) := by decide +kernel
theorem dX0_limbOfSum_61 : decode cX0_limbOfSum 61 = .ok (.iload_n 1, 1) := by decide +kernel
theorem dX0_limbOfSum_62 : decode cX0_limbOfSum 62 = .ok (.ifCond .ne 6, 3) := by decide +kernel
theorem dX0_limbOfSum_65 : decode cX0_limbOfSum 65 = .ok (.lload_n 2, 1) := by decide +kernel
theorem dX0_limbOfSum_66 : decode cX0_limbOfSum 66 = .ok (.l2i, 1) := by decide +kernel
theorem dX0_limbOfSum_67 : decode cX0_limbOfSum 67 = .ok (.ireturn, 1) := by decide +kernel
theorem dX0_limbOfSum_68 : decode cX0_limbOfSum 68 = .ok (.iload_n 1, 1) := by decide +kernel
theorem dX0_limbOfSum_69 : decode cX0_limbOfSum 69 = .ok (.iconst 1, 1) := by decide +kernel
theorem dX0_limbOfSum_70 : decode cX0_limbOfSum 70 = .ok (.if_icmp .ne 9, 3) := by decide +kernel
theorem dX0_limbOfSum_73 : decode cX0_limbOfSum 73 = .ok (.lload 4, 2) := by decide +kernel
theorem dX0_limbOfSum_75 : decode cX0_limbOfSum 75 = .ok (.l2i, 1) := by decide +kernel
theorem dX0_limbOfSum_76 : decode cX0_limbOfSum 76 = .ok (.goto 9, 3) := by decide +kernel
theorem dX0_limbOfSum_79 : decode cX0_limbOfSum 79 = .ok (.lload 4, 2) := by decide +kernel
theorem dX0_limbOfSum_81 : decode cX0_limbOfSum 81 = .ok (.bipush 32, 2) := by decide +kernel
theorem dX0_limbOfSum_83 : decode cX0_limbOfSum 83 = .ok (.lshr, 1) := by decide +kernel
theorem dX0_limbOfSum_84 : decode cX0_limbOfSum 84 = .ok (.l2i, 1) := by decide +kernel
theorem dX0_limbOfSum_85 : decode cX0_limbOfSum 85 = .ok (.ireturn, 1) := by decide +kernel
theorem dX0_sumOfValues_0 : decode cX0_sumOfValues 0 = .ok (.lconst 0, 1) := by decide +kernel
theorem dX0_sumOfValues_1 : decode cX0_sumOfValues 1 = .ok (.lstore_n 1, 1) := by decide +kernel
theorem dX0_sumOfValues_2 : decode cX0_sumOfValues 2 = .ok (.iconst 0, 1) := by decide +kernel
theorem dX0_sumOfValues_3 : decode cX0_sumOfValues 3 = .ok (.istore_n 3, 1) := by decide +kernel
theorem dX0_sumOfValues_4 : decode cX0_sumOfValues 4 = .ok (.iload_n 3, 1) := by decide +kernel
theorem dX0_sumOfValues_5 : decode cX0_sumOfValues 5 = .ok (.aload_n 0, 1) := by decide +kernel
theorem dX0_sumOfValues_6 : decode cX0_sumOfValues 6 = .ok (.getfield 19, 3) := by decide +kernel
theorem dX0_sumOfValues_9 : decode cX0_sumOfValues 9 = .ok (.if_icmp .ge 18, 3) := by decide +kernel
theorem dX0_sumOfValues_12 : decode cX0_sumOfValues 12 = .ok (.lload_n 1, 1) := by decide +kernel
theorem dX0_sumOfValues_13 : decode cX0_sumOfValues 13 = .ok (.aload_n 0, 1) := by decide +kernel
theorem dX0_sumOfValues_14 : decode cX0_sumOfValues 14 = .ok (.getfield 15, 3) := by decide +kernel
theorem dX0_sumOfValues_17 : decode cX0_sumOfValues 17 = .ok (.iload_n 3, 1) := by decide +kernel
theorem dX0_sumOfValues_18 : decode cX0_sumOfValues 18 = .ok (.laload, 1) := by decide +kernel
theorem dX0_sumOfValues_19 : decode cX0_sumOfValues 19 = .ok (.ladd, 1) := by decide +kernel
theorem dX0_sumOfValues_20 : decode cX0_sumOfValues 20 = .ok (.lstore_n 1, 1) := by decide +kernel
theorem dX0_sumOfValues_21 : decode cX0_sumOfValues 21 = .ok (.iinc 3 1, 3) := by decide +kernel
theorem dX0_sumOfValues_24 : decode cX0_sumOfValues 24 = .ok (.goto (-20), 3) := by decide +kernel
theorem dX0_sumOfValues_27 : decode cX0_sumOfValues 27 = .ok (.lload_n 1, 1) := by decide +kernel
theorem dX0_sumOfValues_28 : decode cX0_sumOfValues 28 = .ok (.lreturn, 1) := by decide +kernel
theorem dX0_sumOfSquares_0 : decode cX0_sumOfSquares 0 = .ok (.lconst 0, 1) := by decide +kernel
theorem dX0_sumOfSquares_1 : decode cX0_sumOfSquares 1 = .ok (.lstore_n 1, 1) := by decide +kernel
theorem dX0_sumOfSquares_2 : decode cX0_sumOfSquares 2 = .ok (.iconst 0, 1) := by decide +kernel
theorem dX0_sumOfSquares_3 : decode cX0_sumOfSquares 3 = .ok (.istore_n 3, 1) := by decide +kernel
theorem dX0_sumOfSquares_4 : decode cX0_sumOfSquares 4 = .ok (.iload_n 3, 1) := by decide +kernel
theorem dX0_sumOfSquares_5 : decode cX0_sumOfSquares 5 = .ok (.aload_n 0, 1) := by decide +kernel
theorem dX0_sumOfSquares_6 : decode cX0_sumOfSquares 6 = .ok (.getfield 19, 3) := by decide +kernel
theorem dX0_sumOfSquares_9 : decode cX0_sumOfSquares 9 = .ok (.if_icmp .ge 25, 3) := by decide +kernel
theorem dX0_sumOfSquares_12 : decode cX0_sumOfSquares 12 = .ok (.lload_n 1, 1) := by decide +kernel
theorem dX0_sumOfSquares_13 : decode cX0_sumOfSquares 13 = .ok (.aload_n 0, 1) := by decide +kernel
theorem dX0_sumOfSquares_14 : decode cX0_sumOfSquares 14 = .ok (.getfield 15, 3) := by decide +kernel
theorem dX0_sumOfSquares_17 : decode cX0_sumOfSquares 17 = .ok (.iload_n 3, 1) := by decide +kernel
theorem dX0_sumOfSquares_18 : decode cX0_sumOfSquares 18 = .ok (.laload, 1) := by decide +kernel
theorem dX0_sumOfSquares_19 : decode cX0_sumOfSquares 19 = .ok (.aload_n 0, 1) := by decide +kernel
theorem dX0_sumOfSquares_20 : decode cX0_sumOfSquares 20 = .ok (.getfield 15, 3) := by decide +kernel
theorem dX0_sumOfSquares_23 : decode cX0_sumOfSquares 23 = .ok (.iload_n 3, 1) := by decide +kernel
theorem dX0_sumOfSquares_24 : decode cX0_sumOfSquares 24 = .ok (.laload, 1) := by decide +kernel
theorem dX0_sumOfSquares_25 : decode cX0_sumOfSquares 25 = .ok (.lmul, 1) := by decide +kernel
theorem dX0_sumOfSquares_26 : decode cX0_sumOfSquares 26 = .ok (.ladd, 1) := by decide +kernel
theorem dX0_sumOfSquares_27 : decode cX0_sumOfSquares 27 = .ok (.lstore_n 1, 1) := by decide +kernel
theorem dX0_sumOfSquares_28 : decode cX0_sumOfSquares 28 = .ok (.iinc 3 1, 3) := by decide +kernel
theorem dX0_sumOfSquares_31 : decode cX0_sumOfSquares 31 = .ok (.goto (-27), 3) := by decide +kernel
theorem dX0_sumOfSquares_34 : decode cX0_sumOfSquares 34 = .ok (.lload_n 1, 1) := by decide +kernel
theorem dX0_sumOfSquares_35 : decode cX0_sumOfSquares 35 = .ok (.lreturn, 1) := by decide +kernel
theorem dX0_leastValue_0 : decode cX0_leastValue 0 = .ok (.ldc2_w 42, 3) := by decide +kernel
theorem dX0_leastValue_3 : decode cX0_leastValue 3 = .ok (.lstore_n 1, 1) := by decide +kernel
theorem dX0_leastValue_4 : decode cX0_leastValue 4 = .ok (.iconst 0, 1) := by decide +kernel
theorem dX0_leastValue_5 : decode cX0_leastValue 5 = .ok (.istore_n 3, 1) := by decide +kernel
theorem dX0_leastValue_6 : decode cX0_leastValue 6 = .ok (.iload_n 3, 1) := by decide +kernel
theorem dX0_leastValue_7 : decode cX0_leastValue 7 = .ok (.aload_n 0, 1) := by decide +kernel
theorem dX0_leastValue_8 : decode cX0_leastValue 8 = .ok (.getfield 19, 3) := by decide +kernel
theorem dX0_leastValue_11 : decode cX0_leastValue 11 = .ok (.if_icmp .ge 20, 3) := by decide +kernel
theorem dX0_leastValue_14 : decode cX0_leastValue 14 = .ok (.lload_n 1, 1) := by decide +kernel
theorem dX0_leastValue_15 : decode cX0_leastValue 15 = .ok (.aload_n 0, 1) := by decide +kernel
theorem dX0_leastValue_16 : decode cX0_leastValue 16 = .ok (.getfield 15, 3) := by decide +kernel
theorem dX0_leastValue_19 : decode cX0_leastValue 19 = .ok (.iload_n 3, 1) := by decide +kernel
theorem dX0_leastValue_20 : decode cX0_leastValue 20 = .ok (.laload, 1) := by decide +kernel
theorem dX0_leastValue_21 : decode cX0_leastValue 21 = .ok (.invokestatic 44, 3) := by decide +kernel
theorem dX0_leastValue_24 : decode cX0_leastValue 24 = .ok (.lstore_n 1, 1) := by decide +kernel
theorem dX0_leastValue_25 : decode cX0_leastValue 25 = .ok (.iinc 3 1, 3) := by decide +kernel
theorem dX0_leastValue_28 : decode cX0_leastValue 28 = .ok (.goto (-22), 3) := by decide +kernel
theorem dX0_leastValue_31 : decode cX0_leastValue 31 = .ok (.lload_n 1, 1) := by decide +kernel
theorem dX0_leastValue_32 : decode cX0_leastValue 32 = .ok (.lreturn, 1) := by decide +kernel
theorem dX0_greatestValue_0 : decode cX0_greatestValue 0 = .ok (.ldc2_w 50, 3) := by decide +kernel
theorem dX0_greatestValue_3 : decode cX0_greatestValue 3 = .ok (.lstore_n 1, 1) := by decide +kernel
theorem dX0_greatestValue_4 : decode cX0_greatestValue 4 = .ok (.iconst 0, 1) := by decide +kernel
theorem dX0_greatestValue_5 : decode cX0_greatestValue 5 = .ok (.istore_n 3, 1) := by decide +kernel
theorem dX0_greatestValue_6 : decode cX0_greatestValue 6 = .ok (.iload_n 3, 1) := by decide +kernel
theorem dX0_greatestValue_7 : decode cX0_greatestValue 7 = .ok (.aload_n 0, 1) := by decide +kernel
theorem dX0_greatestValue_8 : decode cX0_greatestValue 8 = .ok (.getfield 19, 3) := by decide +kernel
theorem dX0_greatestValue_11 : decode cX0_greatestValue 11 = .ok (.if_icmp .ge 20, 3) := by decide +kernel
theorem dX0_greatestValue_14 : decode cX0_greatestValue 14 = .ok (.lload_n 1, 1) := by decide +kernel
theorem dX0_greatestValue_15 : decode cX0_greatestValue 15 = .ok (.aload_n 0, 1) := by decide +kernel
theorem dX0_greatestValue_16 : decode cX0_greatestValue 16 = .ok (.getfield 15, 3) := by decide +kernel
theorem dX0_greatestValue_19 : decode cX0_greatestValue 19 = .ok (.iload_n 3, 1) := by decide +kernel
theorem dX0_greatestValue_20 : decode cX0_greatestValue 20 = .ok (.laload, 1) := by decide +kernel
theorem dX0_greatestValue_21 : decode cX0_greatestValue 21 = .ok (.invokestatic 52, 3) := by decide +kernel
theorem dX0_greatestValue_24 : decode cX0_greatestValue 24 = .ok (.lstore_n 1, 1) := by decide +kernel
theorem dX0_greatestValue_25 : decode cX0_greatestValue 25 = .ok (.iinc 3 1, 3) := by decide +kernel
theorem dX0_greatestValue_28 : decode cX0_greatestValue 28 = .ok (.goto (-22), 3) := by decide +kernel
theorem dX0_greatestValue_31 : decode cX0_greatestValue 31 = .ok (.lload_n 1, 1) := by decide +kernel
theorem dX0_greatestValue_32 : decode cX0_greatestValue 32 = .ok (.lreturn, 1) := by decide +kernel
theorem dX0_countBelow_0 : decode cX0_countBelow 0 = .ok (.iconst 0, 1) := by decide +kernel
theorem dX0_countBelow_1 : decode cX0_countBelow 1 = .ok (.istore_n 3, 1) := by decide +kernel
theorem dX0_countBelow_2 : decode cX0_countBelow 2 = .ok (.iconst 0, 1) := by decide +kernel
theorem dX0_countBelow_3 : decode cX0_countBelow 3 = .ok (.istore 4, 2) := by decide +kernel
theorem dX0_countBelow_5 : decode cX0_countBelow 5 = .ok (.iload 4, 2) := by decide +kernel
theorem dX0_countBelow_7 : decode cX0_countBelow 7 = .ok (.aload_n 0, 1) := by decide +kernel
theorem dX0_countBelow_8 : decode cX0_countBelow 8 = .ok (.getfield 19, 3) := by decide +kernel
theorem dX0_countBelow_11 : decode cX0_countBelow 11 = .ok (.if_icmp .ge 24, 3) := by decide +kernel
theorem dX0_countBelow_14 : decode cX0_countBelow 14 = .ok (.aload_n 0, 1) := by decide +kernel
theorem dX0_countBelow_15 : decode cX0_countBelow 15 = .ok (.getfield 15, 3) := by decide +kernel
theorem dX0_countBelow_18 : decode cX0_countBelow 18 = .ok (.iload 4, 2) := by decide +kernel
theorem dX0_countBelow_20 : decode cX0_countBelow 20 = .ok (.laload, 1) := by decide +kernel
theorem dX0_countBelow_21 : decode cX0_countBelow 21 = .ok (.lload_n 1, 1) := by decide +kernel
theorem dX0_countBelow_22 : decode cX0_countBelow 22 = .ok (.lcmp, 1) := by decide +kernel
theorem dX0_countBelow_23 : decode cX0_countBelow 23 = .ok (.ifCond .ge 6, 3) := by decide +kernel
theorem dX0_countBelow_26 : decode cX0_countBelow 26 = .ok (.iinc 3 1, 3) := by decide +kernel
theorem dX0_countBelow_29 : decode cX0_countBelow 29 = .ok (.iinc 4 1, 3) := by decide +kernel
theorem dX0_countBelow_32 : decode cX0_countBelow 32 = .ok (.goto (-27), 3) := by decide +kernel
theorem dX0_countBelow_35 : decode cX0_countBelow 35 = .ok (.iload_n 3, 1) := by decide +kernel
theorem dX0_countBelow_36 : decode cX0_countBelow 36 = .ok (.ireturn, 1) := by decide +kernel
set_option maxRecDepth 20000 in
theorem ggX0_countUnlike_X0_isFirstOfItsValue : GoodIn wsX0_countUnlike wsX0_isFirstOfItsValue := goodIn_r _ [6, 7, 8, 9, 10, 11] (by decide +kernel) (by decide +kernel)
set_option maxRecDepth 20000 in
theorem gX0_countUnlike_X0_isFirstOfItsValue : GoodIn wsX0_countUnlike (wsV RX0 55 RX0 yX0_isFirstOfItsValue wsX0_isFirstOfItsValue) := goodIn_app (goodIn_of _ (by decide +kernel)) ggX0_countUnlike_X0_isFirstOfItsValue
theorem dX0_countUnlike_0 : decode cX0_countUnlike 0 = .ok (.iconst 0, 1) := by decide +kernel
theorem dX0_countUnlike_1 : decode cX0_countUnlike 1 = .ok (.istore_n 1, 1) := by decide +kernel
theorem dX0_countUnlike_2 : decode cX0_countUnlike 2 = .ok (.iconst 0, 1) := by decide +kernel
theorem dX0_countUnlike_3 : decode cX0_countUnlike 3 = .ok (.istore_n 2, 1) := by decide +kernel
theorem dX0_countUnlike_4 : decode cX0_countUnlike 4 = .ok (.iload_n 2, 1) := by decide +kernel
theorem dX0_countUnlike_5 : decode cX0_countUnlike 5 = .ok (.aload_n 0, 1) := by decide +kernel
theorem dX0_countUnlike_6 : decode cX0_countUnlike 6 = .ok (.getfield 19, 3) := by decide +kernel
theorem dX0_countUnlike_9 : decode cX0_countUnlike 9 = .ok (.if_icmp .ge 20, 3) := by decide +kernel
theorem dX0_countUnlike_12 : decode cX0_countUnlike 12 = .ok (.aload_n 0, 1) := by decide +kernel
theorem dX0_countUnlike_13 : decode cX0_countUnlike 13 = .ok (.iload_n 2, 1) := by decide +kernel
theorem dX0_countUnlike_14 : decode cX0_countUnlike 14 = .ok (.invokevirtual 55, 3) := by decide +kernel
theorem dX0_countUnlike_17 : decode cX0_countUnlike 17 = .ok (.ifCond .eq 6, 3) := by decide +kernel
theorem dX0_countUnlike_20 : decode cX0_countUnlike 20 = .ok (.iinc 1 1, 3) := by decide +kernel
theorem dX0_countUnlike_23 : decode cX0_countUnlike 23 = .ok (.iinc 2 1, 3) := by decide +kernel
theorem dX0_countUnlike_26 : decode cX0_countUnlike 26 = .ok (.goto (-22), 3) := by decide +kernel
theorem dX0_countUnlike_29 : decode cX0_countUnlike 29 = .ok (.iload_n 1, 1) := by decide +kernel
theorem dX0_countUnlike_30 : decode cX0_countUnlike 30 = .ok (.ireturn, 1) := by decide +kernel
theorem dX0_isFirstOfItsValue_0 : decode cX0_isFirstOfItsValue 0 = .ok (.iconst 0, 1) := by decide +kernel
theorem dX0_isFirstOfItsValue_1 : decode cX0_isFirstOfItsValue 1 = .ok (.istore_n 2, 1) := by decide +kernel
theorem dX0_isFirstOfItsValue_2 : decode cX0_isFirstOfItsValue 2 = .ok (.iload_n 2, 1) := by decide +kernel
theorem dX0_isFirstOfItsValue_3 : decode cX0_isFirstOfItsValue 3 = .ok (.iload_n 1, 1) := by decide +kernel
theorem dX0_isFirstOfItsValue_4 : decode cX0_isFirstOfItsValue 4 = .ok (.if_icmp .ge 27, 3) := by decide +kernel
theorem dX0_isFirstOfItsValue_7 : decode cX0_isFirstOfItsValue 7 = .ok (.aload_n 0, 1) := by decide +kernel
theorem dX0_isFirstOfItsValue_8 : decode cX0_isFirstOfItsValue 8 = .ok (.getfield 15, 3) := by decide +kernel
theorem dX0_isFirstOfItsValue_11 : decode cX0_isFirstOfItsValue 11 = .ok (.iload_n 2, 1) := by decide +kernel
theorem dX0_isFirstOfItsValue_12 : decode cX0_isFirstOfItsValue 12 = .ok (.laload, 1) := by decide +kernel
theorem dX0_isFirstOfItsValue_13 : decode cX0_isFirstOfItsValue 13 = .ok (.aload_n 0, 1) := by decide +kernel
theorem dX0_isFirstOfItsValue_14 : decode cX0_isFirstOfItsValue 14 = .ok (.getfield 15, 3) := by decide +kernel
theorem dX0_isFirstOfItsValue_17 : decode cX0_isFirstOfItsValue 17 = .ok (.iload_n 1, 1) := by decide +kernel
theorem dX0_isFirstOfItsValue_18 : decode cX0_isFirstOfItsValue 18 = .ok (.laload, 1) := by decide +kernel
theorem dX0_isFirstOfItsValue_19 : decode cX0_isFirstOfItsValue 19 = .ok (.lcmp, 1) := by decide +kernel
theorem dX0_isFirstOfItsValue_20 : decode cX0_isFirstOfItsValue 20 = .ok (.ifCond .ne 5, 3) := by decide +kernel
theorem dX0_isFirstOfItsValue_23 : decode cX0_isFirstOfItsValue 23 = .ok (.iconst 0, 1) := by decide +kernel
theorem dX0_isFirstOfItsValue_24 : decode cX0_isFirstOfItsValue 24 = .ok (.ireturn, 1) := by decide +kernel
theorem dX0_isFirstOfItsValue_25 : decode cX0_isFirstOfItsValue 25 = .ok (.iinc 2 1, 3) := by decide +kernel
theorem dX0_isFirstOfItsValue_28 : decode cX0_isFirstOfItsValue 28 = .ok (.goto (-26), 3) := by decide +kernel
theorem dX0_isFirstOfItsValue_31 : decode cX0_isFirstOfItsValue 31 = .ok (.iconst 1, 1) := by decide +kernel
theorem dX0_isFirstOfItsValue_32 : decode cX0_isFirstOfItsValue 32 = .ok (.ireturn, 1) := by decide +kernel
theorem dX1_init_0 : decode cX1_init 0 = .ok (.aload_n 0, 1) := by decide +kernel
theorem dX1_init_1 : decode cX1_init 1 = .ok (.invokespecial 5, 3) := by decide +kernel
theorem dX1_init_4 : decode cX1_init 4 = .ok (.aload_n 0, 1) := by decide +kernel
theorem dX1_init_5 : decode cX1_init 5 = .ok (.bipush 67, 2) := by decide +kernel
theorem dX1_init_7 : decode cX1_init 7 = .ok (.newarray .long, 2) := by decide +kernel
theorem dX1_init_9 : decode cX1_init 9 = .ok (.putfield 11, 3) := by decide +kernel
theorem dX1_init_12 : decode cX1_init 12 = .ok (.return_, 1) := by decide +kernel
set_option maxRecDepth 20000 in
theorem ggX1_roundedSumOf_X1_put : GoodIn wsX1_roundedSumOf wsX1_put := goodIn_r _ [9, 10, 11, 12, 13, 1, 61] (by decide +kernel) (by decide +kernel)
set_option maxRecDepth 20000 in
theorem gX1_roundedSumOf_X1_put : GoodIn wsX1_roundedSumOf (wsV RX1 24 RX1 yX1_put wsX1_put) := goodIn_app (goodIn_of _ (by decide +kernel)) ggX1_roundedSumOf_X1_put
set_option maxRecDepth 20000 in
theorem ggX1_roundedSumOf_X1_carry : GoodIn wsX1_roundedSumOf wsX1_carry := goodIn_r _ [17, 1, 12, 61] (by decide +kernel) (by decide +kernel)
set_option maxRecDepth 20000 in
theorem gX1_roundedSumOf_X1_carry : GoodIn wsX1_roundedSumOf (wsV RX1 28 RX1 yX1_carry wsX1_carry) := goodIn_app (goodIn_of _ (by decide +kernel)) ggX1_roundedSumOf_X1_carry
set_option maxRecDepth 20000 in
theorem ggX1_roundedSumOf_X1_turnSign : GoodIn wsX1_roundedSumOf wsX1_turnSign := goodIn_r _ [21, 1, 14, 15, 16, 8, 17, 12, 61] (by decide +kernel) (by decide +kernel)
set_option maxRecDepth 20000 in
theorem gX1_roundedSumOf_X1_turnSign : GoodIn wsX1_roundedSumOf (wsV RX1 32 RX1 yX1_turnSign wsX1_turnSign) := goodIn_app (goodIn_of _ (by decide +kernel)) ggX1_roundedSumOf_X1_turnSign
set_option maxRecDepth 20000 in
theorem ggX1_roundedSumOf_X1_roundedSize : GoodIn wsX1_roundedSumOf wsX1_roundedSize := goodIn_r _ [25, 26, 27, 28, 29, 8, 30, 1, 31, 32, 33, 34, 35, 36, 37, 38, 39, 40, 41, 42, 43, 44, 45, 46, 47, 48, 49, 50, 51, 52, 53, 54, 55, 56, 57, 58, 59, 60, 61] (by decide +kernel) (by decide +kernel)
set_option maxRecDepth 20000 in
theorem gX1_roundedSumOf_X1_roundedSize : GoodIn wsX1_roundedSumOf (wsV RX1 35 RX1 yX1_roundedSize wsX1_roundedSize) := goodIn_app (goodIn_of _ (by decide +kernel)) ggX1_roundedSumOf_X1_roundedSize
theorem dX1_roundedSumOf_0 : decode cX1_roundedSumOf 0 = .ok (.iconst 0, 1) := by decide +kernel
theorem dX1_roundedSumOf_1 : decode cX1_roundedSumOf 1 = .ok (.istore_n 2, 1) := by decide +kernel
theorem dX1_roundedSumOf_2 : decode cX1_roundedSumOf 2 = .ok (.iload_n 2, 1) := by decide +kernel
theorem dX1_roundedSumOf_3 : decode cX1_roundedSumOf 3 = .ok (.bipush 67, 2) := by decide +kernel
theorem dX1_roundedSumOf_5 : decode cX1_roundedSumOf 5 = .ok (.if_icmp .ge 16, 3) := by decide +kernel
theorem dX1_roundedSumOf_8 : decode cX1_roundedSumOf 8 = .ok (.aload_n 0, 1) := by decide +kernel
theorem dX1_roundedSumOf_9 : decode cX1_roundedSumOf 9 = .ok (.getfield 11, 3) := by decide +kernel
theorem dX1_roundedSumOf_12 : decode cX1_roundedSumOf 12 = .ok (.iload_n 2, 1) := by decide +kernel
theorem dX1_roundedSumOf_13 : decode cX1_roundedSumOf 13 = .ok (.lconst 0, 1) := by decide +kernel
theorem dX1_roundedSumOf_14 : decode cX1_roundedSumOf 14 = .ok (.lastore, 1) := by decide +kernel
theorem dX1_roundedSumOf_15 : decode cX1_roundedSumOf 15 = .ok (.iinc 2 1, 3) := by decide +kernel
theorem dX1_roundedSumOf_18 : decode cX1_roundedSumOf 18 = .ok (.goto (-16), 3) := by decide +kernel
theorem dX1_roundedSumOf_21 : decode cX1_roundedSumOf 21 = .ok (.iconst 0, 1) := by decide +kernel
theorem dX1_roundedSumOf_22 : decode cX1_roundedSumOf 22 = .ok (.istore_n 2, 1) := by decide +kernel
theorem dX1_roundedSumOf_23 : decode cX1_roundedSumOf 23 = .ok (.iload_n 2, 1) := by decide +kernel
theorem dX1_roundedSumOf_24 : decode cX1_roundedSumOf 24 = .ok (.aload_n 1, 1) := by decide +kernel
theorem dX1_roundedSumOf_25 : decode cX1_roundedSumOf 25 = .ok (.getfield 15, 3) := by decide +kernel
theorem dX1_roundedSumOf_28 : decode cX1_roundedSumOf 28 = .ok (.if_icmp .ge 19, 3) := by decide +kernel
theorem dX1_roundedSumOf_31 : decode cX1_roundedSumOf 31 = .ok (.aload_n 0, 1) := by decide +kernel
theorem dX1_roundedSumOf_32 : decode cX1_roundedSumOf 32 = .ok (.aload_n 1, 1) := by decide +kernel
theorem dX1_roundedSumOf_33 : decode cX1_roundedSumOf 33 = .ok (.getfield 21, 3) := by decide +kernel
theorem dX1_roundedSumOf_36 : decode cX1_roundedSumOf 36 = .ok (.iload_n 2, 1) := by decide +kernel
theorem dX1_roundedSumOf_37 : decode cX1_roundedSumOf 37 = .ok (.laload, 1) := by decide +kernel
theorem dX1_roundedSumOf_38 : decode cX1_roundedSumOf 38 = .ok (.invokevirtual 24, 3) := by decide +kernel
theorem dX1_roundedSumOf_41 : decode cX1_roundedSumOf 41 = .ok (.iinc 2 1, 3) := by decide +kernel
theorem dX1_roundedSumOf_44 : decode cX1_roundedSumOf 44 = .ok (.goto (-21), 3) := by decide +kernel
theorem dX1_roundedSumOf_47 : decode cX1_roundedSumOf 47 = .ok (.aload_n 0, 1) := by decide +kernel
theorem dX1_roundedSumOf_48 : decode cX1_roundedSumOf 48 = .ok (.invokevirtual 28, 3) := by decide +kernel
theorem dX1_roundedSumOf_51 : decode cX1_roundedSumOf 51 = .ok (.lconst 0, 1) := by decide +kernel
theorem dX1_roundedSumOf_52 : decode cX1_roundedSumOf 52 = .ok (.lcmp, 1) := by decide +kernel
theorem dX1_roundedSumOf_53 : decode cX1_roundedSumOf 53 = .ok (.ifCond .ge 7, 3) := by decide +kernel
theorem dX1_roundedSumOf_56 : decode cX1_roundedSumOf 56 = .ok (.iconst 1, 1) := by decide +kernel
theorem dX1_roundedSumOf_57 : decode cX1_roundedSumOf 57 = .ok (.goto 4, 3) := by decide +kernel
theorem dX1_roundedSumOf_60 : decode cX1_roundedSumOf 60 = .ok (.iconst 0, 1) := by decide +kernel
theorem dX1_roundedSumOf_61 : decode cX1_roundedSumOf 61 = .ok (.istore_n 2, 1) := by decide +kernel
theorem dX1_roundedSumOf_62 : decode cX1_roundedSumOf 62 = .ok (.iload_n 2, 1) := by decide +kernel
theorem dX1_roundedSumOf_63 : decode cX1_roundedSumOf 63 = .ok (.ifCond .eq 7, 3) := by decide +kernel
theorem dX1_roundedSumOf_66 : decode cX1_roundedSumOf 66 = .ok (.aload_n 0, 1) := by decide +kernel
theorem dX1_roundedSumOf_67 : decode cX1_roundedSumOf 67 = .ok (.invokevirtual 32, 3) := by decide +kernel
theorem dX1_roundedSumOf_70 : decode cX1_roundedSumOf 70 = .ok (.aload_n 0, 1) := by decide +kernel
theorem dX1_roundedSumOf_71 : decode cX1_roundedSumOf 71 = .ok (.invokevirtual 35, 3) := by decide +kernel
theorem dX1_roundedSumOf_74 : decode cX1_roundedSumOf 74 = .ok (.lstore_n 3, 1) := by decide +kernel
theorem dX1_roundedSumOf_75 : decode cX1_roundedSumOf 75 = .ok (.iload_n 2, 1) := by decide +kernel
theorem dX1_roundedSumOf_76 : decode cX1_roundedSumOf 76 = .ok (.ifCond .eq 11, 3) := by decide +kernel
theorem dX1_roundedSumOf_79 : decode cX1_roundedSumOf 79 = .ok (.lload_n 3, 1) := by decide +kernel
theorem dX1_roundedSumOf_80 : decode cX1_roundedSumOf 80 = .ok (.ldc2_w 40, 3) := by decide +kernel
theorem dX1_roundedSumOf_83 : decode cX1_roundedSumOf 83 = .ok (.lor, 1) := by decide +kernel
theorem dX1_roundedSumOf_84 : decode cX1_roundedSumOf 84 = .ok (.goto 4, 3) := by decide +kernel
theorem dX1_roundedSumOf_87 : decode cX1_roundedSumOf 87 = .ok (.lload_n 3, 1) := by decide +kernel
theorem dX1_roundedSumOf_88 : decode cX1_roundedSumOf 88 = .ok (.lreturn, 1) := by decide +kernel
theorem dX1_put_0 : decode cX1_put 0 = .ok (.lload_n 1, 1) := by decide +kernel
theorem dX1_put_1 : decode cX1_put 1 = .ok (.bipush 52, 2) := by decide +kernel
theorem dX1_put_3 : decode cX1_put 3 = .ok (.lushr, 1) := by decide +kernel
theorem dX1_put_4 : decode cX1_put 4 = .ok (.l2i, 1) := by decide +kernel
theorem dX1_put_5 : decode cX1_put 5 = .ok (.sipush 2047, 3) := by decide +kernel
theorem dX1_put_8 : decode cX1_put 8 = .ok (.iand, 1) := by decide +kernel
theorem dX1_put_9 : decode cX1_put 9 = .ok (.istore_n 3, 1) := by decide +kernel
theorem dX1_put_10 : decode cX1_put 10 = .ok (.lload_n 1, 1) := by decide +kernel
theorem dX1_put_11 : decode cX1_put 11 = .ok (.ldc2_w 42, 3) := by decide +kernel
theorem dX1_put_14 : decode cX1_put 14 = .ok (.land, 1) := by decide +kernel
theorem dX1_put_15 : decode cX1_put 15 = .ok (.lstore 4, 2) := by decide +kernel
theorem dX1_put_17 : decode cX1_put 17 = .ok (.iconst 0, 1) := by decide +kernel
theorem dX1_put_18 : decode cX1_put 18 = .ok (.istore 6, 2) := by decide +kernel
theorem dX1_put_20 : decode cX1_put 20 = .ok (.iload_n 3, 1) := by decide +kernel
theorem dX1_put_21 : decode cX1_put 21 = .ok (.ifCond .le 16, 3) := by decide +kernel
theorem dX1_put_24 : decode cX1_put 24 = .ok (.lload 4, 2) := by decide +kernel
theorem dX1_put_26 : decode cX1_put 26 = .ok (.ldc2_w 44, 3) := by decide +kernel
theorem dX1_put_29 : decode cX1_put 29 = .ok (.lor, 1) := by decide +kernel
theorem dX1_put_30 : decode cX1_put 30 = .ok (.lstore 4, 2) := by decide +kernel
theorem dX1_put_32 : decode cX1_put 32 = .ok (.iload_n 3, 1) := by decide +kernel
theorem dX1_put_33 : decode cX1_put 33 = .ok (.iconst 1, 1) := by decide +kernel
theorem dX1_put_34 : decode cX1_put 34 = .ok (.isub, 1) := by decide +kernel
theorem dX1_put_35 : decode cX1_put 35 = .ok (.istore 6, 2) := by decide +kernel
theorem dX1_put_37 : decode cX1_put 37 = .ok (.lload 4, 2) := by decide +kernel
theorem dX1_put_39 : decode cX1_put 39 = .ok (.ldc2_w 46, 3) := by decide +kernel
theorem dX1_put_42 : decode cX1_put 42 = .ok (.land, 1) := by decide +kernel
theorem dX1_put_43 : decode cX1_put 43 = .ok (.iload 6, 2) := by decide +kernel
theorem dX1_put_45 : decode cX1_put 45 = .ok (.bipush 31, 2) := by decide +kernel
theorem dX1_put_47 : decode cX1_put 47 = .ok (.iand, 1) := by decide +kernel
theorem dX1_put_48 : decode cX1_put 48 = .ok (.lshl, 1) := by decide +kernel
theorem dX1_put_49 : decode cX1_put 49 = .ok (.lstore 7, 2) := by decide +kernel
theorem dX1_put_51 : decode cX1_put 51 = .ok (.lload 4, 2) := by decide +kernel
theorem dX1_put_53 : decode cX1_put 53 = .ok (.bipush 32, 2) := by decide +kernel
theorem dX1_put_55 : decode cX1_put 55 = .ok (.lushr, 1) := by decide +kernel
theorem dX1_put_56 : decode cX1_put 56 = .ok (.iload 6, 2) := by decide +kernel
theorem dX1_put_58 : decode cX1_put 58 = .ok (.bipush 31, 2) := by decide +kernel
theorem dX1_put_60 : decode cX1_put 60 = .ok (.iand, 1) := by decide +kernel
theorem dX1_put_61 : decode cX1_put 61 = .ok (.lshl, 1) := by decide +kernel
theorem dX1_put_62 : decode cX1_put 62 = .ok (.lstore 9, 2) := by decide +kernel
theorem dX1_put_64 : decode cX1_put 64 = .ok (.lload_n 1, 1) := by decide +kernel
theorem dX1_put_65 : decode cX1_put 65 = .ok (.lconst 0, 1) := by decide +kernel
theorem dX1_put_66 : decode cX1_put 66 = .ok (.lcmp, 1) := by decide +kernel
theorem dX1_put_67 : decode cX1_put 67 = .ok (.ifCond .ge 9, 3) := by decide +kernel
theorem dX1_put_70 : decode cX1_put 70 = .ok (.ldc2_w 48, 3) := by decide +kernel
theorem dX1_put_73 : decode cX1_put 73 = .ok (.goto 4, 3) := by decide +kernel
theorem dX1_put_76 : decode cX1_put 76 = .ok (.lconst 1, 1) := by decide +kernel
theorem dX1_put_77 : decode cX1_put 77 = .ok (.lstore 11, 2) := by decide +kernel
theorem dX1_put_79 : decode cX1_put 79 = .ok (.iload 6, 2) := by decide +kernel
theorem dX1_put_81 : decode cX1_put 81 = .ok (.iconst 5, 1) := by decide +kernel
theorem dX1_put_82 : decode cX1_put 82 = .ok (.ishr, 1) := by decide +kernel
theorem dX1_put_83 : decode cX1_put 83 = .ok (.istore 13, 2) := by decide +kernel
theorem dX1_put_85 : decode cX1_put 85 = .ok (.iload 13, 2) := by decide +kernel
theorem dX1_put_87 : decode cX1_put 87 = .ok (.iconst 2, 1) := by decide +kernel
theorem dX1_put_88 : decode cX1_put 88 = .ok (.iadd, 1) := by decide +kernel
theorem dX1_put_89 : decode cX1_put 89 = .ok (.bipush 67, 2) := by decide +kernel
theorem dX1_put_91 : decode cX1_put 91 = .ok (.if_icmp .ge 69, 3) := by decide +kernel
theorem dX1_put_94 : decode cX1_put 94 = .ok (.aload_n 0, 1) := by decide +kernel
theorem dX1_put_95 : decode cX1_put 95 = .ok (.getfield 11, 3) := by decide +kernel
theorem dX1_put_98 : decode cX1_put 98 = .ok (.iload 13, 2) := by decide +kernel
theorem dX1_put_100 : decode cX1_put 100 = .ok (.dup2, 1) := by decide +kernel
theorem dX1_put_101 : decode cX1_put 101 = .ok (.laload, 1) := by decide +kernel
theorem dX1_put_102 : decode cX1_put 102 = .ok (.lload 11, 2) := by decide +kernel
theorem dX1_put_104 : decode cX1_put 104 = .ok (.lload 7, 2) := by decide +kernel
theorem dX1_put_106 : decode cX1_put 106 = .ok (.ldc2_w 46, 3) := by decide +kernel
theorem dX1_put_109 : decode cX1_put 109 = .ok (.land, 1) := by decide +kernel
theorem dX1_put_110 : decode cX1_put 110 = .ok (.lmul, 1) := by decide +kernel
theorem dX1_put_111 : decode cX1_put 111 = .ok (.ladd, 1) := by decide +kernel
theorem dX1_put_112 : decode cX1_put 112 = .ok (.lastore, 1) := by decide +kernel
theorem dX1_put_113 : decode cX1_put 113 = .ok (.aload_n 0, 1) := by decide +kernel
theorem dX1_put_114 : decode cX1_put 114 = .ok (.getfield 11, 3) := by decide +kernel
theorem dX1_put_117 : decode cX1_put 117 = .ok (.iload 13, 2) := by decide +kernel
theorem dX1_put_119 : decode cX1_put 119 = .ok (.iconst 1, 1) := by decide +kernel
theorem dX1_put_120 : decode cX1_put 120 = .ok (.iadd, 1) := by decide +kernel
theorem dX1_put_121 : decode cX1_put 121 = .ok (.dup2, 1) := by decide +kernel
theorem dX1_put_122 : decode cX1_put 122 = .ok (.laload, 1) := by decide +kernel
theorem dX1_put_123 : decode cX1_put 123 = .ok (.lload 11, 2) := by decide +kernel
theorem dX1_put_125 : decode cX1_put 125 = .ok (.lload 7, 2) := by decide +kernel
theorem dX1_put_127 : decode cX1_put 127 = .ok (.bipush 32, 2) := by decide +kernel
theorem dX1_put_129 : decode cX1_put 129 = .ok (.lushr, 1) := by decide +kernel
theorem dX1_put_130 : decode cX1_put 130 = .ok (.lload 9, 2) := by decide +kernel
theorem dX1_put_132 : decode cX1_put 132 = .ok (.ldc2_w 46, 3) := by decide +kernel
theorem dX1_put_135 : decode cX1_put 135 = .ok (.land, 1) := by decide +kernel
theorem dX1_put_136 : decode cX1_put 136 = .ok (.ladd, 1) := by decide +kernel
theorem dX1_put_137 : decode cX1_put 137 = .ok (.lmul, 1) := by decide +kernel
theorem dX1_put_138 : decode cX1_put 138 = .ok (.ladd, 1) := by decide +kernel
theorem dX1_put_139 : decode cX1_put 139 = .ok (.lastore, 1) := by decide +kernel
theorem dX1_put_140 : decode cX1_put 140 = .ok (.aload_n 0, 1) := by decide +kernel
theorem dX1_put_141 : decode cX1_put 141 = .ok (.getfield 11, 3) := by decide +kernel
theorem dX1_put_144 : decode cX1_put 144 = .ok (.iload 13, 2) := by decide +kernel
theorem dX1_put_146 : decode cX1_put 146 = .ok (.iconst 2, 1) := by decide +kernel
theorem dX1_put_147 : decode cX1_put 147 = .ok (.iadd, 1) := by decide +kernel
theorem dX1_put_148 : decode cX1_put 148 = .ok (.dup2, 1) := by decide +kernel
theorem dX1_put_149 : decode cX1_put 149 = .ok (.laload, 1) := by decide +kernel
theorem dX1_put_150 : decode cX1_put 150 = .ok (.lload 11, 2) := by decide +kernel
theorem dX1_put_152 : decode cX1_put 152 = .ok (.lload 9, 2) := by decide +kernel
theorem dX1_put_154 : decode cX1_put 154 = .ok (.bipush 32, 2) := by decide +kernel
theorem dX1_put_156 : decode cX1_put 156 = .ok (.lushr, 1) := by decide +kernel
theorem dX1_put_157 : decode cX1_put 157 = .ok (.lmul, 1) := by decide +kernel
theorem dX1_put_158 : decode cX1_put 158 = .ok (.ladd, 1) := by decide +kernel
theorem dX1_put_159 : decode cX1_put 159 = .ok (.lastore, 1) := by decide +kernel
theorem dX1_put_160 : decode cX1_put 160 = .ok (.return_, 1) := by decide +kernel
theorem dX1_carry_0 : decode cX1_carry 0 = .ok (.lconst 0, 1) := by decide +kernel
theorem dX1_carry_1 : decode cX1_carry 1 = .ok (.lstore_n 1, 1) := by decide +kernel
theorem dX1_carry_2 : decode cX1_carry 2 = .ok (.iconst 0, 1) := by decide +kernel
theorem dX1_carry_3 : decode cX1_carry 3 = .ok (.istore_n 3, 1) := by decide +kernel
theorem dX1_carry_4 : decode cX1_carry 4 = .ok (.iload_n 3, 1) := by decide +kernel
theorem dX1_carry_5 : decode cX1_carry 5 = .ok (.bipush 67, 2) := by decide +kernel
theorem dX1_carry_7 : decode cX1_carry 7 = .ok (.if_icmp .ge 37, 3) := by decide +kernel
theorem dX1_carry_10 : decode cX1_carry 10 = .ok (.aload_n 0, 1) := by decide +kernel
theorem dX1_carry_11 : decode cX1_carry 11 = .ok (.getfield 11, 3) := by decide +kernel
theorem dX1_carry_14 : decode cX1_carry 14 = .ok (.iload_n 3, 1) := by decide +kernel
theorem dX1_carry_15 : decode cX1_carry 15 = .ok (.laload, 1) := by decide +kernel
theorem dX1_carry_16 : decode cX1_carry 16 = .ok (.lload_n 1, 1) := by decide +kernel
theorem dX1_carry_17 : decode cX1_carry 17 = .ok (.ladd, 1) := by decide +kernel
theorem dX1_carry_18 : decode cX1_carry 18 = .ok (.lstore 4, 2) := by decide +kernel
theorem dX1_carry_20 : decode cX1_carry 20 = .ok (.aload_n 0, 1) := by decide +kernel
theorem dX1_carry_21 : decode cX1_carry 21 = .ok (.getfield 11, 3) := by decide +kernel
theorem dX1_carry_24 : decode cX1_carry 24 = .ok (.iload_n 3, 1) := by decide +kernel
theorem dX1_carry_25 : decode cX1_carry 25 = .ok (.lload 4, 2) := by decide +kernel
theorem dX1_carry_27 : decode cX1_carry 27 = .ok (.ldc2_w 46, 3) := by decide +kernel
theorem dX1_carry_30 : decode cX1_carry 30 = .ok (.land, 1) := by decide +kernel
theorem dX1_carry_31 : decode cX1_carry 31 = .ok (.lastore, 1) := by decide +kernel
theorem dX1_carry_32 : decode cX1_carry 32 = .ok (.lload 4, 2) := by decide +kernel
theorem dX1_carry_34 : decode cX1_carry 34 = .ok (.bipush 32, 2) := by decide +kernel
theorem dX1_carry_36 : decode cX1_carry 36 = .ok (.lshr, 1) := by decide +kernel
theorem dX1_carry_37 : decode cX1_carry 37 = .ok (.lstore_n 1, 1) := by decide +kernel
theorem dX1_carry_38 : decode cX1_carry 38 = .ok (.iinc 3 1, 3) := by decide +kernel
theorem dX1_carry_41 : decode cX1_carry 41 = .ok (.goto (-37), 3) := by decide +kernel
theorem dX1_carry_44 : decode cX1_carry 44 = .ok (.lload_n 1, 1) := by decide +kernel
theorem dX1_carry_45 : decode cX1_carry 45 = .ok (.lreturn, 1) := by decide +kernel
set_option maxRecDepth 20000 in
theorem ggX1_turnSign_X1_carry : GoodIn wsX1_turnSign wsX1_carry := goodIn_r _ [6, 1, 7, 8] (by decide +kernel) (by decide +kernel)
set_option maxRecDepth 20000 in
theorem gX1_turnSign_X1_carry : GoodIn wsX1_turnSign (wsV RX1 28 RX1 yX1_carry wsX1_carry) := goodIn_app (goodIn_of _ (by decide +kernel)) ggX1_turnSign_X1_carry
theorem dX1_turnSign_0 : decode cX1_turnSign 0 = .ok (.iconst 0, 1) := by decide +kernel
theorem dX1_turnSign_1 : decode cX1_turnSign 1 = .ok (.istore_n 1, 1) := by decide +kernel
theorem dX1_turnSign_2 : decode cX1_turnSign 2 = .ok (.iload_n 1, 1) := by decide +kernel
theorem dX1_turnSign_3 : decode cX1_turnSign 3 = .ok (.bipush 67, 2) := by decide +kernel
theorem dX1_turnSign_5 : decode cX1_turnSign 5 = .ok (.if_icmp .ge 22, 3) := by decide +kernel
theorem dX1_turnSign_8 : decode cX1_turnSign 8 = .ok (.aload_n 0, 1) := by decide +kernel
theorem dX1_turnSign_9 : decode cX1_turnSign 9 = .ok (.getfield 11, 3) := by decide +kernel
theorem dX1_turnSign_12 : decode cX1_turnSign 12 = .ok (.iload_n 1, 1) := by decide +kernel
theorem dX1_turnSign_13 : decode cX1_turnSign 13 = .ok (.aload_n 0, 1) := by decide +kernel
theorem dX1_turnSign_14 : decode cX1_turnSign 14 = .ok (.getfield 11, 3) := by decide +kernel
theorem dX1_turnSign_17 : decode cX1_turnSign 17 = .ok (.iload_n 1, 1) := by decide +kernel
theorem dX1_turnSign_18 : decode cX1_turnSign 18 = .ok (.laload, 1) := by decide +kernel
theorem dX1_turnSign_19 : decode cX1_turnSign 19 = .ok (.lneg, 1) := by decide +kernel
theorem dX1_turnSign_20 : decode cX1_turnSign 20 = .ok (.lastore, 1) := by decide +kernel
theorem dX1_turnSign_21 : decode cX1_turnSign 21 = .ok (.iinc 1 1, 3) := by decide +kernel
theorem dX1_turnSign_24 : decode cX1_turnSign 24 = .ok (.goto (-22), 3) := by decide +kernel
theorem dX1_turnSign_27 : decode cX1_turnSign 27 = .ok (.aload_n 0, 1) := by decide +kernel
theorem dX1_turnSign_28 : decode cX1_turnSign 28 = .ok (.invokevirtual 28, 3) := by decide +kernel
theorem dX1_turnSign_31 : decode cX1_turnSign 31 = .ok (.pop2, 1) := by decide +kernel
theorem dX1_turnSign_32 : decode cX1_turnSign 32 = .ok (.return_, 1) := by decide +kernel
set_option maxRecDepth 20000 in
theorem ggX1_roundedSize_X1_highestBit : GoodIn wsX1_roundedSize wsX1_highestBit := goodIn_r _ [6, 7, 8, 9, 10, 11, 12, 13, 14, 15, 16, 38] (by decide +kernel) (by decide +kernel)
set_option maxRecDepth 20000 in
theorem gX1_roundedSize_X1_highestBit : GoodIn wsX1_roundedSize (wsV RX1 50 RX1 yX1_highestBit wsX1_highestBit) := goodIn_app (goodIn_of _ (by decide +kernel)) ggX1_roundedSize_X1_highestBit
set_option maxRecDepth 20000 in
theorem ggX1_roundedSize_X1_digitsFrom : GoodIn wsX1_roundedSize wsX1_digitsFrom := goodIn_r _ [20, 21, 22, 23, 24, 5, 25, 7, 38] (by decide +kernel) (by decide +kernel)
set_option maxRecDepth 20000 in
theorem gX1_roundedSize_X1_digitsFrom : GoodIn wsX1_roundedSize (wsV RX1 54 RX1 yX1_digitsFrom wsX1_digitsFrom) := goodIn_app (goodIn_of _ (by decide +kernel)) ggX1_roundedSize_X1_digitsFrom
set_option maxRecDepth 20000 in
theorem ggX1_roundedSize_X1_roundsUp : GoodIn wsX1_roundedSize wsX1_roundsUp := goodIn_r _ [29, 30, 31, 32, 5, 33, 22, 23, 24, 25, 7, 34, 35, 36, 37, 38] (by decide +kernel) (by decide +kernel)
set_option maxRecDepth 20000 in
theorem gX1_roundedSize_X1_roundsUp : GoodIn wsX1_roundedSize (wsV RX1 60 RX1 yX1_roundsUp wsX1_roundsUp) := goodIn_app (goodIn_of _ (by decide +kernel)) ggX1_roundedSize_X1_roundsUp
theorem dX1_roundedSize_0 : decode cX1_roundedSize 0 = .ok (.aload_n 0, 1) := by decide +kernel
theorem dX1_roundedSize_1 : decode cX1_roundedSize 1 = .ok (.invokevirtual 50, 3) := by decide +kernel
theorem dX1_roundedSize_4 : decode cX1_roundedSize 4 = .ok (.bipush 52, 2) := by decide +kernel
theorem dX1_roundedSize_6 : decode cX1_roundedSize 6 = .ok (.isub, 1) := by decide +kernel
theorem dX1_roundedSize_7 : decode cX1_roundedSize 7 = .ok (.istore_n 1, 1) := by decide +kernel
theorem dX1_roundedSize_8 : decode cX1_roundedSize 8 = .ok (.iload_n 1, 1) := by decide +kernel
theorem dX1_roundedSize_9 : decode cX1_roundedSize 9 = .ok (.ifCond .gt 9, 3) := by decide +kernel
theorem dX1_roundedSize_12 : decode cX1_roundedSize 12 = .ok (.aload_n 0, 1) := by decide +kernel
theorem dX1_roundedSize_13 : decode cX1_roundedSize 13 = .ok (.iconst 0, 1) := by decide +kernel
theorem dX1_roundedSize_14 : decode cX1_roundedSize 14 = .ok (.invokevirtual 54, 3) := by decide +kernel
theorem dX1_roundedSize_17 : decode cX1_roundedSize 17 = .ok (.lreturn, 1) := by decide +kernel
theorem dX1_roundedSize_18 : decode cX1_roundedSize 18 = .ok (.iload_n 1, 1) := by decide +kernel
theorem dX1_roundedSize_19 : decode cX1_roundedSize 19 = .ok (.sipush 2046, 3) := by decide +kernel
theorem dX1_roundedSize_22 : decode cX1_roundedSize 22 = .ok (.if_icmp .lt 7, 3) := by decide +kernel
theorem dX1_roundedSize_25 : decode cX1_roundedSize 25 = .ok (.ldc2_w 58, 3) := by decide +kernel
theorem dX1_roundedSize_28 : decode cX1_roundedSize 28 = .ok (.lreturn, 1) := by decide +kernel
theorem dX1_roundedSize_29 : decode cX1_roundedSize 29 = .ok (.iload_n 1, 1) := by decide +kernel
theorem dX1_roundedSize_30 : decode cX1_roundedSize 30 = .ok (.i2l, 1) := by decide +kernel
theorem dX1_roundedSize_31 : decode cX1_roundedSize 31 = .ok (.bipush 52, 2) := by decide +kernel
theorem dX1_roundedSize_33 : decode cX1_roundedSize 33 = .ok (.lshl, 1) := by decide +kernel
theorem dX1_roundedSize_34 : decode cX1_roundedSize 34 = .ok (.aload_n 0, 1) := by decide +kernel
theorem dX1_roundedSize_35 : decode cX1_roundedSize 35 = .ok (.iload_n 1, 1) := by decide +kernel
theorem dX1_roundedSize_36 : decode cX1_roundedSize 36 = .ok (.invokevirtual 54, 3) := by decide +kernel
theorem dX1_roundedSize_39 : decode cX1_roundedSize 39 = .ok (.ladd, 1) := by decide +kernel
theorem dX1_roundedSize_40 : decode cX1_roundedSize 40 = .ok (.lstore_n 2, 1) := by decide +kernel
theorem dX1_roundedSize_41 : decode cX1_roundedSize 41 = .ok (.aload_n 0, 1) := by decide +kernel
theorem dX1_roundedSize_42 : decode cX1_roundedSize 42 = .ok (.iload_n 1, 1) := by decide +kernel
theorem dX1_roundedSize_43 : decode cX1_roundedSize 43 = .ok (.invokevirtual 60, 3) := by decide +kernel
theorem dX1_roundedSize_46 : decode cX1_roundedSize 46 = .ok (.ifCond .eq 9, 3) := by decide +kernel
theorem dX1_roundedSize_49 : decode cX1_roundedSize 49 = .ok (.lload_n 2, 1) := by decide +kernel
theorem dX1_roundedSize_50 : decode cX1_roundedSize 50 = .ok (.lconst 1, 1) := by decide +kernel
theorem dX1_roundedSize_51 : decode cX1_roundedSize 51 = .ok (.ladd, 1) := by decide +kernel
theorem dX1_roundedSize_52 : decode cX1_roundedSize 52 = .ok (.goto 4, 3) := by decide +kernel
theorem dX1_roundedSize_55 : decode cX1_roundedSize 55 = .ok (.lload_n 2, 1) := by decide +kernel
theorem dX1_roundedSize_56 : decode cX1_roundedSize 56 = .ok (.lreturn, 1) := by decide +kernel
set_option maxRecDepth 20000 in
theorem ggX1_highestBit_J13_numberOfLeadingZeros_95d88 : GoodIn wsX1_highestBit wsJ13_numberOfLeadingZeros_95d88 := goodIn_r _ [5, 6, 7, 8, 9, 10] (by decide +kernel) (by decide +kernel)
set_option maxRecDepth 20000 in
theorem gX1_highestBit_J13_numberOfLeadingZeros_95d88 : GoodIn wsX1_highestBit (va_wsS RX1 64 yJ13_numberOfLeadingZeros_95d88 wsJ13_numberOfLeadingZeros_95d88) := goodIn_app (goodIn_of _ (by decide +kernel)) ggX1_highestBit_J13_numberOfLeadingZeros_95d88
theorem dX1_highestBit_0 : decode cX1_highestBit 0 = .ok (.bipush 66, 2) := by decide +kernel
theorem dX1_highestBit_2 : decode cX1_highestBit 2 = .ok (.istore_n 1, 1) := by decide +kernel
theorem dX1_highestBit_3 : decode cX1_highestBit 3 = .ok (.iload_n 1, 1) := by decide +kernel
theorem dX1_highestBit_4 : decode cX1_highestBit 4 = .ok (.ifCond .lt 38, 3) := by decide +kernel
theorem dX1_highestBit_7 : decode cX1_highestBit 7 = .ok (.aload_n 0, 1) := by decide +kernel
theorem dX1_highestBit_8 : decode cX1_highestBit 8 = .ok (.getfield 11, 3) := by decide +kernel
theorem dX1_highestBit_11 : decode cX1_highestBit 11 = .ok (.iload_n 1, 1) := by decide +kernel
theorem dX1_highestBit_12 : decode cX1_highestBit 12 = .ok (.laload, 1) := by decide +kernel
theorem dX1_highestBit_13 : decode cX1_highestBit 13 = .ok (.lconst 0, 1) := by decide +kernel
theorem dX1_highestBit_14 : decode cX1_highestBit 14 = .ok (.lcmp, 1) := by decide +kernel
theorem dX1_highestBit_15 : decode cX1_highestBit 15 = .ok (.ifCond .eq 21, 3) := by decide +kernel
theorem dX1_highestBit_18 : decode cX1_highestBit 18 = .ok (.iload_n 1, 1) := by decide +kernel
theorem dX1_highestBit_19 : decode cX1_highestBit 19 = .ok (.bipush 32, 2) := by decide +kernel
theorem dX1_highestBit_21 : decode cX1_highestBit 21 = .ok (.imul, 1) := by decide +kernel
theorem dX1_highestBit_22 : decode cX1_highestBit 22 = .ok (.bipush 63, 2) := by decide +kernel
theorem dX1_highestBit_24 : decode cX1_highestBit 24 = .ok (.iadd, 1) := by decide +kernel
theorem dX1_highestBit_25 : decode cX1_highestBit 25 = .ok (.aload_n 0, 1) := by decide +kernel
theorem dX1_highestBit_26 : decode cX1_highestBit 26 = .ok (.getfield 11, 3) := by decide +kernel
theorem dX1_highestBit_29 : decode cX1_highestBit 29 = .ok (.iload_n 1, 1) := by decide +kernel
theorem dX1_highestBit_30 : decode cX1_highestBit 30 = .ok (.laload, 1) := by decide +kernel
theorem dX1_highestBit_31 : decode cX1_highestBit 31 = .ok (.invokestatic 64, 3) := by decide +kernel
theorem dX1_highestBit_34 : decode cX1_highestBit 34 = .ok (.isub, 1) := by decide +kernel
theorem dX1_highestBit_35 : decode cX1_highestBit 35 = .ok (.ireturn, 1) := by decide +kernel
theorem dX1_highestBit_36 : decode cX1_highestBit 36 = .ok (.iinc 1 (-1), 3) := by decide +kernel
theorem dX1_highestBit_39 : decode cX1_highestBit 39 = .ok (.goto (-36), 3) := by decide +kernel
theorem dX1_highestBit_42 : decode cX1_highestBit 42 = .ok (.iconst (-1), 1) := by decide +kernel
theorem dX1_highestBit_43 : decode cX1_highestBit 43 = .ok (.ireturn, 1) := by decide +kernel
set_option maxRecDepth 20000 in
theorem ggX1_digitsFrom_X1_limbAt : GoodIn wsX1_digitsFrom wsX1_limbAt := goodIn_r _ [6, 7, 8] (by decide +kernel) (by decide +kernel)
set_option maxRecDepth 20000 in
theorem gX1_digitsFrom_X1_limbAt : GoodIn wsX1_digitsFrom (wsV RX1 68 RX1 yX1_limbAt wsX1_limbAt) := goodIn_app (goodIn_of _ (by decide +kernel)) ggX1_digitsFrom_X1_limbAt
theorem dX1_digitsFrom_0 : decode cX1_digitsFrom 0 = .ok (.iload_n 1, 1) := by decide +kernel
theorem dX1_digitsFrom_1 : decode cX1_digitsFrom 1 = .ok (.iconst 5, 1) := by decide +kernel
theorem dX1_digitsFrom_2 : decode cX1_digitsFrom 2 = .ok (.ishr, 1) := by decide +kernel
theorem dX1_digitsFrom_3 : decode cX1_digitsFrom 3 = .ok (.istore_n 2, 1) := by decide +kernel
theorem dX1_digitsFrom_4 : decode cX1_digitsFrom 4 = .ok (.iload_n 1, 1) := by decide +kernel
theorem dX1_digitsFrom_5 : decode cX1_digitsFrom 5 = .ok (.bipush 31, 2) := by decide +kernel
theorem dX1_digitsFrom_7 : decode cX1_digitsFrom 7 = .ok (.iand, 1) := by decide +kernel
theorem dX1_digitsFrom_8 : decode cX1_digitsFrom 8 = .ok (.istore_n 3, 1) := by decide +kernel
theorem dX1_digitsFrom_9 : decode cX1_digitsFrom 9 = .ok (.aload_n 0, 1) := by decide +kernel
theorem dX1_digitsFrom_10 : decode cX1_digitsFrom 10 = .ok (.iload_n 2, 1) := by decide +kernel
theorem dX1_digitsFrom_11 : decode cX1_digitsFrom 11 = .ok (.invokevirtual 68, 3) := by decide +kernel
theorem dX1_digitsFrom_14 : decode cX1_digitsFrom 14 = .ok (.aload_n 0, 1) := by decide +kernel
theorem dX1_digitsFrom_15 : decode cX1_digitsFrom 15 = .ok (.iload_n 2, 1) := by decide +kernel
theorem dX1_digitsFrom_16 : decode cX1_digitsFrom 16 = .ok (.iconst 1, 1) := by decide +kernel
theorem dX1_digitsFrom_17 : decode cX1_digitsFrom 17 = .ok (.iadd, 1) := by decide +kernel
theorem dX1_digitsFrom_18 : decode cX1_digitsFrom 18 = .ok (.invokevirtual 68, 3) := by decide +kernel
theorem dX1_digitsFrom_21 : decode cX1_digitsFrom 21 = .ok (.bipush 32, 2) := by decide +kernel
theorem dX1_digitsFrom_23 : decode cX1_digitsFrom 23 = .ok (.lshl, 1) := by decide +kernel
theorem dX1_digitsFrom_24 : decode cX1_digitsFrom 24 = .ok (.lor, 1) := by decide +kernel
theorem dX1_digitsFrom_25 : decode cX1_digitsFrom 25 = .ok (.lstore 4, 2) := by decide +kernel
theorem dX1_digitsFrom_27 : decode cX1_digitsFrom 27 = .ok (.aload_n 0, 1) := by decide +kernel
theorem dX1_digitsFrom_28 : decode cX1_digitsFrom 28 = .ok (.iload_n 2, 1) := by decide +kernel
theorem dX1_digitsFrom_29 : decode cX1_digitsFrom 29 = .ok (.iconst 2, 1) := by decide +kernel
theorem dX1_digitsFrom_30 : decode cX1_digitsFrom 30 = .ok (.iadd, 1) := by decide +kernel
theorem dX1_digitsFrom_31 : decode cX1_digitsFrom 31 = .ok (.invokevirtual 68, 3) := by decide +kernel
theorem dX1_digitsFrom_34 : decode cX1_digitsFrom 34 = .ok (.lstore 6, 2) := by decide +kernel
theorem dX1_digitsFrom_36 : decode cX1_digitsFrom 36 = .ok (.lload 4, 2) := by decide +kernel
theorem dX1_digitsFrom_38 : decode cX1_digitsFrom 38 = .ok (.iload_n 3, 1) := by decide +kernel
theorem dX1_digitsFrom_39 : decode cX1_digitsFrom 39 = .ok (.lushr, 1) := by decide +kernel
theorem dX1_digitsFrom_40 : decode cX1_digitsFrom 40 = .ok (.lload 6, 2) := by decide +kernel
theorem dX1_digitsFrom_42 : decode cX1_digitsFrom 42 = .ok (.bipush 32, 2) := by decide +kernel
theorem dX1_digitsFrom_44 : decode cX1_digitsFrom 44 = .ok (.iload_n 3, 1) := by decide +kernel
theorem dX1_digitsFrom_45 : decode cX1_digitsFrom 45 = .ok (.isub, 1) := by decide +kernel
theorem dX1_digitsFrom_46 : decode cX1_digitsFrom 46 = .ok (.lshl, 1) := by decide +kernel
theorem dX1_digitsFrom_47 : decode cX1_digitsFrom 47 = .ok (.bipush 32, 2) := by decide +kernel
theorem dX1_digitsFrom_49 : decode cX1_digitsFrom 49 = .ok (.lshl, 1) := by decide +kernel
theorem dX1_digitsFrom_50 : decode cX1_digitsFrom 50 = .ok (.lor, 1) := by decide +kernel
theorem dX1_digitsFrom_51 : decode cX1_digitsFrom 51 = .ok (.lstore 8, 2) := by decide +kernel
theorem dX1_digitsFrom_53 : decode cX1_digitsFrom 53 = .ok (.lload 8, 2) := by decide +kernel
theorem dX1_digitsFrom_55 : decode cX1_digitsFrom 55 = .ok (.ldc2_w 71, 3) := by decide +kernel
theorem dX1_digitsFrom_58 : decode cX1_digitsFrom 58 = .ok (.land, 1) := by decide +kernel
theorem dX1_digitsFrom_59 : decode cX1_digitsFrom 59 = .ok (.lreturn, 1) := by decide +kernel
set_option maxRecDepth 20000 in
theorem ggX1_roundsUp_X1_isSet : GoodIn wsX1_roundsUp wsX1_isSet := goodIn_r _ [5, 6, 7, 8, 4, 9, 10, 15] (by decide +kernel) (by decide +kernel)
set_option maxRecDepth 20000 in
theorem gX1_roundsUp_X1_isSet : GoodIn wsX1_roundsUp (wsV RX1 73 RX1 yX1_isSet wsX1_isSet) := goodIn_app (goodIn_of _ (by decide +kernel)) ggX1_roundsUp_X1_isSet
set_option maxRecDepth 20000 in
theorem ggX1_roundsUp_X1_isAnySetBelow : GoodIn wsX1_roundsUp wsX1_isAnySetBelow := goodIn_r _ [14, 6, 7, 8, 4, 9, 10, 15] (by decide +kernel) (by decide +kernel)
set_option maxRecDepth 20000 in
theorem gX1_roundsUp_X1_isAnySetBelow : GoodIn wsX1_roundsUp (wsV RX1 76 RX1 yX1_isAnySetBelow wsX1_isAnySetBelow) := goodIn_app (goodIn_of _ (by decide +kernel)) ggX1_roundsUp_X1_isAnySetBelow
theorem dX1_roundsUp_0 : decode cX1_roundsUp 0 = .ok (.aload_n 0, 1) := by decide +kernel
theorem dX1_roundsUp_1 : decode cX1_roundsUp 1 = .ok (.iload_n 1, 1) := by decide +kernel
theorem dX1_roundsUp_2 : decode cX1_roundsUp 2 = .ok (.iconst 1, 1) := by decide +kernel
theorem dX1_roundsUp_3 : decode cX1_roundsUp 3 = .ok (.isub, 1) := by decide +kernel
theorem dX1_roundsUp_4 : decode cX1_roundsUp 4 = .ok (.invokevirtual 73, 3) := by decide +kernel
theorem dX1_roundsUp_7 : decode cX1_roundsUp 7 = .ok (.ifCond .ne 5, 3) := by decide +kernel
theorem dX1_roundsUp_10 : decode cX1_roundsUp 10 = .ok (.iconst 0, 1) := by decide +kernel
theorem dX1_roundsUp_11 : decode cX1_roundsUp 11 = .ok (.ireturn, 1) := by decide +kernel
theorem dX1_roundsUp_12 : decode cX1_roundsUp 12 = .ok (.aload_n 0, 1) := by decide +kernel
theorem dX1_roundsUp_13 : decode cX1_roundsUp 13 = .ok (.iload_n 1, 1) := by decide +kernel
theorem dX1_roundsUp_14 : decode cX1_roundsUp 14 = .ok (.invokevirtual 73, 3) := by decide +kernel
theorem dX1_roundsUp_17 : decode cX1_roundsUp 17 = .ok (.ifCond .ne 13, 3) := by decide +kernel
theorem dX1_roundsUp_20 : decode cX1_roundsUp 20 = .ok (.aload_n 0, 1) := by decide +kernel
theorem dX1_roundsUp_21 : decode cX1_roundsUp 21 = .ok (.iload_n 1, 1) := by decide +kernel
theorem dX1_roundsUp_22 : decode cX1_roundsUp 22 = .ok (.iconst 1, 1) := by decide +kernel
theorem dX1_roundsUp_23 : decode cX1_roundsUp 23 = .ok (.isub, 1) := by decide +kernel
theorem dX1_roundsUp_24 : decode cX1_roundsUp 24 = .ok (.invokevirtual 76, 3) := by decide +kernel
theorem dX1_roundsUp_27 : decode cX1_roundsUp 27 = .ok (.ifCond .eq 7, 3) := by decide +kernel
theorem dX1_roundsUp_30 : decode cX1_roundsUp 30 = .ok (.iconst 1, 1) := by decide +kernel
theorem dX1_roundsUp_31 : decode cX1_roundsUp 31 = .ok (.goto 4, 3) := by decide +kernel
theorem dX1_roundsUp_34 : decode cX1_roundsUp 34 = .ok (.iconst 0, 1) := by decide +kernel
theorem dX1_roundsUp_35 : decode cX1_roundsUp 35 = .ok (.ireturn, 1) := by decide +kernel
set_option maxRecDepth 20000 in
theorem ggX1_isSet_X1_limbAt : GoodIn wsX1_isSet wsX1_limbAt := goodIn_r _ [5, 6, 7] (by decide +kernel) (by decide +kernel)
set_option maxRecDepth 20000 in
theorem gX1_isSet_X1_limbAt : GoodIn wsX1_isSet (wsV RX1 68 RX1 yX1_limbAt wsX1_limbAt) := goodIn_app (goodIn_of _ (by decide +kernel)) ggX1_isSet_X1_limbAt
theorem dX1_isSet_0 : decode cX1_isSet 0 = .ok (.aload_n 0, 1) := by decide +kernel
theorem dX1_isSet_1 : decode cX1_isSet 1 = .ok (.iload_n 1, 1) := by decide +kernel
theorem dX1_isSet_2 : decode cX1_isSet 2 = .ok (.iconst 5, 1) := by decide +kernel
theorem dX1_isSet_3 : decode cX1_isSet 3 = .ok (.ishr, 1) := by decide +kernel
theorem dX1_isSet_4 : decode cX1_isSet 4 = .ok (.invokevirtual 68, 3) := by decide +kernel
theorem dX1_isSet_7 : decode cX1_isSet 7 = .ok (.iload_n 1, 1) := by decide +kernel
theorem dX1_isSet_8 : decode cX1_isSet 8 = .ok (.bipush 31, 2) := by decide +kernel
theorem dX1_isSet_10 : decode cX1_isSet 10 = .ok (.iand, 1) := by decide +kernel
theorem dX1_isSet_11 : decode cX1_isSet 11 = .ok (.lushr, 1) := by decide +kernel
theorem dX1_isSet_12 : decode cX1_isSet 12 = .ok (.lconst 1, 1) := by decide +kernel
theorem dX1_isSet_13 : decode cX1_isSet 13 = .ok (.land, 1) := by decide +kernel
theorem dX1_isSet_14 : decode cX1_isSet 14 = .ok (.lconst 0, 1) := by decide +kernel
theorem dX1_isSet_15 : decode cX1_isSet 15 = .ok (.lcmp, 1) := by decide +kernel
theorem dX1_isSet_16 : decode cX1_isSet 16 = .ok (.ifCond .eq 7, 3) := by decide +kernel
theorem dX1_isSet_19 : decode cX1_isSet 19 = .ok (.iconst 1, 1) := by decide +kernel
theorem dX1_isSet_20 : decode cX1_isSet 20 = .ok (.goto 4, 3) := by decide +kernel
theorem dX1_isSet_23 : decode cX1_isSet 23 = .ok (.iconst 0, 1) := by decide +kernel
theorem dX1_isSet_24 : decode cX1_isSet 24 = .ok (.ireturn, 1) := by decide +kernel
set_option maxRecDepth 20000 in
theorem ggX1_isAnySetBelow_X1_limbAt : GoodIn wsX1_isAnySetBelow wsX1_limbAt := goodIn_r _ [5, 6, 7] (by decide +kernel) (by decide +kernel)
set_option maxRecDepth 20000 in
theorem gX1_isAnySetBelow_X1_limbAt : GoodIn wsX1_isAnySetBelow (wsV RX1 68 RX1 yX1_limbAt wsX1_limbAt) := goodIn_app (goodIn_of _ (by decide +kernel)) ggX1_isAnySetBelow_X1_limbAt
