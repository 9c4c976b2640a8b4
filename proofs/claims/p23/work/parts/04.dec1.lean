theorem dX0_init_0 : decode cX0_init 0 = .ok (.aload_n 0, 1) := by decide +kernel
theorem dX0_init_1 : decode cX0_init 1 = .ok (.invokespecial 3, 3) := by decide +kernel
theorem dX0_init_4 : decode cX0_init 4 = .ok (.aload_n 0, 1) := by decide +kernel
theorem dX0_init_5 : decode cX0_init 5 = .ok (.bipush 30, 2) := by decide +kernel
theorem dX0_init_7 : decode cX0_init 7 = .ok (.putfield 9, 3) := by decide +kernel
theorem dX0_init_10 : decode cX0_init 10 = .ok (.aload_n 0, 1) := by decide +kernel
theorem dX0_init_11 : decode cX0_init 11 = .ok (.bipush 12, 2) := by decide +kernel
theorem dX0_init_13 : decode cX0_init 13 = .ok (.putfield 15, 3) := by decide +kernel
theorem dX0_init_16 : decode cX0_init 16 = .ok (.aload_n 0, 1) := by decide +kernel
theorem dX0_init_17 : decode cX0_init 17 = .ok (.iconst 1, 1) := by decide +kernel
theorem dX0_init_18 : decode cX0_init 18 = .ok (.putfield 18, 3) := by decide +kernel
theorem dX0_init_21 : decode cX0_init 21 = .ok (.aload_n 0, 1) := by decide +kernel
theorem dX0_init_22 : decode cX0_init 22 = .ok (.iconst 0, 1) := by decide +kernel
theorem dX0_init_23 : decode cX0_init 23 = .ok (.putfield 22, 3) := by decide +kernel
theorem dX0_init_26 : decode cX0_init 26 = .ok (.return_, 1) := by decide +kernel
theorem dX0_change_0 : decode cX0_change 0 = .ok (.aload_n 0, 1) := by decide +kernel
theorem dX0_change_1 : decode cX0_change 1 = .ok (.iload_n 1, 1) := by decide +kernel
theorem dX0_change_2 : decode cX0_change 2 = .ok (.putfield 9, 3) := by decide +kernel
theorem dX0_change_5 : decode cX0_change 5 = .ok (.aload_n 0, 1) := by decide +kernel
theorem dX0_change_6 : decode cX0_change 6 = .ok (.iload_n 2, 1) := by decide +kernel
theorem dX0_change_7 : decode cX0_change 7 = .ok (.putfield 15, 3) := by decide +kernel
theorem dX0_change_10 : decode cX0_change 10 = .ok (.aload_n 0, 1) := by decide +kernel
theorem dX0_change_11 : decode cX0_change 11 = .ok (.iload_n 3, 1) := by decide +kernel
theorem dX0_change_12 : decode cX0_change 12 = .ok (.putfield 18, 3) := by decide +kernel
theorem dX0_change_15 : decode cX0_change 15 = .ok (.aload_n 0, 1) := by decide +kernel
theorem dX0_change_16 : decode cX0_change 16 = .ok (.iload 4, 2) := by decide +kernel
theorem dX0_change_18 : decode cX0_change 18 = .ok (.putfield 22, 3) := by decide +kernel
theorem dX0_change_21 : decode cX0_change 21 = .ok (.return_, 1) := by decide +kernel
set_option maxRecDepth 20000 in
theorem ggX0_dayBehind_X0_isInSkippedMonth : GoodIn wsX0_dayBehind wsX0_isInSkippedMonth := goodIn_r _ [10, 11, 12, 13, 14, 15] (by decide +kernel) (by decide +kernel)
set_option maxRecDepth 20000 in
theorem gX0_dayBehind_X0_isInSkippedMonth : GoodIn wsX0_dayBehind (wsV RX0 31 RX0 yX0_isInSkippedMonth wsX0_isInSkippedMonth) := goodIn_app (goodIn_of _ (by decide +kernel)) ggX0_dayBehind_X0_isInSkippedMonth
theorem dX0_dayBehind_0 : decode cX0_dayBehind 0 = .ok (.iload_n 1, 1) := by decide +kernel
theorem dX0_dayBehind_1 : decode cX0_dayBehind 1 = .ok (.aload_n 0, 1) := by decide +kernel
theorem dX0_dayBehind_2 : decode cX0_dayBehind 2 = .ok (.getfield 9, 3) := by decide +kernel
theorem dX0_dayBehind_5 : decode cX0_dayBehind 5 = .ok (.iadd, 1) := by decide +kernel
theorem dX0_dayBehind_6 : decode cX0_dayBehind 6 = .ok (.iload_n 2, 1) := by decide +kernel
theorem dX0_dayBehind_7 : decode cX0_dayBehind 7 = .ok (.iadd, 1) := by decide +kernel
theorem dX0_dayBehind_8 : decode cX0_dayBehind 8 = .ok (.iload_n 1, 1) := by decide +kernel
theorem dX0_dayBehind_9 : decode cX0_dayBehind 9 = .ok (.iconst 1, 1) := by decide +kernel
theorem dX0_dayBehind_10 : decode cX0_dayBehind 10 = .ok (.iadd, 1) := by decide +kernel
theorem dX0_dayBehind_11 : decode cX0_dayBehind 11 = .ok (.invokestatic 25, 3) := by decide +kernel
theorem dX0_dayBehind_14 : decode cX0_dayBehind 14 = .ok (.istore_n 3, 1) := by decide +kernel
theorem dX0_dayBehind_15 : decode cX0_dayBehind 15 = .ok (.iconst 0, 1) := by decide +kernel
theorem dX0_dayBehind_16 : decode cX0_dayBehind 16 = .ok (.istore 4, 2) := by decide +kernel
theorem dX0_dayBehind_18 : decode cX0_dayBehind 18 = .ok (.iload 4, 2) := by decide +kernel
theorem dX0_dayBehind_20 : decode cX0_dayBehind 20 = .ok (.bipush 12, 2) := by decide +kernel
theorem dX0_dayBehind_22 : decode cX0_dayBehind 22 = .ok (.if_icmp .ge 27, 3) := by decide +kernel
theorem dX0_dayBehind_25 : decode cX0_dayBehind 25 = .ok (.aload_n 0, 1) := by decide +kernel
theorem dX0_dayBehind_26 : decode cX0_dayBehind 26 = .ok (.iload_n 3, 1) := by decide +kernel
theorem dX0_dayBehind_27 : decode cX0_dayBehind 27 = .ok (.invokevirtual 31, 3) := by decide +kernel
theorem dX0_dayBehind_30 : decode cX0_dayBehind 30 = .ok (.ifCond .eq 19, 3) := by decide +kernel
theorem dX0_dayBehind_33 : decode cX0_dayBehind 33 = .ok (.iload_n 3, 1) := by decide +kernel
theorem dX0_dayBehind_34 : decode cX0_dayBehind 34 = .ok (.bipush 30, 2) := by decide +kernel
theorem dX0_dayBehind_36 : decode cX0_dayBehind 36 = .ok (.idiv, 1) := by decide +kernel
theorem dX0_dayBehind_37 : decode cX0_dayBehind 37 = .ok (.iconst 1, 1) := by decide +kernel
theorem dX0_dayBehind_38 : decode cX0_dayBehind 38 = .ok (.iadd, 1) := by decide +kernel
theorem dX0_dayBehind_39 : decode cX0_dayBehind 39 = .ok (.bipush 30, 2) := by decide +kernel
theorem dX0_dayBehind_41 : decode cX0_dayBehind 41 = .ok (.imul, 1) := by decide +kernel
theorem dX0_dayBehind_42 : decode cX0_dayBehind 42 = .ok (.istore_n 3, 1) := by decide +kernel
theorem dX0_dayBehind_43 : decode cX0_dayBehind 43 = .ok (.iinc 4 1, 3) := by decide +kernel
theorem dX0_dayBehind_46 : decode cX0_dayBehind 46 = .ok (.goto (-28), 3) := by decide +kernel
theorem dX0_dayBehind_49 : decode cX0_dayBehind 49 = .ok (.iload_n 3, 1) := by decide +kernel
theorem dX0_dayBehind_50 : decode cX0_dayBehind 50 = .ok (.ireturn, 1) := by decide +kernel
theorem dX0_volumeOf_0 : decode cX0_volumeOf 0 = .ok (.aload_n 0, 1) := by decide +kernel
theorem dX0_volumeOf_1 : decode cX0_volumeOf 1 = .ok (.getfield 15, 3) := by decide +kernel
theorem dX0_volumeOf_4 : decode cX0_volumeOf 4 = .ok (.iconst 1, 1) := by decide +kernel
theorem dX0_volumeOf_5 : decode cX0_volumeOf 5 = .ok (.if_icmp .ge 7, 3) := by decide +kernel
theorem dX0_volumeOf_8 : decode cX0_volumeOf 8 = .ok (.iconst (-1), 1) := by decide +kernel
theorem dX0_volumeOf_9 : decode cX0_volumeOf 9 = .ok (.goto 11, 3) := by decide +kernel
theorem dX0_volumeOf_12 : decode cX0_volumeOf 12 = .ok (.iload_n 1, 1) := by decide +kernel
theorem dX0_volumeOf_13 : decode cX0_volumeOf 13 = .ok (.aload_n 0, 1) := by decide +kernel
theorem dX0_volumeOf_14 : decode cX0_volumeOf 14 = .ok (.getfield 15, 3) := by decide +kernel
theorem dX0_volumeOf_17 : decode cX0_volumeOf 17 = .ok (.idiv, 1) := by decide +kernel
theorem dX0_volumeOf_18 : decode cX0_volumeOf 18 = .ok (.iconst 1, 1) := by decide +kernel
theorem dX0_volumeOf_19 : decode cX0_volumeOf 19 = .ok (.iadd, 1) := by decide +kernel
theorem dX0_volumeOf_20 : decode cX0_volumeOf 20 = .ok (.ireturn, 1) := by decide +kernel
theorem dX0_numberOf_0 : decode cX0_numberOf 0 = .ok (.aload_n 0, 1) := by decide +kernel
theorem dX0_numberOf_1 : decode cX0_numberOf 1 = .ok (.getfield 18, 3) := by decide +kernel
theorem dX0_numberOf_4 : decode cX0_numberOf 4 = .ok (.ifCond .ne 7, 3) := by decide +kernel
theorem dX0_numberOf_7 : decode cX0_numberOf 7 = .ok (.iload_n 1, 1) := by decide +kernel
theorem dX0_numberOf_8 : decode cX0_numberOf 8 = .ok (.iconst 1, 1) := by decide +kernel
theorem dX0_numberOf_9 : decode cX0_numberOf 9 = .ok (.iadd, 1) := by decide +kernel
theorem dX0_numberOf_10 : decode cX0_numberOf 10 = .ok (.ireturn, 1) := by decide +kernel
theorem dX0_numberOf_11 : decode cX0_numberOf 11 = .ok (.aload_n 0, 1) := by decide +kernel
theorem dX0_numberOf_12 : decode cX0_numberOf 12 = .ok (.getfield 15, 3) := by decide +kernel
theorem dX0_numberOf_15 : decode cX0_numberOf 15 = .ok (.iconst 1, 1) := by decide +kernel
theorem dX0_numberOf_16 : decode cX0_numberOf 16 = .ok (.if_icmp .ge 7, 3) := by decide +kernel
theorem dX0_numberOf_19 : decode cX0_numberOf 19 = .ok (.iconst (-1), 1) := by decide +kernel
theorem dX0_numberOf_20 : decode cX0_numberOf 20 = .ok (.goto 11, 3) := by decide +kernel
theorem dX0_numberOf_23 : decode cX0_numberOf 23 = .ok (.iload_n 1, 1) := by decide +kernel
theorem dX0_numberOf_24 : decode cX0_numberOf 24 = .ok (.aload_n 0, 1) := by decide +kernel
theorem dX0_numberOf_25 : decode cX0_numberOf 25 = .ok (.getfield 15, 3) := by decide +kernel
theorem dX0_numberOf_28 : decode cX0_numberOf 28 = .ok (.irem, 1) := by decide +kernel
theorem dX0_numberOf_29 : decode cX0_numberOf 29 = .ok (.iconst 1, 1) := by decide +kernel
theorem dX0_numberOf_30 : decode cX0_numberOf 30 = .ok (.iadd, 1) := by decide +kernel
theorem dX0_numberOf_31 : decode cX0_numberOf 31 = .ok (.ireturn, 1) := by decide +kernel
theorem dX0_isInSkippedMonth_0 : decode cX0_isInSkippedMonth 0 = .ok (.iload_n 1, 1) := by decide +kernel
theorem dX0_isInSkippedMonth_1 : decode cX0_isInSkippedMonth 1 = .ok (.bipush 30, 2) := by decide +kernel
theorem dX0_isInSkippedMonth_3 : decode cX0_isInSkippedMonth 3 = .ok (.idiv, 1) := by decide +kernel
theorem dX0_isInSkippedMonth_4 : decode cX0_isInSkippedMonth 4 = .ok (.bipush 12, 2) := by decide +kernel
theorem dX0_isInSkippedMonth_6 : decode cX0_isInSkippedMonth 6 = .ok (.irem, 1) := by decide +kernel
theorem dX0_isInSkippedMonth_7 : decode cX0_isInSkippedMonth 7 = .ok (.istore_n 2, 1) := by decide +kernel
theorem dX0_isInSkippedMonth_8 : decode cX0_isInSkippedMonth 8 = .ok (.aload_n 0, 1) := by decide +kernel
theorem dX0_isInSkippedMonth_9 : decode cX0_isInSkippedMonth 9 = .ok (.getfield 22, 3) := by decide +kernel
theorem dX0_isInSkippedMonth_12 : decode cX0_isInSkippedMonth 12 = .ok (.iload_n 2, 1) := by decide +kernel
theorem dX0_isInSkippedMonth_13 : decode cX0_isInSkippedMonth 13 = .ok (.ishr, 1) := by decide +kernel
theorem dX0_isInSkippedMonth_14 : decode cX0_isInSkippedMonth 14 = .ok (.iconst 1, 1) := by decide +kernel
theorem dX0_isInSkippedMonth_15 : decode cX0_isInSkippedMonth 15 = .ok (.iand, 1) := by decide +kernel
theorem dX0_isInSkippedMonth_16 : decode cX0_isInSkippedMonth 16 = .ok (.ifCond .eq 7, 3) := by decide +kernel
theorem dX0_isInSkippedMonth_19 : decode cX0_isInSkippedMonth 19 = .ok (.iconst 1, 1) := by decide +kernel
theorem dX0_isInSkippedMonth_20 : decode cX0_isInSkippedMonth 20 = .ok (.goto 4, 3) := by decide +kernel
theorem dX0_isInSkippedMonth_23 : decode cX0_isInSkippedMonth 23 = .ok (.iconst 0, 1) := by decide +kernel
theorem dX0_isInSkippedMonth_24 : decode cX0_isInSkippedMonth 24 = .ok (.ireturn, 1) := by decide +kernel
set_option maxRecDepth 20000 in
theorem ggX1_init_X0_init : GoodIn wsX1_init wsX0_init := goodIn_r _ [21, 22, 2, 3, 23, 24, 25, 26, 27, 28, 29, 30] (by decide +kernel) (by decide +kernel)
set_option maxRecDepth 20000 in
theorem gX1_init_X0_init : GoodIn wsX1_init (wsX0_init) := ggX1_init_X0_init
theorem dX1_init_0 : decode cX1_init 0 = .ok (.aload_n 0, 1) := by decide +kernel
theorem dX1_init_1 : decode cX1_init 1 = .ok (.invokespecial 1, 3) := by decide +kernel
theorem dX1_init_4 : decode cX1_init 4 = .ok (.aload_n 0, 1) := by decide +kernel
theorem dX1_init_5 : decode cX1_init 5 = .ok (.new 7, 3) := by decide +kernel
theorem dX1_init_8 : decode cX1_init 8 = .ok (.dup, 1) := by decide +kernel
theorem dX1_init_9 : decode cX1_init 9 = .ok (.invokespecial 9, 3) := by decide +kernel
theorem dX1_init_12 : decode cX1_init 12 = .ok (.putfield 10, 3) := by decide +kernel
theorem dX1_init_15 : decode cX1_init 15 = .ok (.aload_n 0, 1) := by decide +kernel
theorem dX1_init_16 : decode cX1_init 16 = .ok (.bipush 7, 2) := by decide +kernel
theorem dX1_init_18 : decode cX1_init 18 = .ok (.putfield 16, 3) := by decide +kernel
theorem dX1_init_21 : decode cX1_init 21 = .ok (.aload_n 0, 1) := by decide +kernel
theorem dX1_init_22 : decode cX1_init 22 = .ok (.bipush 30, 2) := by decide +kernel
theorem dX1_init_24 : decode cX1_init 24 = .ok (.putfield 20, 3) := by decide +kernel
theorem dX1_init_27 : decode cX1_init 27 = .ok (.aload_n 0, 1) := by decide +kernel
theorem dX1_init_28 : decode cX1_init 28 = .ok (.sipush 200, 3) := by decide +kernel
theorem dX1_init_31 : decode cX1_init 31 = .ok (.newarray .int, 2) := by decide +kernel
theorem dX1_init_33 : decode cX1_init 33 = .ok (.putfield 23, 3) := by decide +kernel
theorem dX1_init_36 : decode cX1_init 36 = .ok (.aload_n 0, 1) := by decide +kernel
theorem dX1_init_37 : decode cX1_init 37 = .ok (.sipush 200, 3) := by decide +kernel
theorem dX1_init_40 : decode cX1_init 40 = .ok (.newarray .int, 2) := by decide +kernel
theorem dX1_init_42 : decode cX1_init 42 = .ok (.putfield 27, 3) := by decide +kernel
theorem dX1_init_45 : decode cX1_init 45 = .ok (.aload_n 0, 1) := by decide +kernel
theorem dX1_init_46 : decode cX1_init 46 = .ok (.sipush 200, 3) := by decide +kernel
theorem dX1_init_49 : decode cX1_init 49 = .ok (.newarray .int, 2) := by decide +kernel
theorem dX1_init_51 : decode cX1_init 51 = .ok (.putfield 30, 3) := by decide +kernel
theorem dX1_init_54 : decode cX1_init 54 = .ok (.aload_n 0, 1) := by decide +kernel
theorem dX1_init_55 : decode cX1_init 55 = .ok (.sipush 200, 3) := by decide +kernel
theorem dX1_init_58 : decode cX1_init 58 = .ok (.newarray .int, 2) := by decide +kernel
theorem dX1_init_60 : decode cX1_init 60 = .ok (.putfield 33, 3) := by decide +kernel
theorem dX1_init_63 : decode cX1_init 63 = .ok (.aload_n 0, 1) := by decide +kernel
theorem dX1_init_64 : decode cX1_init 64 = .ok (.sipush 200, 3) := by decide +kernel
theorem dX1_init_67 : decode cX1_init 67 = .ok (.newarray .boolean, 2) := by decide +kernel
theorem dX1_init_69 : decode cX1_init 69 = .ok (.putfield 36, 3) := by decide +kernel
theorem dX1_init_72 : decode cX1_init 72 = .ok (.aload_n 0, 1) := by decide +kernel
theorem dX1_init_73 : decode cX1_init 73 = .ok (.iconst 1, 1) := by decide +kernel
theorem dX1_init_74 : decode cX1_init 74 = .ok (.putfield 40, 3) := by decide +kernel
theorem dX1_init_77 : decode cX1_init 77 = .ok (.aload_n 0, 1) := by decide +kernel
theorem dX1_init_78 : decode cX1_init 78 = .ok (.iconst (-1), 1) := by decide +kernel
theorem dX1_init_79 : decode cX1_init 79 = .ok (.putfield 43, 3) := by decide +kernel
theorem dX1_init_82 : decode cX1_init 82 = .ok (.return_, 1) := by decide +kernel
set_option maxRecDepth 20000 in
theorem ggX1_setPattern_X1_isWithin : GoodIn wsX1_setPattern wsX1_isWithin := goodIn_r _ [7] (by decide +kernel) (by decide +kernel)
set_option maxRecDepth 20000 in
theorem gX1_setPattern_X1_isWithin : GoodIn wsX1_setPattern (va_wsS RX1 46 yX1_isWithin wsX1_isWithin) := goodIn_app (goodIn_of _ (by decide +kernel)) ggX1_setPattern_X1_isWithin
set_option maxRecDepth 20000 in
theorem ggX1_setPattern_X0_change : GoodIn wsX1_setPattern wsX0_change := goodIn_r _ [12, 13, 14, 15, 16, 63, 64, 65, 66] (by decide +kernel) (by decide +kernel)
set_option maxRecDepth 20000 in
theorem gX1_setPattern_X0_change : GoodIn wsX1_setPattern (wsV RX1 61 RX0 yX0_change wsX0_change) := goodIn_app (goodIn_of _ (by decide +kernel)) ggX1_setPattern_X0_change
set_option maxRecDepth 20000 in
theorem ggX1_setPattern_X1_foretellDueIssues : GoodIn wsX1_setPattern wsX1_foretellDueIssues := goodIn_r _ [20, 21, 22, 23, 24, 25, 6, 26, 3, 27, 28, 29, 30, 31, 32, 33, 34, 11, 35, 13, 36, 37, 38, 39, 40, 41, 42, 43, 16, 44, 45, 46, 47, 48, 49, 50, 51, 52, 53, 54, 55, 56, 57, 58, 59, 60, 61, 62, 63, 64, 65, 66] (by decide +kernel) (by decide +kernel)
set_option maxRecDepth 20000 in
theorem gX1_setPattern_X1_foretellDueIssues : GoodIn wsX1_setPattern (wsV RX1 65 RX1 yX1_foretellDueIssues wsX1_foretellDueIssues) := goodIn_app (goodIn_of _ (by decide +kernel)) ggX1_setPattern_X1_foretellDueIssues
theorem dX1_setPattern_0 : decode cX1_setPattern 0 = .ok (.iload_n 1, 1) := by decide +kernel
theorem dX1_setPattern_1 : decode cX1_setPattern 1 = .ok (.iconst 1, 1) := by decide +kernel
theorem dX1_setPattern_2 : decode cX1_setPattern 2 = .ok (.bipush 90, 2) := by decide +kernel
theorem dX1_setPattern_4 : decode cX1_setPattern 4 = .ok (.invokestatic 46, 3) := by decide +kernel
theorem dX1_setPattern_7 : decode cX1_setPattern 7 = .ok (.ifCond .ne 13, 3) := by decide +kernel
theorem dX1_setPattern_10 : decode cX1_setPattern 10 = .ok (.new 50, 3) := by decide +kernel
theorem dX1_setPattern_13 : decode cX1_setPattern 13 = .ok (.dup, 1) := by decide +kernel
theorem dX1_setPattern_14 : decode cX1_setPattern 14 = .ok (.ldc 52, 2) := by decide +kernel
theorem dX1_setPattern_16 : decode cX1_setPattern 16 = .ok (.invokespecial 54, 3) := by decide +kernel
theorem dX1_setPattern_19 : decode cX1_setPattern 19 = .ok (.athrow, 1) := by decide +kernel
theorem dX1_setPattern_20 : decode cX1_setPattern 20 = .ok (.iload_n 2, 1) := by decide +kernel
theorem dX1_setPattern_21 : decode cX1_setPattern 21 = .ok (.iconst 1, 1) := by decide +kernel
theorem dX1_setPattern_22 : decode cX1_setPattern 22 = .ok (.bipush 20, 2) := by decide +kernel
theorem dX1_setPattern_24 : decode cX1_setPattern 24 = .ok (.invokestatic 46, 3) := by decide +kernel
theorem dX1_setPattern_27 : decode cX1_setPattern 27 = .ok (.ifCond .ne 13, 3) := by decide +kernel
theorem dX1_setPattern_30 : decode cX1_setPattern 30 = .ok (.new 50, 3) := by decide +kernel
theorem dX1_setPattern_33 : decode cX1_setPattern 33 = .ok (.dup, 1) := by decide +kernel
theorem dX1_setPattern_34 : decode cX1_setPattern 34 = .ok (.ldc 57, 2) := by decide +kernel
theorem dX1_setPattern_36 : decode cX1_setPattern 36 = .ok (.invokespecial 54, 3) := by decide +kernel
theorem dX1_setPattern_39 : decode cX1_setPattern 39 = .ok (.athrow, 1) := by decide +kernel
theorem dX1_setPattern_40 : decode cX1_setPattern 40 = .ok (.iload 4, 2) := by decide +kernel
theorem dX1_setPattern_42 : decode cX1_setPattern 42 = .ok (.iconst 0, 1) := by decide +kernel
theorem dX1_setPattern_43 : decode cX1_setPattern 43 = .ok (.sipush 4094, 3) := by decide +kernel
theorem dX1_setPattern_46 : decode cX1_setPattern 46 = .ok (.invokestatic 46, 3) := by decide +kernel
theorem dX1_setPattern_49 : decode cX1_setPattern 49 = .ok (.ifCond .ne 13, 3) := by decide +kernel
theorem dX1_setPattern_52 : decode cX1_setPattern 52 = .ok (.new 50, 3) := by decide +kernel
theorem dX1_setPattern_55 : decode cX1_setPattern 55 = .ok (.dup, 1) := by decide +kernel
theorem dX1_setPattern_56 : decode cX1_setPattern 56 = .ok (.ldc 59, 2) := by decide +kernel
theorem dX1_setPattern_58 : decode cX1_setPattern 58 = .ok (.invokespecial 54, 3) := by decide +kernel
theorem dX1_setPattern_61 : decode cX1_setPattern 61 = .ok (.athrow, 1) := by decide +kernel
theorem dX1_setPattern_62 : decode cX1_setPattern 62 = .ok (.aload_n 0, 1) := by decide +kernel
theorem dX1_setPattern_63 : decode cX1_setPattern 63 = .ok (.getfield 10, 3) := by decide +kernel
theorem dX1_setPattern_66 : decode cX1_setPattern 66 = .ok (.iload_n 1, 1) := by decide +kernel
theorem dX1_setPattern_67 : decode cX1_setPattern 67 = .ok (.iload_n 2, 1) := by decide +kernel
theorem dX1_setPattern_68 : decode cX1_setPattern 68 = .ok (.iload_n 3, 1) := by decide +kernel
theorem dX1_setPattern_69 : decode cX1_setPattern 69 = .ok (.iload 4, 2) := by decide +kernel
theorem dX1_setPattern_71 : decode cX1_setPattern 71 = .ok (.invokevirtual 61, 3) := by decide +kernel
theorem dX1_setPattern_74 : decode cX1_setPattern 74 = .ok (.aload_n 0, 1) := by decide +kernel
theorem dX1_setPattern_75 : decode cX1_setPattern 75 = .ok (.invokevirtual 65, 3) := by decide +kernel
theorem dX1_setPattern_78 : decode cX1_setPattern 78 = .ok (.return_, 1) := by decide +kernel
set_option maxRecDepth 20000 in
theorem ggX1_setClaims_X1_isWithin : GoodIn wsX1_setClaims wsX1_isWithin := goodIn_r _ [8] (by decide +kernel) (by decide +kernel)
set_option maxRecDepth 20000 in
theorem gX1_setClaims_X1_isWithin : GoodIn wsX1_setClaims (va_wsS RX1 46 yX1_isWithin wsX1_isWithin) := goodIn_app (goodIn_of _ (by decide +kernel)) ggX1_setClaims_X1_isWithin
theorem dX1_setClaims_0 : decode cX1_setClaims 0 = .ok (.iload_n 1, 1) := by decide +kernel
theorem dX1_setClaims_1 : decode cX1_setClaims 1 = .ok (.iconst 0, 1) := by decide +kernel
theorem dX1_setClaims_2 : decode cX1_setClaims 2 = .ok (.bipush 100, 2) := by decide +kernel
theorem dX1_setClaims_4 : decode cX1_setClaims 4 = .ok (.invokestatic 46, 3) := by decide +kernel
theorem dX1_setClaims_7 : decode cX1_setClaims 7 = .ok (.ifCond .ne 13, 3) := by decide +kernel
theorem dX1_setClaims_10 : decode cX1_setClaims 10 = .ok (.new 50, 3) := by decide +kernel
theorem dX1_setClaims_13 : decode cX1_setClaims 13 = .ok (.dup, 1) := by decide +kernel
theorem dX1_setClaims_14 : decode cX1_setClaims 14 = .ok (.ldc 68, 2) := by decide +kernel
theorem dX1_setClaims_16 : decode cX1_setClaims 16 = .ok (.invokespecial 54, 3) := by decide +kernel
theorem dX1_setClaims_19 : decode cX1_setClaims 19 = .ok (.athrow, 1) := by decide +kernel
theorem dX1_setClaims_20 : decode cX1_setClaims 20 = .ok (.iload_n 2, 1) := by decide +kernel
theorem dX1_setClaims_21 : decode cX1_setClaims 21 = .ok (.iconst 1, 1) := by decide +kernel
theorem dX1_setClaims_22 : decode cX1_setClaims 22 = .ok (.bipush 100, 2) := by decide +kernel
theorem dX1_setClaims_24 : decode cX1_setClaims 24 = .ok (.invokestatic 46, 3) := by decide +kernel
theorem dX1_setClaims_27 : decode cX1_setClaims 27 = .ok (.ifCond .ne 13, 3) := by decide +kernel
theorem dX1_setClaims_30 : decode cX1_setClaims 30 = .ok (.new 50, 3) := by decide +kernel
theorem dX1_setClaims_33 : decode cX1_setClaims 33 = .ok (.dup, 1) := by decide +kernel
theorem dX1_setClaims_34 : decode cX1_setClaims 34 = .ok (.ldc 70, 2) := by decide +kernel
theorem dX1_setClaims_36 : decode cX1_setClaims 36 = .ok (.invokespecial 54, 3) := by decide +kernel
theorem dX1_setClaims_39 : decode cX1_setClaims 39 = .ok (.athrow, 1) := by decide +kernel
theorem dX1_setClaims_40 : decode cX1_setClaims 40 = .ok (.aload_n 0, 1) := by decide +kernel
theorem dX1_setClaims_41 : decode cX1_setClaims 41 = .ok (.iload_n 1, 1) := by decide +kernel
theorem dX1_setClaims_42 : decode cX1_setClaims 42 = .ok (.putfield 16, 3) := by decide +kernel
theorem dX1_setClaims_45 : decode cX1_setClaims 45 = .ok (.aload_n 0, 1) := by decide +kernel
theorem dX1_setClaims_46 : decode cX1_setClaims 46 = .ok (.iload_n 2, 1) := by decide +kernel
theorem dX1_setClaims_47 : decode cX1_setClaims 47 = .ok (.putfield 20, 3) := by decide +kernel
theorem dX1_setClaims_50 : decode cX1_setClaims 50 = .ok (.return_, 1) := by decide +kernel
set_option maxRecDepth 20000 in
theorem ggX1_advance_X1_isWithin : GoodIn wsX1_advance wsX1_isWithin := goodIn_r _ [9] (by decide +kernel) (by decide +kernel)
set_option maxRecDepth 20000 in
theorem gX1_advance_X1_isWithin : GoodIn wsX1_advance (va_wsS RX1 46 yX1_isWithin wsX1_isWithin) := goodIn_app (goodIn_of _ (by decide +kernel)) ggX1_advance_X1_isWithin
set_option maxRecDepth 20000 in
theorem ggX1_advance_X1_foretellDueIssues : GoodIn wsX1_advance wsX1_foretellDueIssues := goodIn_r _ [13, 14, 5, 15, 16, 17, 8, 18, 19, 20, 21, 22, 23, 24, 25, 26, 27, 28, 29, 30, 31, 32, 33, 34, 35, 36, 37, 38, 39, 40, 41, 42, 43, 44, 45, 46, 47, 48, 49, 50, 51, 52, 53, 54, 55, 56, 57, 58, 59, 60, 61, 62] (by decide +kernel) (by decide +kernel)
set_option maxRecDepth 20000 in
theorem gX1_advance_X1_foretellDueIssues : GoodIn wsX1_advance (wsV RX1 65 RX1 yX1_foretellDueIssues wsX1_foretellDueIssues) := goodIn_app (goodIn_of _ (by decide +kernel)) ggX1_advance_X1_foretellDueIssues
theorem dX1_advance_0 : decode cX1_advance 0 = .ok (.iload_n 1, 1) := by decide +kernel
theorem dX1_advance_1 : decode cX1_advance 1 = .ok (.iconst 1, 1) := by decide +kernel
theorem dX1_advance_2 : decode cX1_advance 2 = .ok (.sipush 400, 3) := by decide +kernel
theorem dX1_advance_5 : decode cX1_advance 5 = .ok (.invokestatic 46, 3) := by decide +kernel
theorem dX1_advance_8 : decode cX1_advance 8 = .ok (.ifCond .ne 13, 3) := by decide +kernel
theorem dX1_advance_11 : decode cX1_advance 11 = .ok (.new 50, 3) := by decide +kernel
theorem dX1_advance_14 : decode cX1_advance 14 = .ok (.dup, 1) := by decide +kernel
theorem dX1_advance_15 : decode cX1_advance 15 = .ok (.ldc 72, 2) := by decide +kernel
theorem dX1_advance_17 : decode cX1_advance 17 = .ok (.invokespecial 54, 3) := by decide +kernel
theorem dX1_advance_20 : decode cX1_advance 20 = .ok (.athrow, 1) := by decide +kernel
theorem dX1_advance_21 : decode cX1_advance 21 = .ok (.aload_n 0, 1) := by decide +kernel
theorem dX1_advance_22 : decode cX1_advance 22 = .ok (.getfield 74, 3) := by decide +kernel
theorem dX1_advance_25 : decode cX1_advance 25 = .ok (.iload_n 1, 1) := by decide +kernel
theorem dX1_advance_26 : decode cX1_advance 26 = .ok (.iadd, 1) := by decide +kernel
theorem dX1_advance_27 : decode cX1_advance 27 = .ok (.sipush 7200, 3) := by decide +kernel
theorem dX1_advance_30 : decode cX1_advance 30 = .ok (.if_icmp .le 13, 3) := by decide +kernel
theorem dX1_advance_33 : decode cX1_advance 33 = .ok (.new 77, 3) := by decide +kernel
theorem dX1_advance_36 : decode cX1_advance 36 = .ok (.dup, 1) := by decide +kernel
theorem dX1_advance_37 : decode cX1_advance 37 = .ok (.ldc 79, 2) := by decide +kernel
theorem dX1_advance_39 : decode cX1_advance 39 = .ok (.invokespecial 81, 3) := by decide +kernel
theorem dX1_advance_42 : decode cX1_advance 42 = .ok (.athrow, 1) := by decide +kernel
theorem dX1_advance_43 : decode cX1_advance 43 = .ok (.aload_n 0, 1) := by decide +kernel
theorem dX1_advance_44 : decode cX1_advance 44 = .ok (.dup, 1) := by decide +kernel
theorem dX1_advance_45 : decode cX1_advance 45 = .ok (.getfield 74, 3) := by decide +kernel
theorem dX1_advance_48 : decode cX1_advance 48 = .ok (.iload_n 1, 1) := by decide +kernel
theorem dX1_advance_49 : decode cX1_advance 49 = .ok (.iadd, 1) := by decide +kernel
theorem dX1_advance_50 : decode cX1_advance 50 = .ok (.putfield 74, 3) := by decide +kernel
theorem dX1_advance_53 : decode cX1_advance 53 = .ok (.aload_n 0, 1) := by decide +kernel
theorem dX1_advance_54 : decode cX1_advance 54 = .ok (.invokevirtual 65, 3) := by decide +kernel
theorem dX1_advance_57 : decode cX1_advance 57 = .ok (.aload_n 0, 1) := by decide +kernel
theorem dX1_advance_58 : decode cX1_advance 58 = .ok (.getfield 74, 3) := by decide +kernel
theorem dX1_advance_61 : decode cX1_advance 61 = .ok (.ireturn, 1) := by decide +kernel
set_option maxRecDepth 20000 in
theorem ggX1_checkIn_X1_isIssue : GoodIn wsX1_checkIn wsX1_isIssue := goodIn_r _ [11] (by decide +kernel) (by decide +kernel)
set_option maxRecDepth 20000 in
theorem gX1_checkIn_X1_isIssue : GoodIn wsX1_checkIn (va_wsS RX1 82 yX1_isIssue wsX1_isIssue) := goodIn_app (goodIn_of _ (by decide +kernel)) ggX1_checkIn_X1_isIssue
set_option maxRecDepth 20000 in
theorem ggX1_checkIn_X1_isWithin : GoodIn wsX1_checkIn wsX1_isWithin := goodIn_r _ [14] (by decide +kernel) (by decide +kernel)
set_option maxRecDepth 20000 in
theorem gX1_checkIn_X1_isWithin : GoodIn wsX1_checkIn (va_wsS RX1 46 yX1_isWithin wsX1_isWithin) := goodIn_app (goodIn_of _ (by decide +kernel)) ggX1_checkIn_X1_isWithin
set_option maxRecDepth 20000 in
theorem ggX1_checkIn_X1_canAllCome : GoodIn wsX1_checkIn wsX1_canAllCome := goodIn_r _ [18, 19, 20, 21, 22, 10, 23, 7, 8, 9, 11, 77, 78, 79, 80, 81, 82, 83, 84, 85, 86, 87, 88, 89, 90, 91] (by decide +kernel) (by decide +kernel)
set_option maxRecDepth 20000 in
theorem gX1_checkIn_X1_canAllCome : GoodIn wsX1_checkIn (wsV RX1 93 RX1 yX1_canAllCome wsX1_canAllCome) := goodIn_app (goodIn_of _ (by decide +kernel)) ggX1_checkIn_X1_canAllCome
set_option maxRecDepth 20000 in
theorem ggX1_checkIn_X1_foretellUpTo : GoodIn wsX1_checkIn wsX1_foretellUpTo := goodIn_r _ [27, 7, 28, 29, 30, 10, 31, 32, 33, 8, 9, 11, 34, 35, 36, 37, 38, 39, 40, 41, 42, 43, 44, 45, 46, 47, 48, 49, 50, 51, 52, 53, 77, 78, 79, 80, 81, 82, 83, 84, 85, 86, 87, 88, 89, 90, 91, 92, 93, 94, 95] (by decide +kernel) (by decide +kernel)
set_option maxRecDepth 20000 in
theorem gX1_checkIn_X1_foretellUpTo : GoodIn wsX1_checkIn (wsV RX1 99 RX1 yX1_foretellUpTo wsX1_foretellUpTo) := goodIn_app (goodIn_of _ (by decide +kernel)) ggX1_checkIn_X1_foretellUpTo
set_option maxRecDepth 20000 in
theorem ggX1_checkIn_X1_takeIn : GoodIn wsX1_checkIn wsX1_takeIn := goodIn_r _ [57, 19, 20, 21, 22, 10, 23, 7, 8, 9, 11, 77, 78, 79, 80, 81, 82, 83, 84, 85, 86, 87, 88, 89, 90, 91] (by decide +kernel) (by decide +kernel)
set_option maxRecDepth 20000 in
theorem gX1_checkIn_X1_takeIn : GoodIn wsX1_checkIn (wsV RX1 103 RX1 yX1_takeIn wsX1_takeIn) := goodIn_app (goodIn_of _ (by decide +kernel)) ggX1_checkIn_X1_takeIn
set_option maxRecDepth 20000 in
theorem ggX1_checkIn_X1_noteDifference : GoodIn wsX1_checkIn wsX1_noteDifference := goodIn_r _ [61, 62, 32, 63, 64, 65, 33, 20, 21, 22, 10, 23, 7, 8, 9, 11, 66, 67, 68, 69, 19, 70, 71, 72, 12, 13, 14, 77, 78, 79, 80, 81, 82, 83, 84, 85, 86, 87, 88, 89, 90, 91] (by decide +kernel) (by decide +kernel)
set_option maxRecDepth 20000 in
theorem gX1_checkIn_X1_noteDifference : GoodIn wsX1_checkIn (wsV RX1 107 RX1 yX1_noteDifference wsX1_noteDifference) := goodIn_app (goodIn_of _ (by decide +kernel)) ggX1_checkIn_X1_noteDifference
set_option maxRecDepth 20000 in
theorem ggX1_checkIn_X1_foretellDueIssues : GoodIn wsX1_checkIn wsX1_foretellDueIssues := goodIn_r _ [76, 7, 62, 34, 35, 36, 10, 37, 38, 32, 33, 8, 9, 11, 39, 40, 41, 42, 43, 44, 45, 46, 47, 48, 49, 50, 51, 52, 53, 28, 29, 30, 31, 77, 78, 79, 80, 81, 82, 83, 84, 85, 86, 87, 88, 89, 90, 91, 92, 93, 94, 95] (by decide +kernel) (by decide +kernel)
set_option maxRecDepth 20000 in
theorem gX1_checkIn_X1_foretellDueIssues : GoodIn wsX1_checkIn (wsV RX1 65 RX1 yX1_foretellDueIssues wsX1_foretellDueIssues) := goodIn_app (goodIn_of _ (by decide +kernel)) ggX1_checkIn_X1_foretellDueIssues
theorem dX1_checkIn_0 : decode cX1_checkIn 0 = .ok (.iload_n 1, 1) := by decide +kernel
theorem dX1_checkIn_1 : decode cX1_checkIn 1 = .ok (.invokestatic 82, 3) := by decide +kernel
theorem dX1_checkIn_4 : decode cX1_checkIn 4 = .ok (.ifCond .ne 13, 3) := by decide +kernel
theorem dX1_checkIn_7 : decode cX1_checkIn 7 = .ok (.new 86, 3) := by decide +kernel
theorem dX1_checkIn_10 : decode cX1_checkIn 10 = .ok (.dup, 1) := by decide +kernel
theorem dX1_checkIn_11 : decode cX1_checkIn 11 = .ok (.ldc 88, 2) := by decide +kernel
theorem dX1_checkIn_13 : decode cX1_checkIn 13 = .ok (.invokespecial 90, 3) := by decide +kernel
theorem dX1_checkIn_16 : decode cX1_checkIn 16 = .ok (.athrow, 1) := by decide +kernel
theorem dX1_checkIn_17 : decode cX1_checkIn 17 = .ok (.iload_n 2, 1) := by decide +kernel
theorem dX1_checkIn_18 : decode cX1_checkIn 18 = .ok (.iconst 0, 1) := by decide +kernel
theorem dX1_checkIn_19 : decode cX1_checkIn 19 = .ok (.iconst 5, 1) := by decide +kernel
theorem dX1_checkIn_20 : decode cX1_checkIn 20 = .ok (.invokestatic 46, 3) := by decide +kernel
theorem dX1_checkIn_23 : decode cX1_checkIn 23 = .ok (.ifCond .eq 12, 3) := by decide +kernel
theorem dX1_checkIn_26 : decode cX1_checkIn 26 = .ok (.iload_n 1, 1) := by decide +kernel
theorem dX1_checkIn_27 : decode cX1_checkIn 27 = .ok (.iload_n 2, 1) := by decide +kernel
theorem dX1_checkIn_28 : decode cX1_checkIn 28 = .ok (.iadd, 1) := by decide +kernel
theorem dX1_checkIn_29 : decode cX1_checkIn 29 = .ok (.invokestatic 82, 3) := by decide +kernel
theorem dX1_checkIn_32 : decode cX1_checkIn 32 = .ok (.ifCond .ne 13, 3) := by decide +kernel
theorem dX1_checkIn_35 : decode cX1_checkIn 35 = .ok (.new 50, 3) := by decide +kernel
theorem dX1_checkIn_38 : decode cX1_checkIn 38 = .ok (.dup, 1) := by decide +kernel
theorem dX1_checkIn_39 : decode cX1_checkIn 39 = .ok (.ldc 91, 2) := by decide +kernel
theorem dX1_checkIn_41 : decode cX1_checkIn 41 = .ok (.invokespecial 54, 3) := by decide +kernel
theorem dX1_checkIn_44 : decode cX1_checkIn 44 = .ok (.athrow, 1) := by decide +kernel
theorem dX1_checkIn_45 : decode cX1_checkIn 45 = .ok (.iload_n 1, 1) := by decide +kernel
theorem dX1_checkIn_46 : decode cX1_checkIn 46 = .ok (.iload_n 2, 1) := by decide +kernel
theorem dX1_checkIn_47 : decode cX1_checkIn 47 = .ok (.iadd, 1) := by decide +kernel
theorem dX1_checkIn_48 : decode cX1_checkIn 48 = .ok (.istore_n 3, 1) := by decide +kernel
theorem dX1_checkIn_49 : decode cX1_checkIn 49 = .ok (.aload_n 0, 1) := by decide +kernel
theorem dX1_checkIn_50 : decode cX1_checkIn 50 = .ok (.iload_n 1, 1) := by decide +kernel
theorem dX1_checkIn_51 : decode cX1_checkIn 51 = .ok (.iload_n 3, 1) := by decide +kernel
theorem dX1_checkIn_52 : decode cX1_checkIn 52 = .ok (.invokevirtual 93, 3) := by decide +kernel
theorem dX1_checkIn_55 : decode cX1_checkIn 55 = .ok (.ifCond .ne 13, 3) := by decide +kernel
theorem dX1_checkIn_58 : decode cX1_checkIn 58 = .ok (.new 77, 3) := by decide +kernel
theorem dX1_checkIn_61 : decode cX1_checkIn 61 = .ok (.dup, 1) := by decide +kernel
theorem dX1_checkIn_62 : decode cX1_checkIn 62 = .ok (.ldc 97, 2) := by decide +kernel
theorem dX1_checkIn_64 : decode cX1_checkIn 64 = .ok (.invokespecial 81, 3) := by decide +kernel
theorem dX1_checkIn_67 : decode cX1_checkIn 67 = .ok (.athrow, 1) := by decide +kernel
theorem dX1_checkIn_68 : decode cX1_checkIn 68 = .ok (.aload_n 0, 1) := by decide +kernel
theorem dX1_checkIn_69 : decode cX1_checkIn 69 = .ok (.iload_n 3, 1) := by decide +kernel
theorem dX1_checkIn_70 : decode cX1_checkIn 70 = .ok (.invokevirtual 99, 3) := by decide +kernel
theorem dX1_checkIn_73 : decode cX1_checkIn 73 = .ok (.aload_n 0, 1) := by decide +kernel
theorem dX1_checkIn_74 : decode cX1_checkIn 74 = .ok (.iload_n 1, 1) := by decide +kernel
theorem dX1_checkIn_75 : decode cX1_checkIn 75 = .ok (.iload_n 3, 1) := by decide +kernel
theorem dX1_checkIn_76 : decode cX1_checkIn 76 = .ok (.invokevirtual 103, 3) := by decide +kernel
theorem dX1_checkIn_79 : decode cX1_checkIn 79 = .ok (.aload_n 0, 1) := by decide +kernel
theorem dX1_checkIn_80 : decode cX1_checkIn 80 = .ok (.iload_n 1, 1) := by decide +kernel
theorem dX1_checkIn_81 : decode cX1_checkIn 81 = .ok (.invokevirtual 107, 3) := by decide +kernel
theorem dX1_checkIn_84 : decode cX1_checkIn 84 = .ok (.aload_n 0, 1) := by decide +kernel
theorem dX1_checkIn_85 : decode cX1_checkIn 85 = .ok (.invokevirtual 65, 3) := by decide +kernel
theorem dX1_checkIn_88 : decode cX1_checkIn 88 = .ok (.aload_n 0, 1) := by decide +kernel
theorem dX1_checkIn_89 : decode cX1_checkIn 89 = .ok (.getfield 40, 3) := by decide +kernel
theorem dX1_checkIn_92 : decode cX1_checkIn 92 = .ok (.ireturn, 1) := by decide +kernel
set_option maxRecDepth 20000 in
theorem ggX1_skip_X1_isForetold : GoodIn wsX1_skip wsX1_isForetold := goodIn_r _ [10, 11, 12, 13, 9, 14, 15, 16, 17, 18, 19, 20, 21, 22, 23, 24, 25, 26, 27, 28, 29] (by decide +kernel) (by decide +kernel)
set_option maxRecDepth 20000 in
theorem gX1_skip_X1_isForetold : GoodIn wsX1_skip (wsV RX1 110 RX1 yX1_isForetold wsX1_isForetold) := goodIn_app (goodIn_of _ (by decide +kernel)) ggX1_skip_X1_isForetold
theorem dX1_skip_0 : decode cX1_skip 0 = .ok (.aload_n 0, 1) := by decide +kernel
theorem dX1_skip_1 : decode cX1_skip 1 = .ok (.iload_n 1, 1) := by decide +kernel
theorem dX1_skip_2 : decode cX1_skip 2 = .ok (.invokevirtual 110, 3) := by decide +kernel
theorem dX1_skip_5 : decode cX1_skip 5 = .ok (.ifCond .ne 13, 3) := by decide +kernel
theorem dX1_skip_8 : decode cX1_skip 8 = .ok (.new 86, 3) := by decide +kernel
theorem dX1_skip_11 : decode cX1_skip 11 = .ok (.dup, 1) := by decide +kernel
theorem dX1_skip_12 : decode cX1_skip 12 = .ok (.ldc 113, 2) := by decide +kernel
theorem dX1_skip_14 : decode cX1_skip 14 = .ok (.invokespecial 90, 3) := by decide +kernel
theorem dX1_skip_17 : decode cX1_skip 17 = .ok (.athrow, 1) := by decide +kernel
theorem dX1_skip_18 : decode cX1_skip 18 = .ok (.aload_n 0, 1) := by decide +kernel
theorem dX1_skip_19 : decode cX1_skip 19 = .ok (.getfield 27, 3) := by decide +kernel
theorem dX1_skip_22 : decode cX1_skip 22 = .ok (.iload_n 1, 1) := by decide +kernel
theorem dX1_skip_23 : decode cX1_skip 23 = .ok (.iaload, 1) := by decide +kernel
theorem dX1_skip_24 : decode cX1_skip 24 = .ok (.ifCond .eq 13, 3) := by decide +kernel
theorem dX1_skip_27 : decode cX1_skip 27 = .ok (.new 77, 3) := by decide +kernel
theorem dX1_skip_30 : decode cX1_skip 30 = .ok (.dup, 1) := by decide +kernel
theorem dX1_skip_31 : decode cX1_skip 31 = .ok (.ldc 115, 2) := by decide +kernel
theorem dX1_skip_33 : decode cX1_skip 33 = .ok (.invokespecial 81, 3) := by decide +kernel
theorem dX1_skip_36 : decode cX1_skip 36 = .ok (.athrow, 1) := by decide +kernel
theorem dX1_skip_37 : decode cX1_skip 37 = .ok (.aload_n 0, 1) := by decide +kernel
theorem dX1_skip_38 : decode cX1_skip 38 = .ok (.getfield 27, 3) := by decide +kernel
theorem dX1_skip_41 : decode cX1_skip 41 = .ok (.iload_n 1, 1) := by decide +kernel
theorem dX1_skip_42 : decode cX1_skip 42 = .ok (.iconst 3, 1) := by decide +kernel
theorem dX1_skip_43 : decode cX1_skip 43 = .ok (.iastore, 1) := by decide +kernel
theorem dX1_skip_44 : decode cX1_skip 44 = .ok (.return_, 1) := by decide +kernel
set_option maxRecDepth 20000 in
theorem ggX1_round_X1_isLate : GoodIn wsX1_round wsX1_isLate := goodIn_r _ [9, 4, 3, 10, 11, 12, 13, 14, 8, 15, 16, 17, 18, 19, 25, 26, 27, 28, 29, 30, 31, 32, 33, 34, 35, 36, 37, 38, 39] (by decide +kernel) (by decide +kernel)
set_option maxRecDepth 20000 in
theorem gX1_round_X1_isLate : GoodIn wsX1_round (wsV RX1 117 RX1 yX1_isLate wsX1_isLate) := goodIn_app (goodIn_of _ (by decide +kernel)) ggX1_round_X1_isLate
set_option maxRecDepth 20000 in
theorem ggX1_round_X1_isTimeToClaim : GoodIn wsX1_round wsX1_isTimeToClaim := goodIn_r _ [23, 1, 3, 2, 24, 17, 18, 8, 19, 25, 26, 27, 28, 29, 30, 31, 32, 33, 34, 35, 36, 37, 38, 39] (by decide +kernel) (by decide +kernel)
set_option maxRecDepth 20000 in
theorem gX1_round_X1_isTimeToClaim : GoodIn wsX1_round (wsV RX1 120 RX1 yX1_isTimeToClaim wsX1_isTimeToClaim) := goodIn_app (goodIn_of _ (by decide +kernel)) ggX1_round_X1_isTimeToClaim
theorem dX1_round_0 : decode cX1_round 0 = .ok (.iconst 0, 1) := by decide +kernel
theorem dX1_round_1 : decode cX1_round 1 = .ok (.istore_n 1, 1) := by decide +kernel
theorem dX1_round_2 : decode cX1_round 2 = .ok (.iconst 0, 1) := by decide +kernel
theorem dX1_round_3 : decode cX1_round 3 = .ok (.istore_n 2, 1) := by decide +kernel
theorem dX1_round_4 : decode cX1_round 4 = .ok (.iload_n 2, 1) := by decide +kernel
theorem dX1_round_5 : decode cX1_round 5 = .ok (.sipush 200, 3) := by decide +kernel
theorem dX1_round_8 : decode cX1_round 8 = .ok (.if_icmp .ge 68, 3) := by decide +kernel
theorem dX1_round_11 : decode cX1_round 11 = .ok (.aload_n 0, 1) := by decide +kernel
theorem dX1_round_12 : decode cX1_round 12 = .ok (.iload_n 2, 1) := by decide +kernel
theorem dX1_round_13 : decode cX1_round 13 = .ok (.invokevirtual 117, 3) := by decide +kernel
theorem dX1_round_16 : decode cX1_round 16 = .ok (.ifCond .eq 54, 3) := by decide +kernel
theorem dX1_round_19 : decode cX1_round 19 = .ok (.aload_n 0, 1) := by decide +kernel
theorem dX1_round_20 : decode cX1_round 20 = .ok (.iload_n 2, 1) := by decide +kernel
theorem dX1_round_21 : decode cX1_round 21 = .ok (.invokevirtual 120, 3) := by decide +kernel
theorem dX1_round_24 : decode cX1_round 24 = .ok (.ifCond .eq 46, 3) := by decide +kernel
theorem dX1_round_27 : decode cX1_round 27 = .ok (.aload_n 0, 1) := by decide +kernel
theorem dX1_round_28 : decode cX1_round 28 = .ok (.getfield 30, 3) := by decide +kernel
theorem dX1_round_31 : decode cX1_round 31 = .ok (.iload_n 2, 1) := by decide +kernel
theorem dX1_round_32 : decode cX1_round 32 = .ok (.iaload, 1) := by decide +kernel
theorem dX1_round_33 : decode cX1_round 33 = .ok (.iconst 3, 1) := by decide +kernel
theorem dX1_round_34 : decode cX1_round 34 = .ok (.if_icmp .ge 29, 3) := by decide +kernel
theorem dX1_round_37 : decode cX1_round 37 = .ok (.aload_n 0, 1) := by decide +kernel
theorem dX1_round_38 : decode cX1_round 38 = .ok (.getfield 30, 3) := by decide +kernel
theorem dX1_round_41 : decode cX1_round 41 = .ok (.iload_n 2, 1) := by decide +kernel
theorem dX1_round_42 : decode cX1_round 42 = .ok (.dup2, 1) := by decide +kernel
theorem dX1_round_43 : decode cX1_round 43 = .ok (.iaload, 1) := by decide +kernel
theorem dX1_round_44 : decode cX1_round 44 = .ok (.iconst 1, 1) := by decide +kernel
theorem dX1_round_45 : decode cX1_round 45 = .ok (.iadd, 1) := by decide +kernel
theorem dX1_round_46 : decode cX1_round 46 = .ok (.iastore, 1) := by decide +kernel
theorem dX1_round_47 : decode cX1_round 47 = .ok (.aload_n 0, 1) := by decide +kernel
theorem dX1_round_48 : decode cX1_round 48 = .ok (.getfield 33, 3) := by decide +kernel
theorem dX1_round_51 : decode cX1_round 51 = .ok (.iload_n 2, 1) := by decide +kernel
theorem dX1_round_52 : decode cX1_round 52 = .ok (.aload_n 0, 1) := by decide +kernel
theorem dX1_round_53 : decode cX1_round 53 = .ok (.getfield 74, 3) := by decide +kernel
theorem dX1_round_56 : decode cX1_round 56 = .ok (.iastore, 1) := by decide +kernel
theorem dX1_round_57 : decode cX1_round 57 = .ok (.iinc 1 1, 3) := by decide +kernel
theorem dX1_round_60 : decode cX1_round 60 = .ok (.goto 10, 3) := by decide +kernel
theorem dX1_round_63 : decode cX1_round 63 = .ok (.aload_n 0, 1) := by decide +kernel
theorem dX1_round_64 : decode cX1_round 64 = .ok (.getfield 27, 3) := by decide +kernel
theorem dX1_round_67 : decode cX1_round 67 = .ok (.iload_n 2, 1) := by decide +kernel
theorem dX1_round_68 : decode cX1_round 68 = .ok (.iconst 3, 1) := by decide +kernel
theorem dX1_round_69 : decode cX1_round 69 = .ok (.iastore, 1) := by decide +kernel
theorem dX1_round_70 : decode cX1_round 70 = .ok (.iinc 2 1, 3) := by decide +kernel
theorem dX1_round_73 : decode cX1_round 73 = .ok (.goto (-69), 3) := by decide +kernel
theorem dX1_round_76 : decode cX1_round 76 = .ok (.iload_n 1, 1) := by decide +kernel
theorem dX1_round_77 : decode cX1_round 77 = .ok (.ireturn, 1) := by decide +kernel
theorem dX1_day_0 : decode cX1_day 0 = .ok (.aload_n 0, 1) := by decide +kernel
theorem dX1_day_1 : decode cX1_day 1 = .ok (.getfield 74, 3) := by decide +kernel
theorem dX1_day_4 : decode cX1_day 4 = .ok (.ireturn, 1) := by decide +kernel
theorem dX1_foretold_0 : decode cX1_foretold 0 = .ok (.aload_n 0, 1) := by decide +kernel
theorem dX1_foretold_1 : decode cX1_foretold 1 = .ok (.getfield 40, 3) := by decide +kernel
theorem dX1_foretold_4 : decode cX1_foretold 4 = .ok (.ireturn, 1) := by decide +kernel
theorem dX1_shift_0 : decode cX1_shift 0 = .ok (.aload_n 0, 1) := by decide +kernel
theorem dX1_shift_1 : decode cX1_shift 1 = .ok (.getfield 123, 3) := by decide +kernel
theorem dX1_shift_4 : decode cX1_shift 4 = .ok (.ireturn, 1) := by decide +kernel
set_option maxRecDepth 20000 in
theorem ggX1_dayOf_X1_isForetold : GoodIn wsX1_dayOf wsX1_isForetold := goodIn_r _ [8, 9, 10, 11, 7, 12, 13, 14, 15, 16, 17, 18, 19, 20, 21, 22, 23, 24, 25, 26, 27] (by decide +kernel) (by decide +kernel)
set_option maxRecDepth 20000 in
theorem gX1_dayOf_X1_isForetold : GoodIn wsX1_dayOf (wsV RX1 110 RX1 yX1_isForetold wsX1_isForetold) := goodIn_app (goodIn_of _ (by decide +kernel)) ggX1_dayOf_X1_isForetold
theorem dX1_dayOf_0 : decode cX1_dayOf 0 = .ok (.aload_n 0, 1) := by decide +kernel
theorem dX1_dayOf_1 : decode cX1_dayOf 1 = .ok (.iload_n 1, 1) := by decide +kernel
theorem dX1_dayOf_2 : decode cX1_dayOf 2 = .ok (.invokevirtual 110, 3) := by decide +kernel
theorem dX1_dayOf_5 : decode cX1_dayOf 5 = .ok (.ifCond .ne 13, 3) := by decide +kernel
theorem dX1_dayOf_8 : decode cX1_dayOf 8 = .ok (.new 86, 3) := by decide +kernel
theorem dX1_dayOf_11 : decode cX1_dayOf 11 = .ok (.dup, 1) := by decide +kernel
theorem dX1_dayOf_12 : decode cX1_dayOf 12 = .ok (.ldc 113, 2) := by decide +kernel
theorem dX1_dayOf_14 : decode cX1_dayOf 14 = .ok (.invokespecial 90, 3) := by decide +kernel
theorem dX1_dayOf_17 : decode cX1_dayOf 17 = .ok (.athrow, 1) := by decide +kernel
theorem dX1_dayOf_18 : decode cX1_dayOf 18 = .ok (.aload_n 0, 1) := by decide +kernel
theorem dX1_dayOf_19 : decode cX1_dayOf 19 = .ok (.getfield 23, 3) := by decide +kernel
theorem dX1_dayOf_22 : decode cX1_dayOf 22 = .ok (.iload_n 1, 1) := by decide +kernel
theorem dX1_dayOf_23 : decode cX1_dayOf 23 = .ok (.iaload, 1) := by decide +kernel
theorem dX1_dayOf_24 : decode cX1_dayOf 24 = .ok (.ireturn, 1) := by decide +kernel
set_option maxRecDepth 20000 in
theorem ggX1_stateOf_X1_isForetold : GoodIn wsX1_stateOf wsX1_isForetold := goodIn_r _ [8, 9, 10, 11, 7, 12, 13, 14, 15, 16, 17, 18, 19, 20, 21, 22, 23, 24, 25, 26, 27] (by decide +kernel) (by decide +kernel)
set_option maxRecDepth 20000 in
theorem gX1_stateOf_X1_isForetold : GoodIn wsX1_stateOf (wsV RX1 110 RX1 yX1_isForetold wsX1_isForetold) := goodIn_app (goodIn_of _ (by decide +kernel)) ggX1_stateOf_X1_isForetold
theorem dX1_stateOf_0 : decode cX1_stateOf 0 = .ok (.aload_n 0, 1) := by decide +kernel
theorem dX1_stateOf_1 : decode cX1_stateOf 1 = .ok (.iload_n 1, 1) := by decide +kernel
theorem dX1_stateOf_2 : decode cX1_stateOf 2 = .ok (.invokevirtual 110, 3) := by decide +kernel
theorem dX1_stateOf_5 : decode cX1_stateOf 5 = .ok (.ifCond .ne 13, 3) := by decide +kernel
theorem dX1_stateOf_8 : decode cX1_stateOf 8 = .ok (.new 86, 3) := by decide +kernel
theorem dX1_stateOf_11 : decode cX1_stateOf 11 = .ok (.dup, 1) := by decide +kernel
theorem dX1_stateOf_12 : decode cX1_stateOf 12 = .ok (.ldc 113, 2) := by decide +kernel
theorem dX1_stateOf_14 : decode cX1_stateOf 14 = .ok (.invokespecial 90, 3) := by decide +kernel
theorem dX1_stateOf_17 : decode cX1_stateOf 17 = .ok (.athrow, 1) := by decide +kernel
theorem dX1_stateOf_18 : decode cX1_stateOf 18 = .ok (.aload_n 0, 1) := by decide +kernel
theorem dX1_stateOf_19 : decode cX1_stateOf 19 = .ok (.getfield 27, 3) := by decide +kernel
theorem dX1_stateOf_22 : decode cX1_stateOf 22 = .ok (.iload_n 1, 1) := by decide +kernel
theorem dX1_stateOf_23 : decode cX1_stateOf 23 = .ok (.iaload, 1) := by decide +kernel
theorem dX1_stateOf_24 : decode cX1_stateOf 24 = .ok (.ireturn, 1) := by decide +kernel
set_option maxRecDepth 20000 in
theorem ggX1_claimsOf_X1_isForetold : GoodIn wsX1_claimsOf wsX1_isForetold := goodIn_r _ [8, 9, 10, 11, 7, 12, 13, 14, 15, 16, 17, 18, 19, 20, 21, 22, 23, 24, 25, 26, 27] (by decide +kernel) (by decide +kernel)
set_option maxRecDepth 20000 in
theorem gX1_claimsOf_X1_isForetold : GoodIn wsX1_claimsOf (wsV RX1 110 RX1 yX1_isForetold wsX1_isForetold) := goodIn_app (goodIn_of _ (by decide +kernel)) ggX1_claimsOf_X1_isForetold
theorem dX1_claimsOf_0 : decode cX1_claimsOf 0 = .ok (.aload_n 0, 1) := by decide +kernel
theorem dX1_claimsOf_1 : decode cX1_claimsOf 1 = .ok (.iload_n 1, 1) := by decide +kernel
theorem dX1_claimsOf_2 : decode cX1_claimsOf 2 = .ok (.invokevirtual 110, 3) := by decide +kernel
theorem dX1_claimsOf_5 : decode cX1_claimsOf 5 = .ok (.ifCond .ne 13, 3) := by decide +kernel
theorem dX1_claimsOf_8 : decode cX1_claimsOf 8 = .ok (.new 86, 3) := by decide +kernel
theorem dX1_claimsOf_11 : decode cX1_claimsOf 11 = .ok (.dup, 1) := by decide +kernel
theorem dX1_claimsOf_12 : decode cX1_claimsOf 12 = .ok (.ldc 113, 2) := by decide +kernel
theorem dX1_claimsOf_14 : decode cX1_claimsOf 14 = .ok (.invokespecial 90, 3) := by decide +kernel
theorem dX1_claimsOf_17 : decode cX1_claimsOf 17 = .ok (.athrow, 1) := by decide +kernel
theorem dX1_claimsOf_18 : decode cX1_claimsOf 18 = .ok (.aload_n 0, 1) := by decide +kernel
theorem dX1_claimsOf_19 : decode cX1_claimsOf 19 = .ok (.getfield 30, 3) := by decide +kernel
theorem dX1_claimsOf_22 : decode cX1_claimsOf 22 = .ok (.iload_n 1, 1) := by decide +kernel
theorem dX1_claimsOf_23 : decode cX1_claimsOf 23 = .ok (.iaload, 1) := by decide +kernel
theorem dX1_claimsOf_24 : decode cX1_claimsOf 24 = .ok (.ireturn, 1) := by decide +kernel
set_option maxRecDepth 20000 in
theorem ggX1_labelOf_X1_isIssue : GoodIn wsX1_labelOf wsX1_isIssue := goodIn_r _ [7] (by decide +kernel) (by decide +kernel)
set_option maxRecDepth 20000 in
theorem gX1_labelOf_X1_isIssue : GoodIn wsX1_labelOf (va_wsS RX1 82 yX1_isIssue wsX1_isIssue) := goodIn_app (goodIn_of _ (by decide +kernel)) ggX1_labelOf_X1_isIssue
set_option maxRecDepth 20000 in
theorem ggX1_labelOf_X0_volumeOf : GoodIn wsX1_labelOf wsX0_volumeOf := goodIn_r _ [12, 13, 34, 35, 36, 37] (by decide +kernel) (by decide +kernel)
set_option maxRecDepth 20000 in
theorem gX1_labelOf_X0_volumeOf : GoodIn wsX1_labelOf (wsV RX1 126 RX0 yX0_volumeOf wsX0_volumeOf) := goodIn_app (goodIn_of _ (by decide +kernel)) ggX1_labelOf_X0_volumeOf
set_option maxRecDepth 20000 in
theorem ggX1_labelOf_X0_numberOf : GoodIn wsX1_labelOf wsX0_numberOf := goodIn_r _ [17, 18, 13, 34, 35, 36, 37] (by decide +kernel) (by decide +kernel)
set_option maxRecDepth 20000 in
theorem gX1_labelOf_X0_numberOf : GoodIn wsX1_labelOf (wsV RX1 130 RX0 yX0_numberOf wsX0_numberOf) := goodIn_app (goodIn_of _ (by decide +kernel)) ggX1_labelOf_X0_numberOf
theorem dX1_labelOf_0 : decode cX1_labelOf 0 = .ok (.iload_n 1, 1) := by decide +kernel
theorem dX1_labelOf_1 : decode cX1_labelOf 1 = .ok (.invokestatic 82, 3) := by decide +kernel
theorem dX1_labelOf_4 : decode cX1_labelOf 4 = .ok (.ifCond .ne 13, 3) := by decide +kernel
theorem dX1_labelOf_7 : decode cX1_labelOf 7 = .ok (.new 86, 3) := by decide +kernel
theorem dX1_labelOf_10 : decode cX1_labelOf 10 = .ok (.dup, 1) := by decide +kernel
theorem dX1_labelOf_11 : decode cX1_labelOf 11 = .ok (.ldc 88, 2) := by decide +kernel
theorem dX1_labelOf_13 : decode cX1_labelOf 13 = .ok (.invokespecial 90, 3) := by decide +kernel
theorem dX1_labelOf_16 : decode cX1_labelOf 16 = .ok (.athrow, 1) := by decide +kernel
theorem dX1_labelOf_17 : decode cX1_labelOf 17 = .ok (.sipush 1000, 3) := by decide +kernel
theorem dX1_labelOf_20 : decode cX1_labelOf 20 = .ok (.aload_n 0, 1) := by decide +kernel
theorem dX1_labelOf_21 : decode cX1_labelOf 21 = .ok (.getfield 10, 3) := by decide +kernel
theorem dX1_labelOf_24 : decode cX1_labelOf 24 = .ok (.iload_n 1, 1) := by decide +kernel
theorem dX1_labelOf_25 : decode cX1_labelOf 25 = .ok (.invokevirtual 126, 3) := by decide +kernel
theorem dX1_labelOf_28 : decode cX1_labelOf 28 = .ok (.imul, 1) := by decide +kernel
theorem dX1_labelOf_29 : decode cX1_labelOf 29 = .ok (.aload_n 0, 1) := by decide +kernel
theorem dX1_labelOf_30 : decode cX1_labelOf 30 = .ok (.getfield 10, 3) := by decide +kernel
theorem dX1_labelOf_33 : decode cX1_labelOf 33 = .ok (.iload_n 1, 1) := by decide +kernel
theorem dX1_labelOf_34 : decode cX1_labelOf 34 = .ok (.invokevirtual 130, 3) := by decide +kernel
theorem dX1_labelOf_37 : decode cX1_labelOf 37 = .ok (.iadd, 1) := by decide +kernel
theorem dX1_labelOf_38 : decode cX1_labelOf 38 = .ok (.ireturn, 1) := by decide +kernel
set_option maxRecDepth 20000 in
theorem ggX1_find_X0_volumeOf : GoodIn wsX1_find wsX0_volumeOf := goodIn_r _ [6, 7, 28, 29, 30, 31] (by decide +kernel) (by decide +kernel)
set_option maxRecDepth 20000 in
theorem gX1_find_X0_volumeOf : GoodIn wsX1_find (wsV RX1 126 RX0 yX0_volumeOf wsX0_volumeOf) := goodIn_app (goodIn_of _ (by decide +kernel)) ggX1_find_X0_volumeOf
set_option maxRecDepth 20000 in
theorem ggX1_find_X0_numberOf : GoodIn wsX1_find wsX0_numberOf := goodIn_r _ [11, 12, 7, 28, 29, 30, 31] (by decide +kernel) (by decide +kernel)
set_option maxRecDepth 20000 in
theorem gX1_find_X0_numberOf : GoodIn wsX1_find (wsV RX1 130 RX0 yX0_numberOf wsX0_numberOf) := goodIn_app (goodIn_of _ (by decide +kernel)) ggX1_find_X0_numberOf
theorem dX1_find_0 : decode cX1_find 0 = .ok (.iconst 0, 1) := by decide +kernel
theorem dX1_find_1 : decode cX1_find 1 = .ok (.istore_n 3, 1) := by decide +kernel
theorem dX1_find_2 : decode cX1_find 2 = .ok (.iload_n 3, 1) := by decide +kernel
theorem dX1_find_3 : decode cX1_find 3 = .ok (.sipush 200, 3) := by decide +kernel
theorem dX1_find_6 : decode cX1_find 6 = .ok (.if_icmp .ge 35, 3) := by decide +kernel
theorem dX1_find_9 : decode cX1_find 9 = .ok (.aload_n 0, 1) := by decide +kernel
theorem dX1_find_10 : decode cX1_find 10 = .ok (.getfield 10, 3) := by decide +kernel
theorem dX1_find_13 : decode cX1_find 13 = .ok (.iload_n 3, 1) := by decide +kernel
theorem dX1_find_14 : decode cX1_find 14 = .ok (.invokevirtual 126, 3) := by decide +kernel
theorem dX1_find_17 : decode cX1_find 17 = .ok (.iload_n 1, 1) := by decide +kernel
theorem dX1_find_18 : decode cX1_find 18 = .ok (.if_icmp .ne 17, 3) := by decide +kernel
theorem dX1_find_21 : decode cX1_find 21 = .ok (.aload_n 0, 1) := by decide +kernel
theorem dX1_find_22 : decode cX1_find 22 = .ok (.getfield 10, 3) := by decide +kernel
theorem dX1_find_25 : decode cX1_find 25 = .ok (.iload_n 3, 1) := by decide +kernel
theorem dX1_find_26 : decode cX1_find 26 = .ok (.invokevirtual 130, 3) := by decide +kernel
theorem dX1_find_29 : decode cX1_find 29 = .ok (.iload_n 2, 1) := by decide +kernel
theorem dX1_find_30 : decode cX1_find 30 = .ok (.if_icmp .ne 5, 3) := by decide +kernel
theorem dX1_find_33 : decode cX1_find 33 = .ok (.iload_n 3, 1) := by decide +kernel
theorem dX1_find_34 : decode cX1_find 34 = .ok (.ireturn, 1) := by decide +kernel
theorem dX1_find_35 : decode cX1_find 35 = .ok (.iinc 3 1, 3) := by decide +kernel
theorem dX1_find_38 : decode cX1_find 38 = .ok (.goto (-36), 3) := by decide +kernel
theorem dX1_find_41 : decode cX1_find 41 = .ok (.iconst (-1), 1) := by decide +kernel
theorem dX1_find_42 : decode cX1_find 42 = .ok (.ireturn, 1) := by decide +kernel
set_option maxRecDepth 20000 in
theorem ggX1_late_X1_isLate : GoodIn wsX1_late wsX1_isLate := goodIn_r _ [5, 6, 7, 8, 9, 10, 11, 12, 4, 13, 14, 15, 16, 17, 18, 19, 20, 21, 22, 23, 24, 25, 26, 27, 28, 29, 30, 31, 32] (by decide +kernel) (by decide +kernel)
set_option maxRecDepth 20000 in
theorem gX1_late_X1_isLate : GoodIn wsX1_late (wsV RX1 117 RX1 yX1_isLate wsX1_isLate) := goodIn_app (goodIn_of _ (by decide +kernel)) ggX1_late_X1_isLate
theorem dX1_late_0 : decode cX1_late 0 = .ok (.iconst 0, 1) := by decide +kernel
theorem dX1_late_1 : decode cX1_late 1 = .ok (.istore_n 1, 1) := by decide +kernel
theorem dX1_late_2 : decode cX1_late 2 = .ok (.iconst 0, 1) := by decide +kernel
theorem dX1_late_3 : decode cX1_late 3 = .ok (.istore_n 2, 1) := by decide +kernel
theorem dX1_late_4 : decode cX1_late 4 = .ok (.iload_n 2, 1) := by decide +kernel
theorem dX1_late_5 : decode cX1_late 5 = .ok (.sipush 200, 3) := by decide +kernel
theorem dX1_late_8 : decode cX1_late 8 = .ok (.if_icmp .ge 20, 3) := by decide +kernel
theorem dX1_late_11 : decode cX1_late 11 = .ok (.aload_n 0, 1) := by decide +kernel
theorem dX1_late_12 : decode cX1_late 12 = .ok (.iload_n 2, 1) := by decide +kernel
theorem dX1_late_13 : decode cX1_late 13 = .ok (.invokevirtual 117, 3) := by decide +kernel
theorem dX1_late_16 : decode cX1_late 16 = .ok (.ifCond .eq 6, 3) := by decide +kernel
theorem dX1_late_19 : decode cX1_late 19 = .ok (.iinc 1 1, 3) := by decide +kernel
theorem dX1_late_22 : decode cX1_late 22 = .ok (.iinc 2 1, 3) := by decide +kernel
theorem dX1_late_25 : decode cX1_late 25 = .ok (.goto (-21), 3) := by decide +kernel
theorem dX1_late_28 : decode cX1_late 28 = .ok (.iload_n 1, 1) := by decide +kernel
theorem dX1_late_29 : decode cX1_late 29 = .ok (.ireturn, 1) := by decide +kernel
set_option maxRecDepth 20000 in
theorem ggX1_ranges_X1_isRangeStart : GoodIn wsX1_ranges wsX1_isRangeStart := goodIn_r _ [5, 6, 7, 8, 4, 9, 10, 11, 12, 13, 14, 15, 16, 17, 18, 19, 20, 21, 22, 23, 24, 25, 26, 27, 28, 29, 30, 31, 32, 33] (by decide +kernel) (by decide +kernel)
set_option maxRecDepth 20000 in
theorem gX1_ranges_X1_isRangeStart : GoodIn wsX1_ranges (wsV RX1 133 RX1 yX1_isRangeStart wsX1_isRangeStart) := goodIn_app (goodIn_of _ (by decide +kernel)) ggX1_ranges_X1_isRangeStart
theorem dX1_ranges_0 : decode cX1_ranges 0 = .ok (.iconst 0, 1) := by decide +kernel
theorem dX1_ranges_1 : decode cX1_ranges 1 = .ok (.istore_n 1, 1) := by decide +kernel
theorem dX1_ranges_2 : decode cX1_ranges 2 = .ok (.iconst 0, 1) := by decide +kernel
theorem dX1_ranges_3 : decode cX1_ranges 3 = .ok (.istore_n 2, 1) := by decide +kernel
theorem dX1_ranges_4 : decode cX1_ranges 4 = .ok (.iload_n 2, 1) := by decide +kernel
theorem dX1_ranges_5 : decode cX1_ranges 5 = .ok (.sipush 200, 3) := by decide +kernel
theorem dX1_ranges_8 : decode cX1_ranges 8 = .ok (.if_icmp .ge 20, 3) := by decide +kernel
theorem dX1_ranges_11 : decode cX1_ranges 11 = .ok (.aload_n 0, 1) := by decide +kernel
theorem dX1_ranges_12 : decode cX1_ranges 12 = .ok (.iload_n 2, 1) := by decide +kernel
theorem dX1_ranges_13 : decode cX1_ranges 13 = .ok (.invokevirtual 133, 3) := by decide +kernel
theorem dX1_ranges_16 : decode cX1_ranges 16 = .ok (.ifCond .eq 6, 3) := by decide +kernel
theorem dX1_ranges_19 : decode cX1_ranges 19 = .ok (.iinc 1 1, 3) := by decide +kernel
theorem dX1_ranges_22 : decode cX1_ranges 22 = .ok (.iinc 2 1, 3) := by decide +kernel
theorem dX1_ranges_25 : decode cX1_ranges 25 = .ok (.goto (-21), 3) := by decide +kernel
theorem dX1_ranges_28 : decode cX1_ranges 28 = .ok (.iload_n 1, 1) := by decide +kernel
theorem dX1_ranges_29 : decode cX1_ranges 29 = .ok (.ireturn, 1) := by decide +kernel
set_option maxRecDepth 20000 in
theorem ggX1_rangeAt_X1_startOfRange : GoodIn wsX1_rangeAt wsX1_startOfRange := goodIn_r _ [7, 8, 9, 10, 6, 11, 12, 13, 14, 15, 16, 17, 18, 19, 20, 21, 22, 23, 24, 29, 30, 31, 32, 33, 34, 35, 36, 37, 38, 39, 40, 41, 42, 43] (by decide +kernel) (by decide +kernel)
set_option maxRecDepth 20000 in
theorem gX1_rangeAt_X1_startOfRange : GoodIn wsX1_rangeAt (wsV RX1 136 RX1 yX1_startOfRange wsX1_startOfRange) := goodIn_app (goodIn_of _ (by decide +kernel)) ggX1_rangeAt_X1_startOfRange
set_option maxRecDepth 20000 in
theorem ggX1_rangeAt_X1_endOfRange : GoodIn wsX1_rangeAt wsX1_endOfRange := goodIn_r _ [28, 12, 13, 14, 6, 15, 16, 17, 18, 19, 20, 21, 22, 23, 24, 29, 30, 31, 32, 33, 34, 35, 36, 37, 38, 39, 40, 41, 42, 43] (by decide +kernel) (by decide +kernel)
set_option maxRecDepth 20000 in
theorem gX1_rangeAt_X1_endOfRange : GoodIn wsX1_rangeAt (wsV RX1 141 RX1 yX1_endOfRange wsX1_endOfRange) := goodIn_app (goodIn_of _ (by decide +kernel)) ggX1_rangeAt_X1_endOfRange
theorem dX1_rangeAt_0 : decode cX1_rangeAt 0 = .ok (.aload_n 0, 1) := by decide +kernel
theorem dX1_rangeAt_1 : decode cX1_rangeAt 1 = .ok (.iload_n 1, 1) := by decide +kernel
theorem dX1_rangeAt_2 : decode cX1_rangeAt 2 = .ok (.invokevirtual 136, 3) := by decide +kernel
theorem dX1_rangeAt_5 : decode cX1_rangeAt 5 = .ok (.istore_n 2, 1) := by decide +kernel
theorem dX1_rangeAt_6 : decode cX1_rangeAt 6 = .ok (.iload_n 2, 1) := by decide +kernel
theorem dX1_rangeAt_7 : decode cX1_rangeAt 7 = .ok (.iconst (-1), 1) := by decide +kernel
theorem dX1_rangeAt_8 : decode cX1_rangeAt 8 = .ok (.if_icmp .ne 13, 3) := by decide +kernel
theorem dX1_rangeAt_11 : decode cX1_rangeAt 11 = .ok (.new 86, 3) := by decide +kernel
theorem dX1_rangeAt_14 : decode cX1_rangeAt 14 = .ok (.dup, 1) := by decide +kernel
theorem dX1_rangeAt_15 : decode cX1_rangeAt 15 = .ok (.ldc 139, 2) := by decide +kernel
theorem dX1_rangeAt_17 : decode cX1_rangeAt 17 = .ok (.invokespecial 90, 3) := by decide +kernel
theorem dX1_rangeAt_20 : decode cX1_rangeAt 20 = .ok (.athrow, 1) := by decide +kernel
theorem dX1_rangeAt_21 : decode cX1_rangeAt 21 = .ok (.sipush 1000, 3) := by decide +kernel
theorem dX1_rangeAt_24 : decode cX1_rangeAt 24 = .ok (.iload_n 2, 1) := by decide +kernel
theorem dX1_rangeAt_25 : decode cX1_rangeAt 25 = .ok (.imul, 1) := by decide +kernel
theorem dX1_rangeAt_26 : decode cX1_rangeAt 26 = .ok (.aload_n 0, 1) := by decide +kernel
theorem dX1_rangeAt_27 : decode cX1_rangeAt 27 = .ok (.iload_n 2, 1) := by decide +kernel
theorem dX1_rangeAt_28 : decode cX1_rangeAt 28 = .ok (.invokevirtual 141, 3) := by decide +kernel
theorem dX1_rangeAt_31 : decode cX1_rangeAt 31 = .ok (.iadd, 1) := by decide +kernel
theorem dX1_rangeAt_32 : decode cX1_rangeAt 32 = .ok (.ireturn, 1) := by decide +kernel
set_option maxRecDepth 20000 in
theorem ggX1_isHeld_X1_isRangeStart : GoodIn wsX1_isHeld wsX1_isRangeStart := goodIn_r _ [5, 6, 7, 8, 4, 9, 10, 11, 12, 13, 14, 15, 16, 17, 18, 26, 27, 28, 29, 30, 31, 32, 33, 34, 35, 36, 37, 38, 39, 40] (by decide +kernel) (by decide +kernel)
set_option maxRecDepth 20000 in
theorem gX1_isHeld_X1_isRangeStart : GoodIn wsX1_isHeld (wsV RX1 133 RX1 yX1_isRangeStart wsX1_isRangeStart) := goodIn_app (goodIn_of _ (by decide +kernel)) ggX1_isHeld_X1_isRangeStart
set_option maxRecDepth 20000 in
theorem ggX1_isHeld_X1_endOfRange : GoodIn wsX1_isHeld wsX1_endOfRange := goodIn_r _ [22, 6, 7, 8, 4, 9, 10, 11, 12, 13, 14, 15, 16, 17, 18, 26, 27, 28, 29, 30, 31, 32, 33, 34, 35, 36, 37, 38, 39, 40] (by decide +kernel) (by decide +kernel)
set_option maxRecDepth 20000 in
theorem gX1_isHeld_X1_endOfRange : GoodIn wsX1_isHeld (wsV RX1 141 RX1 yX1_endOfRange wsX1_endOfRange) := goodIn_app (goodIn_of _ (by decide +kernel)) ggX1_isHeld_X1_endOfRange
set_option maxRecDepth 20000 in
theorem ggX1_isHeld_X1_isWithin : GoodIn wsX1_isHeld wsX1_isWithin := goodIn_r _ [25] (by decide +kernel) (by decide +kernel)
set_option maxRecDepth 20000 in
theorem gX1_isHeld_X1_isWithin : GoodIn wsX1_isHeld (va_wsS RX1 46 yX1_isWithin wsX1_isWithin) := goodIn_app (goodIn_of _ (by decide +kernel)) ggX1_isHeld_X1_isWithin
theorem dX1_isHeld_0 : decode cX1_isHeld 0 = .ok (.iconst 0, 1) := by decide +kernel
theorem dX1_isHeld_1 : decode cX1_isHeld 1 = .ok (.istore_n 2, 1) := by decide +kernel
theorem dX1_isHeld_2 : decode cX1_isHeld 2 = .ok (.iload_n 2, 1) := by decide +kernel
theorem dX1_isHeld_3 : decode cX1_isHeld 3 = .ok (.sipush 200, 3) := by decide +kernel
theorem dX1_isHeld_6 : decode cX1_isHeld 6 = .ok (.if_icmp .ge 32, 3) := by decide +kernel
theorem dX1_isHeld_9 : decode cX1_isHeld 9 = .ok (.aload_n 0, 1) := by decide +kernel
theorem dX1_isHeld_10 : decode cX1_isHeld 10 = .ok (.iload_n 2, 1) := by decide +kernel
theorem dX1_isHeld_11 : decode cX1_isHeld 11 = .ok (.invokevirtual 133, 3) := by decide +kernel
theorem dX1_isHeld_14 : decode cX1_isHeld 14 = .ok (.ifCond .eq 18, 3) := by decide +kernel
theorem dX1_isHeld_17 : decode cX1_isHeld 17 = .ok (.iload_n 1, 1) := by decide +kernel
theorem dX1_isHeld_18 : decode cX1_isHeld 18 = .ok (.iload_n 2, 1) := by decide +kernel
theorem dX1_isHeld_19 : decode cX1_isHeld 19 = .ok (.aload_n 0, 1) := by decide +kernel
theorem dX1_isHeld_20 : decode cX1_isHeld 20 = .ok (.iload_n 2, 1) := by decide +kernel
theorem dX1_isHeld_21 : decode cX1_isHeld 21 = .ok (.invokevirtual 141, 3) := by decide +kernel
theorem dX1_isHeld_24 : decode cX1_isHeld 24 = .ok (.invokestatic 46, 3) := by decide +kernel
theorem dX1_isHeld_27 : decode cX1_isHeld 27 = .ok (.ifCond .eq 5, 3) := by decide +kernel
theorem dX1_isHeld_30 : decode cX1_isHeld 30 = .ok (.iconst 1, 1) := by decide +kernel
theorem dX1_isHeld_31 : decode cX1_isHeld 31 = .ok (.ireturn, 1) := by decide +kernel
theorem dX1_isHeld_32 : decode cX1_isHeld 32 = .ok (.iinc 2 1, 3) := by decide +kernel
theorem dX1_isHeld_35 : decode cX1_isHeld 35 = .ok (.goto (-33), 3) := by decide +kernel
theorem dX1_isHeld_38 : decode cX1_isHeld 38 = .ok (.iconst 0, 1) := by decide +kernel
theorem dX1_isHeld_39 : decode cX1_isHeld 39 = .ok (.ireturn, 1) := by decide +kernel
set_option maxRecDepth 20000 in
theorem ggX1_give_X1_isIssue : GoodIn wsX1_give wsX1_isIssue := goodIn_r _ [8] (by decide +kernel) (by decide +kernel)
set_option maxRecDepth 20000 in
theorem gX1_give_X1_isIssue : GoodIn wsX1_give (va_wsS RX1 82 yX1_isIssue wsX1_isIssue) := goodIn_app (goodIn_of _ (by decide +kernel)) ggX1_give_X1_isIssue
set_option maxRecDepth 20000 in
theorem ggX1_give_X1_isWithin : GoodIn wsX1_give wsX1_isWithin := goodIn_r _ [11] (by decide +kernel) (by decide +kernel)
set_option maxRecDepth 20000 in
theorem gX1_give_X1_isWithin : GoodIn wsX1_give (va_wsS RX1 46 yX1_isWithin wsX1_isWithin) := goodIn_app (goodIn_of _ (by decide +kernel)) ggX1_give_X1_isWithin
theorem dX1_give_0 : decode cX1_give 0 = .ok (.iload_n 1, 1) := by decide +kernel
theorem dX1_give_1 : decode cX1_give 1 = .ok (.invokestatic 82, 3) := by decide +kernel
theorem dX1_give_4 : decode cX1_give 4 = .ok (.ifCond .ne 13, 3) := by decide +kernel
theorem dX1_give_7 : decode cX1_give 7 = .ok (.new 50, 3) := by decide +kernel
theorem dX1_give_10 : decode cX1_give 10 = .ok (.dup, 1) := by decide +kernel
theorem dX1_give_11 : decode cX1_give 11 = .ok (.ldc 144, 2) := by decide +kernel
theorem dX1_give_13 : decode cX1_give 13 = .ok (.invokespecial 54, 3) := by decide +kernel
theorem dX1_give_16 : decode cX1_give 16 = .ok (.athrow, 1) := by decide +kernel
theorem dX1_give_17 : decode cX1_give 17 = .ok (.iload_n 2, 1) := by decide +kernel
theorem dX1_give_18 : decode cX1_give 18 = .ok (.iload_n 1, 1) := by decide +kernel
theorem dX1_give_19 : decode cX1_give 19 = .ok (.sipush 199, 3) := by decide +kernel
theorem dX1_give_22 : decode cX1_give 22 = .ok (.invokestatic 46, 3) := by decide +kernel
theorem dX1_give_25 : decode cX1_give 25 = .ok (.ifCond .ne 13, 3) := by decide +kernel
theorem dX1_give_28 : decode cX1_give 28 = .ok (.new 50, 3) := by decide +kernel
theorem dX1_give_31 : decode cX1_give 31 = .ok (.dup, 1) := by decide +kernel
theorem dX1_give_32 : decode cX1_give 32 = .ok (.ldc 146, 2) := by decide +kernel
theorem dX1_give_34 : decode cX1_give 34 = .ok (.invokespecial 54, 3) := by decide +kernel
theorem dX1_give_37 : decode cX1_give 37 = .ok (.athrow, 1) := by decide +kernel
theorem dX1_give_38 : decode cX1_give 38 = .ok (.iload_n 1, 1) := by decide +kernel
theorem dX1_give_39 : decode cX1_give 39 = .ok (.istore_n 3, 1) := by decide +kernel
theorem dX1_give_40 : decode cX1_give 40 = .ok (.iload_n 3, 1) := by decide +kernel
theorem dX1_give_41 : decode cX1_give 41 = .ok (.iload_n 2, 1) := by decide +kernel
theorem dX1_give_42 : decode cX1_give 42 = .ok (.if_icmp .gt 35, 3) := by decide +kernel
theorem dX1_give_45 : decode cX1_give 45 = .ok (.aload_n 0, 1) := by decide +kernel
theorem dX1_give_46 : decode cX1_give 46 = .ok (.getfield 36, 3) := by decide +kernel
theorem dX1_give_49 : decode cX1_give 49 = .ok (.iload_n 3, 1) := by decide +kernel
theorem dX1_give_50 : decode cX1_give 50 = .ok (.baload, 1) := by decide +kernel
theorem dX1_give_51 : decode cX1_give 51 = .ok (.ifCond .ne 20, 3) := by decide +kernel
theorem dX1_give_54 : decode cX1_give 54 = .ok (.aload_n 0, 1) := by decide +kernel
theorem dX1_give_55 : decode cX1_give 55 = .ok (.getfield 36, 3) := by decide +kernel
theorem dX1_give_58 : decode cX1_give 58 = .ok (.iload_n 3, 1) := by decide +kernel
theorem dX1_give_59 : decode cX1_give 59 = .ok (.iconst 1, 1) := by decide +kernel
theorem dX1_give_60 : decode cX1_give 60 = .ok (.bastore, 1) := by decide +kernel
theorem dX1_give_61 : decode cX1_give 61 = .ok (.aload_n 0, 1) := by decide +kernel
theorem dX1_give_62 : decode cX1_give 62 = .ok (.dup, 1) := by decide +kernel
theorem dX1_give_63 : decode cX1_give 63 = .ok (.getfield 148, 3) := by decide +kernel
theorem dX1_give_66 : decode cX1_give 66 = .ok (.iconst 1, 1) := by decide +kernel
theorem dX1_give_67 : decode cX1_give 67 = .ok (.iadd, 1) := by decide +kernel
theorem dX1_give_68 : decode cX1_give 68 = .ok (.putfield 148, 3) := by decide +kernel
theorem dX1_give_71 : decode cX1_give 71 = .ok (.iinc 3 1, 3) := by decide +kernel
theorem dX1_give_74 : decode cX1_give 74 = .ok (.goto (-34), 3) := by decide +kernel
theorem dX1_give_77 : decode cX1_give 77 = .ok (.aload_n 0, 1) := by decide +kernel
theorem dX1_give_78 : decode cX1_give 78 = .ok (.getfield 148, 3) := by decide +kernel
theorem dX1_give_81 : decode cX1_give 81 = .ok (.ireturn, 1) := by decide +kernel
set_option maxRecDepth 20000 in
theorem ggX1_only_X1_isInHouse : GoodIn wsX1_only wsX1_isInHouse := goodIn_r _ [8, 9, 10, 11, 12, 7, 13, 14, 15, 16, 17, 18, 19, 20, 21, 22, 23, 24, 25, 26, 27, 28, 29, 30, 31, 32] (by decide +kernel) (by decide +kernel)
set_option maxRecDepth 20000 in
theorem gX1_only_X1_isInHouse : GoodIn wsX1_only (wsV RX1 153 RX1 yX1_isInHouse wsX1_isInHouse) := goodIn_app (goodIn_of _ (by decide +kernel)) ggX1_only_X1_isInHouse
theorem dX1_only_0 : decode cX1_only 0 = .ok (.iload_n 2, 1) := by decide +kernel
theorem dX1_only_1 : decode cX1_only 1 = .ok (.ifCond .ge 13, 3) := by decide +kernel
theorem dX1_only_4 : decode cX1_only 4 = .ok (.new 50, 3) := by decide +kernel
theorem dX1_only_7 : decode cX1_only 7 = .ok (.dup, 1) := by decide +kernel
theorem dX1_only_8 : decode cX1_only 8 = .ok (.ldc 151, 2) := by decide +kernel
theorem dX1_only_10 : decode cX1_only 10 = .ok (.invokespecial 54, 3) := by decide +kernel
theorem dX1_only_13 : decode cX1_only 13 = .ok (.athrow, 1) := by decide +kernel
theorem dX1_only_14 : decode cX1_only 14 = .ok (.iconst 0, 1) := by decide +kernel
theorem dX1_only_15 : decode cX1_only 15 = .ok (.istore_n 3, 1) := by decide +kernel
theorem dX1_only_16 : decode cX1_only 16 = .ok (.iconst 0, 1) := by decide +kernel
theorem dX1_only_17 : decode cX1_only 17 = .ok (.istore 4, 2) := by decide +kernel
theorem dX1_only_19 : decode cX1_only 19 = .ok (.iload 4, 2) := by decide +kernel
theorem dX1_only_21 : decode cX1_only 21 = .ok (.sipush 200, 3) := by decide +kernel
theorem dX1_only_24 : decode cX1_only 24 = .ok (.if_icmp .ge 46, 3) := by decide +kernel
theorem dX1_only_27 : decode cX1_only 27 = .ok (.aload_n 0, 1) := by decide +kernel
theorem dX1_only_28 : decode cX1_only 28 = .ok (.iload 4, 2) := by decide +kernel
theorem dX1_only_30 : decode cX1_only 30 = .ok (.invokevirtual 153, 3) := by decide +kernel
theorem dX1_only_33 : decode cX1_only 33 = .ok (.istore 5, 2) := by decide +kernel
theorem dX1_only_35 : decode cX1_only 35 = .ok (.iload 5, 2) := by decide +kernel
theorem dX1_only_37 : decode cX1_only 37 = .ok (.aload_n 0, 1) := by decide +kernel
theorem dX1_only_38 : decode cX1_only 38 = .ok (.getfield 36, 3) := by decide +kernel
theorem dX1_only_41 : decode cX1_only 41 = .ok (.iload 4, 2) := by decide +kernel
theorem dX1_only_43 : decode cX1_only 43 = .ok (.baload, 1) := by decide +kernel
theorem dX1_only_44 : decode cX1_only 44 = .ok (.if_icmp .eq 20, 3) := by decide +kernel
theorem dX1_only_47 : decode cX1_only 47 = .ok (.iload 5, 2) := by decide +kernel
theorem dX1_only_49 : decode cX1_only 49 = .ok (.iload_n 1, 1) := by decide +kernel
theorem dX1_only_50 : decode cX1_only 50 = .ok (.if_icmp .ne 14, 3) := by decide +kernel
theorem dX1_only_53 : decode cX1_only 53 = .ok (.iload_n 3, 1) := by decide +kernel
theorem dX1_only_54 : decode cX1_only 54 = .ok (.iload_n 2, 1) := by decide +kernel
theorem dX1_only_55 : decode cX1_only 55 = .ok (.if_icmp .ne 6, 3) := by decide +kernel
theorem dX1_only_58 : decode cX1_only 58 = .ok (.iload 4, 2) := by decide +kernel
theorem dX1_only_60 : decode cX1_only 60 = .ok (.ireturn, 1) := by decide +kernel
theorem dX1_only_61 : decode cX1_only 61 = .ok (.iinc 3 1, 3) := by decide +kernel
theorem dX1_only_64 : decode cX1_only 64 = .ok (.iinc 4 1, 3) := by decide +kernel
theorem dX1_only_67 : decode cX1_only 67 = .ok (.goto (-48), 3) := by decide +kernel
theorem dX1_only_70 : decode cX1_only 70 = .ok (.iconst (-1), 1) := by decide +kernel
theorem dX1_only_71 : decode cX1_only 71 = .ok (.ireturn, 1) := by decide +kernel
theorem dX1_isWithin_0 : decode cX1_isWithin 0 = .ok (.iload_n 0, 1) := by decide +kernel
theorem dX1_isWithin_1 : decode cX1_isWithin 1 = .ok (.iload_n 1, 1) := by decide +kernel
theorem dX1_isWithin_2 : decode cX1_isWithin 2 = .ok (.if_icmp .lt 12, 3) := by decide +kernel
theorem dX1_isWithin_5 : decode cX1_isWithin 5 = .ok (.iload_n 0, 1) := by decide +kernel
theorem dX1_isWithin_6 : decode cX1_isWithin 6 = .ok (.iload_n 2, 1) := by decide +kernel
theorem dX1_isWithin_7 : decode cX1_isWithin 7 = .ok (.if_icmp .gt 7, 3) := by decide +kernel
theorem dX1_isWithin_10 : decode cX1_isWithin 10 = .ok (.iconst 1, 1) := by decide +kernel
theorem dX1_isWithin_11 : decode cX1_isWithin 11 = .ok (.goto 4, 3) := by decide +kernel
theorem dX1_isWithin_14 : decode cX1_isWithin 14 = .ok (.iconst 0, 1) := by decide +kernel
theorem dX1_isWithin_15 : decode cX1_isWithin 15 = .ok (.ireturn, 1) := by decide +kernel
theorem dX1_isIssue_0 : decode cX1_isIssue 0 = .ok (.iload_n 0, 1) := by decide +kernel
theorem dX1_isIssue_1 : decode cX1_isIssue 1 = .ok (.ifCond .lt 14, 3) := by decide +kernel
theorem dX1_isIssue_4 : decode cX1_isIssue 4 = .ok (.iload_n 0, 1) := by decide +kernel
theorem dX1_isIssue_5 : decode cX1_isIssue 5 = .ok (.sipush 200, 3) := by decide +kernel
theorem dX1_isIssue_8 : decode cX1_isIssue 8 = .ok (.if_icmp .ge 7, 3) := by decide +kernel
theorem dX1_isIssue_11 : decode cX1_isIssue 11 = .ok (.iconst 1, 1) := by decide +kernel
theorem dX1_isIssue_12 : decode cX1_isIssue 12 = .ok (.goto 4, 3) := by decide +kernel
theorem dX1_isIssue_15 : decode cX1_isIssue 15 = .ok (.iconst 0, 1) := by decide +kernel
theorem dX1_isIssue_16 : decode cX1_isIssue 16 = .ok (.ireturn, 1) := by decide +kernel
set_option maxRecDepth 20000 in
theorem ggX1_isForetold_X1_isIssue : GoodIn wsX1_isForetold wsX1_isIssue := goodIn_r _ [5] (by decide +kernel) (by decide +kernel)
set_option maxRecDepth 20000 in
theorem gX1_isForetold_X1_isIssue : GoodIn wsX1_isForetold (va_wsS RX1 82 yX1_isIssue wsX1_isIssue) := goodIn_app (goodIn_of _ (by decide +kernel)) ggX1_isForetold_X1_isIssue
theorem dX1_isForetold_0 : decode cX1_isForetold 0 = .ok (.iload_n 1, 1) := by decide +kernel
theorem dX1_isForetold_1 : decode cX1_isForetold 1 = .ok (.invokestatic 82, 3) := by decide +kernel
theorem dX1_isForetold_4 : decode cX1_isForetold 4 = .ok (.ifCond .eq 15, 3) := by decide +kernel
theorem dX1_isForetold_7 : decode cX1_isForetold 7 = .ok (.iload_n 1, 1) := by decide +kernel
theorem dX1_isForetold_8 : decode cX1_isForetold 8 = .ok (.aload_n 0, 1) := by decide +kernel
theorem dX1_isForetold_9 : decode cX1_isForetold 9 = .ok (.getfield 40, 3) := by decide +kernel
theorem dX1_isForetold_12 : decode cX1_isForetold 12 = .ok (.if_icmp .ge 7, 3) := by decide +kernel
theorem dX1_isForetold_15 : decode cX1_isForetold 15 = .ok (.iconst 1, 1) := by decide +kernel
theorem dX1_isForetold_16 : decode cX1_isForetold 16 = .ok (.goto 4, 3) := by decide +kernel
theorem dX1_isForetold_19 : decode cX1_isForetold 19 = .ok (.iconst 0, 1) := by decide +kernel
theorem dX1_isForetold_20 : decode cX1_isForetold 20 = .ok (.ireturn, 1) := by decide +kernel
set_option maxRecDepth 20000 in
theorem ggX1_nextDay_X1_isIssue : GoodIn wsX1_nextDay wsX1_isIssue := goodIn_r _ [8] (by decide +kernel) (by decide +kernel)
set_option maxRecDepth 20000 in
theorem gX1_nextDay_X1_isIssue : GoodIn wsX1_nextDay (va_wsS RX1 82 yX1_isIssue wsX1_isIssue) := goodIn_app (goodIn_of _ (by decide +kernel)) ggX1_nextDay_X1_isIssue
set_option maxRecDepth 20000 in
theorem ggX1_nextDay_X0_dayBehind : GoodIn wsX1_nextDay wsX0_dayBehind := goodIn_r _ [13, 14, 15, 16, 17, 18, 19, 20, 21, 12, 22, 23, 39, 40, 41, 42] (by decide +kernel) (by decide +kernel)
set_option maxRecDepth 20000 in
theorem gX1_nextDay_X0_dayBehind : GoodIn wsX1_nextDay (wsV RX1 156 RX0 yX0_dayBehind wsX0_dayBehind) := goodIn_app (goodIn_of _ (by decide +kernel)) ggX1_nextDay_X0_dayBehind
theorem dX1_nextDay_0 : decode cX1_nextDay 0 = .ok (.aload_n 0, 1) := by decide +kernel
theorem dX1_nextDay_1 : decode cX1_nextDay 1 = .ok (.getfield 40, 3) := by decide +kernel
theorem dX1_nextDay_4 : decode cX1_nextDay 4 = .ok (.iconst 1, 1) := by decide +kernel
theorem dX1_nextDay_5 : decode cX1_nextDay 5 = .ok (.isub, 1) := by decide +kernel
theorem dX1_nextDay_6 : decode cX1_nextDay 6 = .ok (.istore_n 1, 1) := by decide +kernel
theorem dX1_nextDay_7 : decode cX1_nextDay 7 = .ok (.iload_n 1, 1) := by decide +kernel
theorem dX1_nextDay_8 : decode cX1_nextDay 8 = .ok (.invokestatic 82, 3) := by decide +kernel
theorem dX1_nextDay_11 : decode cX1_nextDay 11 = .ok (.ifCond .eq 23, 3) := by decide +kernel
theorem dX1_nextDay_14 : decode cX1_nextDay 14 = .ok (.aload_n 0, 1) := by decide +kernel
theorem dX1_nextDay_15 : decode cX1_nextDay 15 = .ok (.getfield 10, 3) := by decide +kernel
theorem dX1_nextDay_18 : decode cX1_nextDay 18 = .ok (.aload_n 0, 1) := by decide +kernel
theorem dX1_nextDay_19 : decode cX1_nextDay 19 = .ok (.getfield 23, 3) := by decide +kernel
theorem dX1_nextDay_22 : decode cX1_nextDay 22 = .ok (.iload_n 1, 1) := by decide +kernel
theorem dX1_nextDay_23 : decode cX1_nextDay 23 = .ok (.iaload, 1) := by decide +kernel
theorem dX1_nextDay_24 : decode cX1_nextDay 24 = .ok (.aload_n 0, 1) := by decide +kernel
theorem dX1_nextDay_25 : decode cX1_nextDay 25 = .ok (.getfield 123, 3) := by decide +kernel
theorem dX1_nextDay_28 : decode cX1_nextDay 28 = .ok (.invokevirtual 156, 3) := by decide +kernel
theorem dX1_nextDay_31 : decode cX1_nextDay 31 = .ok (.goto 4, 3) := by decide +kernel
theorem dX1_nextDay_34 : decode cX1_nextDay 34 = .ok (.iconst 0, 1) := by decide +kernel
theorem dX1_nextDay_35 : decode cX1_nextDay 35 = .ok (.ireturn, 1) := by decide +kernel
set_option maxRecDepth 20000 in
theorem ggX1_foretellNext_X1_isIssue : GoodIn wsX1_foretellNext wsX1_isIssue := goodIn_r _ [7] (by decide +kernel) (by decide +kernel)
set_option maxRecDepth 20000 in
theorem gX1_foretellNext_X1_isIssue : GoodIn wsX1_foretellNext (va_wsS RX1 82 yX1_isIssue wsX1_isIssue) := goodIn_app (goodIn_of _ (by decide +kernel)) ggX1_foretellNext_X1_isIssue
set_option maxRecDepth 20000 in
theorem ggX1_foretellNext_X1_nextDay : GoodIn wsX1_foretellNext wsX1_nextDay := goodIn_r _ [11, 1, 12, 2, 3, 4, 5, 6, 7, 13, 14, 15, 16, 17, 18, 19, 20, 21, 22, 23, 24, 25, 26, 27, 28, 29, 30, 31, 32, 33, 34, 35, 36, 37, 38, 39, 40, 41, 42, 43, 44, 45, 46] (by decide +kernel) (by decide +kernel)
set_option maxRecDepth 20000 in
theorem gX1_foretellNext_X1_nextDay : GoodIn wsX1_foretellNext (wsV RX1 160 RX1 yX1_nextDay wsX1_nextDay) := goodIn_app (goodIn_of _ (by decide +kernel)) ggX1_foretellNext_X1_nextDay
theorem dX1_foretellNext_0 : decode cX1_foretellNext 0 = .ok (.aload_n 0, 1) := by decide +kernel
theorem dX1_foretellNext_1 : decode cX1_foretellNext 1 = .ok (.getfield 40, 3) := by decide +kernel
theorem dX1_foretellNext_4 : decode cX1_foretellNext 4 = .ok (.invokestatic 82, 3) := by decide +kernel
theorem dX1_foretellNext_7 : decode cX1_foretellNext 7 = .ok (.ifCond .eq 31, 3) := by decide +kernel
theorem dX1_foretellNext_10 : decode cX1_foretellNext 10 = .ok (.aload_n 0, 1) := by decide +kernel
theorem dX1_foretellNext_11 : decode cX1_foretellNext 11 = .ok (.getfield 23, 3) := by decide +kernel
theorem dX1_foretellNext_14 : decode cX1_foretellNext 14 = .ok (.aload_n 0, 1) := by decide +kernel
theorem dX1_foretellNext_15 : decode cX1_foretellNext 15 = .ok (.getfield 40, 3) := by decide +kernel
theorem dX1_foretellNext_18 : decode cX1_foretellNext 18 = .ok (.aload_n 0, 1) := by decide +kernel
theorem dX1_foretellNext_19 : decode cX1_foretellNext 19 = .ok (.invokevirtual 160, 3) := by decide +kernel
theorem dX1_foretellNext_22 : decode cX1_foretellNext 22 = .ok (.iastore, 1) := by decide +kernel
theorem dX1_foretellNext_23 : decode cX1_foretellNext 23 = .ok (.aload_n 0, 1) := by decide +kernel
theorem dX1_foretellNext_24 : decode cX1_foretellNext 24 = .ok (.iconst 0, 1) := by decide +kernel
theorem dX1_foretellNext_25 : decode cX1_foretellNext 25 = .ok (.putfield 123, 3) := by decide +kernel
theorem dX1_foretellNext_28 : decode cX1_foretellNext 28 = .ok (.aload_n 0, 1) := by decide +kernel
theorem dX1_foretellNext_29 : decode cX1_foretellNext 29 = .ok (.dup, 1) := by decide +kernel
theorem dX1_foretellNext_30 : decode cX1_foretellNext 30 = .ok (.getfield 40, 3) := by decide +kernel
theorem dX1_foretellNext_33 : decode cX1_foretellNext 33 = .ok (.iconst 1, 1) := by decide +kernel
theorem dX1_foretellNext_34 : decode cX1_foretellNext 34 = .ok (.iadd, 1) := by decide +kernel
theorem dX1_foretellNext_35 : decode cX1_foretellNext 35 = .ok (.putfield 40, 3) := by decide +kernel
theorem dX1_foretellNext_38 : decode cX1_foretellNext 38 = .ok (.return_, 1) := by decide +kernel
set_option maxRecDepth 20000 in
theorem ggX1_foretellUpTo_X1_foretellNext : GoodIn wsX1_foretellUpTo wsX1_foretellNext := goodIn_r _ [6, 1, 7, 8, 9, 10, 5, 11, 12, 13, 14, 15, 16, 17, 18, 19, 20, 21, 22, 23, 24, 25, 26, 27, 28, 29, 30, 31, 32, 33, 34, 35, 36, 37, 38, 39, 40, 41, 42, 43, 44, 45, 46, 47, 48, 49, 50] (by decide +kernel) (by decide +kernel)
set_option maxRecDepth 20000 in
theorem gX1_foretellUpTo_X1_foretellNext : GoodIn wsX1_foretellUpTo (wsV RX1 164 RX1 yX1_foretellNext wsX1_foretellNext) := goodIn_app (goodIn_of _ (by decide +kernel)) ggX1_foretellUpTo_X1_foretellNext
theorem dX1_foretellUpTo_0 : decode cX1_foretellUpTo 0 = .ok (.aload_n 0, 1) := by decide +kernel
theorem dX1_foretellUpTo_1 : decode cX1_foretellUpTo 1 = .ok (.getfield 40, 3) := by decide +kernel
theorem dX1_foretellUpTo_4 : decode cX1_foretellUpTo 4 = .ok (.istore_n 2, 1) := by decide +kernel
theorem dX1_foretellUpTo_5 : decode cX1_foretellUpTo 5 = .ok (.iload_n 2, 1) := by decide +kernel
theorem dX1_foretellUpTo_6 : decode cX1_foretellUpTo 6 = .ok (.iload_n 1, 1) := by decide +kernel
theorem dX1_foretellUpTo_7 : decode cX1_foretellUpTo 7 = .ok (.if_icmp .gt 20, 3) := by decide +kernel
theorem dX1_foretellUpTo_10 : decode cX1_foretellUpTo 10 = .ok (.iload_n 2, 1) := by decide +kernel
theorem dX1_foretellUpTo_11 : decode cX1_foretellUpTo 11 = .ok (.sipush 200, 3) := by decide +kernel
theorem dX1_foretellUpTo_14 : decode cX1_foretellUpTo 14 = .ok (.if_icmp .ge 13, 3) := by decide +kernel
theorem dX1_foretellUpTo_17 : decode cX1_foretellUpTo 17 = .ok (.aload_n 0, 1) := by decide +kernel
theorem dX1_foretellUpTo_18 : decode cX1_foretellUpTo 18 = .ok (.invokevirtual 164, 3) := by decide +kernel
theorem dX1_foretellUpTo_21 : decode cX1_foretellUpTo 21 = .ok (.iinc 2 1, 3) := by decide +kernel
theorem dX1_foretellUpTo_24 : decode cX1_foretellUpTo 24 = .ok (.goto (-19), 3) := by decide +kernel
theorem dX1_foretellUpTo_27 : decode cX1_foretellUpTo 27 = .ok (.return_, 1) := by decide +kernel
set_option maxRecDepth 20000 in
theorem ggX1_foretellDueIssues_X1_nextDay : GoodIn wsX1_foretellDueIssues wsX1_nextDay := goodIn_r _ [7, 1, 8, 9, 10, 11, 12, 6, 13, 14, 15, 16, 17, 18, 19, 20, 21, 22, 23, 24, 25, 26, 27, 28, 33, 34, 35, 36, 37, 38, 39, 40, 41, 42, 43, 44, 45, 46, 47, 48, 49, 50, 51] (by decide +kernel) (by decide +kernel)
set_option maxRecDepth 20000 in
theorem gX1_foretellDueIssues_X1_nextDay : GoodIn wsX1_foretellDueIssues (wsV RX1 160 RX1 yX1_nextDay wsX1_nextDay) := goodIn_app (goodIn_of _ (by decide +kernel)) ggX1_foretellDueIssues_X1_nextDay
set_option maxRecDepth 20000 in
theorem ggX1_foretellDueIssues_X1_foretellNext : GoodIn wsX1_foretellDueIssues wsX1_foretellNext := goodIn_r _ [32, 1, 9, 10, 11, 12, 6, 13, 3, 4, 5, 7, 8, 14, 15, 16, 17, 18, 19, 20, 21, 22, 23, 24, 25, 26, 27, 28, 33, 34, 35, 36, 37, 38, 39, 40, 41, 42, 43, 44, 45, 46, 47, 48, 49, 50, 51] (by decide +kernel) (by decide +kernel)
set_option maxRecDepth 20000 in
theorem gX1_foretellDueIssues_X1_foretellNext : GoodIn wsX1_foretellDueIssues (wsV RX1 164 RX1 yX1_foretellNext wsX1_foretellNext) := goodIn_app (goodIn_of _ (by decide +kernel)) ggX1_foretellDueIssues_X1_foretellNext
theorem dX1_foretellDueIssues_0 : decode cX1_foretellDueIssues 0 = .ok (.aload_n 0, 1) := by decide +kernel
theorem dX1_foretellDueIssues_1 : decode cX1_foretellDueIssues 1 = .ok (.getfield 40, 3) := by decide +kernel
theorem dX1_foretellDueIssues_4 : decode cX1_foretellDueIssues 4 = .ok (.istore_n 1, 1) := by decide +kernel
theorem dX1_foretellDueIssues_5 : decode cX1_foretellDueIssues 5 = .ok (.iload_n 1, 1) := by decide +kernel
theorem dX1_foretellDueIssues_6 : decode cX1_foretellDueIssues 6 = .ok (.sipush 200, 3) := by decide +kernel
theorem dX1_foretellDueIssues_9 : decode cX1_foretellDueIssues 9 = .ok (.if_icmp .ge 24, 3) := by decide +kernel
theorem dX1_foretellDueIssues_12 : decode cX1_foretellDueIssues 12 = .ok (.aload_n 0, 1) := by decide +kernel
theorem dX1_foretellDueIssues_13 : decode cX1_foretellDueIssues 13 = .ok (.invokevirtual 160, 3) := by decide +kernel
theorem dX1_foretellDueIssues_16 : decode cX1_foretellDueIssues 16 = .ok (.aload_n 0, 1) := by decide +kernel
theorem dX1_foretellDueIssues_17 : decode cX1_foretellDueIssues 17 = .ok (.getfield 74, 3) := by decide +kernel
theorem dX1_foretellDueIssues_20 : decode cX1_foretellDueIssues 20 = .ok (.if_icmp .gt 13, 3) := by decide +kernel
theorem dX1_foretellDueIssues_23 : decode cX1_foretellDueIssues 23 = .ok (.aload_n 0, 1) := by decide +kernel
theorem dX1_foretellDueIssues_24 : decode cX1_foretellDueIssues 24 = .ok (.invokevirtual 164, 3) := by decide +kernel
theorem dX1_foretellDueIssues_27 : decode cX1_foretellDueIssues 27 = .ok (.iinc 1 1, 3) := by decide +kernel
theorem dX1_foretellDueIssues_30 : decode cX1_foretellDueIssues 30 = .ok (.goto (-25), 3) := by decide +kernel
theorem dX1_foretellDueIssues_33 : decode cX1_foretellDueIssues 33 = .ok (.return_, 1) := by decide +kernel
set_option maxRecDepth 20000 in
theorem ggX1_canAllCome_X1_isForetold : GoodIn wsX1_canAllCome wsX1_isForetold := goodIn_r _ [6, 7, 8, 9, 5, 10, 11, 12, 13, 14, 15, 16, 17, 18, 19, 20, 21, 22, 23, 24, 25] (by decide +kernel) (by decide +kernel)
set_option maxRecDepth 20000 in
theorem gX1_canAllCome_X1_isForetold : GoodIn wsX1_canAllCome (wsV RX1 110 RX1 yX1_isForetold wsX1_isForetold) := goodIn_app (goodIn_of _ (by decide +kernel)) ggX1_canAllCome_X1_isForetold
theorem dX1_canAllCome_0 : decode cX1_canAllCome 0 = .ok (.iload_n 1, 1) := by decide +kernel
theorem dX1_canAllCome_1 : decode cX1_canAllCome 1 = .ok (.istore_n 3, 1) := by decide +kernel
theorem dX1_canAllCome_2 : decode cX1_canAllCome 2 = .ok (.iload_n 3, 1) := by decide +kernel
theorem dX1_canAllCome_3 : decode cX1_canAllCome 3 = .ok (.iload_n 2, 1) := by decide +kernel
theorem dX1_canAllCome_4 : decode cX1_canAllCome 4 = .ok (.if_icmp .gt 35, 3) := by decide +kernel
theorem dX1_canAllCome_7 : decode cX1_canAllCome 7 = .ok (.iload_n 3, 1) := by decide +kernel
theorem dX1_canAllCome_8 : decode cX1_canAllCome 8 = .ok (.sipush 200, 3) := by decide +kernel
theorem dX1_canAllCome_11 : decode cX1_canAllCome 11 = .ok (.if_icmp .ge 28, 3) := by decide +kernel
theorem dX1_canAllCome_14 : decode cX1_canAllCome 14 = .ok (.aload_n 0, 1) := by decide +kernel
theorem dX1_canAllCome_15 : decode cX1_canAllCome 15 = .ok (.iload_n 3, 1) := by decide +kernel
theorem dX1_canAllCome_16 : decode cX1_canAllCome 16 = .ok (.invokevirtual 110, 3) := by decide +kernel
theorem dX1_canAllCome_19 : decode cX1_canAllCome 19 = .ok (.ifCond .eq 14, 3) := by decide +kernel
theorem dX1_canAllCome_22 : decode cX1_canAllCome 22 = .ok (.aload_n 0, 1) := by decide +kernel
theorem dX1_canAllCome_23 : decode cX1_canAllCome 23 = .ok (.getfield 27, 3) := by decide +kernel
theorem dX1_canAllCome_26 : decode cX1_canAllCome 26 = .ok (.iload_n 3, 1) := by decide +kernel
theorem dX1_canAllCome_27 : decode cX1_canAllCome 27 = .ok (.iaload, 1) := by decide +kernel
theorem dX1_canAllCome_28 : decode cX1_canAllCome 28 = .ok (.ifCond .eq 5, 3) := by decide +kernel
theorem dX1_canAllCome_31 : decode cX1_canAllCome 31 = .ok (.iconst 0, 1) := by decide +kernel
theorem dX1_canAllCome_32 : decode cX1_canAllCome 32 = .ok (.ireturn, 1) := by decide +kernel
theorem dX1_canAllCome_33 : decode cX1_canAllCome 33 = .ok (.iinc 3 1, 3) := by decide +kernel
theorem dX1_canAllCome_36 : decode cX1_canAllCome 36 = .ok (.goto (-34), 3) := by decide +kernel
theorem dX1_canAllCome_39 : decode cX1_canAllCome 39 = .ok (.iconst 1, 1) := by decide +kernel
theorem dX1_canAllCome_40 : decode cX1_canAllCome 40 = .ok (.ireturn, 1) := by decide +kernel
set_option maxRecDepth 20000 in
theorem ggX1_takeIn_X1_isForetold : GoodIn wsX1_takeIn wsX1_isForetold := goodIn_r _ [6, 7, 8, 9, 5, 10, 11, 12, 13, 14, 15, 16, 17, 18, 19, 20, 21, 22, 23, 24, 25] (by decide +kernel) (by decide +kernel)
set_option maxRecDepth 20000 in
theorem gX1_takeIn_X1_isForetold : GoodIn wsX1_takeIn (wsV RX1 110 RX1 yX1_isForetold wsX1_isForetold) := goodIn_app (goodIn_of _ (by decide +kernel)) ggX1_takeIn_X1_isForetold
theorem dX1_takeIn_0 : decode cX1_takeIn 0 = .ok (.iload_n 1, 1) := by decide +kernel
theorem dX1_takeIn_1 : decode cX1_takeIn 1 = .ok (.istore_n 3, 1) := by decide +kernel
theorem dX1_takeIn_2 : decode cX1_takeIn 2 = .ok (.iload_n 3, 1) := by decide +kernel
theorem dX1_takeIn_3 : decode cX1_takeIn 3 = .ok (.iload_n 2, 1) := by decide +kernel
theorem dX1_takeIn_4 : decode cX1_takeIn 4 = .ok (.if_icmp .gt 40, 3) := by decide +kernel
theorem dX1_takeIn_7 : decode cX1_takeIn 7 = .ok (.iload_n 3, 1) := by decide +kernel
theorem dX1_takeIn_8 : decode cX1_takeIn 8 = .ok (.sipush 200, 3) := by decide +kernel
theorem dX1_takeIn_11 : decode cX1_takeIn 11 = .ok (.if_icmp .ge 33, 3) := by decide +kernel
theorem dX1_takeIn_14 : decode cX1_takeIn 14 = .ok (.aload_n 0, 1) := by decide +kernel
theorem dX1_takeIn_15 : decode cX1_takeIn 15 = .ok (.iload_n 3, 1) := by decide +kernel
theorem dX1_takeIn_16 : decode cX1_takeIn 16 = .ok (.invokevirtual 110, 3) := by decide +kernel
theorem dX1_takeIn_19 : decode cX1_takeIn 19 = .ok (.ifCond .eq 19, 3) := by decide +kernel
theorem dX1_takeIn_22 : decode cX1_takeIn 22 = .ok (.aload_n 0, 1) := by decide +kernel
theorem dX1_takeIn_23 : decode cX1_takeIn 23 = .ok (.getfield 27, 3) := by decide +kernel
theorem dX1_takeIn_26 : decode cX1_takeIn 26 = .ok (.iload_n 3, 1) := by decide +kernel
theorem dX1_takeIn_27 : decode cX1_takeIn 27 = .ok (.iload_n 3, 1) := by decide +kernel
theorem dX1_takeIn_28 : decode cX1_takeIn 28 = .ok (.iload_n 1, 1) := by decide +kernel
theorem dX1_takeIn_29 : decode cX1_takeIn 29 = .ok (.if_icmp .ne 7, 3) := by decide +kernel
theorem dX1_takeIn_32 : decode cX1_takeIn 32 = .ok (.iconst 1, 1) := by decide +kernel
theorem dX1_takeIn_33 : decode cX1_takeIn 33 = .ok (.goto 4, 3) := by decide +kernel
theorem dX1_takeIn_36 : decode cX1_takeIn 36 = .ok (.iconst 2, 1) := by decide +kernel
theorem dX1_takeIn_37 : decode cX1_takeIn 37 = .ok (.iastore, 1) := by decide +kernel
theorem dX1_takeIn_38 : decode cX1_takeIn 38 = .ok (.iinc 3 1, 3) := by decide +kernel
theorem dX1_takeIn_41 : decode cX1_takeIn 41 = .ok (.goto (-39), 3) := by decide +kernel
theorem dX1_takeIn_44 : decode cX1_takeIn 44 = .ok (.return_, 1) := by decide +kernel
set_option maxRecDepth 20000 in
theorem ggX1_noteDifference_X1_isForetold : GoodIn wsX1_noteDifference wsX1_isForetold := goodIn_r _ [11, 12, 13, 14, 10, 15, 27, 28, 29, 30, 31, 32, 33, 34, 35, 36, 37, 38, 39, 40, 41] (by decide +kernel) (by decide +kernel)
set_option maxRecDepth 20000 in
theorem gX1_noteDifference_X1_isForetold : GoodIn wsX1_noteDifference (wsV RX1 110 RX1 yX1_isForetold wsX1_isForetold) := goodIn_app (goodIn_of _ (by decide +kernel)) ggX1_noteDifference_X1_isForetold
set_option maxRecDepth 20000 in
theorem ggX1_noteDifference_X1_followsStreak : GoodIn wsX1_noteDifference wsX1_followsStreak := goodIn_r _ [19, 5, 20, 7, 8, 9, 10, 11, 12, 13, 14, 15, 27, 28, 29, 30, 31, 32, 33, 34, 35, 36, 37, 38, 39, 40, 41] (by decide +kernel) (by decide +kernel)
set_option maxRecDepth 20000 in
theorem gX1_noteDifference_X1_followsStreak : GoodIn wsX1_noteDifference (wsV RX1 170 RX1 yX1_followsStreak wsX1_followsStreak) := goodIn_app (goodIn_of _ (by decide +kernel)) ggX1_noteDifference_X1_followsStreak
set_option maxRecDepth 20000 in
theorem ggX1_noteDifference_X1_canShift : GoodIn wsX1_noteDifference wsX1_canShift := goodIn_r _ [23, 24, 25, 10, 26] (by decide +kernel) (by decide +kernel)
set_option maxRecDepth 20000 in
theorem gX1_noteDifference_X1_canShift : GoodIn wsX1_noteDifference (va_wsS RX1 176 yX1_canShift wsX1_canShift) := goodIn_app (goodIn_of _ (by decide +kernel)) ggX1_noteDifference_X1_canShift
theorem dX1_noteDifference_0 : decode cX1_noteDifference 0 = .ok (.aload_n 0, 1) := by decide +kernel
theorem dX1_noteDifference_1 : decode cX1_noteDifference 1 = .ok (.iload_n 1, 1) := by decide +kernel
theorem dX1_noteDifference_2 : decode cX1_noteDifference 2 = .ok (.invokevirtual 110, 3) := by decide +kernel
theorem dX1_noteDifference_5 : decode cX1_noteDifference 5 = .ok (.ifCond .ne 4, 3) := by decide +kernel
theorem dX1_noteDifference_8 : decode cX1_noteDifference 8 = .ok (.return_, 1) := by decide +kernel
theorem dX1_noteDifference_9 : decode cX1_noteDifference 9 = .ok (.aload_n 0, 1) := by decide +kernel
theorem dX1_noteDifference_10 : decode cX1_noteDifference 10 = .ok (.getfield 74, 3) := by decide +kernel
theorem dX1_noteDifference_13 : decode cX1_noteDifference 13 = .ok (.aload_n 0, 1) := by decide +kernel
theorem dX1_noteDifference_14 : decode cX1_noteDifference 14 = .ok (.getfield 23, 3) := by decide +kernel
theorem dX1_noteDifference_17 : decode cX1_noteDifference 17 = .ok (.iload_n 1, 1) := by decide +kernel
theorem dX1_noteDifference_18 : decode cX1_noteDifference 18 = .ok (.iaload, 1) := by decide +kernel
theorem dX1_noteDifference_19 : decode cX1_noteDifference 19 = .ok (.isub, 1) := by decide +kernel
theorem dX1_noteDifference_20 : decode cX1_noteDifference 20 = .ok (.istore_n 2, 1) := by decide +kernel
theorem dX1_noteDifference_21 : decode cX1_noteDifference 21 = .ok (.iload_n 2, 1) := by decide +kernel
theorem dX1_noteDifference_22 : decode cX1_noteDifference 22 = .ok (.aload_n 0, 1) := by decide +kernel
theorem dX1_noteDifference_23 : decode cX1_noteDifference 23 = .ok (.getfield 167, 3) := by decide +kernel
theorem dX1_noteDifference_26 : decode cX1_noteDifference 26 = .ok (.if_icmp .ne 15, 3) := by decide +kernel
theorem dX1_noteDifference_29 : decode cX1_noteDifference 29 = .ok (.aload_n 0, 1) := by decide +kernel
theorem dX1_noteDifference_30 : decode cX1_noteDifference 30 = .ok (.iload_n 1, 1) := by decide +kernel
theorem dX1_noteDifference_31 : decode cX1_noteDifference 31 = .ok (.invokevirtual 170, 3) := by decide +kernel
theorem dX1_noteDifference_34 : decode cX1_noteDifference 34 = .ok (.ifCond .eq 7, 3) := by decide +kernel
theorem dX1_noteDifference_37 : decode cX1_noteDifference 37 = .ok (.iconst 1, 1) := by decide +kernel
theorem dX1_noteDifference_38 : decode cX1_noteDifference 38 = .ok (.goto 4, 3) := by decide +kernel
theorem dX1_noteDifference_41 : decode cX1_noteDifference 41 = .ok (.iconst 0, 1) := by decide +kernel
theorem dX1_noteDifference_42 : decode cX1_noteDifference 42 = .ok (.istore_n 3, 1) := by decide +kernel
theorem dX1_noteDifference_43 : decode cX1_noteDifference 43 = .ok (.aload_n 0, 1) := by decide +kernel
theorem dX1_noteDifference_44 : decode cX1_noteDifference 44 = .ok (.iload_n 3, 1) := by decide +kernel
theorem dX1_noteDifference_45 : decode cX1_noteDifference 45 = .ok (.ifCond .eq 12, 3) := by decide +kernel
theorem dX1_noteDifference_48 : decode cX1_noteDifference 48 = .ok (.aload_n 0, 1) := by decide +kernel
theorem dX1_noteDifference_49 : decode cX1_noteDifference 49 = .ok (.getfield 173, 3) := by decide +kernel
theorem dX1_noteDifference_52 : decode cX1_noteDifference 52 = .ok (.iconst 1, 1) := by decide +kernel
theorem dX1_noteDifference_53 : decode cX1_noteDifference 53 = .ok (.iadd, 1) := by decide +kernel
theorem dX1_noteDifference_54 : decode cX1_noteDifference 54 = .ok (.goto 4, 3) := by decide +kernel
theorem dX1_noteDifference_57 : decode cX1_noteDifference 57 = .ok (.iconst 1, 1) := by decide +kernel
theorem dX1_noteDifference_58 : decode cX1_noteDifference 58 = .ok (.putfield 173, 3) := by decide +kernel
theorem dX1_noteDifference_61 : decode cX1_noteDifference 61 = .ok (.aload_n 0, 1) := by decide +kernel
theorem dX1_noteDifference_62 : decode cX1_noteDifference 62 = .ok (.iload_n 2, 1) := by decide +kernel
theorem dX1_noteDifference_63 : decode cX1_noteDifference 63 = .ok (.putfield 167, 3) := by decide +kernel
theorem dX1_noteDifference_66 : decode cX1_noteDifference 66 = .ok (.aload_n 0, 1) := by decide +kernel
theorem dX1_noteDifference_67 : decode cX1_noteDifference 67 = .ok (.iload_n 1, 1) := by decide +kernel
theorem dX1_noteDifference_68 : decode cX1_noteDifference 68 = .ok (.putfield 43, 3) := by decide +kernel
theorem dX1_noteDifference_71 : decode cX1_noteDifference 71 = .ok (.aload_n 0, 1) := by decide +kernel
theorem dX1_noteDifference_72 : decode cX1_noteDifference 72 = .ok (.getfield 173, 3) := by decide +kernel
theorem dX1_noteDifference_75 : decode cX1_noteDifference 75 = .ok (.iconst 3, 1) := by decide +kernel
theorem dX1_noteDifference_76 : decode cX1_noteDifference 76 = .ok (.if_icmp .lt 25, 3) := by decide +kernel
theorem dX1_noteDifference_79 : decode cX1_noteDifference 79 = .ok (.iload_n 2, 1) := by decide +kernel
theorem dX1_noteDifference_80 : decode cX1_noteDifference 80 = .ok (.invokestatic 176, 3) := by decide +kernel
theorem dX1_noteDifference_83 : decode cX1_noteDifference 83 = .ok (.ifCond .eq 18, 3) := by decide +kernel
theorem dX1_noteDifference_86 : decode cX1_noteDifference 86 = .ok (.aload_n 0, 1) := by decide +kernel
theorem dX1_noteDifference_87 : decode cX1_noteDifference 87 = .ok (.dup, 1) := by decide +kernel
theorem dX1_noteDifference_88 : decode cX1_noteDifference 88 = .ok (.getfield 123, 3) := by decide +kernel
theorem dX1_noteDifference_91 : decode cX1_noteDifference 91 = .ok (.iload_n 2, 1) := by decide +kernel
theorem dX1_noteDifference_92 : decode cX1_noteDifference 92 = .ok (.iadd, 1) := by decide +kernel
theorem dX1_noteDifference_93 : decode cX1_noteDifference 93 = .ok (.putfield 123, 3) := by decide +kernel
theorem dX1_noteDifference_96 : decode cX1_noteDifference 96 = .ok (.aload_n 0, 1) := by decide +kernel
theorem dX1_noteDifference_97 : decode cX1_noteDifference 97 = .ok (.iconst 0, 1) := by decide +kernel
theorem dX1_noteDifference_98 : decode cX1_noteDifference 98 = .ok (.putfield 173, 3) := by decide +kernel
theorem dX1_noteDifference_101 : decode cX1_noteDifference 101 = .ok (.return_, 1) := by decide +kernel
set_option maxRecDepth 20000 in
theorem ggX1_followsStreak_X1_isForetold : GoodIn wsX1_followsStreak wsX1_isForetold := goodIn_r _ [7, 8, 9, 10, 6, 11, 12, 13, 14, 15, 16, 17, 18, 19, 20, 21, 22, 23, 24, 25, 26] (by decide +kernel) (by decide +kernel)
set_option maxRecDepth 20000 in
theorem gX1_followsStreak_X1_isForetold : GoodIn wsX1_followsStreak (wsV RX1 110 RX1 yX1_isForetold wsX1_isForetold) := goodIn_app (goodIn_of _ (by decide +kernel)) ggX1_followsStreak_X1_isForetold
theorem dX1_followsStreak_0 : decode cX1_followsStreak 0 = .ok (.iload_n 1, 1) := by decide +kernel
theorem dX1_followsStreak_1 : decode cX1_followsStreak 1 = .ok (.aload_n 0, 1) := by decide +kernel
theorem dX1_followsStreak_2 : decode cX1_followsStreak 2 = .ok (.getfield 43, 3) := by decide +kernel
theorem dX1_followsStreak_5 : decode cX1_followsStreak 5 = .ok (.if_icmp .gt 5, 3) := by decide +kernel
theorem dX1_followsStreak_8 : decode cX1_followsStreak 8 = .ok (.iconst 0, 1) := by decide +kernel
theorem dX1_followsStreak_9 : decode cX1_followsStreak 9 = .ok (.ireturn, 1) := by decide +kernel
theorem dX1_followsStreak_10 : decode cX1_followsStreak 10 = .ok (.aload_n 0, 1) := by decide +kernel
theorem dX1_followsStreak_11 : decode cX1_followsStreak 11 = .ok (.getfield 43, 3) := by decide +kernel
theorem dX1_followsStreak_14 : decode cX1_followsStreak 14 = .ok (.iconst 1, 1) := by decide +kernel
theorem dX1_followsStreak_15 : decode cX1_followsStreak 15 = .ok (.iadd, 1) := by decide +kernel
theorem dX1_followsStreak_16 : decode cX1_followsStreak 16 = .ok (.istore_n 2, 1) := by decide +kernel
theorem dX1_followsStreak_17 : decode cX1_followsStreak 17 = .ok (.iload_n 2, 1) := by decide +kernel
theorem dX1_followsStreak_18 : decode cX1_followsStreak 18 = .ok (.iload_n 1, 1) := by decide +kernel
theorem dX1_followsStreak_19 : decode cX1_followsStreak 19 = .ok (.if_icmp .ge 46, 3) := by decide +kernel
theorem dX1_followsStreak_22 : decode cX1_followsStreak 22 = .ok (.iload_n 2, 1) := by decide +kernel
theorem dX1_followsStreak_23 : decode cX1_followsStreak 23 = .ok (.sipush 200, 3) := by decide +kernel
theorem dX1_followsStreak_26 : decode cX1_followsStreak 26 = .ok (.if_icmp .ge 39, 3) := by decide +kernel
theorem dX1_followsStreak_29 : decode cX1_followsStreak 29 = .ok (.aload_n 0, 1) := by decide +kernel
theorem dX1_followsStreak_30 : decode cX1_followsStreak 30 = .ok (.iload_n 2, 1) := by decide +kernel
theorem dX1_followsStreak_31 : decode cX1_followsStreak 31 = .ok (.invokevirtual 110, 3) := by decide +kernel
theorem dX1_followsStreak_34 : decode cX1_followsStreak 34 = .ok (.ifCond .eq 23, 3) := by decide +kernel
theorem dX1_followsStreak_37 : decode cX1_followsStreak 37 = .ok (.aload_n 0, 1) := by decide +kernel
theorem dX1_followsStreak_38 : decode cX1_followsStreak 38 = .ok (.getfield 27, 3) := by decide +kernel
theorem dX1_followsStreak_41 : decode cX1_followsStreak 41 = .ok (.iload_n 2, 1) := by decide +kernel
theorem dX1_followsStreak_42 : decode cX1_followsStreak 42 = .ok (.iaload, 1) := by decide +kernel
theorem dX1_followsStreak_43 : decode cX1_followsStreak 43 = .ok (.iconst 2, 1) := by decide +kernel
theorem dX1_followsStreak_44 : decode cX1_followsStreak 44 = .ok (.if_icmp .eq 15, 3) := by decide +kernel
theorem dX1_followsStreak_47 : decode cX1_followsStreak 47 = .ok (.aload_n 0, 1) := by decide +kernel
theorem dX1_followsStreak_48 : decode cX1_followsStreak 48 = .ok (.getfield 27, 3) := by decide +kernel
theorem dX1_followsStreak_51 : decode cX1_followsStreak 51 = .ok (.iload_n 2, 1) := by decide +kernel
theorem dX1_followsStreak_52 : decode cX1_followsStreak 52 = .ok (.iaload, 1) := by decide +kernel
theorem dX1_followsStreak_53 : decode cX1_followsStreak 53 = .ok (.iconst 3, 1) := by decide +kernel
theorem dX1_followsStreak_54 : decode cX1_followsStreak 54 = .ok (.if_icmp .eq 5, 3) := by decide +kernel
theorem dX1_followsStreak_57 : decode cX1_followsStreak 57 = .ok (.iconst 0, 1) := by decide +kernel
theorem dX1_followsStreak_58 : decode cX1_followsStreak 58 = .ok (.ireturn, 1) := by decide +kernel
theorem dX1_followsStreak_59 : decode cX1_followsStreak 59 = .ok (.iinc 2 1, 3) := by decide +kernel
theorem dX1_followsStreak_62 : decode cX1_followsStreak 62 = .ok (.goto (-45), 3) := by decide +kernel
theorem dX1_followsStreak_65 : decode cX1_followsStreak 65 = .ok (.iconst 1, 1) := by decide +kernel
theorem dX1_followsStreak_66 : decode cX1_followsStreak 66 = .ok (.ireturn, 1) := by decide +kernel
set_option maxRecDepth 20000 in
theorem ggX1_canShift_X1_isWithin : GoodIn wsX1_canShift wsX1_isWithin := goodIn_r _ [4] (by decide +kernel) (by decide +kernel)
set_option maxRecDepth 20000 in
theorem gX1_canShift_X1_isWithin : GoodIn wsX1_canShift (va_wsS RX1 46 yX1_isWithin wsX1_isWithin) := goodIn_app (goodIn_of _ (by decide +kernel)) ggX1_canShift_X1_isWithin
theorem dX1_canShift_0 : decode cX1_canShift 0 = .ok (.iload_n 0, 1) := by decide +kernel
theorem dX1_canShift_1 : decode cX1_canShift 1 = .ok (.ifCond .eq 18, 3) := by decide +kernel
theorem dX1_canShift_4 : decode cX1_canShift 4 = .ok (.iload_n 0, 1) := by decide +kernel
theorem dX1_canShift_5 : decode cX1_canShift 5 = .ok (.bipush (-15), 2) := by decide +kernel
theorem dX1_canShift_7 : decode cX1_canShift 7 = .ok (.bipush 15, 2) := by decide +kernel
theorem dX1_canShift_9 : decode cX1_canShift 9 = .ok (.invokestatic 46, 3) := by decide +kernel
theorem dX1_canShift_12 : decode cX1_canShift 12 = .ok (.ifCond .eq 7, 3) := by decide +kernel
theorem dX1_canShift_15 : decode cX1_canShift 15 = .ok (.iconst 1, 1) := by decide +kernel
theorem dX1_canShift_16 : decode cX1_canShift 16 = .ok (.goto 4, 3) := by decide +kernel
theorem dX1_canShift_19 : decode cX1_canShift 19 = .ok (.iconst 0, 1) := by decide +kernel
theorem dX1_canShift_20 : decode cX1_canShift 20 = .ok (.ireturn, 1) := by decide +kernel
set_option maxRecDepth 20000 in
theorem ggX1_isLate_X1_isForetold : GoodIn wsX1_isLate wsX1_isForetold := goodIn_r _ [9, 10, 11, 12, 8, 13, 14, 15, 16, 17, 18, 19, 20, 21, 22, 23, 24, 25, 26, 27, 28] (by decide +kernel) (by decide +kernel)
set_option maxRecDepth 20000 in
theorem gX1_isLate_X1_isForetold : GoodIn wsX1_isLate (wsV RX1 110 RX1 yX1_isForetold wsX1_isForetold) := goodIn_app (goodIn_of _ (by decide +kernel)) ggX1_isLate_X1_isForetold
theorem dX1_isLate_0 : decode cX1_isLate 0 = .ok (.aload_n 0, 1) := by decide +kernel
theorem dX1_isLate_1 : decode cX1_isLate 1 = .ok (.iload_n 1, 1) := by decide +kernel
theorem dX1_isLate_2 : decode cX1_isLate 2 = .ok (.invokevirtual 110, 3) := by decide +kernel
theorem dX1_isLate_5 : decode cX1_isLate 5 = .ok (.ifCond .eq 34, 3) := by decide +kernel
theorem dX1_isLate_8 : decode cX1_isLate 8 = .ok (.aload_n 0, 1) := by decide +kernel
theorem dX1_isLate_9 : decode cX1_isLate 9 = .ok (.getfield 27, 3) := by decide +kernel
theorem dX1_isLate_12 : decode cX1_isLate 12 = .ok (.iload_n 1, 1) := by decide +kernel
theorem dX1_isLate_13 : decode cX1_isLate 13 = .ok (.iaload, 1) := by decide +kernel
theorem dX1_isLate_14 : decode cX1_isLate 14 = .ok (.ifCond .ne 25, 3) := by decide +kernel
theorem dX1_isLate_17 : decode cX1_isLate 17 = .ok (.aload_n 0, 1) := by decide +kernel
theorem dX1_isLate_18 : decode cX1_isLate 18 = .ok (.getfield 74, 3) := by decide +kernel
theorem dX1_isLate_21 : decode cX1_isLate 21 = .ok (.aload_n 0, 1) := by decide +kernel
theorem dX1_isLate_22 : decode cX1_isLate 22 = .ok (.getfield 23, 3) := by decide +kernel
theorem dX1_isLate_25 : decode cX1_isLate 25 = .ok (.iload_n 1, 1) := by decide +kernel
theorem dX1_isLate_26 : decode cX1_isLate 26 = .ok (.iaload, 1) := by decide +kernel
theorem dX1_isLate_27 : decode cX1_isLate 27 = .ok (.isub, 1) := by decide +kernel
theorem dX1_isLate_28 : decode cX1_isLate 28 = .ok (.aload_n 0, 1) := by decide +kernel
theorem dX1_isLate_29 : decode cX1_isLate 29 = .ok (.getfield 16, 3) := by decide +kernel
theorem dX1_isLate_32 : decode cX1_isLate 32 = .ok (.if_icmp .le 7, 3) := by decide +kernel
theorem dX1_isLate_35 : decode cX1_isLate 35 = .ok (.iconst 1, 1) := by decide +kernel
theorem dX1_isLate_36 : decode cX1_isLate 36 = .ok (.goto 4, 3) := by decide +kernel
theorem dX1_isLate_39 : decode cX1_isLate 39 = .ok (.iconst 0, 1) := by decide +kernel
theorem dX1_isLate_40 : decode cX1_isLate 40 = .ok (.ireturn, 1) := by decide +kernel
set_option maxRecDepth 20000 in
theorem ggX1_isTimeToClaim_X1_isIssue : GoodIn wsX1_isTimeToClaim wsX1_isIssue := goodIn_r _ [8] (by decide +kernel) (by decide +kernel)
set_option maxRecDepth 20000 in
theorem gX1_isTimeToClaim_X1_isIssue : GoodIn wsX1_isTimeToClaim (va_wsS RX1 82 yX1_isIssue wsX1_isIssue) := goodIn_app (goodIn_of _ (by decide +kernel)) ggX1_isTimeToClaim_X1_isIssue
theorem dX1_isTimeToClaim_0 : decode cX1_isTimeToClaim 0 = .ok (.iload_n 1, 1) := by decide +kernel
theorem dX1_isTimeToClaim_1 : decode cX1_isTimeToClaim 1 = .ok (.invokestatic 82, 3) := by decide +kernel
theorem dX1_isTimeToClaim_4 : decode cX1_isTimeToClaim 4 = .ok (.ifCond .eq 34, 3) := by decide +kernel
theorem dX1_isTimeToClaim_7 : decode cX1_isTimeToClaim 7 = .ok (.aload_n 0, 1) := by decide +kernel
theorem dX1_isTimeToClaim_8 : decode cX1_isTimeToClaim 8 = .ok (.getfield 30, 3) := by decide +kernel
theorem dX1_isTimeToClaim_11 : decode cX1_isTimeToClaim 11 = .ok (.iload_n 1, 1) := by decide +kernel
theorem dX1_isTimeToClaim_12 : decode cX1_isTimeToClaim 12 = .ok (.iaload, 1) := by decide +kernel
theorem dX1_isTimeToClaim_13 : decode cX1_isTimeToClaim 13 = .ok (.ifCond .eq 21, 3) := by decide +kernel
theorem dX1_isTimeToClaim_16 : decode cX1_isTimeToClaim 16 = .ok (.aload_n 0, 1) := by decide +kernel
theorem dX1_isTimeToClaim_17 : decode cX1_isTimeToClaim 17 = .ok (.getfield 74, 3) := by decide +kernel
theorem dX1_isTimeToClaim_20 : decode cX1_isTimeToClaim 20 = .ok (.aload_n 0, 1) := by decide +kernel
theorem dX1_isTimeToClaim_21 : decode cX1_isTimeToClaim 21 = .ok (.getfield 33, 3) := by decide +kernel
theorem dX1_isTimeToClaim_24 : decode cX1_isTimeToClaim 24 = .ok (.iload_n 1, 1) := by decide +kernel
theorem dX1_isTimeToClaim_25 : decode cX1_isTimeToClaim 25 = .ok (.iaload, 1) := by decide +kernel
theorem dX1_isTimeToClaim_26 : decode cX1_isTimeToClaim 26 = .ok (.isub, 1) := by decide +kernel
theorem dX1_isTimeToClaim_27 : decode cX1_isTimeToClaim 27 = .ok (.aload_n 0, 1) := by decide +kernel
theorem dX1_isTimeToClaim_28 : decode cX1_isTimeToClaim 28 = .ok (.getfield 20, 3) := by decide +kernel
theorem dX1_isTimeToClaim_31 : decode cX1_isTimeToClaim 31 = .ok (.if_icmp .lt 7, 3) := by decide +kernel
theorem dX1_isTimeToClaim_34 : decode cX1_isTimeToClaim 34 = .ok (.iconst 1, 1) := by decide +kernel
theorem dX1_isTimeToClaim_35 : decode cX1_isTimeToClaim 35 = .ok (.goto 4, 3) := by decide +kernel
theorem dX1_isTimeToClaim_38 : decode cX1_isTimeToClaim 38 = .ok (.iconst 0, 1) := by decide +kernel
theorem dX1_isTimeToClaim_39 : decode cX1_isTimeToClaim 39 = .ok (.ireturn, 1) := by decide +kernel
set_option maxRecDepth 20000 in
theorem ggX1_isInHouse_X1_isForetold : GoodIn wsX1_isInHouse wsX1_isForetold := goodIn_r _ [6, 7, 8, 9, 5, 10, 11, 12, 13, 14, 15, 16, 17, 18, 19, 20, 21, 22, 23, 24, 25] (by decide +kernel) (by decide +kernel)
set_option maxRecDepth 20000 in
theorem gX1_isInHouse_X1_isForetold : GoodIn wsX1_isInHouse (wsV RX1 110 RX1 yX1_isForetold wsX1_isForetold) := goodIn_app (goodIn_of _ (by decide +kernel)) ggX1_isInHouse_X1_isForetold
theorem dX1_isInHouse_0 : decode cX1_isInHouse 0 = .ok (.aload_n 0, 1) := by decide +kernel
theorem dX1_isInHouse_1 : decode cX1_isInHouse 1 = .ok (.iload_n 1, 1) := by decide +kernel
theorem dX1_isInHouse_2 : decode cX1_isInHouse 2 = .ok (.invokevirtual 110, 3) := by decide +kernel
theorem dX1_isInHouse_5 : decode cX1_isInHouse 5 = .ok (.ifCond .eq 27, 3) := by decide +kernel
theorem dX1_isInHouse_8 : decode cX1_isInHouse 8 = .ok (.aload_n 0, 1) := by decide +kernel
theorem dX1_isInHouse_9 : decode cX1_isInHouse 9 = .ok (.getfield 27, 3) := by decide +kernel
theorem dX1_isInHouse_12 : decode cX1_isInHouse 12 = .ok (.iload_n 1, 1) := by decide +kernel
theorem dX1_isInHouse_13 : decode cX1_isInHouse 13 = .ok (.iaload, 1) := by decide +kernel
theorem dX1_isInHouse_14 : decode cX1_isInHouse 14 = .ok (.iconst 1, 1) := by decide +kernel
theorem dX1_isInHouse_15 : decode cX1_isInHouse 15 = .ok (.if_icmp .eq 13, 3) := by decide +kernel
theorem dX1_isInHouse_18 : decode cX1_isInHouse 18 = .ok (.aload_n 0, 1) := by decide +kernel
theorem dX1_isInHouse_19 : decode cX1_isInHouse 19 = .ok (.getfield 27, 3) := by decide +kernel
theorem dX1_isInHouse_22 : decode cX1_isInHouse 22 = .ok (.iload_n 1, 1) := by decide +kernel
theorem dX1_isInHouse_23 : decode cX1_isInHouse 23 = .ok (.iaload, 1) := by decide +kernel
theorem dX1_isInHouse_24 : decode cX1_isInHouse 24 = .ok (.iconst 2, 1) := by decide +kernel
theorem dX1_isInHouse_25 : decode cX1_isInHouse 25 = .ok (.if_icmp .ne 7, 3) := by decide +kernel
theorem dX1_isInHouse_28 : decode cX1_isInHouse 28 = .ok (.iconst 1, 1) := by decide +kernel
theorem dX1_isInHouse_29 : decode cX1_isInHouse 29 = .ok (.goto 4, 3) := by decide +kernel
theorem dX1_isInHouse_32 : decode cX1_isInHouse 32 = .ok (.iconst 0, 1) := by decide +kernel
theorem dX1_isInHouse_33 : decode cX1_isInHouse 33 = .ok (.ireturn, 1) := by decide +kernel
set_option maxRecDepth 20000 in
theorem ggX1_isRangeStart_X1_isInHouse : GoodIn wsX1_isRangeStart wsX1_isInHouse := goodIn_r _ [5, 6, 7, 8, 9, 4, 10, 11, 12, 13, 14, 15, 16, 17, 18, 19, 20, 21, 22, 23, 24, 25, 26, 27, 28, 29] (by decide +kernel) (by decide +kernel)
set_option maxRecDepth 20000 in
theorem gX1_isRangeStart_X1_isInHouse : GoodIn wsX1_isRangeStart (wsV RX1 153 RX1 yX1_isInHouse wsX1_isInHouse) := goodIn_app (goodIn_of _ (by decide +kernel)) ggX1_isRangeStart_X1_isInHouse
theorem dX1_isRangeStart_0 : decode cX1_isRangeStart 0 = .ok (.aload_n 0, 1) := by decide +kernel
theorem dX1_isRangeStart_1 : decode cX1_isRangeStart 1 = .ok (.iload_n 1, 1) := by decide +kernel
theorem dX1_isRangeStart_2 : decode cX1_isRangeStart 2 = .ok (.invokevirtual 153, 3) := by decide +kernel
theorem dX1_isRangeStart_5 : decode cX1_isRangeStart 5 = .ok (.ifCond .eq 17, 3) := by decide +kernel
theorem dX1_isRangeStart_8 : decode cX1_isRangeStart 8 = .ok (.aload_n 0, 1) := by decide +kernel
theorem dX1_isRangeStart_9 : decode cX1_isRangeStart 9 = .ok (.iload_n 1, 1) := by decide +kernel
theorem dX1_isRangeStart_10 : decode cX1_isRangeStart 10 = .ok (.iconst 1, 1) := by decide +kernel
theorem dX1_isRangeStart_11 : decode cX1_isRangeStart 11 = .ok (.isub, 1) := by decide +kernel
theorem dX1_isRangeStart_12 : decode cX1_isRangeStart 12 = .ok (.invokevirtual 153, 3) := by decide +kernel
theorem dX1_isRangeStart_15 : decode cX1_isRangeStart 15 = .ok (.ifCond .ne 7, 3) := by decide +kernel
theorem dX1_isRangeStart_18 : decode cX1_isRangeStart 18 = .ok (.iconst 1, 1) := by decide +kernel
theorem dX1_isRangeStart_19 : decode cX1_isRangeStart 19 = .ok (.goto 4, 3) := by decide +kernel
theorem dX1_isRangeStart_22 : decode cX1_isRangeStart 22 = .ok (.iconst 0, 1) := by decide +kernel
theorem dX1_isRangeStart_23 : decode cX1_isRangeStart 23 = .ok (.ireturn, 1) := by decide +kernel
set_option maxRecDepth 20000 in
theorem ggX1_startOfRange_X1_isRangeStart : GoodIn wsX1_startOfRange wsX1_isRangeStart := goodIn_r _ [5, 6, 7, 8, 4, 9, 10, 11, 12, 13, 14, 15, 16, 17, 18, 19, 20, 21, 22, 23, 24, 25, 26, 27, 28, 29, 30, 31, 32, 33] (by decide +kernel) (by decide +kernel)
set_option maxRecDepth 20000 in
theorem gX1_startOfRange_X1_isRangeStart : GoodIn wsX1_startOfRange (wsV RX1 133 RX1 yX1_isRangeStart wsX1_isRangeStart) := goodIn_app (goodIn_of _ (by decide +kernel)) ggX1_startOfRange_X1_isRangeStart
theorem dX1_startOfRange_0 : decode cX1_startOfRange 0 = .ok (.iconst 0, 1) := by decide +kernel
theorem dX1_startOfRange_1 : decode cX1_startOfRange 1 = .ok (.istore_n 2, 1) := by decide +kernel
theorem dX1_startOfRange_2 : decode cX1_startOfRange 2 = .ok (.iconst 0, 1) := by decide +kernel
theorem dX1_startOfRange_3 : decode cX1_startOfRange 3 = .ok (.istore_n 3, 1) := by decide +kernel
theorem dX1_startOfRange_4 : decode cX1_startOfRange 4 = .ok (.iload_n 3, 1) := by decide +kernel
theorem dX1_startOfRange_5 : decode cX1_startOfRange 5 = .ok (.sipush 200, 3) := by decide +kernel
theorem dX1_startOfRange_8 : decode cX1_startOfRange 8 = .ok (.if_icmp .ge 27, 3) := by decide +kernel
theorem dX1_startOfRange_11 : decode cX1_startOfRange 11 = .ok (.aload_n 0, 1) := by decide +kernel
theorem dX1_startOfRange_12 : decode cX1_startOfRange 12 = .ok (.iload_n 3, 1) := by decide +kernel
theorem dX1_startOfRange_13 : decode cX1_startOfRange 13 = .ok (.invokevirtual 133, 3) := by decide +kernel
theorem dX1_startOfRange_16 : decode cX1_startOfRange 16 = .ok (.ifCond .eq 13, 3) := by decide +kernel
theorem dX1_startOfRange_19 : decode cX1_startOfRange 19 = .ok (.iload_n 2, 1) := by decide +kernel
theorem dX1_startOfRange_20 : decode cX1_startOfRange 20 = .ok (.iload_n 1, 1) := by decide +kernel
theorem dX1_startOfRange_21 : decode cX1_startOfRange 21 = .ok (.if_icmp .ne 5, 3) := by decide +kernel
theorem dX1_startOfRange_24 : decode cX1_startOfRange 24 = .ok (.iload_n 3, 1) := by decide +kernel
theorem dX1_startOfRange_25 : decode cX1_startOfRange 25 = .ok (.ireturn, 1) := by decide +kernel
theorem dX1_startOfRange_26 : decode cX1_startOfRange 26 = .ok (.iinc 2 1, 3) := by decide +kernel
theorem dX1_startOfRange_29 : decode cX1_startOfRange 29 = .ok (.iinc 3 1, 3) := by decide +kernel
theorem dX1_startOfRange_32 : decode cX1_startOfRange 32 = .ok (.goto (-28), 3) := by decide +kernel
theorem dX1_startOfRange_35 : decode cX1_startOfRange 35 = .ok (.iconst (-1), 1) := by decide +kernel
theorem dX1_startOfRange_36 : decode cX1_startOfRange 36 = .ok (.ireturn, 1) := by decide +kernel
set_option maxRecDepth 20000 in
theorem ggX1_endOfRange_X1_isInHouse : GoodIn wsX1_endOfRange wsX1_isInHouse := goodIn_r _ [5, 6, 7, 8, 9, 4, 10, 11, 12, 13, 14, 15, 16, 17, 18, 19, 20, 21, 22, 23, 24, 25, 26, 27, 28, 29] (by decide +kernel) (by decide +kernel)
set_option maxRecDepth 20000 in
theorem gX1_endOfRange_X1_isInHouse : GoodIn wsX1_endOfRange (wsV RX1 153 RX1 yX1_isInHouse wsX1_isInHouse) := goodIn_app (goodIn_of _ (by decide +kernel)) ggX1_endOfRange_X1_isInHouse
theorem dX1_endOfRange_0 : decode cX1_endOfRange 0 = .ok (.iload_n 1, 1) := by decide +kernel
theorem dX1_endOfRange_1 : decode cX1_endOfRange 1 = .ok (.istore_n 2, 1) := by decide +kernel
theorem dX1_endOfRange_2 : decode cX1_endOfRange 2 = .ok (.iload_n 2, 1) := by decide +kernel
theorem dX1_endOfRange_3 : decode cX1_endOfRange 3 = .ok (.sipush 199, 3) := by decide +kernel
theorem dX1_endOfRange_6 : decode cX1_endOfRange 6 = .ok (.if_icmp .ge 19, 3) := by decide +kernel
theorem dX1_endOfRange_9 : decode cX1_endOfRange 9 = .ok (.aload_n 0, 1) := by decide +kernel
theorem dX1_endOfRange_10 : decode cX1_endOfRange 10 = .ok (.iload_n 2, 1) := by decide +kernel
theorem dX1_endOfRange_11 : decode cX1_endOfRange 11 = .ok (.iconst 1, 1) := by decide +kernel
theorem dX1_endOfRange_12 : decode cX1_endOfRange 12 = .ok (.iadd, 1) := by decide +kernel
theorem dX1_endOfRange_13 : decode cX1_endOfRange 13 = .ok (.invokevirtual 153, 3) := by decide +kernel
theorem dX1_endOfRange_16 : decode cX1_endOfRange 16 = .ok (.ifCond .eq 9, 3) := by decide +kernel
theorem dX1_endOfRange_19 : decode cX1_endOfRange 19 = .ok (.iinc 2 1, 3) := by decide +kernel
theorem dX1_endOfRange_22 : decode cX1_endOfRange 22 = .ok (.goto (-20), 3) := by decide +kernel
theorem dX1_endOfRange_25 : decode cX1_endOfRange 25 = .ok (.iload_n 2, 1) := by decide +kernel
theorem dX1_endOfRange_26 : decode cX1_endOfRange 26 = .ok (.ireturn, 1) := by decide +kernel
