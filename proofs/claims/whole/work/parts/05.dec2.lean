theorem dX2_init_0 : decode cX2_init 0 = .ok (.aload_n 0, 1) := by decide +kernel
theorem dX2_init_1 : decode cX2_init 1 = .ok (.invokespecial 1, 3) := by decide +kernel
theorem dX2_init_4 : decode cX2_init 4 = .ok (.aload_n 0, 1) := by decide +kernel
theorem dX2_init_5 : decode cX2_init 5 = .ok (.bipush 30, 2) := by decide +kernel
theorem dX2_init_7 : decode cX2_init 7 = .ok (.putfield 7, 3) := by decide +kernel
theorem dX2_init_10 : decode cX2_init 10 = .ok (.aload_n 0, 1) := by decide +kernel
theorem dX2_init_11 : decode cX2_init 11 = .ok (.bipush 12, 2) := by decide +kernel
theorem dX2_init_13 : decode cX2_init 13 = .ok (.putfield 13, 3) := by decide +kernel
theorem dX2_init_16 : decode cX2_init 16 = .ok (.aload_n 0, 1) := by decide +kernel
theorem dX2_init_17 : decode cX2_init 17 = .ok (.iconst 1, 1) := by decide +kernel
theorem dX2_init_18 : decode cX2_init 18 = .ok (.putfield 16, 3) := by decide +kernel
theorem dX2_init_21 : decode cX2_init 21 = .ok (.aload_n 0, 1) := by decide +kernel
theorem dX2_init_22 : decode cX2_init 22 = .ok (.bipush 7, 2) := by decide +kernel
theorem dX2_init_24 : decode cX2_init 24 = .ok (.putfield 20, 3) := by decide +kernel
theorem dX2_init_27 : decode cX2_init 27 = .ok (.aload_n 0, 1) := by decide +kernel
theorem dX2_init_28 : decode cX2_init 28 = .ok (.bipush 30, 2) := by decide +kernel
theorem dX2_init_30 : decode cX2_init 30 = .ok (.putfield 23, 3) := by decide +kernel
theorem dX2_init_33 : decode cX2_init 33 = .ok (.aload_n 0, 1) := by decide +kernel
theorem dX2_init_34 : decode cX2_init 34 = .ok (.sipush 200, 3) := by decide +kernel
theorem dX2_init_37 : decode cX2_init 37 = .ok (.newarray .int, 2) := by decide +kernel
theorem dX2_init_39 : decode cX2_init 39 = .ok (.putfield 26, 3) := by decide +kernel
theorem dX2_init_42 : decode cX2_init 42 = .ok (.aload_n 0, 1) := by decide +kernel
theorem dX2_init_43 : decode cX2_init 43 = .ok (.sipush 200, 3) := by decide +kernel
theorem dX2_init_46 : decode cX2_init 46 = .ok (.newarray .int, 2) := by decide +kernel
theorem dX2_init_48 : decode cX2_init 48 = .ok (.putfield 30, 3) := by decide +kernel
theorem dX2_init_51 : decode cX2_init 51 = .ok (.aload_n 0, 1) := by decide +kernel
theorem dX2_init_52 : decode cX2_init 52 = .ok (.sipush 200, 3) := by decide +kernel
theorem dX2_init_55 : decode cX2_init 55 = .ok (.newarray .int, 2) := by decide +kernel
theorem dX2_init_57 : decode cX2_init 57 = .ok (.putfield 33, 3) := by decide +kernel
theorem dX2_init_60 : decode cX2_init 60 = .ok (.aload_n 0, 1) := by decide +kernel
theorem dX2_init_61 : decode cX2_init 61 = .ok (.sipush 200, 3) := by decide +kernel
theorem dX2_init_64 : decode cX2_init 64 = .ok (.newarray .int, 2) := by decide +kernel
theorem dX2_init_66 : decode cX2_init 66 = .ok (.putfield 36, 3) := by decide +kernel
theorem dX2_init_69 : decode cX2_init 69 = .ok (.aload_n 0, 1) := by decide +kernel
theorem dX2_init_70 : decode cX2_init 70 = .ok (.sipush 200, 3) := by decide +kernel
theorem dX2_init_73 : decode cX2_init 73 = .ok (.newarray .boolean, 2) := by decide +kernel
theorem dX2_init_75 : decode cX2_init 75 = .ok (.putfield 39, 3) := by decide +kernel
theorem dX2_init_78 : decode cX2_init 78 = .ok (.aload_n 0, 1) := by decide +kernel
theorem dX2_init_79 : decode cX2_init 79 = .ok (.iconst (-1), 1) := by decide +kernel
theorem dX2_init_80 : decode cX2_init 80 = .ok (.putfield 43, 3) := by decide +kernel
theorem dX2_init_83 : decode cX2_init 83 = .ok (.aload_n 0, 1) := by decide +kernel
theorem dX2_init_84 : decode cX2_init 84 = .ok (.iconst 1, 1) := by decide +kernel
theorem dX2_init_85 : decode cX2_init 85 = .ok (.putfield 46, 3) := by decide +kernel
theorem dX2_init_88 : decode cX2_init 88 = .ok (.return_, 1) := by decide +kernel
theorem dX2_thrown_0 : decode cX2_thrown 0 = .ok (.aload_n 0, 1) := by decide +kernel
theorem dX2_thrown_1 : decode cX2_thrown 1 = .ok (.getfield 49, 3) := by decide +kernel
theorem dX2_thrown_4 : decode cX2_thrown 4 = .ok (.ireturn, 1) := by decide +kernel
theorem dX2_can_0 : decode cX2_can 0 = .ok (.aload_n 0, 1) := by decide +kernel
theorem dX2_can_1 : decode cX2_can 1 = .ok (.iload_n 1, 1) := by decide +kernel
theorem dX2_can_2 : decode cX2_can 2 = .ok (.putfield 49, 3) := by decide +kernel
theorem dX2_can_5 : decode cX2_can 5 = .ok (.iload_n 1, 1) := by decide +kernel
theorem dX2_can_6 : decode cX2_can 6 = .ok (.ifCond .ne 7, 3) := by decide +kernel
theorem dX2_can_9 : decode cX2_can 9 = .ok (.iconst 1, 1) := by decide +kernel
theorem dX2_can_10 : decode cX2_can 10 = .ok (.goto 4, 3) := by decide +kernel
theorem dX2_can_13 : decode cX2_can 13 = .ok (.iconst 0, 1) := by decide +kernel
theorem dX2_can_14 : decode cX2_can 14 = .ok (.ireturn, 1) := by decide +kernel
theorem dX2_isIn_0 : decode cX2_isIn 0 = .ok (.iload_n 0, 1) := by decide +kernel
theorem dX2_isIn_1 : decode cX2_isIn 1 = .ok (.iload_n 1, 1) := by decide +kernel
theorem dX2_isIn_2 : decode cX2_isIn 2 = .ok (.if_icmp .lt 12, 3) := by decide +kernel
theorem dX2_isIn_5 : decode cX2_isIn 5 = .ok (.iload_n 0, 1) := by decide +kernel
theorem dX2_isIn_6 : decode cX2_isIn 6 = .ok (.iload_n 2, 1) := by decide +kernel
theorem dX2_isIn_7 : decode cX2_isIn 7 = .ok (.if_icmp .gt 7, 3) := by decide +kernel
theorem dX2_isIn_10 : decode cX2_isIn 10 = .ok (.iconst 1, 1) := by decide +kernel
theorem dX2_isIn_11 : decode cX2_isIn 11 = .ok (.goto 4, 3) := by decide +kernel
theorem dX2_isIn_14 : decode cX2_isIn 14 = .ok (.iconst 0, 1) := by decide +kernel
theorem dX2_isIn_15 : decode cX2_isIn 15 = .ok (.ireturn, 1) := by decide +kernel
set_option maxRecDepth 20000 in
theorem ggX2_isIssue_X2_isIn : GoodIn wsX2_isIssue wsX2_isIn := goodIn_r _ [4] (by decide +kernel) (by decide +kernel)
set_option maxRecDepth 20000 in
theorem gX2_isIssue_X2_isIn : GoodIn wsX2_isIssue (va_wsS RX2 52 yX2_isIn wsX2_isIn) := goodIn_app (goodIn_of _ (by decide +kernel)) ggX2_isIssue_X2_isIn
theorem dX2_isIssue_0 : decode cX2_isIssue 0 = .ok (.iload_n 0, 1) := by decide +kernel
theorem dX2_isIssue_1 : decode cX2_isIssue 1 = .ok (.iconst 0, 1) := by decide +kernel
theorem dX2_isIssue_2 : decode cX2_isIssue 2 = .ok (.sipush 199, 3) := by decide +kernel
theorem dX2_isIssue_5 : decode cX2_isIssue 5 = .ok (.invokestatic 52, 3) := by decide +kernel
theorem dX2_isIssue_8 : decode cX2_isIssue 8 = .ok (.ireturn, 1) := by decide +kernel
set_option maxRecDepth 20000 in
theorem ggX2_isForetold_X2_isIn : GoodIn wsX2_isForetold wsX2_isIn := goodIn_r _ [5] (by decide +kernel) (by decide +kernel)
set_option maxRecDepth 20000 in
theorem gX2_isForetold_X2_isIn : GoodIn wsX2_isForetold (va_wsS RX2 52 yX2_isIn wsX2_isIn) := goodIn_app (goodIn_of _ (by decide +kernel)) ggX2_isForetold_X2_isIn
theorem dX2_isForetold_0 : decode cX2_isForetold 0 = .ok (.iload_n 1, 1) := by decide +kernel
theorem dX2_isForetold_1 : decode cX2_isForetold 1 = .ok (.iconst 0, 1) := by decide +kernel
theorem dX2_isForetold_2 : decode cX2_isForetold 2 = .ok (.aload_n 0, 1) := by decide +kernel
theorem dX2_isForetold_3 : decode cX2_isForetold 3 = .ok (.getfield 46, 3) := by decide +kernel
theorem dX2_isForetold_6 : decode cX2_isForetold 6 = .ok (.iconst 1, 1) := by decide +kernel
theorem dX2_isForetold_7 : decode cX2_isForetold 7 = .ok (.isub, 1) := by decide +kernel
theorem dX2_isForetold_8 : decode cX2_isForetold 8 = .ok (.invokestatic 52, 3) := by decide +kernel
theorem dX2_isForetold_11 : decode cX2_isForetold 11 = .ok (.ireturn, 1) := by decide +kernel
theorem dX2_isBarred_0 : decode cX2_isBarred 0 = .ok (.aload_n 0, 1) := by decide +kernel
theorem dX2_isBarred_1 : decode cX2_isBarred 1 = .ok (.getfield 56, 3) := by decide +kernel
theorem dX2_isBarred_4 : decode cX2_isBarred 4 = .ok (.iload_n 1, 1) := by decide +kernel
theorem dX2_isBarred_5 : decode cX2_isBarred 5 = .ok (.bipush 30, 2) := by decide +kernel
theorem dX2_isBarred_7 : decode cX2_isBarred 7 = .ok (.idiv, 1) := by decide +kernel
theorem dX2_isBarred_8 : decode cX2_isBarred 8 = .ok (.bipush 12, 2) := by decide +kernel
theorem dX2_isBarred_10 : decode cX2_isBarred 10 = .ok (.irem, 1) := by decide +kernel
theorem dX2_isBarred_11 : decode cX2_isBarred 11 = .ok (.ishr, 1) := by decide +kernel
theorem dX2_isBarred_12 : decode cX2_isBarred 12 = .ok (.iconst 1, 1) := by decide +kernel
theorem dX2_isBarred_13 : decode cX2_isBarred 13 = .ok (.iand, 1) := by decide +kernel
theorem dX2_isBarred_14 : decode cX2_isBarred 14 = .ok (.iconst 1, 1) := by decide +kernel
theorem dX2_isBarred_15 : decode cX2_isBarred 15 = .ok (.if_icmp .ne 7, 3) := by decide +kernel
theorem dX2_isBarred_18 : decode cX2_isBarred 18 = .ok (.iconst 1, 1) := by decide +kernel
theorem dX2_isBarred_19 : decode cX2_isBarred 19 = .ok (.goto 4, 3) := by decide +kernel
theorem dX2_isBarred_22 : decode cX2_isBarred 22 = .ok (.iconst 0, 1) := by decide +kernel
theorem dX2_isBarred_23 : decode cX2_isBarred 23 = .ok (.ireturn, 1) := by decide +kernel
set_option maxRecDepth 20000 in
theorem ggX2_nextDay_X2_isBarred : GoodIn wsX2_nextDay wsX2_isBarred := goodIn_r _ [9, 10, 11, 12, 13, 14, 15, 16, 17, 18, 19, 20, 21, 22, 23, 24, 25, 26, 27, 28] (by decide +kernel) (by decide +kernel)
set_option maxRecDepth 20000 in
theorem gX2_nextDay_X2_isBarred : GoodIn wsX2_nextDay (wsV RX2 62 RX2 yX2_isBarred wsX2_isBarred) := goodIn_app (goodIn_of _ (by decide +kernel)) ggX2_nextDay_X2_isBarred
theorem dX2_nextDay_0 : decode cX2_nextDay 0 = .ok (.aload_n 0, 1) := by decide +kernel
theorem dX2_nextDay_1 : decode cX2_nextDay 1 = .ok (.getfield 26, 3) := by decide +kernel
theorem dX2_nextDay_4 : decode cX2_nextDay 4 = .ok (.aload_n 0, 1) := by decide +kernel
theorem dX2_nextDay_5 : decode cX2_nextDay 5 = .ok (.getfield 46, 3) := by decide +kernel
theorem dX2_nextDay_8 : decode cX2_nextDay 8 = .ok (.iconst 1, 1) := by decide +kernel
theorem dX2_nextDay_9 : decode cX2_nextDay 9 = .ok (.isub, 1) := by decide +kernel
theorem dX2_nextDay_10 : decode cX2_nextDay 10 = .ok (.iaload, 1) := by decide +kernel
theorem dX2_nextDay_11 : decode cX2_nextDay 11 = .ok (.istore_n 1, 1) := by decide +kernel
theorem dX2_nextDay_12 : decode cX2_nextDay 12 = .ok (.iload_n 1, 1) := by decide +kernel
theorem dX2_nextDay_13 : decode cX2_nextDay 13 = .ok (.aload_n 0, 1) := by decide +kernel
theorem dX2_nextDay_14 : decode cX2_nextDay 14 = .ok (.getfield 7, 3) := by decide +kernel
theorem dX2_nextDay_17 : decode cX2_nextDay 17 = .ok (.iadd, 1) := by decide +kernel
theorem dX2_nextDay_18 : decode cX2_nextDay 18 = .ok (.aload_n 0, 1) := by decide +kernel
theorem dX2_nextDay_19 : decode cX2_nextDay 19 = .ok (.getfield 59, 3) := by decide +kernel
theorem dX2_nextDay_22 : decode cX2_nextDay 22 = .ok (.iadd, 1) := by decide +kernel
theorem dX2_nextDay_23 : decode cX2_nextDay 23 = .ok (.istore_n 2, 1) := by decide +kernel
theorem dX2_nextDay_24 : decode cX2_nextDay 24 = .ok (.iload_n 2, 1) := by decide +kernel
theorem dX2_nextDay_25 : decode cX2_nextDay 25 = .ok (.iload_n 1, 1) := by decide +kernel
theorem dX2_nextDay_26 : decode cX2_nextDay 26 = .ok (.if_icmp .le 7, 3) := by decide +kernel
theorem dX2_nextDay_29 : decode cX2_nextDay 29 = .ok (.iload_n 2, 1) := by decide +kernel
theorem dX2_nextDay_30 : decode cX2_nextDay 30 = .ok (.goto 6, 3) := by decide +kernel
theorem dX2_nextDay_33 : decode cX2_nextDay 33 = .ok (.iload_n 1, 1) := by decide +kernel
theorem dX2_nextDay_34 : decode cX2_nextDay 34 = .ok (.iconst 1, 1) := by decide +kernel
theorem dX2_nextDay_35 : decode cX2_nextDay 35 = .ok (.iadd, 1) := by decide +kernel
theorem dX2_nextDay_36 : decode cX2_nextDay 36 = .ok (.istore_n 2, 1) := by decide +kernel
theorem dX2_nextDay_37 : decode cX2_nextDay 37 = .ok (.aload_n 0, 1) := by decide +kernel
theorem dX2_nextDay_38 : decode cX2_nextDay 38 = .ok (.iload_n 2, 1) := by decide +kernel
theorem dX2_nextDay_39 : decode cX2_nextDay 39 = .ok (.invokevirtual 62, 3) := by decide +kernel
theorem dX2_nextDay_42 : decode cX2_nextDay 42 = .ok (.ifCond .eq 9, 3) := by decide +kernel
theorem dX2_nextDay_45 : decode cX2_nextDay 45 = .ok (.iinc 2 1, 3) := by decide +kernel
theorem dX2_nextDay_48 : decode cX2_nextDay 48 = .ok (.goto (-11), 3) := by decide +kernel
theorem dX2_nextDay_51 : decode cX2_nextDay 51 = .ok (.iload_n 2, 1) := by decide +kernel
theorem dX2_nextDay_52 : decode cX2_nextDay 52 = .ok (.ireturn, 1) := by decide +kernel
set_option maxRecDepth 20000 in
theorem ggX2_foretells_X2_nextDay : GoodIn wsX2_foretells wsX2_nextDay := goodIn_r _ [8, 1, 2, 9, 3, 10, 11, 12, 7, 13, 14, 15, 16, 17, 18, 19, 20, 21, 22, 23, 24, 25, 26, 27, 28, 29, 30, 31, 32] (by decide +kernel) (by decide +kernel)
set_option maxRecDepth 20000 in
theorem gX2_foretells_X2_nextDay : GoodIn wsX2_foretells (wsV RX2 66 RX2 yX2_nextDay wsX2_nextDay) := goodIn_app (goodIn_of _ (by decide +kernel)) ggX2_foretells_X2_nextDay
theorem dX2_foretells_0 : decode cX2_foretells 0 = .ok (.aload_n 0, 1) := by decide +kernel
theorem dX2_foretells_1 : decode cX2_foretells 1 = .ok (.getfield 26, 3) := by decide +kernel
theorem dX2_foretells_4 : decode cX2_foretells 4 = .ok (.aload_n 0, 1) := by decide +kernel
theorem dX2_foretells_5 : decode cX2_foretells 5 = .ok (.getfield 46, 3) := by decide +kernel
theorem dX2_foretells_8 : decode cX2_foretells 8 = .ok (.aload_n 0, 1) := by decide +kernel
theorem dX2_foretells_9 : decode cX2_foretells 9 = .ok (.invokevirtual 66, 3) := by decide +kernel
theorem dX2_foretells_12 : decode cX2_foretells 12 = .ok (.iastore, 1) := by decide +kernel
theorem dX2_foretells_13 : decode cX2_foretells 13 = .ok (.aload_n 0, 1) := by decide +kernel
theorem dX2_foretells_14 : decode cX2_foretells 14 = .ok (.iconst 0, 1) := by decide +kernel
theorem dX2_foretells_15 : decode cX2_foretells 15 = .ok (.putfield 59, 3) := by decide +kernel
theorem dX2_foretells_18 : decode cX2_foretells 18 = .ok (.aload_n 0, 1) := by decide +kernel
theorem dX2_foretells_19 : decode cX2_foretells 19 = .ok (.dup, 1) := by decide +kernel
theorem dX2_foretells_20 : decode cX2_foretells 20 = .ok (.getfield 46, 3) := by decide +kernel
theorem dX2_foretells_23 : decode cX2_foretells 23 = .ok (.iconst 1, 1) := by decide +kernel
theorem dX2_foretells_24 : decode cX2_foretells 24 = .ok (.iadd, 1) := by decide +kernel
theorem dX2_foretells_25 : decode cX2_foretells 25 = .ok (.putfield 46, 3) := by decide +kernel
theorem dX2_foretells_28 : decode cX2_foretells 28 = .ok (.return_, 1) := by decide +kernel
set_option maxRecDepth 20000 in
theorem ggX2_looks_X2_nextDay : GoodIn wsX2_looks wsX2_nextDay := goodIn_r _ [7, 8, 1, 9, 10, 11, 12, 13, 6, 14, 15, 20, 21, 22, 23, 24, 25, 26, 27, 28, 29, 30, 31, 32, 33, 34, 35, 36, 37] (by decide +kernel) (by decide +kernel)
set_option maxRecDepth 20000 in
theorem gX2_looks_X2_nextDay : GoodIn wsX2_looks (wsV RX2 66 RX2 yX2_nextDay wsX2_nextDay) := goodIn_app (goodIn_of _ (by decide +kernel)) ggX2_looks_X2_nextDay
set_option maxRecDepth 20000 in
theorem ggX2_looks_X2_foretells : GoodIn wsX2_looks wsX2_foretells := goodIn_r _ [19, 8, 1, 10, 3, 4, 5, 6, 7, 9, 11, 12, 13, 14, 15, 20, 21, 22, 23, 24, 25, 26, 27, 28, 29, 30, 31, 32, 33, 34, 35, 36, 37] (by decide +kernel) (by decide +kernel)
set_option maxRecDepth 20000 in
theorem gX2_looks_X2_foretells : GoodIn wsX2_looks (wsV RX2 73 RX2 yX2_foretells wsX2_foretells) := goodIn_app (goodIn_of _ (by decide +kernel)) ggX2_looks_X2_foretells
theorem dX2_looks_0 : decode cX2_looks 0 = .ok (.aload_n 0, 1) := by decide +kernel
theorem dX2_looks_1 : decode cX2_looks 1 = .ok (.getfield 46, 3) := by decide +kernel
theorem dX2_looks_4 : decode cX2_looks 4 = .ok (.sipush 200, 3) := by decide +kernel
theorem dX2_looks_7 : decode cX2_looks 7 = .ok (.if_icmp .ge 21, 3) := by decide +kernel
theorem dX2_looks_10 : decode cX2_looks 10 = .ok (.aload_n 0, 1) := by decide +kernel
theorem dX2_looks_11 : decode cX2_looks 11 = .ok (.invokevirtual 66, 3) := by decide +kernel
theorem dX2_looks_14 : decode cX2_looks 14 = .ok (.aload_n 0, 1) := by decide +kernel
theorem dX2_looks_15 : decode cX2_looks 15 = .ok (.getfield 70, 3) := by decide +kernel
theorem dX2_looks_18 : decode cX2_looks 18 = .ok (.if_icmp .gt 10, 3) := by decide +kernel
theorem dX2_looks_21 : decode cX2_looks 21 = .ok (.aload_n 0, 1) := by decide +kernel
theorem dX2_looks_22 : decode cX2_looks 22 = .ok (.invokevirtual 73, 3) := by decide +kernel
theorem dX2_looks_25 : decode cX2_looks 25 = .ok (.goto (-25), 3) := by decide +kernel
theorem dX2_looks_28 : decode cX2_looks 28 = .ok (.return_, 1) := by decide +kernel
set_option maxRecDepth 20000 in
theorem ggX2_setPattern_X2_isIn : GoodIn wsX2_setPattern wsX2_isIn := goodIn_r _ [8] (by decide +kernel) (by decide +kernel)
set_option maxRecDepth 20000 in
theorem gX2_setPattern_X2_isIn : GoodIn wsX2_setPattern (va_wsS RX2 52 yX2_isIn wsX2_isIn) := goodIn_app (goodIn_of _ (by decide +kernel)) ggX2_setPattern_X2_isIn
set_option maxRecDepth 20000 in
theorem ggX2_setPattern_X2_can : GoodIn wsX2_setPattern wsX2_can := goodIn_r _ [12, 13, 34, 35, 36, 37, 38, 39, 40, 41, 42, 43, 44, 45, 46, 47, 48, 49, 50, 51] (by decide +kernel) (by decide +kernel)
set_option maxRecDepth 20000 in
theorem gX2_setPattern_X2_can : GoodIn wsX2_setPattern (wsV RX2 76 RX2 yX2_can wsX2_can) := goodIn_app (goodIn_of _ (by decide +kernel)) ggX2_setPattern_X2_can
set_option maxRecDepth 20000 in
theorem ggX2_setPattern_X2_looks : GoodIn wsX2_setPattern wsX2_looks := goodIn_r _ [17, 18, 19, 20, 21, 22, 7, 23, 24, 1, 25, 26, 27, 28, 29, 4, 30, 31, 32, 33, 34, 35, 36, 37, 38, 39, 40, 41, 42, 43, 44, 45, 46, 47, 48, 49, 50, 51] (by decide +kernel) (by decide +kernel)
set_option maxRecDepth 20000 in
theorem gX2_setPattern_X2_looks : GoodIn wsX2_setPattern (wsV RX2 79 RX2 yX2_looks wsX2_looks) := goodIn_app (goodIn_of _ (by decide +kernel)) ggX2_setPattern_X2_looks
theorem dX2_setPattern_0 : decode cX2_setPattern 0 = .ok (.aload_n 0, 1) := by decide +kernel
theorem dX2_setPattern_1 : decode cX2_setPattern 1 = .ok (.iload_n 1, 1) := by decide +kernel
theorem dX2_setPattern_2 : decode cX2_setPattern 2 = .ok (.iconst 1, 1) := by decide +kernel
theorem dX2_setPattern_3 : decode cX2_setPattern 3 = .ok (.bipush 90, 2) := by decide +kernel
theorem dX2_setPattern_5 : decode cX2_setPattern 5 = .ok (.invokestatic 52, 3) := by decide +kernel
theorem dX2_setPattern_8 : decode cX2_setPattern 8 = .ok (.ifCond .eq 29, 3) := by decide +kernel
theorem dX2_setPattern_11 : decode cX2_setPattern 11 = .ok (.iload_n 2, 1) := by decide +kernel
theorem dX2_setPattern_12 : decode cX2_setPattern 12 = .ok (.iconst 1, 1) := by decide +kernel
theorem dX2_setPattern_13 : decode cX2_setPattern 13 = .ok (.bipush 20, 2) := by decide +kernel
theorem dX2_setPattern_15 : decode cX2_setPattern 15 = .ok (.invokestatic 52, 3) := by decide +kernel
theorem dX2_setPattern_18 : decode cX2_setPattern 18 = .ok (.ifCond .eq 19, 3) := by decide +kernel
theorem dX2_setPattern_21 : decode cX2_setPattern 21 = .ok (.iload 4, 2) := by decide +kernel
theorem dX2_setPattern_23 : decode cX2_setPattern 23 = .ok (.iconst 0, 1) := by decide +kernel
theorem dX2_setPattern_24 : decode cX2_setPattern 24 = .ok (.sipush 4094, 3) := by decide +kernel
theorem dX2_setPattern_27 : decode cX2_setPattern 27 = .ok (.invokestatic 52, 3) := by decide +kernel
theorem dX2_setPattern_30 : decode cX2_setPattern 30 = .ok (.ifCond .eq 7, 3) := by decide +kernel
theorem dX2_setPattern_33 : decode cX2_setPattern 33 = .ok (.iconst 0, 1) := by decide +kernel
theorem dX2_setPattern_34 : decode cX2_setPattern 34 = .ok (.goto 4, 3) := by decide +kernel
theorem dX2_setPattern_37 : decode cX2_setPattern 37 = .ok (.iconst 1, 1) := by decide +kernel
theorem dX2_setPattern_38 : decode cX2_setPattern 38 = .ok (.invokevirtual 76, 3) := by decide +kernel
theorem dX2_setPattern_41 : decode cX2_setPattern 41 = .ok (.ifCond .eq 28, 3) := by decide +kernel
theorem dX2_setPattern_44 : decode cX2_setPattern 44 = .ok (.aload_n 0, 1) := by decide +kernel
theorem dX2_setPattern_45 : decode cX2_setPattern 45 = .ok (.iload_n 1, 1) := by decide +kernel
theorem dX2_setPattern_46 : decode cX2_setPattern 46 = .ok (.putfield 7, 3) := by decide +kernel
theorem dX2_setPattern_49 : decode cX2_setPattern 49 = .ok (.aload_n 0, 1) := by decide +kernel
theorem dX2_setPattern_50 : decode cX2_setPattern 50 = .ok (.iload_n 2, 1) := by decide +kernel
theorem dX2_setPattern_51 : decode cX2_setPattern 51 = .ok (.putfield 13, 3) := by decide +kernel
theorem dX2_setPattern_54 : decode cX2_setPattern 54 = .ok (.aload_n 0, 1) := by decide +kernel
theorem dX2_setPattern_55 : decode cX2_setPattern 55 = .ok (.iload_n 3, 1) := by decide +kernel
theorem dX2_setPattern_56 : decode cX2_setPattern 56 = .ok (.putfield 16, 3) := by decide +kernel
theorem dX2_setPattern_59 : decode cX2_setPattern 59 = .ok (.aload_n 0, 1) := by decide +kernel
theorem dX2_setPattern_60 : decode cX2_setPattern 60 = .ok (.iload 4, 2) := by decide +kernel
theorem dX2_setPattern_62 : decode cX2_setPattern 62 = .ok (.putfield 56, 3) := by decide +kernel
theorem dX2_setPattern_65 : decode cX2_setPattern 65 = .ok (.aload_n 0, 1) := by decide +kernel
theorem dX2_setPattern_66 : decode cX2_setPattern 66 = .ok (.invokevirtual 79, 3) := by decide +kernel
theorem dX2_setPattern_69 : decode cX2_setPattern 69 = .ok (.return_, 1) := by decide +kernel
set_option maxRecDepth 20000 in
theorem ggX2_setClaims_X2_isIn : GoodIn wsX2_setClaims wsX2_isIn := goodIn_r _ [6] (by decide +kernel) (by decide +kernel)
set_option maxRecDepth 20000 in
theorem gX2_setClaims_X2_isIn : GoodIn wsX2_setClaims (va_wsS RX2 52 yX2_isIn wsX2_isIn) := goodIn_app (goodIn_of _ (by decide +kernel)) ggX2_setClaims_X2_isIn
set_option maxRecDepth 20000 in
theorem ggX2_setClaims_X2_can : GoodIn wsX2_setClaims wsX2_can := goodIn_r _ [10, 11, 12, 13, 14, 15, 16, 17, 18, 19, 20, 21, 22, 23, 24, 25, 26, 27, 28, 29] (by decide +kernel) (by decide +kernel)
set_option maxRecDepth 20000 in
theorem gX2_setClaims_X2_can : GoodIn wsX2_setClaims (wsV RX2 76 RX2 yX2_can wsX2_can) := goodIn_app (goodIn_of _ (by decide +kernel)) ggX2_setClaims_X2_can
theorem dX2_setClaims_0 : decode cX2_setClaims 0 = .ok (.aload_n 0, 1) := by decide +kernel
theorem dX2_setClaims_1 : decode cX2_setClaims 1 = .ok (.iload_n 1, 1) := by decide +kernel
theorem dX2_setClaims_2 : decode cX2_setClaims 2 = .ok (.iconst 0, 1) := by decide +kernel
theorem dX2_setClaims_3 : decode cX2_setClaims 3 = .ok (.bipush 100, 2) := by decide +kernel
theorem dX2_setClaims_5 : decode cX2_setClaims 5 = .ok (.invokestatic 52, 3) := by decide +kernel
theorem dX2_setClaims_8 : decode cX2_setClaims 8 = .ok (.ifCond .eq 17, 3) := by decide +kernel
theorem dX2_setClaims_11 : decode cX2_setClaims 11 = .ok (.iload_n 2, 1) := by decide +kernel
theorem dX2_setClaims_12 : decode cX2_setClaims 12 = .ok (.iconst 1, 1) := by decide +kernel
theorem dX2_setClaims_13 : decode cX2_setClaims 13 = .ok (.bipush 100, 2) := by decide +kernel
theorem dX2_setClaims_15 : decode cX2_setClaims 15 = .ok (.invokestatic 52, 3) := by decide +kernel
theorem dX2_setClaims_18 : decode cX2_setClaims 18 = .ok (.ifCond .eq 7, 3) := by decide +kernel
theorem dX2_setClaims_21 : decode cX2_setClaims 21 = .ok (.iconst 0, 1) := by decide +kernel
theorem dX2_setClaims_22 : decode cX2_setClaims 22 = .ok (.goto 4, 3) := by decide +kernel
theorem dX2_setClaims_25 : decode cX2_setClaims 25 = .ok (.iconst 1, 1) := by decide +kernel
theorem dX2_setClaims_26 : decode cX2_setClaims 26 = .ok (.invokevirtual 76, 3) := by decide +kernel
theorem dX2_setClaims_29 : decode cX2_setClaims 29 = .ok (.ifCond .eq 13, 3) := by decide +kernel
theorem dX2_setClaims_32 : decode cX2_setClaims 32 = .ok (.aload_n 0, 1) := by decide +kernel
theorem dX2_setClaims_33 : decode cX2_setClaims 33 = .ok (.iload_n 1, 1) := by decide +kernel
theorem dX2_setClaims_34 : decode cX2_setClaims 34 = .ok (.putfield 20, 3) := by decide +kernel
theorem dX2_setClaims_37 : decode cX2_setClaims 37 = .ok (.aload_n 0, 1) := by decide +kernel
theorem dX2_setClaims_38 : decode cX2_setClaims 38 = .ok (.iload_n 2, 1) := by decide +kernel
theorem dX2_setClaims_39 : decode cX2_setClaims 39 = .ok (.putfield 23, 3) := by decide +kernel
theorem dX2_setClaims_42 : decode cX2_setClaims 42 = .ok (.return_, 1) := by decide +kernel
set_option maxRecDepth 20000 in
theorem ggX2_advance_X2_isIn : GoodIn wsX2_advance wsX2_isIn := goodIn_r _ [5] (by decide +kernel) (by decide +kernel)
set_option maxRecDepth 20000 in
theorem gX2_advance_X2_isIn : GoodIn wsX2_advance (va_wsS RX2 52 yX2_isIn wsX2_isIn) := goodIn_app (goodIn_of _ (by decide +kernel)) ggX2_advance_X2_isIn
set_option maxRecDepth 20000 in
theorem ggX2_advance_X2_can : GoodIn wsX2_advance wsX2_can := goodIn_r _ [9, 10, 32, 33, 34, 35, 36, 37, 38, 39, 40, 41, 42, 43, 44, 45, 46, 47, 48, 49] (by decide +kernel) (by decide +kernel)
set_option maxRecDepth 20000 in
theorem gX2_advance_X2_can : GoodIn wsX2_advance (wsV RX2 76 RX2 yX2_can wsX2_can) := goodIn_app (goodIn_of _ (by decide +kernel)) ggX2_advance_X2_can
set_option maxRecDepth 20000 in
theorem ggX2_advance_X2_looks : GoodIn wsX2_advance wsX2_looks := goodIn_r _ [14, 15, 1, 16, 17, 18, 4, 19, 20, 21, 22, 23, 24, 25, 26, 27, 28, 29, 30, 31, 32, 33, 34, 35, 36, 37, 38, 39, 40, 41, 42, 43, 44, 45, 46, 47, 48, 49] (by decide +kernel) (by decide +kernel)
set_option maxRecDepth 20000 in
theorem gX2_advance_X2_looks : GoodIn wsX2_advance (wsV RX2 79 RX2 yX2_looks wsX2_looks) := goodIn_app (goodIn_of _ (by decide +kernel)) ggX2_advance_X2_looks
theorem dX2_advance_0 : decode cX2_advance 0 = .ok (.aload_n 0, 1) := by decide +kernel
theorem dX2_advance_1 : decode cX2_advance 1 = .ok (.iload_n 1, 1) := by decide +kernel
theorem dX2_advance_2 : decode cX2_advance 2 = .ok (.iconst 1, 1) := by decide +kernel
theorem dX2_advance_3 : decode cX2_advance 3 = .ok (.sipush 400, 3) := by decide +kernel
theorem dX2_advance_6 : decode cX2_advance 6 = .ok (.invokestatic 52, 3) := by decide +kernel
theorem dX2_advance_9 : decode cX2_advance 9 = .ok (.ifCond .ne 7, 3) := by decide +kernel
theorem dX2_advance_12 : decode cX2_advance 12 = .ok (.iconst 1, 1) := by decide +kernel
theorem dX2_advance_13 : decode cX2_advance 13 = .ok (.goto 20, 3) := by decide +kernel
theorem dX2_advance_16 : decode cX2_advance 16 = .ok (.aload_n 0, 1) := by decide +kernel
theorem dX2_advance_17 : decode cX2_advance 17 = .ok (.getfield 70, 3) := by decide +kernel
theorem dX2_advance_20 : decode cX2_advance 20 = .ok (.iload_n 1, 1) := by decide +kernel
theorem dX2_advance_21 : decode cX2_advance 21 = .ok (.iadd, 1) := by decide +kernel
theorem dX2_advance_22 : decode cX2_advance 22 = .ok (.sipush 7200, 3) := by decide +kernel
theorem dX2_advance_25 : decode cX2_advance 25 = .ok (.if_icmp .le 7, 3) := by decide +kernel
theorem dX2_advance_28 : decode cX2_advance 28 = .ok (.iconst 2, 1) := by decide +kernel
theorem dX2_advance_29 : decode cX2_advance 29 = .ok (.goto 4, 3) := by decide +kernel
theorem dX2_advance_32 : decode cX2_advance 32 = .ok (.iconst 0, 1) := by decide +kernel
theorem dX2_advance_33 : decode cX2_advance 33 = .ok (.invokevirtual 76, 3) := by decide +kernel
theorem dX2_advance_36 : decode cX2_advance 36 = .ok (.ifCond .ne 5, 3) := by decide +kernel
theorem dX2_advance_39 : decode cX2_advance 39 = .ok (.iconst 0, 1) := by decide +kernel
theorem dX2_advance_40 : decode cX2_advance 40 = .ok (.ireturn, 1) := by decide +kernel
theorem dX2_advance_41 : decode cX2_advance 41 = .ok (.aload_n 0, 1) := by decide +kernel
theorem dX2_advance_42 : decode cX2_advance 42 = .ok (.dup, 1) := by decide +kernel
theorem dX2_advance_43 : decode cX2_advance 43 = .ok (.getfield 70, 3) := by decide +kernel
theorem dX2_advance_46 : decode cX2_advance 46 = .ok (.iload_n 1, 1) := by decide +kernel
theorem dX2_advance_47 : decode cX2_advance 47 = .ok (.iadd, 1) := by decide +kernel
theorem dX2_advance_48 : decode cX2_advance 48 = .ok (.putfield 70, 3) := by decide +kernel
theorem dX2_advance_51 : decode cX2_advance 51 = .ok (.aload_n 0, 1) := by decide +kernel
theorem dX2_advance_52 : decode cX2_advance 52 = .ok (.invokevirtual 79, 3) := by decide +kernel
theorem dX2_advance_55 : decode cX2_advance 55 = .ok (.aload_n 0, 1) := by decide +kernel
theorem dX2_advance_56 : decode cX2_advance 56 = .ok (.getfield 70, 3) := by decide +kernel
theorem dX2_advance_59 : decode cX2_advance 59 = .ok (.ireturn, 1) := by decide +kernel
theorem dX2_isOpen_0 : decode cX2_isOpen 0 = .ok (.iconst 1, 1) := by decide +kernel
theorem dX2_isOpen_1 : decode cX2_isOpen 1 = .ok (.istore_n 3, 1) := by decide +kernel
theorem dX2_isOpen_2 : decode cX2_isOpen 2 = .ok (.iload_n 1, 1) := by decide +kernel
theorem dX2_isOpen_3 : decode cX2_isOpen 3 = .ok (.istore 4, 2) := by decide +kernel
theorem dX2_isOpen_5 : decode cX2_isOpen 5 = .ok (.iload 4, 2) := by decide +kernel
theorem dX2_isOpen_7 : decode cX2_isOpen 7 = .ok (.iload_n 1, 1) := by decide +kernel
theorem dX2_isOpen_8 : decode cX2_isOpen 8 = .ok (.iload_n 2, 1) := by decide +kernel
theorem dX2_isOpen_9 : decode cX2_isOpen 9 = .ok (.iadd, 1) := by decide +kernel
theorem dX2_isOpen_10 : decode cX2_isOpen 10 = .ok (.if_icmp .gt 38, 3) := by decide +kernel
theorem dX2_isOpen_13 : decode cX2_isOpen 13 = .ok (.iload_n 3, 1) := by decide +kernel
theorem dX2_isOpen_14 : decode cX2_isOpen 14 = .ok (.ifCond .eq 26, 3) := by decide +kernel
theorem dX2_isOpen_17 : decode cX2_isOpen 17 = .ok (.iload 4, 2) := by decide +kernel
theorem dX2_isOpen_19 : decode cX2_isOpen 19 = .ok (.aload_n 0, 1) := by decide +kernel
theorem dX2_isOpen_20 : decode cX2_isOpen 20 = .ok (.getfield 46, 3) := by decide +kernel
theorem dX2_isOpen_23 : decode cX2_isOpen 23 = .ok (.if_icmp .ge 13, 3) := by decide +kernel
theorem dX2_isOpen_26 : decode cX2_isOpen 26 = .ok (.aload_n 0, 1) := by decide +kernel
theorem dX2_isOpen_27 : decode cX2_isOpen 27 = .ok (.getfield 30, 3) := by decide +kernel
theorem dX2_isOpen_30 : decode cX2_isOpen 30 = .ok (.iload 4, 2) := by decide +kernel
theorem dX2_isOpen_32 : decode cX2_isOpen 32 = .ok (.iaload, 1) := by decide +kernel
theorem dX2_isOpen_33 : decode cX2_isOpen 33 = .ok (.ifCond .ne 7, 3) := by decide +kernel
theorem dX2_isOpen_36 : decode cX2_isOpen 36 = .ok (.iconst 1, 1) := by decide +kernel
theorem dX2_isOpen_37 : decode cX2_isOpen 37 = .ok (.goto 4, 3) := by decide +kernel
theorem dX2_isOpen_40 : decode cX2_isOpen 40 = .ok (.iconst 0, 1) := by decide +kernel
theorem dX2_isOpen_41 : decode cX2_isOpen 41 = .ok (.istore_n 3, 1) := by decide +kernel
theorem dX2_isOpen_42 : decode cX2_isOpen 42 = .ok (.iinc 4 1, 3) := by decide +kernel
theorem dX2_isOpen_45 : decode cX2_isOpen 45 = .ok (.goto (-40), 3) := by decide +kernel
theorem dX2_isOpen_48 : decode cX2_isOpen 48 = .ok (.iload_n 3, 1) := by decide +kernel
theorem dX2_isOpen_49 : decode cX2_isOpen 49 = .ok (.ireturn, 1) := by decide +kernel
theorem dX2_follows_0 : decode cX2_follows 0 = .ok (.aload_n 0, 1) := by decide +kernel
theorem dX2_follows_1 : decode cX2_follows 1 = .ok (.getfield 43, 3) := by decide +kernel
theorem dX2_follows_4 : decode cX2_follows 4 = .ok (.iconst (-1), 1) := by decide +kernel
theorem dX2_follows_5 : decode cX2_follows 5 = .ok (.if_icmp .eq 15, 3) := by decide +kernel
theorem dX2_follows_8 : decode cX2_follows 8 = .ok (.iload_n 1, 1) := by decide +kernel
theorem dX2_follows_9 : decode cX2_follows 9 = .ok (.aload_n 0, 1) := by decide +kernel
theorem dX2_follows_10 : decode cX2_follows 10 = .ok (.getfield 43, 3) := by decide +kernel
theorem dX2_follows_13 : decode cX2_follows 13 = .ok (.if_icmp .le 7, 3) := by decide +kernel
theorem dX2_follows_16 : decode cX2_follows 16 = .ok (.iconst 1, 1) := by decide +kernel
theorem dX2_follows_17 : decode cX2_follows 17 = .ok (.goto 4, 3) := by decide +kernel
theorem dX2_follows_20 : decode cX2_follows 20 = .ok (.iconst 0, 1) := by decide +kernel
theorem dX2_follows_21 : decode cX2_follows 21 = .ok (.istore_n 2, 1) := by decide +kernel
theorem dX2_follows_22 : decode cX2_follows 22 = .ok (.aload_n 0, 1) := by decide +kernel
theorem dX2_follows_23 : decode cX2_follows 23 = .ok (.getfield 43, 3) := by decide +kernel
theorem dX2_follows_26 : decode cX2_follows 26 = .ok (.iconst 1, 1) := by decide +kernel
theorem dX2_follows_27 : decode cX2_follows 27 = .ok (.iadd, 1) := by decide +kernel
theorem dX2_follows_28 : decode cX2_follows 28 = .ok (.istore_n 3, 1) := by decide +kernel
theorem dX2_follows_29 : decode cX2_follows 29 = .ok (.iload_n 3, 1) := by decide +kernel
theorem dX2_follows_30 : decode cX2_follows 30 = .ok (.iload_n 1, 1) := by decide +kernel
theorem dX2_follows_31 : decode cX2_follows 31 = .ok (.if_icmp .ge 39, 3) := by decide +kernel
theorem dX2_follows_34 : decode cX2_follows 34 = .ok (.iload_n 2, 1) := by decide +kernel
theorem dX2_follows_35 : decode cX2_follows 35 = .ok (.ifCond .eq 35, 3) := by decide +kernel
theorem dX2_follows_38 : decode cX2_follows 38 = .ok (.aload_n 0, 1) := by decide +kernel
theorem dX2_follows_39 : decode cX2_follows 39 = .ok (.getfield 30, 3) := by decide +kernel
theorem dX2_follows_42 : decode cX2_follows 42 = .ok (.iload_n 3, 1) := by decide +kernel
theorem dX2_follows_43 : decode cX2_follows 43 = .ok (.iaload, 1) := by decide +kernel
theorem dX2_follows_44 : decode cX2_follows 44 = .ok (.iconst 2, 1) := by decide +kernel
theorem dX2_follows_45 : decode cX2_follows 45 = .ok (.if_icmp .eq 13, 3) := by decide +kernel
theorem dX2_follows_48 : decode cX2_follows 48 = .ok (.aload_n 0, 1) := by decide +kernel
theorem dX2_follows_49 : decode cX2_follows 49 = .ok (.getfield 30, 3) := by decide +kernel
theorem dX2_follows_52 : decode cX2_follows 52 = .ok (.iload_n 3, 1) := by decide +kernel
theorem dX2_follows_53 : decode cX2_follows 53 = .ok (.iaload, 1) := by decide +kernel
theorem dX2_follows_54 : decode cX2_follows 54 = .ok (.iconst 3, 1) := by decide +kernel
theorem dX2_follows_55 : decode cX2_follows 55 = .ok (.if_icmp .ne 7, 3) := by decide +kernel
theorem dX2_follows_58 : decode cX2_follows 58 = .ok (.iconst 1, 1) := by decide +kernel
theorem dX2_follows_59 : decode cX2_follows 59 = .ok (.goto 4, 3) := by decide +kernel
theorem dX2_follows_62 : decode cX2_follows 62 = .ok (.iconst 0, 1) := by decide +kernel
theorem dX2_follows_63 : decode cX2_follows 63 = .ok (.istore_n 2, 1) := by decide +kernel
theorem dX2_follows_64 : decode cX2_follows 64 = .ok (.iinc 3 1, 3) := by decide +kernel
theorem dX2_follows_67 : decode cX2_follows 67 = .ok (.goto (-38), 3) := by decide +kernel
theorem dX2_follows_70 : decode cX2_follows 70 = .ok (.iload_n 2, 1) := by decide +kernel
theorem dX2_follows_71 : decode cX2_follows 71 = .ok (.ireturn, 1) := by decide +kernel
set_option maxRecDepth 20000 in
theorem ggX2_counts_X2_follows : GoodIn wsX2_counts wsX2_follows := goodIn_r _ [11, 5, 12, 16, 17, 18, 19, 20, 21, 22, 23, 24, 25, 26, 27, 28, 29, 30, 31, 32, 33] (by decide +kernel) (by decide +kernel)
set_option maxRecDepth 20000 in
theorem gX2_counts_X2_follows : GoodIn wsX2_counts (wsV RX2 85 RX2 yX2_follows wsX2_follows) := goodIn_app (goodIn_of _ (by decide +kernel)) ggX2_counts_X2_follows
set_option maxRecDepth 20000 in
theorem ggX2_counts_X2_isIn : GoodIn wsX2_counts wsX2_isIn := goodIn_r _ [15] (by decide +kernel) (by decide +kernel)
set_option maxRecDepth 20000 in
theorem gX2_counts_X2_isIn : GoodIn wsX2_counts (va_wsS RX2 52 yX2_isIn wsX2_isIn) := goodIn_app (goodIn_of _ (by decide +kernel)) ggX2_counts_X2_isIn
theorem dX2_counts_0 : decode cX2_counts 0 = .ok (.aload_n 0, 1) := by decide +kernel
theorem dX2_counts_1 : decode cX2_counts 1 = .ok (.getfield 70, 3) := by decide +kernel
theorem dX2_counts_4 : decode cX2_counts 4 = .ok (.aload_n 0, 1) := by decide +kernel
theorem dX2_counts_5 : decode cX2_counts 5 = .ok (.getfield 26, 3) := by decide +kernel
theorem dX2_counts_8 : decode cX2_counts 8 = .ok (.iload_n 1, 1) := by decide +kernel
theorem dX2_counts_9 : decode cX2_counts 9 = .ok (.iaload, 1) := by decide +kernel
theorem dX2_counts_10 : decode cX2_counts 10 = .ok (.isub, 1) := by decide +kernel
theorem dX2_counts_11 : decode cX2_counts 11 = .ok (.istore_n 2, 1) := by decide +kernel
theorem dX2_counts_12 : decode cX2_counts 12 = .ok (.aload_n 0, 1) := by decide +kernel
theorem dX2_counts_13 : decode cX2_counts 13 = .ok (.aload_n 0, 1) := by decide +kernel
theorem dX2_counts_14 : decode cX2_counts 14 = .ok (.getfield 82, 3) := by decide +kernel
theorem dX2_counts_17 : decode cX2_counts 17 = .ok (.ifCond .le 28, 3) := by decide +kernel
theorem dX2_counts_20 : decode cX2_counts 20 = .ok (.aload_n 0, 1) := by decide +kernel
theorem dX2_counts_21 : decode cX2_counts 21 = .ok (.iload_n 1, 1) := by decide +kernel
theorem dX2_counts_22 : decode cX2_counts 22 = .ok (.invokevirtual 85, 3) := by decide +kernel
theorem dX2_counts_25 : decode cX2_counts 25 = .ok (.ifCond .eq 20, 3) := by decide +kernel
theorem dX2_counts_28 : decode cX2_counts 28 = .ok (.iload_n 2, 1) := by decide +kernel
theorem dX2_counts_29 : decode cX2_counts 29 = .ok (.aload_n 0, 1) := by decide +kernel
theorem dX2_counts_30 : decode cX2_counts 30 = .ok (.getfield 88, 3) := by decide +kernel
theorem dX2_counts_33 : decode cX2_counts 33 = .ok (.if_icmp .ne 12, 3) := by decide +kernel
theorem dX2_counts_36 : decode cX2_counts 36 = .ok (.aload_n 0, 1) := by decide +kernel
theorem dX2_counts_37 : decode cX2_counts 37 = .ok (.getfield 82, 3) := by decide +kernel
theorem dX2_counts_40 : decode cX2_counts 40 = .ok (.iconst 1, 1) := by decide +kernel
theorem dX2_counts_41 : decode cX2_counts 41 = .ok (.iadd, 1) := by decide +kernel
theorem dX2_counts_42 : decode cX2_counts 42 = .ok (.goto 4, 3) := by decide +kernel
theorem dX2_counts_45 : decode cX2_counts 45 = .ok (.iconst 1, 1) := by decide +kernel
theorem dX2_counts_46 : decode cX2_counts 46 = .ok (.putfield 82, 3) := by decide +kernel
theorem dX2_counts_49 : decode cX2_counts 49 = .ok (.aload_n 0, 1) := by decide +kernel
theorem dX2_counts_50 : decode cX2_counts 50 = .ok (.iload_n 1, 1) := by decide +kernel
theorem dX2_counts_51 : decode cX2_counts 51 = .ok (.putfield 43, 3) := by decide +kernel
theorem dX2_counts_54 : decode cX2_counts 54 = .ok (.aload_n 0, 1) := by decide +kernel
theorem dX2_counts_55 : decode cX2_counts 55 = .ok (.iload_n 2, 1) := by decide +kernel
theorem dX2_counts_56 : decode cX2_counts 56 = .ok (.putfield 88, 3) := by decide +kernel
theorem dX2_counts_59 : decode cX2_counts 59 = .ok (.aload_n 0, 1) := by decide +kernel
theorem dX2_counts_60 : decode cX2_counts 60 = .ok (.getfield 82, 3) := by decide +kernel
theorem dX2_counts_63 : decode cX2_counts 63 = .ok (.iconst 3, 1) := by decide +kernel
theorem dX2_counts_64 : decode cX2_counts 64 = .ok (.if_icmp .lt 33, 3) := by decide +kernel
theorem dX2_counts_67 : decode cX2_counts 67 = .ok (.iload_n 2, 1) := by decide +kernel
theorem dX2_counts_68 : decode cX2_counts 68 = .ok (.ifCond .eq 29, 3) := by decide +kernel
theorem dX2_counts_71 : decode cX2_counts 71 = .ok (.iload_n 2, 1) := by decide +kernel
theorem dX2_counts_72 : decode cX2_counts 72 = .ok (.bipush (-15), 2) := by decide +kernel
theorem dX2_counts_74 : decode cX2_counts 74 = .ok (.bipush 15, 2) := by decide +kernel
theorem dX2_counts_76 : decode cX2_counts 76 = .ok (.invokestatic 52, 3) := by decide +kernel
theorem dX2_counts_79 : decode cX2_counts 79 = .ok (.ifCond .eq 18, 3) := by decide +kernel
theorem dX2_counts_82 : decode cX2_counts 82 = .ok (.aload_n 0, 1) := by decide +kernel
theorem dX2_counts_83 : decode cX2_counts 83 = .ok (.dup, 1) := by decide +kernel
theorem dX2_counts_84 : decode cX2_counts 84 = .ok (.getfield 59, 3) := by decide +kernel
theorem dX2_counts_87 : decode cX2_counts 87 = .ok (.iload_n 2, 1) := by decide +kernel
theorem dX2_counts_88 : decode cX2_counts 88 = .ok (.iadd, 1) := by decide +kernel
theorem dX2_counts_89 : decode cX2_counts 89 = .ok (.putfield 59, 3) := by decide +kernel
theorem dX2_counts_92 : decode cX2_counts 92 = .ok (.aload_n 0, 1) := by decide +kernel
theorem dX2_counts_93 : decode cX2_counts 93 = .ok (.iconst 0, 1) := by decide +kernel
theorem dX2_counts_94 : decode cX2_counts 94 = .ok (.putfield 82, 3) := by decide +kernel
theorem dX2_counts_97 : decode cX2_counts 97 = .ok (.return_, 1) := by decide +kernel
set_option maxRecDepth 20000 in
theorem ggX2_checkIn_X2_isIn : GoodIn wsX2_checkIn wsX2_isIn := goodIn_r _ [6] (by decide +kernel) (by decide +kernel)
set_option maxRecDepth 20000 in
theorem gX2_checkIn_X2_isIn : GoodIn wsX2_checkIn (va_wsS RX2 52 yX2_isIn wsX2_isIn) := goodIn_app (goodIn_of _ (by decide +kernel)) ggX2_checkIn_X2_isIn
set_option maxRecDepth 20000 in
theorem ggX2_checkIn_X2_isIssue : GoodIn wsX2_checkIn wsX2_isIssue := goodIn_r _ [9, 3, 4, 5, 6] (by decide +kernel) (by decide +kernel)
set_option maxRecDepth 20000 in
theorem gX2_checkIn_X2_isIssue : GoodIn wsX2_checkIn (va_wsS RX2 91 yX2_isIssue wsX2_isIssue) := goodIn_app (goodIn_of _ (by decide +kernel)) ggX2_checkIn_X2_isIssue
set_option maxRecDepth 20000 in
theorem ggX2_checkIn_X2_isOpen : GoodIn wsX2_checkIn wsX2_isOpen := goodIn_r _ [13, 1, 2, 51, 52, 53, 54, 55, 56, 57, 58, 59, 60, 61, 62, 63, 64, 65, 66, 67, 68] (by decide +kernel) (by decide +kernel)
set_option maxRecDepth 20000 in
theorem gX2_checkIn_X2_isOpen : GoodIn wsX2_checkIn (wsV RX2 94 RX2 yX2_isOpen wsX2_isOpen) := goodIn_app (goodIn_of _ (by decide +kernel)) ggX2_checkIn_X2_isOpen
set_option maxRecDepth 20000 in
theorem ggX2_checkIn_X2_can : GoodIn wsX2_checkIn wsX2_can := goodIn_r _ [17, 18, 51, 52, 53, 54, 55, 56, 57, 58, 59, 60, 61, 62, 63, 64, 65, 66, 67, 68] (by decide +kernel) (by decide +kernel)
set_option maxRecDepth 20000 in
theorem gX2_checkIn_X2_can : GoodIn wsX2_checkIn (wsV RX2 76 RX2 yX2_can wsX2_can) := goodIn_app (goodIn_of _ (by decide +kernel)) ggX2_checkIn_X2_can
set_option maxRecDepth 20000 in
theorem ggX2_checkIn_X2_foretells : GoodIn wsX2_checkIn wsX2_foretells := goodIn_r _ [22, 23, 1, 24, 25, 26, 27, 5, 28, 29, 30, 31, 32, 33, 34, 51, 52, 53, 54, 55, 56, 57, 58, 59, 60, 61, 62, 63, 64, 65, 66, 67, 68] (by decide +kernel) (by decide +kernel)
set_option maxRecDepth 20000 in
theorem gX2_checkIn_X2_foretells : GoodIn wsX2_checkIn (wsV RX2 73 RX2 yX2_foretells wsX2_foretells) := goodIn_app (goodIn_of _ (by decide +kernel)) ggX2_checkIn_X2_foretells
set_option maxRecDepth 20000 in
theorem ggX2_checkIn_X2_counts : GoodIn wsX2_checkIn wsX2_counts := goodIn_r _ [38, 39, 23, 40, 41, 42, 24, 43, 44, 45, 5, 46, 2, 3, 4, 6, 51, 52, 53, 54, 55, 56, 57, 58, 59, 60, 61, 62, 63, 64, 65, 66, 67, 68] (by decide +kernel) (by decide +kernel)
set_option maxRecDepth 20000 in
theorem gX2_checkIn_X2_counts : GoodIn wsX2_checkIn (wsV RX2 98 RX2 yX2_counts wsX2_counts) := goodIn_app (goodIn_of _ (by decide +kernel)) ggX2_checkIn_X2_counts
set_option maxRecDepth 20000 in
theorem ggX2_checkIn_X2_looks : GoodIn wsX2_checkIn wsX2_looks := goodIn_r _ [50, 1, 39, 25, 26, 27, 5, 28, 23, 29, 24, 30, 31, 32, 33, 34, 19, 20, 21, 22, 51, 52, 53, 54, 55, 56, 57, 58, 59, 60, 61, 62, 63, 64, 65, 66, 67, 68] (by decide +kernel) (by decide +kernel)
set_option maxRecDepth 20000 in
theorem gX2_checkIn_X2_looks : GoodIn wsX2_checkIn (wsV RX2 79 RX2 yX2_looks wsX2_looks) := goodIn_app (goodIn_of _ (by decide +kernel)) ggX2_checkIn_X2_looks
theorem dX2_checkIn_0 : decode cX2_checkIn 0 = .ok (.iload_n 2, 1) := by decide +kernel
theorem dX2_checkIn_1 : decode cX2_checkIn 1 = .ok (.iconst 0, 1) := by decide +kernel
theorem dX2_checkIn_2 : decode cX2_checkIn 2 = .ok (.iconst 5, 1) := by decide +kernel
theorem dX2_checkIn_3 : decode cX2_checkIn 3 = .ok (.invokestatic 52, 3) := by decide +kernel
theorem dX2_checkIn_6 : decode cX2_checkIn 6 = .ok (.ifCond .eq 16, 3) := by decide +kernel
theorem dX2_checkIn_9 : decode cX2_checkIn 9 = .ok (.iload_n 1, 1) := by decide +kernel
theorem dX2_checkIn_10 : decode cX2_checkIn 10 = .ok (.iload_n 2, 1) := by decide +kernel
theorem dX2_checkIn_11 : decode cX2_checkIn 11 = .ok (.iadd, 1) := by decide +kernel
theorem dX2_checkIn_12 : decode cX2_checkIn 12 = .ok (.sipush 200, 3) := by decide +kernel
theorem dX2_checkIn_15 : decode cX2_checkIn 15 = .ok (.if_icmp .ge 7, 3) := by decide +kernel
theorem dX2_checkIn_18 : decode cX2_checkIn 18 = .ok (.iconst 1, 1) := by decide +kernel
theorem dX2_checkIn_19 : decode cX2_checkIn 19 = .ok (.goto 4, 3) := by decide +kernel
theorem dX2_checkIn_22 : decode cX2_checkIn 22 = .ok (.iconst 0, 1) := by decide +kernel
theorem dX2_checkIn_23 : decode cX2_checkIn 23 = .ok (.istore_n 3, 1) := by decide +kernel
theorem dX2_checkIn_24 : decode cX2_checkIn 24 = .ok (.aload_n 0, 1) := by decide +kernel
theorem dX2_checkIn_25 : decode cX2_checkIn 25 = .ok (.iload_n 1, 1) := by decide +kernel
theorem dX2_checkIn_26 : decode cX2_checkIn 26 = .ok (.invokestatic 91, 3) := by decide +kernel
theorem dX2_checkIn_29 : decode cX2_checkIn 29 = .ok (.ifCond .ne 7, 3) := by decide +kernel
theorem dX2_checkIn_32 : decode cX2_checkIn 32 = .ok (.iconst 1, 1) := by decide +kernel
theorem dX2_checkIn_33 : decode cX2_checkIn 33 = .ok (.goto 25, 3) := by decide +kernel
theorem dX2_checkIn_36 : decode cX2_checkIn 36 = .ok (.iload_n 3, 1) := by decide +kernel
theorem dX2_checkIn_37 : decode cX2_checkIn 37 = .ok (.ifCond .ne 7, 3) := by decide +kernel
theorem dX2_checkIn_40 : decode cX2_checkIn 40 = .ok (.iconst 2, 1) := by decide +kernel
theorem dX2_checkIn_41 : decode cX2_checkIn 41 = .ok (.goto 17, 3) := by decide +kernel
theorem dX2_checkIn_44 : decode cX2_checkIn 44 = .ok (.aload_n 0, 1) := by decide +kernel
theorem dX2_checkIn_45 : decode cX2_checkIn 45 = .ok (.iload_n 1, 1) := by decide +kernel
theorem dX2_checkIn_46 : decode cX2_checkIn 46 = .ok (.iload_n 2, 1) := by decide +kernel
theorem dX2_checkIn_47 : decode cX2_checkIn 47 = .ok (.invokevirtual 94, 3) := by decide +kernel
theorem dX2_checkIn_50 : decode cX2_checkIn 50 = .ok (.ifCond .eq 7, 3) := by decide +kernel
theorem dX2_checkIn_53 : decode cX2_checkIn 53 = .ok (.iconst 0, 1) := by decide +kernel
theorem dX2_checkIn_54 : decode cX2_checkIn 54 = .ok (.goto 4, 3) := by decide +kernel
theorem dX2_checkIn_57 : decode cX2_checkIn 57 = .ok (.iconst 3, 1) := by decide +kernel
theorem dX2_checkIn_58 : decode cX2_checkIn 58 = .ok (.invokevirtual 76, 3) := by decide +kernel
theorem dX2_checkIn_61 : decode cX2_checkIn 61 = .ok (.ifCond .ne 5, 3) := by decide +kernel
theorem dX2_checkIn_64 : decode cX2_checkIn 64 = .ok (.iconst 0, 1) := by decide +kernel
theorem dX2_checkIn_65 : decode cX2_checkIn 65 = .ok (.ireturn, 1) := by decide +kernel
theorem dX2_checkIn_66 : decode cX2_checkIn 66 = .ok (.aload_n 0, 1) := by decide +kernel
theorem dX2_checkIn_67 : decode cX2_checkIn 67 = .ok (.getfield 46, 3) := by decide +kernel
theorem dX2_checkIn_70 : decode cX2_checkIn 70 = .ok (.iload_n 1, 1) := by decide +kernel
theorem dX2_checkIn_71 : decode cX2_checkIn 71 = .ok (.iload_n 2, 1) := by decide +kernel
theorem dX2_checkIn_72 : decode cX2_checkIn 72 = .ok (.iadd, 1) := by decide +kernel
theorem dX2_checkIn_73 : decode cX2_checkIn 73 = .ok (.if_icmp .gt 10, 3) := by decide +kernel
theorem dX2_checkIn_76 : decode cX2_checkIn 76 = .ok (.aload_n 0, 1) := by decide +kernel
theorem dX2_checkIn_77 : decode cX2_checkIn 77 = .ok (.invokevirtual 73, 3) := by decide +kernel
theorem dX2_checkIn_80 : decode cX2_checkIn 80 = .ok (.goto (-14), 3) := by decide +kernel
theorem dX2_checkIn_83 : decode cX2_checkIn 83 = .ok (.aload_n 0, 1) := by decide +kernel
theorem dX2_checkIn_84 : decode cX2_checkIn 84 = .ok (.iload_n 1, 1) := by decide +kernel
theorem dX2_checkIn_85 : decode cX2_checkIn 85 = .ok (.invokevirtual 98, 3) := by decide +kernel
theorem dX2_checkIn_88 : decode cX2_checkIn 88 = .ok (.aload_n 0, 1) := by decide +kernel
theorem dX2_checkIn_89 : decode cX2_checkIn 89 = .ok (.getfield 30, 3) := by decide +kernel
theorem dX2_checkIn_92 : decode cX2_checkIn 92 = .ok (.iload_n 1, 1) := by decide +kernel
theorem dX2_checkIn_93 : decode cX2_checkIn 93 = .ok (.iconst 1, 1) := by decide +kernel
theorem dX2_checkIn_94 : decode cX2_checkIn 94 = .ok (.iastore, 1) := by decide +kernel
theorem dX2_checkIn_95 : decode cX2_checkIn 95 = .ok (.iload_n 1, 1) := by decide +kernel
theorem dX2_checkIn_96 : decode cX2_checkIn 96 = .ok (.iconst 1, 1) := by decide +kernel
theorem dX2_checkIn_97 : decode cX2_checkIn 97 = .ok (.iadd, 1) := by decide +kernel
theorem dX2_checkIn_98 : decode cX2_checkIn 98 = .ok (.istore 4, 2) := by decide +kernel
theorem dX2_checkIn_100 : decode cX2_checkIn 100 = .ok (.iload 4, 2) := by decide +kernel
theorem dX2_checkIn_102 : decode cX2_checkIn 102 = .ok (.iload_n 1, 1) := by decide +kernel
theorem dX2_checkIn_103 : decode cX2_checkIn 103 = .ok (.iload_n 2, 1) := by decide +kernel
theorem dX2_checkIn_104 : decode cX2_checkIn 104 = .ok (.iadd, 1) := by decide +kernel
theorem dX2_checkIn_105 : decode cX2_checkIn 105 = .ok (.if_icmp .gt 17, 3) := by decide +kernel
theorem dX2_checkIn_108 : decode cX2_checkIn 108 = .ok (.aload_n 0, 1) := by decide +kernel
theorem dX2_checkIn_109 : decode cX2_checkIn 109 = .ok (.getfield 30, 3) := by decide +kernel
theorem dX2_checkIn_112 : decode cX2_checkIn 112 = .ok (.iload 4, 2) := by decide +kernel
theorem dX2_checkIn_114 : decode cX2_checkIn 114 = .ok (.iconst 2, 1) := by decide +kernel
theorem dX2_checkIn_115 : decode cX2_checkIn 115 = .ok (.iastore, 1) := by decide +kernel
theorem dX2_checkIn_116 : decode cX2_checkIn 116 = .ok (.iinc 4 1, 3) := by decide +kernel
theorem dX2_checkIn_119 : decode cX2_checkIn 119 = .ok (.goto (-19), 3) := by decide +kernel
theorem dX2_checkIn_122 : decode cX2_checkIn 122 = .ok (.aload_n 0, 1) := by decide +kernel
theorem dX2_checkIn_123 : decode cX2_checkIn 123 = .ok (.invokevirtual 79, 3) := by decide +kernel
theorem dX2_checkIn_126 : decode cX2_checkIn 126 = .ok (.aload_n 0, 1) := by decide +kernel
theorem dX2_checkIn_127 : decode cX2_checkIn 127 = .ok (.getfield 46, 3) := by decide +kernel
theorem dX2_checkIn_130 : decode cX2_checkIn 130 = .ok (.ireturn, 1) := by decide +kernel
set_option maxRecDepth 20000 in
theorem ggX2_skip_X2_isForetold : GoodIn wsX2_skip wsX2_isForetold := goodIn_r _ [6, 7, 8, 9, 5, 10, 16, 17, 18, 19, 20, 21, 22, 23, 24, 25, 26, 27, 28, 29, 30, 31, 32, 33] (by decide +kernel) (by decide +kernel)
set_option maxRecDepth 20000 in
theorem gX2_skip_X2_isForetold : GoodIn wsX2_skip (wsV RX2 102 RX2 yX2_isForetold wsX2_isForetold) := goodIn_app (goodIn_of _ (by decide +kernel)) ggX2_skip_X2_isForetold
set_option maxRecDepth 20000 in
theorem ggX2_skip_X2_can : GoodIn wsX2_skip wsX2_can := goodIn_r _ [14, 15, 16, 17, 18, 19, 20, 21, 22, 23, 24, 25, 26, 27, 28, 29, 30, 31, 32, 33] (by decide +kernel) (by decide +kernel)
set_option maxRecDepth 20000 in
theorem gX2_skip_X2_can : GoodIn wsX2_skip (wsV RX2 76 RX2 yX2_can wsX2_can) := goodIn_app (goodIn_of _ (by decide +kernel)) ggX2_skip_X2_can
theorem dX2_skip_0 : decode cX2_skip 0 = .ok (.aload_n 0, 1) := by decide +kernel
theorem dX2_skip_1 : decode cX2_skip 1 = .ok (.aload_n 0, 1) := by decide +kernel
theorem dX2_skip_2 : decode cX2_skip 2 = .ok (.iload_n 1, 1) := by decide +kernel
theorem dX2_skip_3 : decode cX2_skip 3 = .ok (.invokevirtual 102, 3) := by decide +kernel
theorem dX2_skip_6 : decode cX2_skip 6 = .ok (.ifCond .ne 7, 3) := by decide +kernel
theorem dX2_skip_9 : decode cX2_skip 9 = .ok (.iconst 1, 1) := by decide +kernel
theorem dX2_skip_10 : decode cX2_skip 10 = .ok (.goto 17, 3) := by decide +kernel
theorem dX2_skip_13 : decode cX2_skip 13 = .ok (.aload_n 0, 1) := by decide +kernel
theorem dX2_skip_14 : decode cX2_skip 14 = .ok (.getfield 30, 3) := by decide +kernel
theorem dX2_skip_17 : decode cX2_skip 17 = .ok (.iload_n 1, 1) := by decide +kernel
theorem dX2_skip_18 : decode cX2_skip 18 = .ok (.iaload, 1) := by decide +kernel
theorem dX2_skip_19 : decode cX2_skip 19 = .ok (.ifCond .ne 7, 3) := by decide +kernel
theorem dX2_skip_22 : decode cX2_skip 22 = .ok (.iconst 0, 1) := by decide +kernel
theorem dX2_skip_23 : decode cX2_skip 23 = .ok (.goto 4, 3) := by decide +kernel
theorem dX2_skip_26 : decode cX2_skip 26 = .ok (.iconst 2, 1) := by decide +kernel
theorem dX2_skip_27 : decode cX2_skip 27 = .ok (.invokevirtual 76, 3) := by decide +kernel
theorem dX2_skip_30 : decode cX2_skip 30 = .ok (.ifCond .eq 10, 3) := by decide +kernel
theorem dX2_skip_33 : decode cX2_skip 33 = .ok (.aload_n 0, 1) := by decide +kernel
theorem dX2_skip_34 : decode cX2_skip 34 = .ok (.getfield 30, 3) := by decide +kernel
theorem dX2_skip_37 : decode cX2_skip 37 = .ok (.iload_n 1, 1) := by decide +kernel
theorem dX2_skip_38 : decode cX2_skip 38 = .ok (.iconst 3, 1) := by decide +kernel
theorem dX2_skip_39 : decode cX2_skip 39 = .ok (.iastore, 1) := by decide +kernel
theorem dX2_skip_40 : decode cX2_skip 40 = .ok (.return_, 1) := by decide +kernel
theorem dX2_isLate_0 : decode cX2_isLate 0 = .ok (.aload_n 0, 1) := by decide +kernel
theorem dX2_isLate_1 : decode cX2_isLate 1 = .ok (.getfield 30, 3) := by decide +kernel
theorem dX2_isLate_4 : decode cX2_isLate 4 = .ok (.iload_n 1, 1) := by decide +kernel
theorem dX2_isLate_5 : decode cX2_isLate 5 = .ok (.iaload, 1) := by decide +kernel
theorem dX2_isLate_6 : decode cX2_isLate 6 = .ok (.ifCond .ne 25, 3) := by decide +kernel
theorem dX2_isLate_9 : decode cX2_isLate 9 = .ok (.aload_n 0, 1) := by decide +kernel
theorem dX2_isLate_10 : decode cX2_isLate 10 = .ok (.getfield 70, 3) := by decide +kernel
theorem dX2_isLate_13 : decode cX2_isLate 13 = .ok (.aload_n 0, 1) := by decide +kernel
theorem dX2_isLate_14 : decode cX2_isLate 14 = .ok (.getfield 26, 3) := by decide +kernel
theorem dX2_isLate_17 : decode cX2_isLate 17 = .ok (.iload_n 1, 1) := by decide +kernel
theorem dX2_isLate_18 : decode cX2_isLate 18 = .ok (.iaload, 1) := by decide +kernel
theorem dX2_isLate_19 : decode cX2_isLate 19 = .ok (.isub, 1) := by decide +kernel
theorem dX2_isLate_20 : decode cX2_isLate 20 = .ok (.aload_n 0, 1) := by decide +kernel
theorem dX2_isLate_21 : decode cX2_isLate 21 = .ok (.getfield 20, 3) := by decide +kernel
theorem dX2_isLate_24 : decode cX2_isLate 24 = .ok (.if_icmp .le 7, 3) := by decide +kernel
theorem dX2_isLate_27 : decode cX2_isLate 27 = .ok (.iconst 1, 1) := by decide +kernel
theorem dX2_isLate_28 : decode cX2_isLate 28 = .ok (.goto 4, 3) := by decide +kernel
theorem dX2_isLate_31 : decode cX2_isLate 31 = .ok (.iconst 0, 1) := by decide +kernel
theorem dX2_isLate_32 : decode cX2_isLate 32 = .ok (.ireturn, 1) := by decide +kernel
set_option maxRecDepth 20000 in
theorem ggX2_round_X2_isLate : GoodIn wsX2_round wsX2_isLate := goodIn_r _ [12, 7, 4, 13, 14, 15, 16, 17, 18, 19, 20, 21, 22, 23, 24, 25, 26, 27, 28, 29, 30, 31, 32] (by decide +kernel) (by decide +kernel)
set_option maxRecDepth 20000 in
theorem gX2_round_X2_isLate : GoodIn wsX2_round (wsV RX2 105 RX2 yX2_isLate wsX2_isLate) := goodIn_app (goodIn_of _ (by decide +kernel)) ggX2_round_X2_isLate
theorem dX2_round_0 : decode cX2_round 0 = .ok (.aload_n 0, 1) := by decide +kernel
theorem dX2_round_1 : decode cX2_round 1 = .ok (.iconst 0, 1) := by decide +kernel
theorem dX2_round_2 : decode cX2_round 2 = .ok (.putfield 49, 3) := by decide +kernel
theorem dX2_round_5 : decode cX2_round 5 = .ok (.iconst 0, 1) := by decide +kernel
theorem dX2_round_6 : decode cX2_round 6 = .ok (.istore_n 1, 1) := by decide +kernel
theorem dX2_round_7 : decode cX2_round 7 = .ok (.iconst 0, 1) := by decide +kernel
theorem dX2_round_8 : decode cX2_round 8 = .ok (.istore_n 2, 1) := by decide +kernel
theorem dX2_round_9 : decode cX2_round 9 = .ok (.iload_n 2, 1) := by decide +kernel
theorem dX2_round_10 : decode cX2_round 10 = .ok (.aload_n 0, 1) := by decide +kernel
theorem dX2_round_11 : decode cX2_round 11 = .ok (.getfield 46, 3) := by decide +kernel
theorem dX2_round_14 : decode cX2_round 14 = .ok (.if_icmp .ge 117, 3) := by decide +kernel
theorem dX2_round_17 : decode cX2_round 17 = .ok (.aload_n 0, 1) := by decide +kernel
theorem dX2_round_18 : decode cX2_round 18 = .ok (.iload_n 2, 1) := by decide +kernel
theorem dX2_round_19 : decode cX2_round 19 = .ok (.invokevirtual 105, 3) := by decide +kernel
theorem dX2_round_22 : decode cX2_round 22 = .ok (.ifCond .eq 103, 3) := by decide +kernel
theorem dX2_round_25 : decode cX2_round 25 = .ok (.aload_n 0, 1) := by decide +kernel
theorem dX2_round_26 : decode cX2_round 26 = .ok (.getfield 33, 3) := by decide +kernel
theorem dX2_round_29 : decode cX2_round 29 = .ok (.iload_n 2, 1) := by decide +kernel
theorem dX2_round_30 : decode cX2_round 30 = .ok (.iaload, 1) := by decide +kernel
theorem dX2_round_31 : decode cX2_round 31 = .ok (.ifCond .eq 21, 3) := by decide +kernel
theorem dX2_round_34 : decode cX2_round 34 = .ok (.aload_n 0, 1) := by decide +kernel
theorem dX2_round_35 : decode cX2_round 35 = .ok (.getfield 70, 3) := by decide +kernel
theorem dX2_round_38 : decode cX2_round 38 = .ok (.aload_n 0, 1) := by decide +kernel
theorem dX2_round_39 : decode cX2_round 39 = .ok (.getfield 36, 3) := by decide +kernel
theorem dX2_round_42 : decode cX2_round 42 = .ok (.iload_n 2, 1) := by decide +kernel
theorem dX2_round_43 : decode cX2_round 43 = .ok (.iaload, 1) := by decide +kernel
theorem dX2_round_44 : decode cX2_round 44 = .ok (.isub, 1) := by decide +kernel
theorem dX2_round_45 : decode cX2_round 45 = .ok (.aload_n 0, 1) := by decide +kernel
theorem dX2_round_46 : decode cX2_round 46 = .ok (.getfield 23, 3) := by decide +kernel
theorem dX2_round_49 : decode cX2_round 49 = .ok (.if_icmp .lt 76, 3) := by decide +kernel
theorem dX2_round_52 : decode cX2_round 52 = .ok (.aload_n 0, 1) := by decide +kernel
theorem dX2_round_53 : decode cX2_round 53 = .ok (.getfield 30, 3) := by decide +kernel
theorem dX2_round_56 : decode cX2_round 56 = .ok (.iload_n 2, 1) := by decide +kernel
theorem dX2_round_57 : decode cX2_round 57 = .ok (.aload_n 0, 1) := by decide +kernel
theorem dX2_round_58 : decode cX2_round 58 = .ok (.getfield 33, 3) := by decide +kernel
theorem dX2_round_61 : decode cX2_round 61 = .ok (.iload_n 2, 1) := by decide +kernel
theorem dX2_round_62 : decode cX2_round 62 = .ok (.iaload, 1) := by decide +kernel
theorem dX2_round_63 : decode cX2_round 63 = .ok (.iconst 3, 1) := by decide +kernel
theorem dX2_round_64 : decode cX2_round 64 = .ok (.if_icmp .ge 7, 3) := by decide +kernel
theorem dX2_round_67 : decode cX2_round 67 = .ok (.iconst 0, 1) := by decide +kernel
theorem dX2_round_68 : decode cX2_round 68 = .ok (.goto 4, 3) := by decide +kernel
theorem dX2_round_71 : decode cX2_round 71 = .ok (.iconst 3, 1) := by decide +kernel
theorem dX2_round_72 : decode cX2_round 72 = .ok (.iastore, 1) := by decide +kernel
theorem dX2_round_73 : decode cX2_round 73 = .ok (.iload_n 1, 1) := by decide +kernel
theorem dX2_round_74 : decode cX2_round 74 = .ok (.aload_n 0, 1) := by decide +kernel
theorem dX2_round_75 : decode cX2_round 75 = .ok (.getfield 33, 3) := by decide +kernel
theorem dX2_round_78 : decode cX2_round 78 = .ok (.iload_n 2, 1) := by decide +kernel
theorem dX2_round_79 : decode cX2_round 79 = .ok (.iaload, 1) := by decide +kernel
theorem dX2_round_80 : decode cX2_round 80 = .ok (.iconst 3, 1) := by decide +kernel
theorem dX2_round_81 : decode cX2_round 81 = .ok (.if_icmp .ge 7, 3) := by decide +kernel
theorem dX2_round_84 : decode cX2_round 84 = .ok (.iconst 1, 1) := by decide +kernel
theorem dX2_round_85 : decode cX2_round 85 = .ok (.goto 4, 3) := by decide +kernel
theorem dX2_round_88 : decode cX2_round 88 = .ok (.iconst 0, 1) := by decide +kernel
theorem dX2_round_89 : decode cX2_round 89 = .ok (.iadd, 1) := by decide +kernel
theorem dX2_round_90 : decode cX2_round 90 = .ok (.istore_n 1, 1) := by decide +kernel
theorem dX2_round_91 : decode cX2_round 91 = .ok (.aload_n 0, 1) := by decide +kernel
theorem dX2_round_92 : decode cX2_round 92 = .ok (.getfield 36, 3) := by decide +kernel
theorem dX2_round_95 : decode cX2_round 95 = .ok (.iload_n 2, 1) := by decide +kernel
theorem dX2_round_96 : decode cX2_round 96 = .ok (.aload_n 0, 1) := by decide +kernel
theorem dX2_round_97 : decode cX2_round 97 = .ok (.getfield 70, 3) := by decide +kernel
theorem dX2_round_100 : decode cX2_round 100 = .ok (.iastore, 1) := by decide +kernel
theorem dX2_round_101 : decode cX2_round 101 = .ok (.aload_n 0, 1) := by decide +kernel
theorem dX2_round_102 : decode cX2_round 102 = .ok (.getfield 33, 3) := by decide +kernel
theorem dX2_round_105 : decode cX2_round 105 = .ok (.iload_n 2, 1) := by decide +kernel
theorem dX2_round_106 : decode cX2_round 106 = .ok (.dup2, 1) := by decide +kernel
theorem dX2_round_107 : decode cX2_round 107 = .ok (.iaload, 1) := by decide +kernel
theorem dX2_round_108 : decode cX2_round 108 = .ok (.aload_n 0, 1) := by decide +kernel
theorem dX2_round_109 : decode cX2_round 109 = .ok (.getfield 33, 3) := by decide +kernel
theorem dX2_round_112 : decode cX2_round 112 = .ok (.iload_n 2, 1) := by decide +kernel
theorem dX2_round_113 : decode cX2_round 113 = .ok (.iaload, 1) := by decide +kernel
theorem dX2_round_114 : decode cX2_round 114 = .ok (.iconst 3, 1) := by decide +kernel
theorem dX2_round_115 : decode cX2_round 115 = .ok (.if_icmp .ge 7, 3) := by decide +kernel
theorem dX2_round_118 : decode cX2_round 118 = .ok (.iconst 1, 1) := by decide +kernel
theorem dX2_round_119 : decode cX2_round 119 = .ok (.goto 4, 3) := by decide +kernel
theorem dX2_round_122 : decode cX2_round 122 = .ok (.iconst 0, 1) := by decide +kernel
theorem dX2_round_123 : decode cX2_round 123 = .ok (.iadd, 1) := by decide +kernel
theorem dX2_round_124 : decode cX2_round 124 = .ok (.iastore, 1) := by decide +kernel
theorem dX2_round_125 : decode cX2_round 125 = .ok (.iinc 2 1, 3) := by decide +kernel
theorem dX2_round_128 : decode cX2_round 128 = .ok (.goto (-119), 3) := by decide +kernel
theorem dX2_round_131 : decode cX2_round 131 = .ok (.iload_n 1, 1) := by decide +kernel
theorem dX2_round_132 : decode cX2_round 132 = .ok (.ireturn, 1) := by decide +kernel
theorem dX2_day_0 : decode cX2_day 0 = .ok (.aload_n 0, 1) := by decide +kernel
theorem dX2_day_1 : decode cX2_day 1 = .ok (.iconst 0, 1) := by decide +kernel
theorem dX2_day_2 : decode cX2_day 2 = .ok (.putfield 49, 3) := by decide +kernel
theorem dX2_day_5 : decode cX2_day 5 = .ok (.aload_n 0, 1) := by decide +kernel
theorem dX2_day_6 : decode cX2_day 6 = .ok (.getfield 70, 3) := by decide +kernel
theorem dX2_day_9 : decode cX2_day 9 = .ok (.ireturn, 1) := by decide +kernel
theorem dX2_foretold_0 : decode cX2_foretold 0 = .ok (.aload_n 0, 1) := by decide +kernel
theorem dX2_foretold_1 : decode cX2_foretold 1 = .ok (.iconst 0, 1) := by decide +kernel
theorem dX2_foretold_2 : decode cX2_foretold 2 = .ok (.putfield 49, 3) := by decide +kernel
theorem dX2_foretold_5 : decode cX2_foretold 5 = .ok (.aload_n 0, 1) := by decide +kernel
theorem dX2_foretold_6 : decode cX2_foretold 6 = .ok (.getfield 46, 3) := by decide +kernel
theorem dX2_foretold_9 : decode cX2_foretold 9 = .ok (.ireturn, 1) := by decide +kernel
theorem dX2_shift_0 : decode cX2_shift 0 = .ok (.aload_n 0, 1) := by decide +kernel
theorem dX2_shift_1 : decode cX2_shift 1 = .ok (.iconst 0, 1) := by decide +kernel
theorem dX2_shift_2 : decode cX2_shift 2 = .ok (.putfield 49, 3) := by decide +kernel
theorem dX2_shift_5 : decode cX2_shift 5 = .ok (.aload_n 0, 1) := by decide +kernel
theorem dX2_shift_6 : decode cX2_shift 6 = .ok (.getfield 59, 3) := by decide +kernel
theorem dX2_shift_9 : decode cX2_shift 9 = .ok (.ireturn, 1) := by decide +kernel
set_option maxRecDepth 20000 in
theorem ggX2_isAsked_X2_isForetold : GoodIn wsX2_isAsked wsX2_isForetold := goodIn_r _ [5, 6, 7, 8, 4, 9, 15, 16, 17, 18, 19, 20, 21, 22, 23, 24, 25, 26, 27, 28, 29, 30, 31, 32] (by decide +kernel) (by decide +kernel)
set_option maxRecDepth 20000 in
theorem gX2_isAsked_X2_isForetold : GoodIn wsX2_isAsked (wsV RX2 102 RX2 yX2_isForetold wsX2_isForetold) := goodIn_app (goodIn_of _ (by decide +kernel)) ggX2_isAsked_X2_isForetold
set_option maxRecDepth 20000 in
theorem ggX2_isAsked_X2_can : GoodIn wsX2_isAsked wsX2_can := goodIn_r _ [13, 14, 15, 16, 17, 18, 19, 20, 21, 22, 23, 24, 25, 26, 27, 28, 29, 30, 31, 32] (by decide +kernel) (by decide +kernel)
set_option maxRecDepth 20000 in
theorem gX2_isAsked_X2_can : GoodIn wsX2_isAsked (wsV RX2 76 RX2 yX2_can wsX2_can) := goodIn_app (goodIn_of _ (by decide +kernel)) ggX2_isAsked_X2_can
theorem dX2_isAsked_0 : decode cX2_isAsked 0 = .ok (.aload_n 0, 1) := by decide +kernel
theorem dX2_isAsked_1 : decode cX2_isAsked 1 = .ok (.aload_n 0, 1) := by decide +kernel
theorem dX2_isAsked_2 : decode cX2_isAsked 2 = .ok (.iload_n 1, 1) := by decide +kernel
theorem dX2_isAsked_3 : decode cX2_isAsked 3 = .ok (.invokevirtual 102, 3) := by decide +kernel
theorem dX2_isAsked_6 : decode cX2_isAsked 6 = .ok (.ifCond .eq 7, 3) := by decide +kernel
theorem dX2_isAsked_9 : decode cX2_isAsked 9 = .ok (.iconst 0, 1) := by decide +kernel
theorem dX2_isAsked_10 : decode cX2_isAsked 10 = .ok (.goto 4, 3) := by decide +kernel
theorem dX2_isAsked_13 : decode cX2_isAsked 13 = .ok (.iconst 1, 1) := by decide +kernel
theorem dX2_isAsked_14 : decode cX2_isAsked 14 = .ok (.invokevirtual 76, 3) := by decide +kernel
theorem dX2_isAsked_17 : decode cX2_isAsked 17 = .ok (.ireturn, 1) := by decide +kernel
set_option maxRecDepth 20000 in
theorem ggX2_dayOf_X2_isAsked : GoodIn wsX2_dayOf wsX2_isAsked := goodIn_r _ [6, 7, 8, 9, 5, 10, 11, 12, 13, 14, 15, 16, 17, 18, 19, 20, 21, 22, 23, 24, 25, 26, 27, 28, 29, 30, 31, 32, 33, 34, 35, 36, 37] (by decide +kernel) (by decide +kernel)
set_option maxRecDepth 20000 in
theorem gX2_dayOf_X2_isAsked : GoodIn wsX2_dayOf (wsV RX2 108 RX2 yX2_isAsked wsX2_isAsked) := goodIn_app (goodIn_of _ (by decide +kernel)) ggX2_dayOf_X2_isAsked
theorem dX2_dayOf_0 : decode cX2_dayOf 0 = .ok (.aload_n 0, 1) := by decide +kernel
theorem dX2_dayOf_1 : decode cX2_dayOf 1 = .ok (.iload_n 1, 1) := by decide +kernel
theorem dX2_dayOf_2 : decode cX2_dayOf 2 = .ok (.invokevirtual 108, 3) := by decide +kernel
theorem dX2_dayOf_5 : decode cX2_dayOf 5 = .ok (.ifCond .eq 12, 3) := by decide +kernel
theorem dX2_dayOf_8 : decode cX2_dayOf 8 = .ok (.aload_n 0, 1) := by decide +kernel
theorem dX2_dayOf_9 : decode cX2_dayOf 9 = .ok (.getfield 26, 3) := by decide +kernel
theorem dX2_dayOf_12 : decode cX2_dayOf 12 = .ok (.iload_n 1, 1) := by decide +kernel
theorem dX2_dayOf_13 : decode cX2_dayOf 13 = .ok (.iaload, 1) := by decide +kernel
theorem dX2_dayOf_14 : decode cX2_dayOf 14 = .ok (.goto 4, 3) := by decide +kernel
theorem dX2_dayOf_17 : decode cX2_dayOf 17 = .ok (.iconst 0, 1) := by decide +kernel
theorem dX2_dayOf_18 : decode cX2_dayOf 18 = .ok (.ireturn, 1) := by decide +kernel
set_option maxRecDepth 20000 in
theorem ggX2_stateOf_X2_isAsked : GoodIn wsX2_stateOf wsX2_isAsked := goodIn_r _ [6, 7, 8, 9, 5, 10, 11, 12, 13, 14, 15, 16, 17, 18, 19, 20, 21, 22, 23, 24, 25, 26, 27, 28, 29, 30, 31, 32, 33, 34, 35, 36, 37] (by decide +kernel) (by decide +kernel)
set_option maxRecDepth 20000 in
theorem gX2_stateOf_X2_isAsked : GoodIn wsX2_stateOf (wsV RX2 108 RX2 yX2_isAsked wsX2_isAsked) := goodIn_app (goodIn_of _ (by decide +kernel)) ggX2_stateOf_X2_isAsked
theorem dX2_stateOf_0 : decode cX2_stateOf 0 = .ok (.aload_n 0, 1) := by decide +kernel
theorem dX2_stateOf_1 : decode cX2_stateOf 1 = .ok (.iload_n 1, 1) := by decide +kernel
theorem dX2_stateOf_2 : decode cX2_stateOf 2 = .ok (.invokevirtual 108, 3) := by decide +kernel
theorem dX2_stateOf_5 : decode cX2_stateOf 5 = .ok (.ifCond .eq 12, 3) := by decide +kernel
theorem dX2_stateOf_8 : decode cX2_stateOf 8 = .ok (.aload_n 0, 1) := by decide +kernel
theorem dX2_stateOf_9 : decode cX2_stateOf 9 = .ok (.getfield 30, 3) := by decide +kernel
theorem dX2_stateOf_12 : decode cX2_stateOf 12 = .ok (.iload_n 1, 1) := by decide +kernel
theorem dX2_stateOf_13 : decode cX2_stateOf 13 = .ok (.iaload, 1) := by decide +kernel
theorem dX2_stateOf_14 : decode cX2_stateOf 14 = .ok (.goto 4, 3) := by decide +kernel
theorem dX2_stateOf_17 : decode cX2_stateOf 17 = .ok (.iconst 0, 1) := by decide +kernel
theorem dX2_stateOf_18 : decode cX2_stateOf 18 = .ok (.ireturn, 1) := by decide +kernel
set_option maxRecDepth 20000 in
theorem ggX2_claimsOf_X2_isAsked : GoodIn wsX2_claimsOf wsX2_isAsked := goodIn_r _ [6, 7, 8, 9, 5, 10, 11, 12, 13, 14, 15, 16, 17, 18, 19, 20, 21, 22, 23, 24, 25, 26, 27, 28, 29, 30, 31, 32, 33, 34, 35, 36, 37] (by decide +kernel) (by decide +kernel)
set_option maxRecDepth 20000 in
theorem gX2_claimsOf_X2_isAsked : GoodIn wsX2_claimsOf (wsV RX2 108 RX2 yX2_isAsked wsX2_isAsked) := goodIn_app (goodIn_of _ (by decide +kernel)) ggX2_claimsOf_X2_isAsked
theorem dX2_claimsOf_0 : decode cX2_claimsOf 0 = .ok (.aload_n 0, 1) := by decide +kernel
theorem dX2_claimsOf_1 : decode cX2_claimsOf 1 = .ok (.iload_n 1, 1) := by decide +kernel
theorem dX2_claimsOf_2 : decode cX2_claimsOf 2 = .ok (.invokevirtual 108, 3) := by decide +kernel
theorem dX2_claimsOf_5 : decode cX2_claimsOf 5 = .ok (.ifCond .eq 12, 3) := by decide +kernel
theorem dX2_claimsOf_8 : decode cX2_claimsOf 8 = .ok (.aload_n 0, 1) := by decide +kernel
theorem dX2_claimsOf_9 : decode cX2_claimsOf 9 = .ok (.getfield 33, 3) := by decide +kernel
theorem dX2_claimsOf_12 : decode cX2_claimsOf 12 = .ok (.iload_n 1, 1) := by decide +kernel
theorem dX2_claimsOf_13 : decode cX2_claimsOf 13 = .ok (.iaload, 1) := by decide +kernel
theorem dX2_claimsOf_14 : decode cX2_claimsOf 14 = .ok (.goto 4, 3) := by decide +kernel
theorem dX2_claimsOf_17 : decode cX2_claimsOf 17 = .ok (.iconst 0, 1) := by decide +kernel
theorem dX2_claimsOf_18 : decode cX2_claimsOf 18 = .ok (.ireturn, 1) := by decide +kernel
theorem dX2_volume_0 : decode cX2_volume 0 = .ok (.iload_n 1, 1) := by decide +kernel
theorem dX2_volume_1 : decode cX2_volume 1 = .ok (.aload_n 0, 1) := by decide +kernel
theorem dX2_volume_2 : decode cX2_volume 2 = .ok (.getfield 13, 3) := by decide +kernel
theorem dX2_volume_5 : decode cX2_volume 5 = .ok (.idiv, 1) := by decide +kernel
theorem dX2_volume_6 : decode cX2_volume 6 = .ok (.iconst 1, 1) := by decide +kernel
theorem dX2_volume_7 : decode cX2_volume 7 = .ok (.iadd, 1) := by decide +kernel
theorem dX2_volume_8 : decode cX2_volume 8 = .ok (.ireturn, 1) := by decide +kernel
theorem dX2_number_0 : decode cX2_number 0 = .ok (.aload_n 0, 1) := by decide +kernel
theorem dX2_number_1 : decode cX2_number 1 = .ok (.getfield 16, 3) := by decide +kernel
theorem dX2_number_4 : decode cX2_number 4 = .ok (.ifCond .eq 14, 3) := by decide +kernel
theorem dX2_number_7 : decode cX2_number 7 = .ok (.iload_n 1, 1) := by decide +kernel
theorem dX2_number_8 : decode cX2_number 8 = .ok (.aload_n 0, 1) := by decide +kernel
theorem dX2_number_9 : decode cX2_number 9 = .ok (.getfield 13, 3) := by decide +kernel
theorem dX2_number_12 : decode cX2_number 12 = .ok (.irem, 1) := by decide +kernel
theorem dX2_number_13 : decode cX2_number 13 = .ok (.iconst 1, 1) := by decide +kernel
theorem dX2_number_14 : decode cX2_number 14 = .ok (.iadd, 1) := by decide +kernel
theorem dX2_number_15 : decode cX2_number 15 = .ok (.goto 6, 3) := by decide +kernel
theorem dX2_number_18 : decode cX2_number 18 = .ok (.iload_n 1, 1) := by decide +kernel
theorem dX2_number_19 : decode cX2_number 19 = .ok (.iconst 1, 1) := by decide +kernel
theorem dX2_number_20 : decode cX2_number 20 = .ok (.iadd, 1) := by decide +kernel
theorem dX2_number_21 : decode cX2_number 21 = .ok (.ireturn, 1) := by decide +kernel
set_option maxRecDepth 20000 in
theorem ggX2_labelOf_X2_isIssue : GoodIn wsX2_labelOf wsX2_isIssue := goodIn_r _ [4, 5, 6, 3, 7] (by decide +kernel) (by decide +kernel)
set_option maxRecDepth 20000 in
theorem gX2_labelOf_X2_isIssue : GoodIn wsX2_labelOf (va_wsS RX2 91 yX2_isIssue wsX2_isIssue) := goodIn_app (goodIn_of _ (by decide +kernel)) ggX2_labelOf_X2_isIssue
set_option maxRecDepth 20000 in
theorem ggX2_labelOf_X2_can : GoodIn wsX2_labelOf wsX2_can := goodIn_r _ [11, 12, 23, 24, 25, 26, 27, 28, 29, 30, 31, 32, 33, 34, 35, 36, 37, 38, 39, 40] (by decide +kernel) (by decide +kernel)
set_option maxRecDepth 20000 in
theorem gX2_labelOf_X2_can : GoodIn wsX2_labelOf (wsV RX2 76 RX2 yX2_can wsX2_can) := goodIn_app (goodIn_of _ (by decide +kernel)) ggX2_labelOf_X2_can
set_option maxRecDepth 20000 in
theorem ggX2_labelOf_X2_volume : GoodIn wsX2_labelOf wsX2_volume := goodIn_r _ [16, 17, 23, 24, 25, 26, 27, 28, 29, 30, 31, 32, 33, 34, 35, 36, 37, 38, 39, 40] (by decide +kernel) (by decide +kernel)
set_option maxRecDepth 20000 in
theorem gX2_labelOf_X2_volume : GoodIn wsX2_labelOf (wsV RX2 111 RX2 yX2_volume wsX2_volume) := goodIn_app (goodIn_of _ (by decide +kernel)) ggX2_labelOf_X2_volume
set_option maxRecDepth 20000 in
theorem ggX2_labelOf_X2_number : GoodIn wsX2_labelOf wsX2_number := goodIn_r _ [21, 22, 17, 23, 24, 25, 26, 27, 28, 29, 30, 31, 32, 33, 34, 35, 36, 37, 38, 39, 40] (by decide +kernel) (by decide +kernel)
set_option maxRecDepth 20000 in
theorem gX2_labelOf_X2_number : GoodIn wsX2_labelOf (wsV RX2 115 RX2 yX2_number wsX2_number) := goodIn_app (goodIn_of _ (by decide +kernel)) ggX2_labelOf_X2_number
theorem dX2_labelOf_0 : decode cX2_labelOf 0 = .ok (.aload_n 0, 1) := by decide +kernel
theorem dX2_labelOf_1 : decode cX2_labelOf 1 = .ok (.iload_n 1, 1) := by decide +kernel
theorem dX2_labelOf_2 : decode cX2_labelOf 2 = .ok (.invokestatic 91, 3) := by decide +kernel
theorem dX2_labelOf_5 : decode cX2_labelOf 5 = .ok (.ifCond .eq 7, 3) := by decide +kernel
theorem dX2_labelOf_8 : decode cX2_labelOf 8 = .ok (.iconst 0, 1) := by decide +kernel
theorem dX2_labelOf_9 : decode cX2_labelOf 9 = .ok (.goto 4, 3) := by decide +kernel
theorem dX2_labelOf_12 : decode cX2_labelOf 12 = .ok (.iconst 1, 1) := by decide +kernel
theorem dX2_labelOf_13 : decode cX2_labelOf 13 = .ok (.invokevirtual 76, 3) := by decide +kernel
theorem dX2_labelOf_16 : decode cX2_labelOf 16 = .ok (.ifCond .eq 21, 3) := by decide +kernel
theorem dX2_labelOf_19 : decode cX2_labelOf 19 = .ok (.sipush 1000, 3) := by decide +kernel
theorem dX2_labelOf_22 : decode cX2_labelOf 22 = .ok (.aload_n 0, 1) := by decide +kernel
theorem dX2_labelOf_23 : decode cX2_labelOf 23 = .ok (.iload_n 1, 1) := by decide +kernel
theorem dX2_labelOf_24 : decode cX2_labelOf 24 = .ok (.invokevirtual 111, 3) := by decide +kernel
theorem dX2_labelOf_27 : decode cX2_labelOf 27 = .ok (.imul, 1) := by decide +kernel
theorem dX2_labelOf_28 : decode cX2_labelOf 28 = .ok (.aload_n 0, 1) := by decide +kernel
theorem dX2_labelOf_29 : decode cX2_labelOf 29 = .ok (.iload_n 1, 1) := by decide +kernel
theorem dX2_labelOf_30 : decode cX2_labelOf 30 = .ok (.invokevirtual 115, 3) := by decide +kernel
theorem dX2_labelOf_33 : decode cX2_labelOf 33 = .ok (.iadd, 1) := by decide +kernel
theorem dX2_labelOf_34 : decode cX2_labelOf 34 = .ok (.goto 4, 3) := by decide +kernel
theorem dX2_labelOf_37 : decode cX2_labelOf 37 = .ok (.iconst 0, 1) := by decide +kernel
theorem dX2_labelOf_38 : decode cX2_labelOf 38 = .ok (.ireturn, 1) := by decide +kernel
set_option maxRecDepth 20000 in
theorem ggX2_find_X2_volume : GoodIn wsX2_find wsX2_volume := goodIn_r _ [6, 7, 13, 14, 15, 16, 17, 18, 19, 20, 21, 22, 23, 24, 25, 26, 27, 28, 29, 30] (by decide +kernel) (by decide +kernel)
set_option maxRecDepth 20000 in
theorem gX2_find_X2_volume : GoodIn wsX2_find (wsV RX2 111 RX2 yX2_volume wsX2_volume) := goodIn_app (goodIn_of _ (by decide +kernel)) ggX2_find_X2_volume
set_option maxRecDepth 20000 in
theorem ggX2_find_X2_number : GoodIn wsX2_find wsX2_number := goodIn_r _ [11, 12, 7, 13, 14, 15, 16, 17, 18, 19, 20, 21, 22, 23, 24, 25, 26, 27, 28, 29, 30] (by decide +kernel) (by decide +kernel)
set_option maxRecDepth 20000 in
theorem gX2_find_X2_number : GoodIn wsX2_find (wsV RX2 115 RX2 yX2_number wsX2_number) := goodIn_app (goodIn_of _ (by decide +kernel)) ggX2_find_X2_number
theorem dX2_find_0 : decode cX2_find 0 = .ok (.aload_n 0, 1) := by decide +kernel
theorem dX2_find_1 : decode cX2_find 1 = .ok (.iconst 0, 1) := by decide +kernel
theorem dX2_find_2 : decode cX2_find 2 = .ok (.putfield 49, 3) := by decide +kernel
theorem dX2_find_5 : decode cX2_find 5 = .ok (.iconst (-1), 1) := by decide +kernel
theorem dX2_find_6 : decode cX2_find 6 = .ok (.istore_n 3, 1) := by decide +kernel
theorem dX2_find_7 : decode cX2_find 7 = .ok (.iconst 0, 1) := by decide +kernel
theorem dX2_find_8 : decode cX2_find 8 = .ok (.istore 4, 2) := by decide +kernel
theorem dX2_find_10 : decode cX2_find 10 = .ok (.iload 4, 2) := by decide +kernel
theorem dX2_find_12 : decode cX2_find 12 = .ok (.sipush 200, 3) := by decide +kernel
theorem dX2_find_15 : decode cX2_find 15 = .ok (.if_icmp .ge 36, 3) := by decide +kernel
theorem dX2_find_18 : decode cX2_find 18 = .ok (.aload_n 0, 1) := by decide +kernel
theorem dX2_find_19 : decode cX2_find 19 = .ok (.iload 4, 2) := by decide +kernel
theorem dX2_find_21 : decode cX2_find 21 = .ok (.invokevirtual 111, 3) := by decide +kernel
theorem dX2_find_24 : decode cX2_find 24 = .ok (.iload_n 1, 1) := by decide +kernel
theorem dX2_find_25 : decode cX2_find 25 = .ok (.if_icmp .ne 18, 3) := by decide +kernel
theorem dX2_find_28 : decode cX2_find 28 = .ok (.aload_n 0, 1) := by decide +kernel
theorem dX2_find_29 : decode cX2_find 29 = .ok (.iload 4, 2) := by decide +kernel
theorem dX2_find_31 : decode cX2_find 31 = .ok (.invokevirtual 115, 3) := by decide +kernel
theorem dX2_find_34 : decode cX2_find 34 = .ok (.iload_n 2, 1) := by decide +kernel
theorem dX2_find_35 : decode cX2_find 35 = .ok (.if_icmp .ne 8, 3) := by decide +kernel
theorem dX2_find_38 : decode cX2_find 38 = .ok (.iload 4, 2) := by decide +kernel
theorem dX2_find_40 : decode cX2_find 40 = .ok (.goto 4, 3) := by decide +kernel
theorem dX2_find_43 : decode cX2_find 43 = .ok (.iload_n 3, 1) := by decide +kernel
theorem dX2_find_44 : decode cX2_find 44 = .ok (.istore_n 3, 1) := by decide +kernel
theorem dX2_find_45 : decode cX2_find 45 = .ok (.iinc 4 1, 3) := by decide +kernel
theorem dX2_find_48 : decode cX2_find 48 = .ok (.goto (-38), 3) := by decide +kernel
theorem dX2_find_51 : decode cX2_find 51 = .ok (.iload_n 3, 1) := by decide +kernel
theorem dX2_find_52 : decode cX2_find 52 = .ok (.ireturn, 1) := by decide +kernel
set_option maxRecDepth 20000 in
theorem ggX2_late_X2_isLate : GoodIn wsX2_late wsX2_isLate := goodIn_r _ [7, 8, 9, 10, 11, 12, 13, 14, 15, 16, 17, 18, 19, 20, 21, 22, 23, 24, 25, 26, 27, 28, 29] (by decide +kernel) (by decide +kernel)
set_option maxRecDepth 20000 in
theorem gX2_late_X2_isLate : GoodIn wsX2_late (wsV RX2 105 RX2 yX2_isLate wsX2_isLate) := goodIn_app (goodIn_of _ (by decide +kernel)) ggX2_late_X2_isLate
theorem dX2_late_0 : decode cX2_late 0 = .ok (.aload_n 0, 1) := by decide +kernel
theorem dX2_late_1 : decode cX2_late 1 = .ok (.iconst 0, 1) := by decide +kernel
theorem dX2_late_2 : decode cX2_late 2 = .ok (.putfield 49, 3) := by decide +kernel
theorem dX2_late_5 : decode cX2_late 5 = .ok (.iconst 0, 1) := by decide +kernel
theorem dX2_late_6 : decode cX2_late 6 = .ok (.istore_n 1, 1) := by decide +kernel
theorem dX2_late_7 : decode cX2_late 7 = .ok (.iconst 0, 1) := by decide +kernel
theorem dX2_late_8 : decode cX2_late 8 = .ok (.istore_n 2, 1) := by decide +kernel
theorem dX2_late_9 : decode cX2_late 9 = .ok (.iload_n 2, 1) := by decide +kernel
theorem dX2_late_10 : decode cX2_late 10 = .ok (.aload_n 0, 1) := by decide +kernel
theorem dX2_late_11 : decode cX2_late 11 = .ok (.getfield 46, 3) := by decide +kernel
theorem dX2_late_14 : decode cX2_late 14 = .ok (.if_icmp .ge 25, 3) := by decide +kernel
theorem dX2_late_17 : decode cX2_late 17 = .ok (.iload_n 1, 1) := by decide +kernel
theorem dX2_late_18 : decode cX2_late 18 = .ok (.aload_n 0, 1) := by decide +kernel
theorem dX2_late_19 : decode cX2_late 19 = .ok (.iload_n 2, 1) := by decide +kernel
theorem dX2_late_20 : decode cX2_late 20 = .ok (.invokevirtual 105, 3) := by decide +kernel
theorem dX2_late_23 : decode cX2_late 23 = .ok (.ifCond .eq 7, 3) := by decide +kernel
theorem dX2_late_26 : decode cX2_late 26 = .ok (.iconst 1, 1) := by decide +kernel
theorem dX2_late_27 : decode cX2_late 27 = .ok (.goto 4, 3) := by decide +kernel
theorem dX2_late_30 : decode cX2_late 30 = .ok (.iconst 0, 1) := by decide +kernel
theorem dX2_late_31 : decode cX2_late 31 = .ok (.iadd, 1) := by decide +kernel
theorem dX2_late_32 : decode cX2_late 32 = .ok (.istore_n 1, 1) := by decide +kernel
theorem dX2_late_33 : decode cX2_late 33 = .ok (.iinc 2 1, 3) := by decide +kernel
theorem dX2_late_36 : decode cX2_late 36 = .ok (.goto (-27), 3) := by decide +kernel
theorem dX2_late_39 : decode cX2_late 39 = .ok (.iload_n 1, 1) := by decide +kernel
theorem dX2_late_40 : decode cX2_late 40 = .ok (.ireturn, 1) := by decide +kernel
set_option maxRecDepth 20000 in
theorem ggX2_isHere_X2_isForetold : GoodIn wsX2_isHere wsX2_isForetold := goodIn_r _ [6, 7, 8, 9, 5, 10, 11, 12, 13, 14, 15, 16, 17, 18, 19, 20, 21, 22, 23, 24, 25, 26, 27, 28] (by decide +kernel) (by decide +kernel)
set_option maxRecDepth 20000 in
theorem gX2_isHere_X2_isForetold : GoodIn wsX2_isHere (wsV RX2 102 RX2 yX2_isForetold wsX2_isForetold) := goodIn_app (goodIn_of _ (by decide +kernel)) ggX2_isHere_X2_isForetold
theorem dX2_isHere_0 : decode cX2_isHere 0 = .ok (.aload_n 0, 1) := by decide +kernel
theorem dX2_isHere_1 : decode cX2_isHere 1 = .ok (.iload_n 1, 1) := by decide +kernel
theorem dX2_isHere_2 : decode cX2_isHere 2 = .ok (.invokevirtual 102, 3) := by decide +kernel
theorem dX2_isHere_5 : decode cX2_isHere 5 = .ok (.ifCond .eq 27, 3) := by decide +kernel
theorem dX2_isHere_8 : decode cX2_isHere 8 = .ok (.aload_n 0, 1) := by decide +kernel
theorem dX2_isHere_9 : decode cX2_isHere 9 = .ok (.getfield 30, 3) := by decide +kernel
theorem dX2_isHere_12 : decode cX2_isHere 12 = .ok (.iload_n 1, 1) := by decide +kernel
theorem dX2_isHere_13 : decode cX2_isHere 13 = .ok (.iaload, 1) := by decide +kernel
theorem dX2_isHere_14 : decode cX2_isHere 14 = .ok (.iconst 1, 1) := by decide +kernel
theorem dX2_isHere_15 : decode cX2_isHere 15 = .ok (.if_icmp .eq 13, 3) := by decide +kernel
theorem dX2_isHere_18 : decode cX2_isHere 18 = .ok (.aload_n 0, 1) := by decide +kernel
theorem dX2_isHere_19 : decode cX2_isHere 19 = .ok (.getfield 30, 3) := by decide +kernel
theorem dX2_isHere_22 : decode cX2_isHere 22 = .ok (.iload_n 1, 1) := by decide +kernel
theorem dX2_isHere_23 : decode cX2_isHere 23 = .ok (.iaload, 1) := by decide +kernel
theorem dX2_isHere_24 : decode cX2_isHere 24 = .ok (.iconst 2, 1) := by decide +kernel
theorem dX2_isHere_25 : decode cX2_isHere 25 = .ok (.if_icmp .ne 7, 3) := by decide +kernel
theorem dX2_isHere_28 : decode cX2_isHere 28 = .ok (.iconst 1, 1) := by decide +kernel
theorem dX2_isHere_29 : decode cX2_isHere 29 = .ok (.goto 4, 3) := by decide +kernel
theorem dX2_isHere_32 : decode cX2_isHere 32 = .ok (.iconst 0, 1) := by decide +kernel
theorem dX2_isHere_33 : decode cX2_isHere 33 = .ok (.ireturn, 1) := by decide +kernel
set_option maxRecDepth 20000 in
theorem ggX2_allRanges_X2_isHere : GoodIn wsX2_allRanges wsX2_isHere := goodIn_r _ [6, 7, 8, 9, 10, 5, 11, 1, 12, 13, 14, 15, 16, 17, 18, 19, 20, 21, 22, 23, 24, 25, 26, 27, 28, 29, 30, 31, 32] (by decide +kernel) (by decide +kernel)
set_option maxRecDepth 20000 in
theorem gX2_allRanges_X2_isHere : GoodIn wsX2_allRanges (wsV RX2 118 RX2 yX2_isHere wsX2_isHere) := goodIn_app (goodIn_of _ (by decide +kernel)) ggX2_allRanges_X2_isHere
theorem dX2_allRanges_0 : decode cX2_allRanges 0 = .ok (.iconst 0, 1) := by decide +kernel
theorem dX2_allRanges_1 : decode cX2_allRanges 1 = .ok (.istore_n 1, 1) := by decide +kernel
theorem dX2_allRanges_2 : decode cX2_allRanges 2 = .ok (.iconst 0, 1) := by decide +kernel
theorem dX2_allRanges_3 : decode cX2_allRanges 3 = .ok (.istore_n 2, 1) := by decide +kernel
theorem dX2_allRanges_4 : decode cX2_allRanges 4 = .ok (.iload_n 2, 1) := by decide +kernel
theorem dX2_allRanges_5 : decode cX2_allRanges 5 = .ok (.aload_n 0, 1) := by decide +kernel
theorem dX2_allRanges_6 : decode cX2_allRanges 6 = .ok (.getfield 46, 3) := by decide +kernel
theorem dX2_allRanges_9 : decode cX2_allRanges 9 = .ok (.if_icmp .ge 35, 3) := by decide +kernel
theorem dX2_allRanges_12 : decode cX2_allRanges 12 = .ok (.iload_n 1, 1) := by decide +kernel
theorem dX2_allRanges_13 : decode cX2_allRanges 13 = .ok (.aload_n 0, 1) := by decide +kernel
theorem dX2_allRanges_14 : decode cX2_allRanges 14 = .ok (.iload_n 2, 1) := by decide +kernel
theorem dX2_allRanges_15 : decode cX2_allRanges 15 = .ok (.invokevirtual 118, 3) := by decide +kernel
theorem dX2_allRanges_18 : decode cX2_allRanges 18 = .ok (.ifCond .eq 17, 3) := by decide +kernel
theorem dX2_allRanges_21 : decode cX2_allRanges 21 = .ok (.aload_n 0, 1) := by decide +kernel
theorem dX2_allRanges_22 : decode cX2_allRanges 22 = .ok (.iload_n 2, 1) := by decide +kernel
theorem dX2_allRanges_23 : decode cX2_allRanges 23 = .ok (.iconst 1, 1) := by decide +kernel
theorem dX2_allRanges_24 : decode cX2_allRanges 24 = .ok (.isub, 1) := by decide +kernel
theorem dX2_allRanges_25 : decode cX2_allRanges 25 = .ok (.invokevirtual 118, 3) := by decide +kernel
theorem dX2_allRanges_28 : decode cX2_allRanges 28 = .ok (.ifCond .ne 7, 3) := by decide +kernel
theorem dX2_allRanges_31 : decode cX2_allRanges 31 = .ok (.iconst 1, 1) := by decide +kernel
theorem dX2_allRanges_32 : decode cX2_allRanges 32 = .ok (.goto 4, 3) := by decide +kernel
theorem dX2_allRanges_35 : decode cX2_allRanges 35 = .ok (.iconst 0, 1) := by decide +kernel
theorem dX2_allRanges_36 : decode cX2_allRanges 36 = .ok (.iadd, 1) := by decide +kernel
theorem dX2_allRanges_37 : decode cX2_allRanges 37 = .ok (.istore_n 1, 1) := by decide +kernel
theorem dX2_allRanges_38 : decode cX2_allRanges 38 = .ok (.iinc 2 1, 3) := by decide +kernel
theorem dX2_allRanges_41 : decode cX2_allRanges 41 = .ok (.goto (-37), 3) := by decide +kernel
theorem dX2_allRanges_44 : decode cX2_allRanges 44 = .ok (.iload_n 1, 1) := by decide +kernel
theorem dX2_allRanges_45 : decode cX2_allRanges 45 = .ok (.ireturn, 1) := by decide +kernel
set_option maxRecDepth 20000 in
theorem ggX2_ranges_X2_allRanges : GoodIn wsX2_ranges wsX2_allRanges := goodIn_r _ [6, 7, 8, 9, 10, 5, 11, 12, 13, 14, 15, 16, 17, 18, 19, 20, 21, 22, 23, 24, 25, 26, 27, 28, 29, 30, 31, 32, 33, 34, 35, 36, 37] (by decide +kernel) (by decide +kernel)
set_option maxRecDepth 20000 in
theorem gX2_ranges_X2_allRanges : GoodIn wsX2_ranges (wsV RX2 121 RX2 yX2_allRanges wsX2_allRanges) := goodIn_app (goodIn_of _ (by decide +kernel)) ggX2_ranges_X2_allRanges
theorem dX2_ranges_0 : decode cX2_ranges 0 = .ok (.aload_n 0, 1) := by decide +kernel
theorem dX2_ranges_1 : decode cX2_ranges 1 = .ok (.iconst 0, 1) := by decide +kernel
theorem dX2_ranges_2 : decode cX2_ranges 2 = .ok (.putfield 49, 3) := by decide +kernel
theorem dX2_ranges_5 : decode cX2_ranges 5 = .ok (.aload_n 0, 1) := by decide +kernel
theorem dX2_ranges_6 : decode cX2_ranges 6 = .ok (.invokevirtual 121, 3) := by decide +kernel
theorem dX2_ranges_9 : decode cX2_ranges 9 = .ok (.ireturn, 1) := by decide +kernel
set_option maxRecDepth 20000 in
theorem ggX2_rangeAt_X2_allRanges : GoodIn wsX2_rangeAt wsX2_allRanges := goodIn_r _ [5, 6, 7, 8, 9, 4, 10, 11, 12, 13, 14, 15, 16, 17, 18, 24, 25, 26, 27, 28, 29, 30, 31, 32, 33, 34, 35, 36, 37, 38, 39, 40, 41] (by decide +kernel) (by decide +kernel)
set_option maxRecDepth 20000 in
theorem gX2_rangeAt_X2_allRanges : GoodIn wsX2_rangeAt (wsV RX2 121 RX2 yX2_allRanges wsX2_allRanges) := goodIn_app (goodIn_of _ (by decide +kernel)) ggX2_rangeAt_X2_allRanges
set_option maxRecDepth 20000 in
theorem ggX2_rangeAt_X2_isIn : GoodIn wsX2_rangeAt wsX2_isIn := goodIn_r _ [18] (by decide +kernel) (by decide +kernel)
set_option maxRecDepth 20000 in
theorem gX2_rangeAt_X2_isIn : GoodIn wsX2_rangeAt (va_wsS RX2 52 yX2_isIn wsX2_isIn) := goodIn_app (goodIn_of _ (by decide +kernel)) ggX2_rangeAt_X2_isIn
set_option maxRecDepth 20000 in
theorem ggX2_rangeAt_X2_can : GoodIn wsX2_rangeAt wsX2_can := goodIn_r _ [22, 23, 24, 25, 26, 27, 28, 29, 30, 31, 32, 33, 34, 35, 36, 37, 38, 39, 40, 41] (by decide +kernel) (by decide +kernel)
set_option maxRecDepth 20000 in
theorem gX2_rangeAt_X2_can : GoodIn wsX2_rangeAt (wsV RX2 76 RX2 yX2_can wsX2_can) := goodIn_app (goodIn_of _ (by decide +kernel)) ggX2_rangeAt_X2_can
set_option maxRecDepth 20000 in
theorem ggX2_rangeAt_X2_isHere : GoodIn wsX2_rangeAt wsX2_isHere := goodIn_r _ [10, 11, 12, 13, 14, 4, 15, 6, 16, 17, 18, 24, 25, 26, 27, 28, 29, 30, 31, 32, 33, 34, 35, 36, 37, 38, 39, 40, 41] (by decide +kernel) (by decide +kernel)
set_option maxRecDepth 20000 in
theorem gX2_rangeAt_X2_isHere : GoodIn wsX2_rangeAt (wsV RX2 118 RX2 yX2_isHere wsX2_isHere) := goodIn_app (goodIn_of _ (by decide +kernel)) ggX2_rangeAt_X2_isHere
theorem dX2_rangeAt_0 : decode cX2_rangeAt 0 = .ok (.aload_n 0, 1) := by decide +kernel
theorem dX2_rangeAt_1 : decode cX2_rangeAt 1 = .ok (.iload_n 1, 1) := by decide +kernel
theorem dX2_rangeAt_2 : decode cX2_rangeAt 2 = .ok (.iconst 0, 1) := by decide +kernel
theorem dX2_rangeAt_3 : decode cX2_rangeAt 3 = .ok (.aload_n 0, 1) := by decide +kernel
theorem dX2_rangeAt_4 : decode cX2_rangeAt 4 = .ok (.invokevirtual 121, 3) := by decide +kernel
theorem dX2_rangeAt_7 : decode cX2_rangeAt 7 = .ok (.iconst 1, 1) := by decide +kernel
theorem dX2_rangeAt_8 : decode cX2_rangeAt 8 = .ok (.isub, 1) := by decide +kernel
theorem dX2_rangeAt_9 : decode cX2_rangeAt 9 = .ok (.invokestatic 52, 3) := by decide +kernel
theorem dX2_rangeAt_12 : decode cX2_rangeAt 12 = .ok (.ifCond .eq 7, 3) := by decide +kernel
theorem dX2_rangeAt_15 : decode cX2_rangeAt 15 = .ok (.iconst 0, 1) := by decide +kernel
theorem dX2_rangeAt_16 : decode cX2_rangeAt 16 = .ok (.goto 4, 3) := by decide +kernel
theorem dX2_rangeAt_19 : decode cX2_rangeAt 19 = .ok (.iconst 1, 1) := by decide +kernel
theorem dX2_rangeAt_20 : decode cX2_rangeAt 20 = .ok (.invokevirtual 76, 3) := by decide +kernel
theorem dX2_rangeAt_23 : decode cX2_rangeAt 23 = .ok (.ifCond .ne 5, 3) := by decide +kernel
theorem dX2_rangeAt_26 : decode cX2_rangeAt 26 = .ok (.iconst 0, 1) := by decide +kernel
theorem dX2_rangeAt_27 : decode cX2_rangeAt 27 = .ok (.ireturn, 1) := by decide +kernel
theorem dX2_rangeAt_28 : decode cX2_rangeAt 28 = .ok (.iload_n 1, 1) := by decide +kernel
theorem dX2_rangeAt_29 : decode cX2_rangeAt 29 = .ok (.istore_n 2, 1) := by decide +kernel
theorem dX2_rangeAt_30 : decode cX2_rangeAt 30 = .ok (.iconst 0, 1) := by decide +kernel
theorem dX2_rangeAt_31 : decode cX2_rangeAt 31 = .ok (.istore_n 3, 1) := by decide +kernel
theorem dX2_rangeAt_32 : decode cX2_rangeAt 32 = .ok (.iload_n 2, 1) := by decide +kernel
theorem dX2_rangeAt_33 : decode cX2_rangeAt 33 = .ok (.ifCond .gt 21, 3) := by decide +kernel
theorem dX2_rangeAt_36 : decode cX2_rangeAt 36 = .ok (.aload_n 0, 1) := by decide +kernel
theorem dX2_rangeAt_37 : decode cX2_rangeAt 37 = .ok (.iload_n 3, 1) := by decide +kernel
theorem dX2_rangeAt_38 : decode cX2_rangeAt 38 = .ok (.invokevirtual 118, 3) := by decide +kernel
theorem dX2_rangeAt_41 : decode cX2_rangeAt 41 = .ok (.ifCond .eq 13, 3) := by decide +kernel
theorem dX2_rangeAt_44 : decode cX2_rangeAt 44 = .ok (.aload_n 0, 1) := by decide +kernel
theorem dX2_rangeAt_45 : decode cX2_rangeAt 45 = .ok (.iload_n 3, 1) := by decide +kernel
theorem dX2_rangeAt_46 : decode cX2_rangeAt 46 = .ok (.iconst 1, 1) := by decide +kernel
theorem dX2_rangeAt_47 : decode cX2_rangeAt 47 = .ok (.isub, 1) := by decide +kernel
theorem dX2_rangeAt_48 : decode cX2_rangeAt 48 = .ok (.invokevirtual 118, 3) := by decide +kernel
theorem dX2_rangeAt_51 : decode cX2_rangeAt 51 = .ok (.ifCond .eq 35, 3) := by decide +kernel
theorem dX2_rangeAt_54 : decode cX2_rangeAt 54 = .ok (.iload_n 2, 1) := by decide +kernel
theorem dX2_rangeAt_55 : decode cX2_rangeAt 55 = .ok (.aload_n 0, 1) := by decide +kernel
theorem dX2_rangeAt_56 : decode cX2_rangeAt 56 = .ok (.iload_n 3, 1) := by decide +kernel
theorem dX2_rangeAt_57 : decode cX2_rangeAt 57 = .ok (.invokevirtual 118, 3) := by decide +kernel
theorem dX2_rangeAt_60 : decode cX2_rangeAt 60 = .ok (.ifCond .eq 17, 3) := by decide +kernel
theorem dX2_rangeAt_63 : decode cX2_rangeAt 63 = .ok (.aload_n 0, 1) := by decide +kernel
theorem dX2_rangeAt_64 : decode cX2_rangeAt 64 = .ok (.iload_n 3, 1) := by decide +kernel
theorem dX2_rangeAt_65 : decode cX2_rangeAt 65 = .ok (.iconst 1, 1) := by decide +kernel
theorem dX2_rangeAt_66 : decode cX2_rangeAt 66 = .ok (.isub, 1) := by decide +kernel
theorem dX2_rangeAt_67 : decode cX2_rangeAt 67 = .ok (.invokevirtual 118, 3) := by decide +kernel
theorem dX2_rangeAt_70 : decode cX2_rangeAt 70 = .ok (.ifCond .ne 7, 3) := by decide +kernel
theorem dX2_rangeAt_73 : decode cX2_rangeAt 73 = .ok (.iconst 1, 1) := by decide +kernel
theorem dX2_rangeAt_74 : decode cX2_rangeAt 74 = .ok (.goto 4, 3) := by decide +kernel
theorem dX2_rangeAt_77 : decode cX2_rangeAt 77 = .ok (.iconst 0, 1) := by decide +kernel
theorem dX2_rangeAt_78 : decode cX2_rangeAt 78 = .ok (.isub, 1) := by decide +kernel
theorem dX2_rangeAt_79 : decode cX2_rangeAt 79 = .ok (.istore_n 2, 1) := by decide +kernel
theorem dX2_rangeAt_80 : decode cX2_rangeAt 80 = .ok (.iinc 3 1, 3) := by decide +kernel
theorem dX2_rangeAt_83 : decode cX2_rangeAt 83 = .ok (.goto (-51), 3) := by decide +kernel
theorem dX2_rangeAt_86 : decode cX2_rangeAt 86 = .ok (.iload_n 3, 1) := by decide +kernel
theorem dX2_rangeAt_87 : decode cX2_rangeAt 87 = .ok (.istore 4, 2) := by decide +kernel
theorem dX2_rangeAt_89 : decode cX2_rangeAt 89 = .ok (.aload_n 0, 1) := by decide +kernel
theorem dX2_rangeAt_90 : decode cX2_rangeAt 90 = .ok (.iload 4, 2) := by decide +kernel
theorem dX2_rangeAt_92 : decode cX2_rangeAt 92 = .ok (.iconst 1, 1) := by decide +kernel
theorem dX2_rangeAt_93 : decode cX2_rangeAt 93 = .ok (.iadd, 1) := by decide +kernel
theorem dX2_rangeAt_94 : decode cX2_rangeAt 94 = .ok (.invokevirtual 118, 3) := by decide +kernel
theorem dX2_rangeAt_97 : decode cX2_rangeAt 97 = .ok (.ifCond .eq 9, 3) := by decide +kernel
theorem dX2_rangeAt_100 : decode cX2_rangeAt 100 = .ok (.iinc 4 1, 3) := by decide +kernel
theorem dX2_rangeAt_103 : decode cX2_rangeAt 103 = .ok (.goto (-14), 3) := by decide +kernel
theorem dX2_rangeAt_106 : decode cX2_rangeAt 106 = .ok (.sipush 1000, 3) := by decide +kernel
theorem dX2_rangeAt_109 : decode cX2_rangeAt 109 = .ok (.iload_n 3, 1) := by decide +kernel
theorem dX2_rangeAt_110 : decode cX2_rangeAt 110 = .ok (.imul, 1) := by decide +kernel
theorem dX2_rangeAt_111 : decode cX2_rangeAt 111 = .ok (.iload 4, 2) := by decide +kernel
theorem dX2_rangeAt_113 : decode cX2_rangeAt 113 = .ok (.iadd, 1) := by decide +kernel
theorem dX2_rangeAt_114 : decode cX2_rangeAt 114 = .ok (.ireturn, 1) := by decide +kernel
set_option maxRecDepth 20000 in
theorem ggX2_isHeld_X2_isHere : GoodIn wsX2_isHeld wsX2_isHere := goodIn_r _ [6, 7, 8, 9, 10, 5, 11, 12, 13, 14, 15, 16, 17, 18, 19, 20, 21, 22, 23, 24, 25, 26, 27, 28, 29, 30, 31, 32, 33] (by decide +kernel) (by decide +kernel)
set_option maxRecDepth 20000 in
theorem gX2_isHeld_X2_isHere : GoodIn wsX2_isHeld (wsV RX2 118 RX2 yX2_isHere wsX2_isHere) := goodIn_app (goodIn_of _ (by decide +kernel)) ggX2_isHeld_X2_isHere
theorem dX2_isHeld_0 : decode cX2_isHeld 0 = .ok (.aload_n 0, 1) := by decide +kernel
theorem dX2_isHeld_1 : decode cX2_isHeld 1 = .ok (.iconst 0, 1) := by decide +kernel
theorem dX2_isHeld_2 : decode cX2_isHeld 2 = .ok (.putfield 49, 3) := by decide +kernel
theorem dX2_isHeld_5 : decode cX2_isHeld 5 = .ok (.aload_n 0, 1) := by decide +kernel
theorem dX2_isHeld_6 : decode cX2_isHeld 6 = .ok (.iload_n 1, 1) := by decide +kernel
theorem dX2_isHeld_7 : decode cX2_isHeld 7 = .ok (.invokevirtual 118, 3) := by decide +kernel
theorem dX2_isHeld_10 : decode cX2_isHeld 10 = .ok (.ireturn, 1) := by decide +kernel
set_option maxRecDepth 20000 in
theorem ggX2_give_X2_isIssue : GoodIn wsX2_give wsX2_isIssue := goodIn_r _ [5, 6, 7, 4, 8] (by decide +kernel) (by decide +kernel)
set_option maxRecDepth 20000 in
theorem gX2_give_X2_isIssue : GoodIn wsX2_give (va_wsS RX2 91 yX2_isIssue wsX2_isIssue) := goodIn_app (goodIn_of _ (by decide +kernel)) ggX2_give_X2_isIssue
set_option maxRecDepth 20000 in
theorem ggX2_give_X2_isIn : GoodIn wsX2_give wsX2_isIn := goodIn_r _ [8] (by decide +kernel) (by decide +kernel)
set_option maxRecDepth 20000 in
theorem gX2_give_X2_isIn : GoodIn wsX2_give (va_wsS RX2 52 yX2_isIn wsX2_isIn) := goodIn_app (goodIn_of _ (by decide +kernel)) ggX2_give_X2_isIn
set_option maxRecDepth 20000 in
theorem ggX2_give_X2_can : GoodIn wsX2_give wsX2_can := goodIn_r _ [12, 13, 14, 15, 16, 17, 18, 19, 20, 21, 22, 23, 24, 25, 26, 27, 28, 29, 30, 31] (by decide +kernel) (by decide +kernel)
set_option maxRecDepth 20000 in
theorem gX2_give_X2_can : GoodIn wsX2_give (wsV RX2 76 RX2 yX2_can wsX2_can) := goodIn_app (goodIn_of _ (by decide +kernel)) ggX2_give_X2_can
theorem dX2_give_0 : decode cX2_give 0 = .ok (.aload_n 0, 1) := by decide +kernel
theorem dX2_give_1 : decode cX2_give 1 = .ok (.iload_n 1, 1) := by decide +kernel
theorem dX2_give_2 : decode cX2_give 2 = .ok (.invokestatic 91, 3) := by decide +kernel
theorem dX2_give_5 : decode cX2_give 5 = .ok (.ifCond .eq 18, 3) := by decide +kernel
theorem dX2_give_8 : decode cX2_give 8 = .ok (.iload_n 2, 1) := by decide +kernel
theorem dX2_give_9 : decode cX2_give 9 = .ok (.iload_n 1, 1) := by decide +kernel
theorem dX2_give_10 : decode cX2_give 10 = .ok (.sipush 199, 3) := by decide +kernel
theorem dX2_give_13 : decode cX2_give 13 = .ok (.invokestatic 52, 3) := by decide +kernel
theorem dX2_give_16 : decode cX2_give 16 = .ok (.ifCond .eq 7, 3) := by decide +kernel
theorem dX2_give_19 : decode cX2_give 19 = .ok (.iconst 0, 1) := by decide +kernel
theorem dX2_give_20 : decode cX2_give 20 = .ok (.goto 4, 3) := by decide +kernel
theorem dX2_give_23 : decode cX2_give 23 = .ok (.iconst 1, 1) := by decide +kernel
theorem dX2_give_24 : decode cX2_give 24 = .ok (.invokevirtual 76, 3) := by decide +kernel
theorem dX2_give_27 : decode cX2_give 27 = .ok (.ifCond .ne 5, 3) := by decide +kernel
theorem dX2_give_30 : decode cX2_give 30 = .ok (.iconst 0, 1) := by decide +kernel
theorem dX2_give_31 : decode cX2_give 31 = .ok (.ireturn, 1) := by decide +kernel
theorem dX2_give_32 : decode cX2_give 32 = .ok (.iconst 0, 1) := by decide +kernel
theorem dX2_give_33 : decode cX2_give 33 = .ok (.istore_n 3, 1) := by decide +kernel
theorem dX2_give_34 : decode cX2_give 34 = .ok (.iconst 0, 1) := by decide +kernel
theorem dX2_give_35 : decode cX2_give 35 = .ok (.istore 4, 2) := by decide +kernel
theorem dX2_give_37 : decode cX2_give 37 = .ok (.iload 4, 2) := by decide +kernel
theorem dX2_give_39 : decode cX2_give 39 = .ok (.sipush 200, 3) := by decide +kernel
theorem dX2_give_42 : decode cX2_give 42 = .ok (.if_icmp .ge 59, 3) := by decide +kernel
theorem dX2_give_45 : decode cX2_give 45 = .ok (.aload_n 0, 1) := by decide +kernel
theorem dX2_give_46 : decode cX2_give 46 = .ok (.getfield 39, 3) := by decide +kernel
theorem dX2_give_49 : decode cX2_give 49 = .ok (.iload 4, 2) := by decide +kernel
theorem dX2_give_51 : decode cX2_give 51 = .ok (.aload_n 0, 1) := by decide +kernel
theorem dX2_give_52 : decode cX2_give 52 = .ok (.getfield 39, 3) := by decide +kernel
theorem dX2_give_55 : decode cX2_give 55 = .ok (.iload 4, 2) := by decide +kernel
theorem dX2_give_57 : decode cX2_give 57 = .ok (.baload, 1) := by decide +kernel
theorem dX2_give_58 : decode cX2_give 58 = .ok (.ifCond .ne 13, 3) := by decide +kernel
theorem dX2_give_61 : decode cX2_give 61 = .ok (.iload 4, 2) := by decide +kernel
theorem dX2_give_63 : decode cX2_give 63 = .ok (.iload_n 1, 1) := by decide +kernel
theorem dX2_give_64 : decode cX2_give 64 = .ok (.iload_n 2, 1) := by decide +kernel
theorem dX2_give_65 : decode cX2_give 65 = .ok (.invokestatic 52, 3) := by decide +kernel
theorem dX2_give_68 : decode cX2_give 68 = .ok (.ifCond .eq 7, 3) := by decide +kernel
theorem dX2_give_71 : decode cX2_give 71 = .ok (.iconst 1, 1) := by decide +kernel
theorem dX2_give_72 : decode cX2_give 72 = .ok (.goto 4, 3) := by decide +kernel
theorem dX2_give_75 : decode cX2_give 75 = .ok (.iconst 0, 1) := by decide +kernel
theorem dX2_give_76 : decode cX2_give 76 = .ok (.bastore, 1) := by decide +kernel
theorem dX2_give_77 : decode cX2_give 77 = .ok (.iload_n 3, 1) := by decide +kernel
theorem dX2_give_78 : decode cX2_give 78 = .ok (.aload_n 0, 1) := by decide +kernel
theorem dX2_give_79 : decode cX2_give 79 = .ok (.getfield 39, 3) := by decide +kernel
theorem dX2_give_82 : decode cX2_give 82 = .ok (.iload 4, 2) := by decide +kernel
theorem dX2_give_84 : decode cX2_give 84 = .ok (.baload, 1) := by decide +kernel
theorem dX2_give_85 : decode cX2_give 85 = .ok (.ifCond .eq 7, 3) := by decide +kernel
theorem dX2_give_88 : decode cX2_give 88 = .ok (.iconst 1, 1) := by decide +kernel
theorem dX2_give_89 : decode cX2_give 89 = .ok (.goto 4, 3) := by decide +kernel
theorem dX2_give_92 : decode cX2_give 92 = .ok (.iconst 0, 1) := by decide +kernel
theorem dX2_give_93 : decode cX2_give 93 = .ok (.iadd, 1) := by decide +kernel
theorem dX2_give_94 : decode cX2_give 94 = .ok (.istore_n 3, 1) := by decide +kernel
theorem dX2_give_95 : decode cX2_give 95 = .ok (.iinc 4 1, 3) := by decide +kernel
theorem dX2_give_98 : decode cX2_give 98 = .ok (.goto (-61), 3) := by decide +kernel
theorem dX2_give_101 : decode cX2_give 101 = .ok (.iload_n 3, 1) := by decide +kernel
theorem dX2_give_102 : decode cX2_give 102 = .ok (.ireturn, 1) := by decide +kernel
set_option maxRecDepth 20000 in
theorem ggX2_only_X2_can : GoodIn wsX2_only wsX2_can := goodIn_r _ [6, 7, 21, 22, 23, 24, 25, 26, 27, 28, 29, 30, 31, 32, 33, 34, 35, 36, 37, 38] (by decide +kernel) (by decide +kernel)
set_option maxRecDepth 20000 in
theorem gX2_only_X2_can : GoodIn wsX2_only (wsV RX2 76 RX2 yX2_can wsX2_can) := goodIn_app (goodIn_of _ (by decide +kernel)) ggX2_only_X2_can
set_option maxRecDepth 20000 in
theorem ggX2_only_X2_isHere : GoodIn wsX2_only wsX2_isHere := goodIn_r _ [11, 12, 13, 14, 15, 5, 16, 17, 18, 19, 20, 21, 22, 23, 24, 25, 26, 27, 28, 29, 30, 31, 32, 33, 34, 35, 36, 37, 38] (by decide +kernel) (by decide +kernel)
set_option maxRecDepth 20000 in
theorem gX2_only_X2_isHere : GoodIn wsX2_only (wsV RX2 118 RX2 yX2_isHere wsX2_isHere) := goodIn_app (goodIn_of _ (by decide +kernel)) ggX2_only_X2_isHere
theorem dX2_only_0 : decode cX2_only 0 = .ok (.aload_n 0, 1) := by decide +kernel
theorem dX2_only_1 : decode cX2_only 1 = .ok (.iload_n 2, 1) := by decide +kernel
theorem dX2_only_2 : decode cX2_only 2 = .ok (.ifCond .ge 7, 3) := by decide +kernel
theorem dX2_only_5 : decode cX2_only 5 = .ok (.iconst 1, 1) := by decide +kernel
theorem dX2_only_6 : decode cX2_only 6 = .ok (.goto 4, 3) := by decide +kernel
theorem dX2_only_9 : decode cX2_only 9 = .ok (.iconst 0, 1) := by decide +kernel
theorem dX2_only_10 : decode cX2_only 10 = .ok (.invokevirtual 76, 3) := by decide +kernel
theorem dX2_only_13 : decode cX2_only 13 = .ok (.ifCond .ne 5, 3) := by decide +kernel
theorem dX2_only_16 : decode cX2_only 16 = .ok (.iconst 0, 1) := by decide +kernel
theorem dX2_only_17 : decode cX2_only 17 = .ok (.ireturn, 1) := by decide +kernel
theorem dX2_only_18 : decode cX2_only 18 = .ok (.iload_n 2, 1) := by decide +kernel
theorem dX2_only_19 : decode cX2_only 19 = .ok (.istore_n 3, 1) := by decide +kernel
theorem dX2_only_20 : decode cX2_only 20 = .ok (.iconst 0, 1) := by decide +kernel
theorem dX2_only_21 : decode cX2_only 21 = .ok (.istore 4, 2) := by decide +kernel
theorem dX2_only_23 : decode cX2_only 23 = .ok (.iload 4, 2) := by decide +kernel
theorem dX2_only_25 : decode cX2_only 25 = .ok (.sipush 200, 3) := by decide +kernel
theorem dX2_only_28 : decode cX2_only 28 = .ok (.if_icmp .ge 91, 3) := by decide +kernel
theorem dX2_only_31 : decode cX2_only 31 = .ok (.iload_n 1, 1) := by decide +kernel
theorem dX2_only_32 : decode cX2_only 32 = .ok (.ifCond .eq 30, 3) := by decide +kernel
theorem dX2_only_35 : decode cX2_only 35 = .ok (.aload_n 0, 1) := by decide +kernel
theorem dX2_only_36 : decode cX2_only 36 = .ok (.iload 4, 2) := by decide +kernel
theorem dX2_only_38 : decode cX2_only 38 = .ok (.invokevirtual 118, 3) := by decide +kernel
theorem dX2_only_41 : decode cX2_only 41 = .ok (.ifCond .eq 17, 3) := by decide +kernel
theorem dX2_only_44 : decode cX2_only 44 = .ok (.aload_n 0, 1) := by decide +kernel
theorem dX2_only_45 : decode cX2_only 45 = .ok (.getfield 39, 3) := by decide +kernel
theorem dX2_only_48 : decode cX2_only 48 = .ok (.iload 4, 2) := by decide +kernel
theorem dX2_only_50 : decode cX2_only 50 = .ok (.baload, 1) := by decide +kernel
theorem dX2_only_51 : decode cX2_only 51 = .ok (.ifCond .ne 7, 3) := by decide +kernel
theorem dX2_only_54 : decode cX2_only 54 = .ok (.iconst 1, 1) := by decide +kernel
theorem dX2_only_55 : decode cX2_only 55 = .ok (.goto 31, 3) := by decide +kernel
theorem dX2_only_58 : decode cX2_only 58 = .ok (.iconst 0, 1) := by decide +kernel
theorem dX2_only_59 : decode cX2_only 59 = .ok (.goto 27, 3) := by decide +kernel
theorem dX2_only_62 : decode cX2_only 62 = .ok (.aload_n 0, 1) := by decide +kernel
theorem dX2_only_63 : decode cX2_only 63 = .ok (.getfield 39, 3) := by decide +kernel
theorem dX2_only_66 : decode cX2_only 66 = .ok (.iload 4, 2) := by decide +kernel
theorem dX2_only_68 : decode cX2_only 68 = .ok (.baload, 1) := by decide +kernel
theorem dX2_only_69 : decode cX2_only 69 = .ok (.ifCond .eq 16, 3) := by decide +kernel
theorem dX2_only_72 : decode cX2_only 72 = .ok (.aload_n 0, 1) := by decide +kernel
theorem dX2_only_73 : decode cX2_only 73 = .ok (.iload 4, 2) := by decide +kernel
theorem dX2_only_75 : decode cX2_only 75 = .ok (.invokevirtual 118, 3) := by decide +kernel
theorem dX2_only_78 : decode cX2_only 78 = .ok (.ifCond .ne 7, 3) := by decide +kernel
theorem dX2_only_81 : decode cX2_only 81 = .ok (.iconst 1, 1) := by decide +kernel
theorem dX2_only_82 : decode cX2_only 82 = .ok (.goto 4, 3) := by decide +kernel
theorem dX2_only_85 : decode cX2_only 85 = .ok (.iconst 0, 1) := by decide +kernel
theorem dX2_only_86 : decode cX2_only 86 = .ok (.istore 5, 2) := by decide +kernel
theorem dX2_only_88 : decode cX2_only 88 = .ok (.iload 5, 2) := by decide +kernel
theorem dX2_only_90 : decode cX2_only 90 = .ok (.ifCond .eq 10, 3) := by decide +kernel
theorem dX2_only_93 : decode cX2_only 93 = .ok (.iload_n 3, 1) := by decide +kernel
theorem dX2_only_94 : decode cX2_only 94 = .ok (.ifCond .ne 6, 3) := by decide +kernel
theorem dX2_only_97 : decode cX2_only 97 = .ok (.iload 4, 2) := by decide +kernel
theorem dX2_only_99 : decode cX2_only 99 = .ok (.ireturn, 1) := by decide +kernel
theorem dX2_only_100 : decode cX2_only 100 = .ok (.iload_n 3, 1) := by decide +kernel
theorem dX2_only_101 : decode cX2_only 101 = .ok (.iload 5, 2) := by decide +kernel
theorem dX2_only_103 : decode cX2_only 103 = .ok (.ifCond .eq 7, 3) := by decide +kernel
theorem dX2_only_106 : decode cX2_only 106 = .ok (.iconst 1, 1) := by decide +kernel
theorem dX2_only_107 : decode cX2_only 107 = .ok (.goto 4, 3) := by decide +kernel
theorem dX2_only_110 : decode cX2_only 110 = .ok (.iconst 0, 1) := by decide +kernel
theorem dX2_only_111 : decode cX2_only 111 = .ok (.isub, 1) := by decide +kernel
theorem dX2_only_112 : decode cX2_only 112 = .ok (.istore_n 3, 1) := by decide +kernel
theorem dX2_only_113 : decode cX2_only 113 = .ok (.iinc 4 1, 3) := by decide +kernel
theorem dX2_only_116 : decode cX2_only 116 = .ok (.goto (-93), 3) := by decide +kernel
theorem dX2_only_119 : decode cX2_only 119 = .ok (.iconst (-1), 1) := by decide +kernel
theorem dX2_only_120 : decode cX2_only 120 = .ok (.ireturn, 1) := by decide +kernel
theorem dJ9_max_7cf53_0 : decode cJ9_max_7cf53 0 = .ok (.iload_n 0, 1) := by decide +kernel
theorem dJ9_max_7cf53_1 : decode cJ9_max_7cf53 1 = .ok (.iload_n 1, 1) := by decide +kernel
theorem dJ9_max_7cf53_2 : decode cJ9_max_7cf53 2 = .ok (.if_icmp .lt 7, 3) := by decide +kernel
theorem dJ9_max_7cf53_5 : decode cJ9_max_7cf53 5 = .ok (.iload_n 0, 1) := by decide +kernel
theorem dJ9_max_7cf53_6 : decode cJ9_max_7cf53 6 = .ok (.goto 4, 3) := by decide +kernel
theorem dJ9_max_7cf53_9 : decode cJ9_max_7cf53 9 = .ok (.iload_n 1, 1) := by decide +kernel
theorem dJ9_max_7cf53_10 : decode cJ9_max_7cf53 10 = .ok (.ireturn, 1) := by decide +kernel
