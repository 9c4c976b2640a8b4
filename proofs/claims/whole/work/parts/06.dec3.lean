set_option maxRecDepth 20000 in
theorem ggL_setPattern_X1_setPattern : GoodIn wsL_setPattern wsX1_setPattern := goodIn_ca (goodIn_r _ [6, 7, 8, 9, 10, 11, 5, 12, 13, 14, 15, 16, 17, 18, 19, 20, 21, 22, 23, 24, 25, 26, 27, 28, 29, 30, 31, 32, 33, 34, 35, 36, 37, 38, 39, 40, 41, 42, 43, 44, 45, 46, 47, 48, 49, 50, 51, 52, 53, 54, 55, 56, 57, 58, 59, 60, 61, 62, 63, 64, 65, 66, 67, 68, 69, 70, 71] (by decide +kernel) (by decide +kernel)) (goodIn_sub (fun _ h => List.mem_cons_of_mem _ (List.mem_append_right _ h)) (by decide +kernel))
set_option maxRecDepth 20000 in
theorem gL_setPattern_X1_setPattern : GoodIn wsL_setPattern (wsV RL 7 RX1 yX1_setPattern wsX1_setPattern) := goodIn_app (goodIn_of _ (by decide +kernel)) ggL_setPattern_X1_setPattern
theorem dL_setPattern_0 : decode cL_setPattern 0 = .ok (.aload_n 0, 1) := by decide +kernel
theorem dL_setPattern_1 : decode cL_setPattern 1 = .ok (.iload_n 1, 1) := by decide +kernel
theorem dL_setPattern_2 : decode cL_setPattern 2 = .ok (.iload_n 2, 1) := by decide +kernel
theorem dL_setPattern_3 : decode cL_setPattern 3 = .ok (.iload_n 3, 1) := by decide +kernel
theorem dL_setPattern_4 : decode cL_setPattern 4 = .ok (.iload 4, 2) := by decide +kernel
theorem dL_setPattern_6 : decode cL_setPattern 6 = .ok (.invokevirtual 7, 3) := by decide +kernel
theorem dL_setPattern_9 : decode cL_setPattern 9 = .ok (.goto 7, 3) := by decide +kernel
theorem dL_setPattern_12 : decode cL_setPattern 12 = .ok (.astore 5, 2) := by decide +kernel
theorem dL_setPattern_14 : decode cL_setPattern 14 = .ok (.iconst 1, 1) := by decide +kernel
theorem dL_setPattern_15 : decode cL_setPattern 15 = .ok (.ireturn, 1) := by decide +kernel
theorem dL_setPattern_16 : decode cL_setPattern 16 = .ok (.iconst 0, 1) := by decide +kernel
theorem dL_setPattern_17 : decode cL_setPattern 17 = .ok (.ireturn, 1) := by decide +kernel
set_option maxRecDepth 20000 in
theorem ggL_setClaims_X1_setClaims : GoodIn wsL_setClaims wsX1_setClaims := goodIn_ca (goodIn_r _ [6, 7, 8, 9, 10, 11, 12, 5, 13, 14, 15, 16, 17, 18, 19, 20, 21, 22, 23, 24, 25, 26, 27, 28] (by decide +kernel) (by decide +kernel)) (goodIn_sub (fun _ h => List.mem_cons_of_mem _ (List.mem_append_right _ h)) (by decide +kernel))
set_option maxRecDepth 20000 in
theorem gL_setClaims_X1_setClaims : GoodIn wsL_setClaims (wsV RL 15 RX1 yX1_setClaims wsX1_setClaims) := goodIn_app (goodIn_of _ (by decide +kernel)) ggL_setClaims_X1_setClaims
theorem dL_setClaims_0 : decode cL_setClaims 0 = .ok (.aload_n 0, 1) := by decide +kernel
theorem dL_setClaims_1 : decode cL_setClaims 1 = .ok (.iload_n 1, 1) := by decide +kernel
theorem dL_setClaims_2 : decode cL_setClaims 2 = .ok (.iload_n 2, 1) := by decide +kernel
theorem dL_setClaims_3 : decode cL_setClaims 3 = .ok (.invokevirtual 15, 3) := by decide +kernel
theorem dL_setClaims_6 : decode cL_setClaims 6 = .ok (.goto 6, 3) := by decide +kernel
theorem dL_setClaims_9 : decode cL_setClaims 9 = .ok (.astore_n 3, 1) := by decide +kernel
theorem dL_setClaims_10 : decode cL_setClaims 10 = .ok (.iconst 1, 1) := by decide +kernel
theorem dL_setClaims_11 : decode cL_setClaims 11 = .ok (.ireturn, 1) := by decide +kernel
theorem dL_setClaims_12 : decode cL_setClaims 12 = .ok (.iconst 0, 1) := by decide +kernel
theorem dL_setClaims_13 : decode cL_setClaims 13 = .ok (.ireturn, 1) := by decide +kernel
set_option maxRecDepth 20000 in
theorem ggL_advance_X1_advance : GoodIn wsL_advance wsX1_advance := goodIn_ca (goodIn_ca (goodIn_r _ [7, 8, 9, 10, 11, 12, 13, 14, 6, 15, 16, 17, 18, 19, 20, 21, 22, 23, 24, 25, 26, 27, 28, 29, 30, 31, 32, 33, 34, 35, 36, 37, 38, 39, 40, 41, 42, 43, 44, 45, 46, 47, 48, 49, 50, 51, 52, 53, 54, 55, 56, 57, 58, 59, 60, 61, 62, 63, 64, 65, 66, 67, 68] (by decide +kernel) (by decide +kernel)) (goodIn_sub (fun _ h => List.mem_cons_of_mem _ (List.mem_append_left _ (List.mem_append_right _ h))) (by decide +kernel))) (goodIn_sub (fun _ h => List.mem_cons_of_mem _ (List.mem_append_right _ h)) (by decide +kernel))
set_option maxRecDepth 20000 in
theorem gL_advance_X1_advance : GoodIn wsL_advance (wsV RL 19 RX1 yX1_advance wsX1_advance) := goodIn_app (goodIn_of _ (by decide +kernel)) ggL_advance_X1_advance
theorem dL_advance_0 : decode cL_advance 0 = .ok (.aload_n 2, 1) := by decide +kernel
theorem dL_advance_1 : decode cL_advance 1 = .ok (.iconst 0, 1) := by decide +kernel
theorem dL_advance_2 : decode cL_advance 2 = .ok (.aload_n 0, 1) := by decide +kernel
theorem dL_advance_3 : decode cL_advance 3 = .ok (.iload_n 1, 1) := by decide +kernel
theorem dL_advance_4 : decode cL_advance 4 = .ok (.invokevirtual 19, 3) := by decide +kernel
theorem dL_advance_7 : decode cL_advance 7 = .ok (.i2l, 1) := by decide +kernel
theorem dL_advance_8 : decode cL_advance 8 = .ok (.lastore, 1) := by decide +kernel
theorem dL_advance_9 : decode cL_advance 9 = .ok (.goto 9, 3) := by decide +kernel
theorem dL_advance_12 : decode cL_advance 12 = .ok (.astore_n 3, 1) := by decide +kernel
theorem dL_advance_13 : decode cL_advance 13 = .ok (.iconst 1, 1) := by decide +kernel
theorem dL_advance_14 : decode cL_advance 14 = .ok (.ireturn, 1) := by decide +kernel
theorem dL_advance_15 : decode cL_advance 15 = .ok (.astore_n 3, 1) := by decide +kernel
theorem dL_advance_16 : decode cL_advance 16 = .ok (.iconst 2, 1) := by decide +kernel
theorem dL_advance_17 : decode cL_advance 17 = .ok (.ireturn, 1) := by decide +kernel
theorem dL_advance_18 : decode cL_advance 18 = .ok (.iconst 0, 1) := by decide +kernel
theorem dL_advance_19 : decode cL_advance 19 = .ok (.ireturn, 1) := by decide +kernel
set_option maxRecDepth 20000 in
theorem ggL_checkIn_X1_checkIn : GoodIn wsL_checkIn wsX1_checkIn := goodIn_ca (goodIn_ca (goodIn_ca (goodIn_r _ [8, 9, 10, 11, 12, 13, 14, 15, 16, 17, 7, 18, 19, 20, 21, 22, 23, 24, 25, 26, 27, 28, 29, 30, 31, 32, 33, 34, 35, 36, 37, 38, 39, 40, 41, 42, 43, 44, 45, 46, 47, 48, 49, 50, 51, 52, 53, 54, 55, 56, 57, 58, 59, 60, 61, 62, 63, 64, 65, 66, 67, 68, 69, 70, 71, 72, 73, 74, 75, 76, 77, 78, 79, 80, 81, 82, 83, 84, 85, 86, 87, 88, 89, 90, 91, 92, 93, 94, 95, 96, 97, 98, 99, 100, 101, 102] (by decide +kernel) (by decide +kernel)) (goodIn_sub (fun _ h => List.mem_cons_of_mem _ (List.mem_append_left _ (List.mem_append_left _ (List.mem_append_right _ h)))) (by decide +kernel))) (goodIn_sub (fun _ h => List.mem_cons_of_mem _ (List.mem_append_left _ (List.mem_append_right _ h))) (by decide +kernel))) (goodIn_sub (fun _ h => List.mem_cons_of_mem _ (List.mem_append_right _ h)) (by decide +kernel))
set_option maxRecDepth 20000 in
theorem gL_checkIn_X1_checkIn : GoodIn wsL_checkIn (wsV RL 25 RX1 yX1_checkIn wsX1_checkIn) := goodIn_app (goodIn_of _ (by decide +kernel)) ggL_checkIn_X1_checkIn
theorem dL_checkIn_0 : decode cL_checkIn 0 = .ok (.aload_n 3, 1) := by decide +kernel
theorem dL_checkIn_1 : decode cL_checkIn 1 = .ok (.iconst 0, 1) := by decide +kernel
theorem dL_checkIn_2 : decode cL_checkIn 2 = .ok (.aload_n 0, 1) := by decide +kernel
theorem dL_checkIn_3 : decode cL_checkIn 3 = .ok (.iload_n 1, 1) := by decide +kernel
theorem dL_checkIn_4 : decode cL_checkIn 4 = .ok (.iload_n 2, 1) := by decide +kernel
theorem dL_checkIn_5 : decode cL_checkIn 5 = .ok (.invokevirtual 25, 3) := by decide +kernel
theorem dL_checkIn_8 : decode cL_checkIn 8 = .ok (.i2l, 1) := by decide +kernel
theorem dL_checkIn_9 : decode cL_checkIn 9 = .ok (.lastore, 1) := by decide +kernel
theorem dL_checkIn_10 : decode cL_checkIn 10 = .ok (.goto 15, 3) := by decide +kernel
theorem dL_checkIn_13 : decode cL_checkIn 13 = .ok (.astore 4, 2) := by decide +kernel
theorem dL_checkIn_15 : decode cL_checkIn 15 = .ok (.iconst 1, 1) := by decide +kernel
theorem dL_checkIn_16 : decode cL_checkIn 16 = .ok (.ireturn, 1) := by decide +kernel
theorem dL_checkIn_17 : decode cL_checkIn 17 = .ok (.astore 4, 2) := by decide +kernel
theorem dL_checkIn_19 : decode cL_checkIn 19 = .ok (.iconst 2, 1) := by decide +kernel
theorem dL_checkIn_20 : decode cL_checkIn 20 = .ok (.ireturn, 1) := by decide +kernel
theorem dL_checkIn_21 : decode cL_checkIn 21 = .ok (.astore 4, 2) := by decide +kernel
theorem dL_checkIn_23 : decode cL_checkIn 23 = .ok (.iconst 3, 1) := by decide +kernel
theorem dL_checkIn_24 : decode cL_checkIn 24 = .ok (.ireturn, 1) := by decide +kernel
theorem dL_checkIn_25 : decode cL_checkIn 25 = .ok (.iconst 0, 1) := by decide +kernel
theorem dL_checkIn_26 : decode cL_checkIn 26 = .ok (.ireturn, 1) := by decide +kernel
set_option maxRecDepth 20000 in
theorem ggL_skip_X1_skip : GoodIn wsL_skip wsX1_skip := goodIn_ca (goodIn_ca (goodIn_r _ [7, 8, 9, 10, 11, 12, 13, 14, 15, 6, 16, 17, 18, 19, 20, 21, 22, 23, 24, 25, 26, 27, 28, 29, 30, 31, 32, 33, 34, 35] (by decide +kernel) (by decide +kernel)) (goodIn_sub (fun _ h => List.mem_cons_of_mem _ (List.mem_append_left _ (List.mem_append_right _ h))) (by decide +kernel))) (goodIn_sub (fun _ h => List.mem_cons_of_mem _ (List.mem_append_right _ h)) (by decide +kernel))
set_option maxRecDepth 20000 in
theorem gL_skip_X1_skip : GoodIn wsL_skip (wsV RL 31 RX1 yX1_skip wsX1_skip) := goodIn_app (goodIn_of _ (by decide +kernel)) ggL_skip_X1_skip
theorem dL_skip_0 : decode cL_skip 0 = .ok (.aload_n 0, 1) := by decide +kernel
theorem dL_skip_1 : decode cL_skip 1 = .ok (.iload_n 1, 1) := by decide +kernel
theorem dL_skip_2 : decode cL_skip 2 = .ok (.invokevirtual 31, 3) := by decide +kernel
theorem dL_skip_5 : decode cL_skip 5 = .ok (.goto 9, 3) := by decide +kernel
theorem dL_skip_8 : decode cL_skip 8 = .ok (.astore_n 2, 1) := by decide +kernel
theorem dL_skip_9 : decode cL_skip 9 = .ok (.iconst 1, 1) := by decide +kernel
theorem dL_skip_10 : decode cL_skip 10 = .ok (.ireturn, 1) := by decide +kernel
theorem dL_skip_11 : decode cL_skip 11 = .ok (.astore_n 2, 1) := by decide +kernel
theorem dL_skip_12 : decode cL_skip 12 = .ok (.iconst 2, 1) := by decide +kernel
theorem dL_skip_13 : decode cL_skip 13 = .ok (.ireturn, 1) := by decide +kernel
theorem dL_skip_14 : decode cL_skip 14 = .ok (.iconst 0, 1) := by decide +kernel
theorem dL_skip_15 : decode cL_skip 15 = .ok (.ireturn, 1) := by decide +kernel
set_option maxRecDepth 20000 in
theorem ggL_dayOf_X1_dayOf : GoodIn wsL_dayOf wsX1_dayOf := goodIn_ca (goodIn_r _ [6, 7, 8, 9, 10, 11, 12, 5, 13, 14, 15, 16, 17, 18, 19, 20, 21, 22, 23, 24, 25, 26, 27, 28, 29, 30, 31, 32] (by decide +kernel) (by decide +kernel)) (goodIn_sub (fun _ h => List.mem_cons_of_mem _ (List.mem_append_right _ h)) (by decide +kernel))
set_option maxRecDepth 20000 in
theorem gL_dayOf_X1_dayOf : GoodIn wsL_dayOf (wsV RL 35 RX1 yX1_dayOf wsX1_dayOf) := goodIn_app (goodIn_of _ (by decide +kernel)) ggL_dayOf_X1_dayOf
theorem dL_dayOf_0 : decode cL_dayOf 0 = .ok (.aload_n 2, 1) := by decide +kernel
theorem dL_dayOf_1 : decode cL_dayOf 1 = .ok (.iconst 0, 1) := by decide +kernel
theorem dL_dayOf_2 : decode cL_dayOf 2 = .ok (.aload_n 0, 1) := by decide +kernel
theorem dL_dayOf_3 : decode cL_dayOf 3 = .ok (.iload_n 1, 1) := by decide +kernel
theorem dL_dayOf_4 : decode cL_dayOf 4 = .ok (.invokevirtual 35, 3) := by decide +kernel
theorem dL_dayOf_7 : decode cL_dayOf 7 = .ok (.i2l, 1) := by decide +kernel
theorem dL_dayOf_8 : decode cL_dayOf 8 = .ok (.lastore, 1) := by decide +kernel
theorem dL_dayOf_9 : decode cL_dayOf 9 = .ok (.goto 6, 3) := by decide +kernel
theorem dL_dayOf_12 : decode cL_dayOf 12 = .ok (.astore_n 3, 1) := by decide +kernel
theorem dL_dayOf_13 : decode cL_dayOf 13 = .ok (.iconst 1, 1) := by decide +kernel
theorem dL_dayOf_14 : decode cL_dayOf 14 = .ok (.ireturn, 1) := by decide +kernel
theorem dL_dayOf_15 : decode cL_dayOf 15 = .ok (.iconst 0, 1) := by decide +kernel
theorem dL_dayOf_16 : decode cL_dayOf 16 = .ok (.ireturn, 1) := by decide +kernel
set_option maxRecDepth 20000 in
theorem ggL_stateOf_X1_stateOf : GoodIn wsL_stateOf wsX1_stateOf := goodIn_ca (goodIn_r _ [6, 7, 8, 9, 10, 11, 12, 5, 13, 14, 15, 16, 17, 18, 19, 20, 21, 22, 23, 24, 25, 26, 27, 28, 29, 30, 31, 32] (by decide +kernel) (by decide +kernel)) (goodIn_sub (fun _ h => List.mem_cons_of_mem _ (List.mem_append_right _ h)) (by decide +kernel))
set_option maxRecDepth 20000 in
theorem gL_stateOf_X1_stateOf : GoodIn wsL_stateOf (wsV RL 38 RX1 yX1_stateOf wsX1_stateOf) := goodIn_app (goodIn_of _ (by decide +kernel)) ggL_stateOf_X1_stateOf
theorem dL_stateOf_0 : decode cL_stateOf 0 = .ok (.aload_n 2, 1) := by decide +kernel
theorem dL_stateOf_1 : decode cL_stateOf 1 = .ok (.iconst 0, 1) := by decide +kernel
theorem dL_stateOf_2 : decode cL_stateOf 2 = .ok (.aload_n 0, 1) := by decide +kernel
theorem dL_stateOf_3 : decode cL_stateOf 3 = .ok (.iload_n 1, 1) := by decide +kernel
theorem dL_stateOf_4 : decode cL_stateOf 4 = .ok (.invokevirtual 38, 3) := by decide +kernel
theorem dL_stateOf_7 : decode cL_stateOf 7 = .ok (.i2l, 1) := by decide +kernel
theorem dL_stateOf_8 : decode cL_stateOf 8 = .ok (.lastore, 1) := by decide +kernel
theorem dL_stateOf_9 : decode cL_stateOf 9 = .ok (.goto 6, 3) := by decide +kernel
theorem dL_stateOf_12 : decode cL_stateOf 12 = .ok (.astore_n 3, 1) := by decide +kernel
theorem dL_stateOf_13 : decode cL_stateOf 13 = .ok (.iconst 1, 1) := by decide +kernel
theorem dL_stateOf_14 : decode cL_stateOf 14 = .ok (.ireturn, 1) := by decide +kernel
theorem dL_stateOf_15 : decode cL_stateOf 15 = .ok (.iconst 0, 1) := by decide +kernel
theorem dL_stateOf_16 : decode cL_stateOf 16 = .ok (.ireturn, 1) := by decide +kernel
set_option maxRecDepth 20000 in
theorem ggL_claimsOf_X1_claimsOf : GoodIn wsL_claimsOf wsX1_claimsOf := goodIn_ca (goodIn_r _ [6, 7, 8, 9, 10, 11, 12, 5, 13, 14, 15, 16, 17, 18, 19, 20, 21, 22, 23, 24, 25, 26, 27, 28, 29, 30, 31, 32] (by decide +kernel) (by decide +kernel)) (goodIn_sub (fun _ h => List.mem_cons_of_mem _ (List.mem_append_right _ h)) (by decide +kernel))
set_option maxRecDepth 20000 in
theorem gL_claimsOf_X1_claimsOf : GoodIn wsL_claimsOf (wsV RL 41 RX1 yX1_claimsOf wsX1_claimsOf) := goodIn_app (goodIn_of _ (by decide +kernel)) ggL_claimsOf_X1_claimsOf
theorem dL_claimsOf_0 : decode cL_claimsOf 0 = .ok (.aload_n 2, 1) := by decide +kernel
theorem dL_claimsOf_1 : decode cL_claimsOf 1 = .ok (.iconst 0, 1) := by decide +kernel
theorem dL_claimsOf_2 : decode cL_claimsOf 2 = .ok (.aload_n 0, 1) := by decide +kernel
theorem dL_claimsOf_3 : decode cL_claimsOf 3 = .ok (.iload_n 1, 1) := by decide +kernel
theorem dL_claimsOf_4 : decode cL_claimsOf 4 = .ok (.invokevirtual 41, 3) := by decide +kernel
theorem dL_claimsOf_7 : decode cL_claimsOf 7 = .ok (.i2l, 1) := by decide +kernel
theorem dL_claimsOf_8 : decode cL_claimsOf 8 = .ok (.lastore, 1) := by decide +kernel
theorem dL_claimsOf_9 : decode cL_claimsOf 9 = .ok (.goto 6, 3) := by decide +kernel
theorem dL_claimsOf_12 : decode cL_claimsOf 12 = .ok (.astore_n 3, 1) := by decide +kernel
theorem dL_claimsOf_13 : decode cL_claimsOf 13 = .ok (.iconst 1, 1) := by decide +kernel
theorem dL_claimsOf_14 : decode cL_claimsOf 14 = .ok (.ireturn, 1) := by decide +kernel
theorem dL_claimsOf_15 : decode cL_claimsOf 15 = .ok (.iconst 0, 1) := by decide +kernel
theorem dL_claimsOf_16 : decode cL_claimsOf 16 = .ok (.ireturn, 1) := by decide +kernel
set_option maxRecDepth 20000 in
theorem ggL_labelOf_X1_labelOf : GoodIn wsL_labelOf wsX1_labelOf := goodIn_ca (goodIn_r _ [6, 7, 8, 9, 10, 11, 5, 12, 13, 14, 15, 16, 17, 18, 19, 20, 21, 22, 23, 24, 25, 26, 27, 28, 29, 30, 31, 32, 33, 34, 35, 36, 37, 38, 39, 40, 41, 42] (by decide +kernel) (by decide +kernel)) (goodIn_sub (fun _ h => List.mem_cons_of_mem _ (List.mem_append_right _ h)) (by decide +kernel))
set_option maxRecDepth 20000 in
theorem gL_labelOf_X1_labelOf : GoodIn wsL_labelOf (wsV RL 44 RX1 yX1_labelOf wsX1_labelOf) := goodIn_app (goodIn_of _ (by decide +kernel)) ggL_labelOf_X1_labelOf
theorem dL_labelOf_0 : decode cL_labelOf 0 = .ok (.aload_n 2, 1) := by decide +kernel
theorem dL_labelOf_1 : decode cL_labelOf 1 = .ok (.iconst 0, 1) := by decide +kernel
theorem dL_labelOf_2 : decode cL_labelOf 2 = .ok (.aload_n 0, 1) := by decide +kernel
theorem dL_labelOf_3 : decode cL_labelOf 3 = .ok (.iload_n 1, 1) := by decide +kernel
theorem dL_labelOf_4 : decode cL_labelOf 4 = .ok (.invokevirtual 44, 3) := by decide +kernel
theorem dL_labelOf_7 : decode cL_labelOf 7 = .ok (.i2l, 1) := by decide +kernel
theorem dL_labelOf_8 : decode cL_labelOf 8 = .ok (.lastore, 1) := by decide +kernel
theorem dL_labelOf_9 : decode cL_labelOf 9 = .ok (.goto 6, 3) := by decide +kernel
theorem dL_labelOf_12 : decode cL_labelOf 12 = .ok (.astore_n 3, 1) := by decide +kernel
theorem dL_labelOf_13 : decode cL_labelOf 13 = .ok (.iconst 1, 1) := by decide +kernel
theorem dL_labelOf_14 : decode cL_labelOf 14 = .ok (.ireturn, 1) := by decide +kernel
theorem dL_labelOf_15 : decode cL_labelOf 15 = .ok (.iconst 0, 1) := by decide +kernel
theorem dL_labelOf_16 : decode cL_labelOf 16 = .ok (.ireturn, 1) := by decide +kernel
set_option maxRecDepth 20000 in
theorem ggL_rangeAt_X1_rangeAt : GoodIn wsL_rangeAt wsX1_rangeAt := goodIn_ca (goodIn_r _ [6, 7, 8, 9, 10, 11, 5, 12, 13, 14, 15, 16, 17, 18, 19, 20, 21, 22, 23, 24, 25, 26, 27, 28, 29, 30, 31, 32, 33, 34, 35, 36, 37, 38, 39, 40, 41, 42, 43, 44, 45, 46, 47, 48] (by decide +kernel) (by decide +kernel)) (goodIn_sub (fun _ h => List.mem_cons_of_mem _ (List.mem_append_right _ h)) (by decide +kernel))
set_option maxRecDepth 20000 in
theorem gL_rangeAt_X1_rangeAt : GoodIn wsL_rangeAt (wsV RL 47 RX1 yX1_rangeAt wsX1_rangeAt) := goodIn_app (goodIn_of _ (by decide +kernel)) ggL_rangeAt_X1_rangeAt
theorem dL_rangeAt_0 : decode cL_rangeAt 0 = .ok (.aload_n 2, 1) := by decide +kernel
theorem dL_rangeAt_1 : decode cL_rangeAt 1 = .ok (.iconst 0, 1) := by decide +kernel
theorem dL_rangeAt_2 : decode cL_rangeAt 2 = .ok (.aload_n 0, 1) := by decide +kernel
theorem dL_rangeAt_3 : decode cL_rangeAt 3 = .ok (.iload_n 1, 1) := by decide +kernel
theorem dL_rangeAt_4 : decode cL_rangeAt 4 = .ok (.invokevirtual 47, 3) := by decide +kernel
theorem dL_rangeAt_7 : decode cL_rangeAt 7 = .ok (.i2l, 1) := by decide +kernel
theorem dL_rangeAt_8 : decode cL_rangeAt 8 = .ok (.lastore, 1) := by decide +kernel
theorem dL_rangeAt_9 : decode cL_rangeAt 9 = .ok (.goto 6, 3) := by decide +kernel
theorem dL_rangeAt_12 : decode cL_rangeAt 12 = .ok (.astore_n 3, 1) := by decide +kernel
theorem dL_rangeAt_13 : decode cL_rangeAt 13 = .ok (.iconst 1, 1) := by decide +kernel
theorem dL_rangeAt_14 : decode cL_rangeAt 14 = .ok (.ireturn, 1) := by decide +kernel
theorem dL_rangeAt_15 : decode cL_rangeAt 15 = .ok (.iconst 0, 1) := by decide +kernel
theorem dL_rangeAt_16 : decode cL_rangeAt 16 = .ok (.ireturn, 1) := by decide +kernel
set_option maxRecDepth 20000 in
theorem ggL_give_X1_give : GoodIn wsL_give wsX1_give := goodIn_ca (goodIn_r _ [6, 7, 8, 9, 10, 11, 12, 5, 13, 14, 15, 16, 17, 18, 19, 20, 21, 22, 23, 24, 25, 26, 27, 28, 29, 30, 31] (by decide +kernel) (by decide +kernel)) (goodIn_sub (fun _ h => List.mem_cons_of_mem _ (List.mem_append_right _ h)) (by decide +kernel))
set_option maxRecDepth 20000 in
theorem gL_give_X1_give : GoodIn wsL_give (wsV RL 50 RX1 yX1_give wsX1_give) := goodIn_app (goodIn_of _ (by decide +kernel)) ggL_give_X1_give
theorem dL_give_0 : decode cL_give 0 = .ok (.aload_n 3, 1) := by decide +kernel
theorem dL_give_1 : decode cL_give 1 = .ok (.iconst 0, 1) := by decide +kernel
theorem dL_give_2 : decode cL_give 2 = .ok (.aload_n 0, 1) := by decide +kernel
theorem dL_give_3 : decode cL_give 3 = .ok (.iload_n 1, 1) := by decide +kernel
theorem dL_give_4 : decode cL_give 4 = .ok (.iload_n 2, 1) := by decide +kernel
theorem dL_give_5 : decode cL_give 5 = .ok (.invokevirtual 50, 3) := by decide +kernel
theorem dL_give_8 : decode cL_give 8 = .ok (.i2l, 1) := by decide +kernel
theorem dL_give_9 : decode cL_give 9 = .ok (.lastore, 1) := by decide +kernel
theorem dL_give_10 : decode cL_give 10 = .ok (.goto 7, 3) := by decide +kernel
theorem dL_give_13 : decode cL_give 13 = .ok (.astore 4, 2) := by decide +kernel
theorem dL_give_15 : decode cL_give 15 = .ok (.iconst 1, 1) := by decide +kernel
theorem dL_give_16 : decode cL_give 16 = .ok (.ireturn, 1) := by decide +kernel
theorem dL_give_17 : decode cL_give 17 = .ok (.iconst 0, 1) := by decide +kernel
theorem dL_give_18 : decode cL_give 18 = .ok (.ireturn, 1) := by decide +kernel
set_option maxRecDepth 20000 in
theorem ggL_only_X1_only : GoodIn wsL_only wsX1_only := goodIn_ca (goodIn_r _ [6, 7, 8, 9, 10, 11, 12, 5, 13, 14, 15, 16, 17, 18, 19, 20, 21, 22, 23, 24, 25, 26, 27, 28, 29, 30, 31, 32, 33, 34, 35, 36, 37] (by decide +kernel) (by decide +kernel)) (goodIn_sub (fun _ h => List.mem_cons_of_mem _ (List.mem_append_right _ h)) (by decide +kernel))
set_option maxRecDepth 20000 in
theorem gL_only_X1_only : GoodIn wsL_only (wsV RL 53 RX1 yX1_only wsX1_only) := goodIn_app (goodIn_of _ (by decide +kernel)) ggL_only_X1_only
theorem dL_only_0 : decode cL_only 0 = .ok (.aload_n 3, 1) := by decide +kernel
theorem dL_only_1 : decode cL_only 1 = .ok (.iconst 0, 1) := by decide +kernel
theorem dL_only_2 : decode cL_only 2 = .ok (.aload_n 0, 1) := by decide +kernel
theorem dL_only_3 : decode cL_only 3 = .ok (.iload_n 1, 1) := by decide +kernel
theorem dL_only_4 : decode cL_only 4 = .ok (.iload_n 2, 1) := by decide +kernel
theorem dL_only_5 : decode cL_only 5 = .ok (.invokevirtual 53, 3) := by decide +kernel
theorem dL_only_8 : decode cL_only 8 = .ok (.i2l, 1) := by decide +kernel
theorem dL_only_9 : decode cL_only 9 = .ok (.lastore, 1) := by decide +kernel
theorem dL_only_10 : decode cL_only 10 = .ok (.goto 7, 3) := by decide +kernel
theorem dL_only_13 : decode cL_only 13 = .ok (.astore 4, 2) := by decide +kernel
theorem dL_only_15 : decode cL_only 15 = .ok (.iconst 1, 1) := by decide +kernel
theorem dL_only_16 : decode cL_only 16 = .ok (.ireturn, 1) := by decide +kernel
theorem dL_only_17 : decode cL_only 17 = .ok (.iconst 0, 1) := by decide +kernel
theorem dL_only_18 : decode cL_only 18 = .ok (.ireturn, 1) := by decide +kernel
