theorem dJ9_max_7cf53_0 : decode cJ9_max_7cf53 0 = .ok (.iload_n 0, 1) := by decide +kernel
theorem dJ9_max_7cf53_1 : decode cJ9_max_7cf53 1 = .ok (.iload_n 1, 1) := by decide +kernel
theorem dJ9_max_7cf53_2 : decode cJ9_max_7cf53 2 = .ok (.if_icmp .lt 7, 3) := by decide +kernel
theorem dJ9_max_7cf53_5 : decode cJ9_max_7cf53 5 = .ok (.iload_n 0, 1) := by decide +kernel
theorem dJ9_max_7cf53_6 : decode cJ9_max_7cf53 6 = .ok (.goto 4, 3) := by decide +kernel
theorem dJ9_max_7cf53_9 : decode cJ9_max_7cf53 9 = .ok (.iload_n 1, 1) := by decide +kernel
theorem dJ9_max_7cf53_10 : decode cJ9_max_7cf53 10 = .ok (.ireturn, 1) := by decide +kernel
theorem dL_draw_0 : decode cL_draw 0 = .ok (.iload_n 1, 1) := by decide +kernel
theorem dL_draw_1 : decode cL_draw 1 = .ok (.aload_n 0, 1) := by decide +kernel
theorem dL_draw_2 : decode cL_draw 2 = .ok (.arraylength, 1) := by decide +kernel
theorem dL_draw_3 : decode cL_draw 3 = .ok (.if_icmp .ge 9, 3) := by decide +kernel
theorem dL_draw_6 : decode cL_draw 6 = .ok (.aload_n 0, 1) := by decide +kernel
theorem dL_draw_7 : decode cL_draw 7 = .ok (.iload_n 1, 1) := by decide +kernel
theorem dL_draw_8 : decode cL_draw 8 = .ok (.iaload, 1) := by decide +kernel
theorem dL_draw_9 : decode cL_draw 9 = .ok (.goto 14, 3) := by decide +kernel
theorem dL_draw_12 : decode cL_draw 12 = .ok (.ldc 7, 2) := by decide +kernel
theorem dL_draw_14 : decode cL_draw 14 = .ok (.iload_n 1, 1) := by decide +kernel
theorem dL_draw_15 : decode cL_draw 15 = .ok (.sipush 263, 3) := by decide +kernel
theorem dL_draw_18 : decode cL_draw 18 = .ok (.iadd, 1) := by decide +kernel
theorem dL_draw_19 : decode cL_draw 19 = .ok (.imul, 1) := by decide +kernel
theorem dL_draw_20 : decode cL_draw 20 = .ok (.ldc 8, 2) := by decide +kernel
theorem dL_draw_22 : decode cL_draw 22 = .ok (.iadd, 1) := by decide +kernel
theorem dL_draw_23 : decode cL_draw 23 = .ok (.istore_n 3, 1) := by decide +kernel
theorem dL_draw_24 : decode cL_draw 24 = .ok (.iload_n 3, 1) := by decide +kernel
theorem dL_draw_25 : decode cL_draw 25 = .ok (.ldc 9, 2) := by decide +kernel
theorem dL_draw_27 : decode cL_draw 27 = .ok (.iand, 1) := by decide +kernel
theorem dL_draw_28 : decode cL_draw 28 = .ok (.iload_n 2, 1) := by decide +kernel
theorem dL_draw_29 : decode cL_draw 29 = .ok (.irem, 1) := by decide +kernel
theorem dL_draw_30 : decode cL_draw 30 = .ok (.ireturn, 1) := by decide +kernel
set_option maxRecDepth 20000 in
theorem ggL_skips_X1_skip : GoodIn wsL_skips wsX1_skip := goodIn_ca (goodIn_ca (goodIn_r _ [5, 6, 7, 8, 9, 10, 11, 12, 13, 4, 14, 15, 16, 17, 18, 19, 20, 21, 22, 23, 24, 25, 26, 27, 28, 29, 30, 31, 32, 33] (by decide +kernel) (by decide +kernel)) (goodIn_sub (fun _ h => List.mem_cons_of_mem _ (List.mem_append_left _ (List.mem_append_right _ h))) (by decide +kernel))) (goodIn_sub (fun _ h => List.mem_cons_of_mem _ (List.mem_append_right _ h)) (by decide +kernel))
set_option maxRecDepth 20000 in
theorem gL_skips_X1_skip : GoodIn wsL_skips (wsV RL 10 RX1 yX1_skip wsX1_skip) := goodIn_app (goodIn_of _ (by decide +kernel)) ggL_skips_X1_skip
theorem dL_skips_0 : decode cL_skips 0 = .ok (.aload_n 0, 1) := by decide +kernel
theorem dL_skips_1 : decode cL_skips 1 = .ok (.iload_n 1, 1) := by decide +kernel
theorem dL_skips_2 : decode cL_skips 2 = .ok (.invokevirtual 10, 3) := by decide +kernel
theorem dL_skips_5 : decode cL_skips 5 = .ok (.iconst 0, 1) := by decide +kernel
theorem dL_skips_6 : decode cL_skips 6 = .ok (.ireturn, 1) := by decide +kernel
set_option maxRecDepth 20000 in
theorem ggL_asks_X1_checkIn : GoodIn wsL_asks wsX1_checkIn := goodIn_ca (goodIn_ca (goodIn_ca (goodIn_r _ [7, 8, 9, 10, 11, 12, 13, 14, 15, 16, 6, 17, 18, 19, 20, 21, 22, 23, 24, 25, 26, 27, 28, 29, 30, 31, 32, 33, 34, 35, 36, 37, 38, 39, 40, 41, 42, 43, 44, 45, 46, 47, 48, 49, 50, 51, 52, 53, 54, 55, 56, 57, 58, 59, 60, 61, 62, 63, 64, 65, 66, 67, 68, 69, 70, 71, 72, 73, 74, 75, 76, 77, 78, 79, 80, 81, 82, 111, 112, 113, 114, 115, 116, 117, 118, 119, 120, 121, 122, 123, 124, 125, 126, 127, 128, 129] (by decide +kernel) (by decide +kernel)) (goodIn_sub (fun _ h => List.mem_cons_of_mem _ (List.mem_append_left _ (List.mem_append_left _ (List.mem_append_right _ h)))) (by decide +kernel))) (goodIn_sub (fun _ h => List.mem_cons_of_mem _ (List.mem_append_left _ (List.mem_append_right _ h))) (by decide +kernel))) (goodIn_sub (fun _ h => List.mem_cons_of_mem _ (List.mem_append_right _ h)) (by decide +kernel))
set_option maxRecDepth 20000 in
theorem gL_asks_X1_checkIn : GoodIn wsL_asks (wsV RL 16 RX1 yX1_checkIn wsX1_checkIn) := goodIn_app (goodIn_of _ (by decide +kernel)) ggL_asks_X1_checkIn
set_option maxRecDepth 20000 in
theorem ggL_asks_L_skips : GoodIn wsL_asks wsL_skips := goodIn_ca (goodIn_ca (goodIn_r _ [86, 87, 88, 89, 6, 90, 8, 9, 12, 13, 25, 26, 27, 28, 29, 14, 15, 16, 17, 111, 112, 113, 114, 115, 116, 117, 118, 119, 120, 121, 122, 123, 124, 125] (by decide +kernel) (by decide +kernel)) (goodIn_sub (fun _ h => List.mem_cons_of_mem _ (List.mem_append_left _ (List.mem_append_left _ (List.mem_append_right _ h)))) (by decide +kernel))) (goodIn_sub (fun _ h => List.mem_cons_of_mem _ (List.mem_append_right _ h)) (by decide +kernel))
set_option maxRecDepth 20000 in
theorem gL_asks_L_skips : GoodIn wsL_asks (va_wsS RL 20 yL_skips wsL_skips) := goodIn_app (goodIn_of _ (by decide +kernel)) ggL_asks_L_skips
set_option maxRecDepth 20000 in
theorem ggL_asks_X1_rangeAt : GoodIn wsL_asks wsX1_rangeAt := goodIn_ca (goodIn_r _ [94, 8, 9, 95, 96, 97, 6, 98, 99, 100, 101, 102, 103, 104, 105, 106, 25, 26, 27, 28, 29, 14, 15, 16, 17, 107, 108, 109, 110, 111, 112, 113, 114, 115, 116, 117, 118, 119, 120, 121, 122, 123, 124, 125] (by decide +kernel) (by decide +kernel)) (goodIn_sub (fun _ h => List.mem_cons_of_mem _ (List.mem_append_left _ (List.mem_append_left _ (List.mem_append_right _ h)))) (by decide +kernel))
set_option maxRecDepth 20000 in
theorem gL_asks_X1_rangeAt : GoodIn wsL_asks (wsV RL 26 RX1 yX1_rangeAt wsX1_rangeAt) := goodIn_app (goodIn_of _ (by decide +kernel)) ggL_asks_X1_rangeAt
theorem dL_asks_0 : decode cL_asks 0 = .ok (.iload_n 1, 1) := by decide +kernel
theorem dL_asks_1 : decode cL_asks 1 = .ok (.ifCond .ne 12, 3) := by decide +kernel
theorem dL_asks_4 : decode cL_asks 4 = .ok (.aload_n 0, 1) := by decide +kernel
theorem dL_asks_5 : decode cL_asks 5 = .ok (.iload_n 2, 1) := by decide +kernel
theorem dL_asks_6 : decode cL_asks 6 = .ok (.iload_n 3, 1) := by decide +kernel
theorem dL_asks_7 : decode cL_asks 7 = .ok (.invokevirtual 16, 3) := by decide +kernel
theorem dL_asks_10 : decode cL_asks 10 = .ok (.goto 21, 3) := by decide +kernel
theorem dL_asks_13 : decode cL_asks 13 = .ok (.iload_n 1, 1) := by decide +kernel
theorem dL_asks_14 : decode cL_asks 14 = .ok (.iconst 1, 1) := by decide +kernel
theorem dL_asks_15 : decode cL_asks 15 = .ok (.if_icmp .ne 11, 3) := by decide +kernel
theorem dL_asks_18 : decode cL_asks 18 = .ok (.aload_n 0, 1) := by decide +kernel
theorem dL_asks_19 : decode cL_asks 19 = .ok (.iload_n 2, 1) := by decide +kernel
theorem dL_asks_20 : decode cL_asks 20 = .ok (.invokestatic 20, 3) := by decide +kernel
theorem dL_asks_23 : decode cL_asks 23 = .ok (.goto 8, 3) := by decide +kernel
theorem dL_asks_26 : decode cL_asks 26 = .ok (.aload_n 0, 1) := by decide +kernel
theorem dL_asks_27 : decode cL_asks 27 = .ok (.iload_n 2, 1) := by decide +kernel
theorem dL_asks_28 : decode cL_asks 28 = .ok (.invokevirtual 26, 3) := by decide +kernel
theorem dL_asks_31 : decode cL_asks 31 = .ok (.ireturn, 1) := by decide +kernel
theorem dL_asks_32 : decode cL_asks 32 = .ok (.astore 4, 2) := by decide +kernel
theorem dL_asks_34 : decode cL_asks 34 = .ok (.bipush (-7), 2) := by decide +kernel
theorem dL_asks_36 : decode cL_asks 36 = .ok (.ireturn, 1) := by decide +kernel
theorem dL_asks_37 : decode cL_asks 37 = .ok (.astore 4, 2) := by decide +kernel
theorem dL_asks_39 : decode cL_asks 39 = .ok (.bipush (-8), 2) := by decide +kernel
theorem dL_asks_41 : decode cL_asks 41 = .ok (.ireturn, 1) := by decide +kernel
theorem dL_isSkipped_0 : decode cL_isSkipped 0 = .ok (.aload_n 0, 1) := by decide +kernel
theorem dL_isSkipped_1 : decode cL_isSkipped 1 = .ok (.iconst 4, 1) := by decide +kernel
theorem dL_isSkipped_2 : decode cL_isSkipped 2 = .ok (.iaload, 1) := by decide +kernel
theorem dL_isSkipped_3 : decode cL_isSkipped 3 = .ok (.iload_n 1, 1) := by decide +kernel
theorem dL_isSkipped_4 : decode cL_isSkipped 4 = .ok (.bipush 30, 2) := by decide +kernel
theorem dL_isSkipped_6 : decode cL_isSkipped 6 = .ok (.idiv, 1) := by decide +kernel
theorem dL_isSkipped_7 : decode cL_isSkipped 7 = .ok (.bipush 12, 2) := by decide +kernel
theorem dL_isSkipped_9 : decode cL_isSkipped 9 = .ok (.irem, 1) := by decide +kernel
theorem dL_isSkipped_10 : decode cL_isSkipped 10 = .ok (.ishr, 1) := by decide +kernel
theorem dL_isSkipped_11 : decode cL_isSkipped 11 = .ok (.iconst 1, 1) := by decide +kernel
theorem dL_isSkipped_12 : decode cL_isSkipped 12 = .ok (.iand, 1) := by decide +kernel
theorem dL_isSkipped_13 : decode cL_isSkipped 13 = .ok (.iconst 1, 1) := by decide +kernel
theorem dL_isSkipped_14 : decode cL_isSkipped 14 = .ok (.if_icmp .ne 7, 3) := by decide +kernel
theorem dL_isSkipped_17 : decode cL_isSkipped 17 = .ok (.iconst 1, 1) := by decide +kernel
theorem dL_isSkipped_18 : decode cL_isSkipped 18 = .ok (.goto 4, 3) := by decide +kernel
theorem dL_isSkipped_21 : decode cL_isSkipped 21 = .ok (.iconst 0, 1) := by decide +kernel
theorem dL_isSkipped_22 : decode cL_isSkipped 22 = .ok (.ireturn, 1) := by decide +kernel
set_option maxRecDepth 20000 in
theorem ggL_next_L_isSkipped : GoodIn wsL_next wsL_isSkipped := goodIn_r _ [4] (by decide +kernel) (by decide +kernel)
set_option maxRecDepth 20000 in
theorem gL_next_L_isSkipped : GoodIn wsL_next (va_wsS RL 34 yL_isSkipped wsL_isSkipped) := goodIn_app (goodIn_of _ (by decide +kernel)) ggL_next_L_isSkipped
theorem dL_next_0 : decode cL_next 0 = .ok (.iload_n 1, 1) := by decide +kernel
theorem dL_next_1 : decode cL_next 1 = .ok (.aload_n 0, 1) := by decide +kernel
theorem dL_next_2 : decode cL_next 2 = .ok (.iconst 1, 1) := by decide +kernel
theorem dL_next_3 : decode cL_next 3 = .ok (.iaload, 1) := by decide +kernel
theorem dL_next_4 : decode cL_next 4 = .ok (.iadd, 1) := by decide +kernel
theorem dL_next_5 : decode cL_next 5 = .ok (.iload_n 2, 1) := by decide +kernel
theorem dL_next_6 : decode cL_next 6 = .ok (.iadd, 1) := by decide +kernel
theorem dL_next_7 : decode cL_next 7 = .ok (.istore_n 3, 1) := by decide +kernel
theorem dL_next_8 : decode cL_next 8 = .ok (.iload_n 3, 1) := by decide +kernel
theorem dL_next_9 : decode cL_next 9 = .ok (.iload_n 1, 1) := by decide +kernel
theorem dL_next_10 : decode cL_next 10 = .ok (.if_icmp .le 7, 3) := by decide +kernel
theorem dL_next_13 : decode cL_next 13 = .ok (.iload_n 3, 1) := by decide +kernel
theorem dL_next_14 : decode cL_next 14 = .ok (.goto 6, 3) := by decide +kernel
theorem dL_next_17 : decode cL_next 17 = .ok (.iload_n 1, 1) := by decide +kernel
theorem dL_next_18 : decode cL_next 18 = .ok (.iconst 1, 1) := by decide +kernel
theorem dL_next_19 : decode cL_next 19 = .ok (.iadd, 1) := by decide +kernel
theorem dL_next_20 : decode cL_next 20 = .ok (.istore_n 3, 1) := by decide +kernel
theorem dL_next_21 : decode cL_next 21 = .ok (.aload_n 0, 1) := by decide +kernel
theorem dL_next_22 : decode cL_next 22 = .ok (.iload_n 3, 1) := by decide +kernel
theorem dL_next_23 : decode cL_next 23 = .ok (.invokestatic 34, 3) := by decide +kernel
theorem dL_next_26 : decode cL_next 26 = .ok (.ifCond .eq 9, 3) := by decide +kernel
theorem dL_next_29 : decode cL_next 29 = .ok (.iinc 3 1, 3) := by decide +kernel
theorem dL_next_32 : decode cL_next 32 = .ok (.goto (-11), 3) := by decide +kernel
theorem dL_next_35 : decode cL_next 35 = .ok (.iload_n 3, 1) := by decide +kernel
theorem dL_next_36 : decode cL_next 36 = .ok (.ireturn, 1) := by decide +kernel
set_option maxRecDepth 20000 in
theorem ggL_areForetold_X1_foretold : GoodIn wsL_areForetold wsX1_foretold := goodIn_r _ [5, 6, 38, 39, 40, 41, 42, 43, 44, 45, 46, 47, 48, 49, 50, 51, 52] (by decide +kernel) (by decide +kernel)
set_option maxRecDepth 20000 in
theorem gL_areForetold_X1_foretold : GoodIn wsL_areForetold (wsV RL 38 RX1 yX1_foretold wsX1_foretold) := goodIn_app (goodIn_of _ (by decide +kernel)) ggL_areForetold_X1_foretold
set_option maxRecDepth 20000 in
theorem ggL_areForetold_X1_dayOf : GoodIn wsL_areForetold wsX1_dayOf := goodIn_ca (goodIn_r _ [10, 11, 12, 13, 14, 15, 16, 4, 17, 6, 18, 19, 20, 38, 39, 40, 41, 42, 43, 44, 45, 46, 47, 48, 49, 50, 51, 52] (by decide +kernel) (by decide +kernel)) (goodIn_sub (fun _ h => List.mem_cons_of_mem _ (List.mem_append_right _ h)) (by decide +kernel))
set_option maxRecDepth 20000 in
theorem gL_areForetold_X1_dayOf : GoodIn wsL_areForetold (wsV RL 42 RX1 yX1_dayOf wsX1_dayOf) := goodIn_app (goodIn_of _ (by decide +kernel)) ggL_areForetold_X1_dayOf
set_option maxRecDepth 20000 in
theorem ggL_areForetold_L_next : GoodIn wsL_areForetold wsL_next := goodIn_r _ [24, 25, 26, 23, 27] (by decide +kernel) (by decide +kernel)
set_option maxRecDepth 20000 in
theorem gL_areForetold_L_next : GoodIn wsL_areForetold (va_wsS RL 45 yL_next wsL_next) := goodIn_app (goodIn_of _ (by decide +kernel)) ggL_areForetold_L_next
set_option maxRecDepth 20000 in
theorem ggL_areForetold_X1_claimsOf : GoodIn wsL_areForetold wsX1_claimsOf := goodIn_ca (goodIn_r _ [31, 11, 12, 32, 14, 15, 16, 4, 17, 6, 18, 19, 20, 38, 39, 40, 41, 42, 43, 44, 45, 46, 47, 48, 49, 50, 51, 52] (by decide +kernel) (by decide +kernel)) (goodIn_sub (fun _ h => List.mem_cons_of_mem _ (List.mem_append_right _ h)) (by decide +kernel))
set_option maxRecDepth 20000 in
theorem gL_areForetold_X1_claimsOf : GoodIn wsL_areForetold (wsV RL 49 RX1 yX1_claimsOf wsX1_claimsOf) := goodIn_app (goodIn_of _ (by decide +kernel)) ggL_areForetold_X1_claimsOf
set_option maxRecDepth 20000 in
theorem ggL_areForetold_X1_shift : GoodIn wsL_areForetold wsX1_shift := goodIn_r _ [36, 37, 38, 39, 40, 41, 42, 43, 44, 45, 46, 47, 48, 49, 50, 51, 52] (by decide +kernel) (by decide +kernel)
set_option maxRecDepth 20000 in
theorem gL_areForetold_X1_shift : GoodIn wsL_areForetold (wsV RL 52 RX1 yX1_shift wsX1_shift) := goodIn_app (goodIn_of _ (by decide +kernel)) ggL_areForetold_X1_shift
theorem dL_areForetold_0 : decode cL_areForetold 0 = .ok (.aload_n 0, 1) := by decide +kernel
theorem dL_areForetold_1 : decode cL_areForetold 1 = .ok (.invokevirtual 38, 3) := by decide +kernel
theorem dL_areForetold_4 : decode cL_areForetold 4 = .ok (.istore 5, 2) := by decide +kernel
theorem dL_areForetold_6 : decode cL_areForetold 6 = .ok (.iload_n 3, 1) := by decide +kernel
theorem dL_areForetold_7 : decode cL_areForetold 7 = .ok (.istore 6, 2) := by decide +kernel
theorem dL_areForetold_9 : decode cL_areForetold 9 = .ok (.iload 5, 2) := by decide +kernel
theorem dL_areForetold_11 : decode cL_areForetold 11 = .ok (.iload_n 2, 1) := by decide +kernel
theorem dL_areForetold_12 : decode cL_areForetold 12 = .ok (.if_icmp .lt 14, 3) := by decide +kernel
theorem dL_areForetold_15 : decode cL_areForetold 15 = .ok (.iload 5, 2) := by decide +kernel
theorem dL_areForetold_17 : decode cL_areForetold 17 = .ok (.iload 4, 2) := by decide +kernel
theorem dL_areForetold_19 : decode cL_areForetold 19 = .ok (.if_icmp .lt 7, 3) := by decide +kernel
theorem dL_areForetold_22 : decode cL_areForetold 22 = .ok (.iconst 1, 1) := by decide +kernel
theorem dL_areForetold_23 : decode cL_areForetold 23 = .ok (.goto 4, 3) := by decide +kernel
theorem dL_areForetold_26 : decode cL_areForetold 26 = .ok (.iconst 0, 1) := by decide +kernel
theorem dL_areForetold_27 : decode cL_areForetold 27 = .ok (.istore 7, 2) := by decide +kernel
theorem dL_areForetold_29 : decode cL_areForetold 29 = .ok (.iload_n 2, 1) := by decide +kernel
theorem dL_areForetold_30 : decode cL_areForetold 30 = .ok (.istore 8, 2) := by decide +kernel
theorem dL_areForetold_32 : decode cL_areForetold 32 = .ok (.iload 8, 2) := by decide +kernel
theorem dL_areForetold_34 : decode cL_areForetold 34 = .ok (.iload 5, 2) := by decide +kernel
theorem dL_areForetold_36 : decode cL_areForetold 36 = .ok (.if_icmp .ge 75, 3) := by decide +kernel
theorem dL_areForetold_39 : decode cL_areForetold 39 = .ok (.iload 7, 2) := by decide +kernel
theorem dL_areForetold_41 : decode cL_areForetold 41 = .ok (.ifCond .eq 70, 3) := by decide +kernel
theorem dL_areForetold_44 : decode cL_areForetold 44 = .ok (.aload_n 1, 1) := by decide +kernel
theorem dL_areForetold_45 : decode cL_areForetold 45 = .ok (.aload_n 0, 1) := by decide +kernel
theorem dL_areForetold_46 : decode cL_areForetold 46 = .ok (.iload 8, 2) := by decide +kernel
theorem dL_areForetold_48 : decode cL_areForetold 48 = .ok (.iconst 1, 1) := by decide +kernel
theorem dL_areForetold_49 : decode cL_areForetold 49 = .ok (.isub, 1) := by decide +kernel
theorem dL_areForetold_50 : decode cL_areForetold 50 = .ok (.invokevirtual 42, 3) := by decide +kernel
theorem dL_areForetold_53 : decode cL_areForetold 53 = .ok (.iload 6, 2) := by decide +kernel
theorem dL_areForetold_55 : decode cL_areForetold 55 = .ok (.invokestatic 45, 3) := by decide +kernel
theorem dL_areForetold_58 : decode cL_areForetold 58 = .ok (.istore 9, 2) := by decide +kernel
theorem dL_areForetold_60 : decode cL_areForetold 60 = .ok (.aload_n 0, 1) := by decide +kernel
theorem dL_areForetold_61 : decode cL_areForetold 61 = .ok (.iload 8, 2) := by decide +kernel
theorem dL_areForetold_63 : decode cL_areForetold 63 = .ok (.invokevirtual 42, 3) := by decide +kernel
theorem dL_areForetold_66 : decode cL_areForetold 66 = .ok (.iload 9, 2) := by decide +kernel
theorem dL_areForetold_68 : decode cL_areForetold 68 = .ok (.if_icmp .ne 31, 3) := by decide +kernel
theorem dL_areForetold_71 : decode cL_areForetold 71 = .ok (.iload 9, 2) := by decide +kernel
theorem dL_areForetold_73 : decode cL_areForetold 73 = .ok (.aload_n 1, 1) := by decide +kernel
theorem dL_areForetold_74 : decode cL_areForetold 74 = .ok (.iconst 0, 1) := by decide +kernel
theorem dL_areForetold_75 : decode cL_areForetold 75 = .ok (.iaload, 1) := by decide +kernel
theorem dL_areForetold_76 : decode cL_areForetold 76 = .ok (.if_icmp .le 10, 3) := by decide +kernel
theorem dL_areForetold_79 : decode cL_areForetold 79 = .ok (.iload 8, 2) := by decide +kernel
theorem dL_areForetold_81 : decode cL_areForetold 81 = .ok (.iload 4, 2) := by decide +kernel
theorem dL_areForetold_83 : decode cL_areForetold 83 = .ok (.if_icmp .ge 16, 3) := by decide +kernel
theorem dL_areForetold_86 : decode cL_areForetold 86 = .ok (.aload_n 0, 1) := by decide +kernel
theorem dL_areForetold_87 : decode cL_areForetold 87 = .ok (.iload 8, 2) := by decide +kernel
theorem dL_areForetold_89 : decode cL_areForetold 89 = .ok (.invokevirtual 49, 3) := by decide +kernel
theorem dL_areForetold_92 : decode cL_areForetold 92 = .ok (.ifCond .ne 7, 3) := by decide +kernel
theorem dL_areForetold_95 : decode cL_areForetold 95 = .ok (.iconst 1, 1) := by decide +kernel
theorem dL_areForetold_96 : decode cL_areForetold 96 = .ok (.goto 4, 3) := by decide +kernel
theorem dL_areForetold_99 : decode cL_areForetold 99 = .ok (.iconst 0, 1) := by decide +kernel
theorem dL_areForetold_100 : decode cL_areForetold 100 = .ok (.istore 7, 2) := by decide +kernel
theorem dL_areForetold_102 : decode cL_areForetold 102 = .ok (.iconst 0, 1) := by decide +kernel
theorem dL_areForetold_103 : decode cL_areForetold 103 = .ok (.istore 6, 2) := by decide +kernel
theorem dL_areForetold_105 : decode cL_areForetold 105 = .ok (.iinc 8 1, 3) := by decide +kernel
theorem dL_areForetold_108 : decode cL_areForetold 108 = .ok (.goto (-76), 3) := by decide +kernel
theorem dL_areForetold_111 : decode cL_areForetold 111 = .ok (.iload 7, 2) := by decide +kernel
theorem dL_areForetold_113 : decode cL_areForetold 113 = .ok (.ifCond .eq 37, 3) := by decide +kernel
theorem dL_areForetold_116 : decode cL_areForetold 116 = .ok (.iload 5, 2) := by decide +kernel
theorem dL_areForetold_118 : decode cL_areForetold 118 = .ok (.sipush 200, 3) := by decide +kernel
theorem dL_areForetold_121 : decode cL_areForetold 121 = .ok (.if_icmp .eq 25, 3) := by decide +kernel
theorem dL_areForetold_124 : decode cL_areForetold 124 = .ok (.aload_n 1, 1) := by decide +kernel
theorem dL_areForetold_125 : decode cL_areForetold 125 = .ok (.aload_n 0, 1) := by decide +kernel
theorem dL_areForetold_126 : decode cL_areForetold 126 = .ok (.iload 5, 2) := by decide +kernel
theorem dL_areForetold_128 : decode cL_areForetold 128 = .ok (.iconst 1, 1) := by decide +kernel
theorem dL_areForetold_129 : decode cL_areForetold 129 = .ok (.isub, 1) := by decide +kernel
theorem dL_areForetold_130 : decode cL_areForetold 130 = .ok (.invokevirtual 42, 3) := by decide +kernel
theorem dL_areForetold_133 : decode cL_areForetold 133 = .ok (.aload_n 0, 1) := by decide +kernel
theorem dL_areForetold_134 : decode cL_areForetold 134 = .ok (.invokevirtual 52, 3) := by decide +kernel
theorem dL_areForetold_137 : decode cL_areForetold 137 = .ok (.invokestatic 45, 3) := by decide +kernel
theorem dL_areForetold_140 : decode cL_areForetold 140 = .ok (.aload_n 1, 1) := by decide +kernel
theorem dL_areForetold_141 : decode cL_areForetold 141 = .ok (.iconst 0, 1) := by decide +kernel
theorem dL_areForetold_142 : decode cL_areForetold 142 = .ok (.iaload, 1) := by decide +kernel
theorem dL_areForetold_143 : decode cL_areForetold 143 = .ok (.if_icmp .le 7, 3) := by decide +kernel
theorem dL_areForetold_146 : decode cL_areForetold 146 = .ok (.iconst 1, 1) := by decide +kernel
theorem dL_areForetold_147 : decode cL_areForetold 147 = .ok (.goto 4, 3) := by decide +kernel
theorem dL_areForetold_150 : decode cL_areForetold 150 = .ok (.iconst 0, 1) := by decide +kernel
theorem dL_areForetold_151 : decode cL_areForetold 151 = .ok (.ireturn, 1) := by decide +kernel
theorem dL_isThere_0 : decode cL_isThere 0 = .ok (.aload_n 0, 1) := by decide +kernel
theorem dL_isThere_1 : decode cL_isThere 1 = .ok (.iload_n 1, 1) := by decide +kernel
theorem dL_isThere_2 : decode cL_isThere 2 = .ok (.bipush 50, 2) := by decide +kernel
theorem dL_isThere_4 : decode cL_isThere 4 = .ok (.idiv, 1) := by decide +kernel
theorem dL_isThere_5 : decode cL_isThere 5 = .ok (.laload, 1) := by decide +kernel
theorem dL_isThere_6 : decode cL_isThere 6 = .ok (.iload_n 1, 1) := by decide +kernel
theorem dL_isThere_7 : decode cL_isThere 7 = .ok (.bipush 50, 2) := by decide +kernel
theorem dL_isThere_9 : decode cL_isThere 9 = .ok (.irem, 1) := by decide +kernel
theorem dL_isThere_10 : decode cL_isThere 10 = .ok (.lshr, 1) := by decide +kernel
theorem dL_isThere_11 : decode cL_isThere 11 = .ok (.lconst 1, 1) := by decide +kernel
theorem dL_isThere_12 : decode cL_isThere 12 = .ok (.land, 1) := by decide +kernel
theorem dL_isThere_13 : decode cL_isThere 13 = .ok (.lconst 1, 1) := by decide +kernel
theorem dL_isThere_14 : decode cL_isThere 14 = .ok (.lcmp, 1) := by decide +kernel
theorem dL_isThere_15 : decode cL_isThere 15 = .ok (.ifCond .ne 7, 3) := by decide +kernel
theorem dL_isThere_18 : decode cL_isThere 18 = .ok (.iconst 1, 1) := by decide +kernel
theorem dL_isThere_19 : decode cL_isThere 19 = .ok (.goto 4, 3) := by decide +kernel
theorem dL_isThere_22 : decode cL_isThere 22 = .ok (.iconst 0, 1) := by decide +kernel
theorem dL_isThere_23 : decode cL_isThere 23 = .ok (.ireturn, 1) := by decide +kernel
set_option maxRecDepth 20000 in
theorem ggL_areHeld_X1_ranges : GoodIn wsL_areHeld wsX1_ranges := goodIn_r _ [5, 6, 7, 8, 4, 9, 10, 11, 12, 13, 14, 15, 16, 17, 18, 19, 20, 21, 22, 138, 139, 140, 141, 142, 143, 144, 145, 146, 147, 148, 149, 150, 151, 152] (by decide +kernel) (by decide +kernel)
set_option maxRecDepth 20000 in
theorem gL_areHeld_X1_ranges : GoodIn wsL_areHeld (wsV RL 55 RX1 yX1_ranges wsX1_ranges) := goodIn_app (goodIn_of _ (by decide +kernel)) ggL_areHeld_X1_ranges
set_option maxRecDepth 20000 in
theorem ggL_areHeld_L_asks : GoodIn wsL_areHeld wsL_asks := goodIn_ca (goodIn_ca (goodIn_ca (goodIn_r _ [26, 27, 28, 29, 30, 31, 4, 32, 33, 34, 35, 36, 37, 38, 19, 20, 21, 22, 39, 40, 41, 42, 43, 44, 45, 14, 15, 16, 17, 18, 46, 47, 48, 49, 50, 51, 52, 53, 54, 55, 56, 57, 58, 59, 60, 61, 62, 63, 64, 65, 66, 67, 68, 69, 70, 71, 72, 73, 74, 75, 76, 77, 78, 79, 80, 81, 82, 83, 84, 85, 86, 87, 88, 89, 90, 91, 92, 93, 94, 95, 96, 97, 98, 99, 100, 25, 101, 102, 103, 104, 105, 106, 107, 108, 109, 110, 111, 112, 113, 6, 7, 8, 9, 10, 11, 12, 13, 114, 115, 116, 117, 138, 139, 140, 141, 142, 143, 144, 145, 146, 147, 148, 149, 150, 151, 152, 153, 154, 155, 156] (by decide +kernel) (by decide +kernel)) (goodIn_sub (fun _ h => List.mem_cons_of_mem _ (List.mem_append_left _ (List.mem_append_left _ (List.mem_append_right _ h)))) (by decide +kernel))) (goodIn_sub (fun _ h => List.mem_cons_of_mem _ (List.mem_append_left _ (List.mem_append_right _ h))) (by decide +kernel))) (goodIn_sub (fun _ h => List.mem_cons_of_mem _ (List.mem_append_right _ h)) (by decide +kernel))
set_option maxRecDepth 20000 in
theorem gL_areHeld_L_asks : GoodIn wsL_areHeld (va_wsS RL 58 yL_asks wsL_asks) := goodIn_app (goodIn_of _ (by decide +kernel)) ggL_areHeld_L_asks
set_option maxRecDepth 20000 in
theorem ggL_areHeld_X1_rangeAt : GoodIn wsL_areHeld wsX1_rangeAt := goodIn_ca (goodIn_r _ [109, 33, 34, 110, 111, 112, 4, 113, 6, 7, 8, 9, 10, 11, 12, 13, 14, 15, 16, 17, 18, 19, 20, 21, 22, 114, 115, 116, 117, 138, 139, 140, 141, 142, 143, 144, 145, 146, 147, 148, 149, 150, 151, 152] (by decide +kernel) (by decide +kernel)) (goodIn_sub (fun _ h => List.mem_cons_of_mem _ (List.mem_append_left _ (List.mem_append_left _ (List.mem_append_right _ h)))) (by decide +kernel))
set_option maxRecDepth 20000 in
theorem gL_areHeld_X1_rangeAt : GoodIn wsL_areHeld (wsV RL 26 RX1 yX1_rangeAt wsX1_rangeAt) := goodIn_app (goodIn_of _ (by decide +kernel)) ggL_areHeld_X1_rangeAt
set_option maxRecDepth 20000 in
theorem ggL_areHeld_X1_foretold : GoodIn wsL_areHeld wsX1_foretold := goodIn_r _ [121, 19, 138, 139, 140, 141, 142, 143, 144, 145, 146, 147, 148, 149, 150, 151, 152] (by decide +kernel) (by decide +kernel)
set_option maxRecDepth 20000 in
theorem gL_areHeld_X1_foretold : GoodIn wsL_areHeld (wsV RL 38 RX1 yX1_foretold wsX1_foretold) := goodIn_app (goodIn_of _ (by decide +kernel)) ggL_areHeld_X1_foretold
set_option maxRecDepth 20000 in
theorem ggL_areHeld_X1_stateOf : GoodIn wsL_areHeld wsX1_stateOf := goodIn_ca (goodIn_r _ [125, 33, 34, 14, 15, 16, 17, 4, 18, 19, 20, 21, 22, 138, 139, 140, 141, 142, 143, 144, 145, 146, 147, 148, 149, 150, 151, 152] (by decide +kernel) (by decide +kernel)) (goodIn_sub (fun _ h => List.mem_cons_of_mem _ (List.mem_append_left _ (List.mem_append_left _ (List.mem_append_right _ h)))) (by decide +kernel))
set_option maxRecDepth 20000 in
theorem gL_areHeld_X1_stateOf : GoodIn wsL_areHeld (wsV RL 62 RX1 yX1_stateOf wsX1_stateOf) := goodIn_app (goodIn_of _ (by decide +kernel)) ggL_areHeld_X1_stateOf
set_option maxRecDepth 20000 in
theorem ggL_areHeld_X1_isHeld : GoodIn wsL_areHeld wsX1_isHeld := goodIn_r _ [129, 6, 7, 8, 4, 9, 10, 11, 12, 13, 14, 15, 16, 17, 18, 19, 20, 21, 22, 114, 115, 116, 117, 39, 40, 41, 138, 139, 140, 141, 142, 143, 144, 145, 146, 147, 148, 149, 150, 151, 152] (by decide +kernel) (by decide +kernel)
set_option maxRecDepth 20000 in
theorem gL_areHeld_X1_isHeld : GoodIn wsL_areHeld (wsV RL 65 RX1 yX1_isHeld wsX1_isHeld) := goodIn_app (goodIn_of _ (by decide +kernel)) ggL_areHeld_X1_isHeld
set_option maxRecDepth 20000 in
theorem ggL_areHeld_L_isThere : GoodIn wsL_areHeld wsL_isThere := goodIn_r _ [132] (by decide +kernel) (by decide +kernel)
set_option maxRecDepth 20000 in
theorem gL_areHeld_L_isThere : GoodIn wsL_areHeld (va_wsS RL 69 yL_isThere wsL_isThere) := goodIn_app (goodIn_of _ (by decide +kernel)) ggL_areHeld_L_isThere
set_option maxRecDepth 20000 in
theorem ggL_areHeld_X1_only : GoodIn wsL_areHeld wsX1_only := goodIn_ca (goodIn_r _ [136, 35, 36, 137, 10, 11, 12, 4, 13, 14, 15, 16, 17, 18, 19, 20, 21, 22, 138, 139, 140, 141, 142, 143, 144, 145, 146, 147, 148, 149, 150, 151, 152] (by decide +kernel) (by decide +kernel)) (goodIn_sub (fun _ h => List.mem_cons_of_mem _ (List.mem_append_left _ (List.mem_append_right _ h))) (by decide +kernel))
set_option maxRecDepth 20000 in
theorem gL_areHeld_X1_only : GoodIn wsL_areHeld (wsV RL 73 RX1 yX1_only wsX1_only) := goodIn_app (goodIn_of _ (by decide +kernel)) ggL_areHeld_X1_only
theorem dL_areHeld_0 : decode cL_areHeld 0 = .ok (.aload_n 0, 1) := by decide +kernel
theorem dL_areHeld_1 : decode cL_areHeld 1 = .ok (.invokevirtual 55, 3) := by decide +kernel
theorem dL_areHeld_4 : decode cL_areHeld 4 = .ok (.istore_n 2, 1) := by decide +kernel
theorem dL_areHeld_5 : decode cL_areHeld 5 = .ok (.bipush (-2), 2) := by decide +kernel
theorem dL_areHeld_7 : decode cL_areHeld 7 = .ok (.istore_n 3, 1) := by decide +kernel
theorem dL_areHeld_8 : decode cL_areHeld 8 = .ok (.iconst 0, 1) := by decide +kernel
theorem dL_areHeld_9 : decode cL_areHeld 9 = .ok (.istore 4, 2) := by decide +kernel
theorem dL_areHeld_11 : decode cL_areHeld 11 = .ok (.iload_n 2, 1) := by decide +kernel
theorem dL_areHeld_12 : decode cL_areHeld 12 = .ok (.ifCond .lt 19, 3) := by decide +kernel
theorem dL_areHeld_15 : decode cL_areHeld 15 = .ok (.aload_n 0, 1) := by decide +kernel
theorem dL_areHeld_16 : decode cL_areHeld 16 = .ok (.iconst 2, 1) := by decide +kernel
theorem dL_areHeld_17 : decode cL_areHeld 17 = .ok (.iload_n 2, 1) := by decide +kernel
theorem dL_areHeld_18 : decode cL_areHeld 18 = .ok (.iconst 0, 1) := by decide +kernel
theorem dL_areHeld_19 : decode cL_areHeld 19 = .ok (.invokestatic 58, 3) := by decide +kernel
theorem dL_areHeld_22 : decode cL_areHeld 22 = .ok (.bipush (-7), 2) := by decide +kernel
theorem dL_areHeld_24 : decode cL_areHeld 24 = .ok (.if_icmp .ne 7, 3) := by decide +kernel
theorem dL_areHeld_27 : decode cL_areHeld 27 = .ok (.iconst 1, 1) := by decide +kernel
theorem dL_areHeld_28 : decode cL_areHeld 28 = .ok (.goto 4, 3) := by decide +kernel
theorem dL_areHeld_31 : decode cL_areHeld 31 = .ok (.iconst 0, 1) := by decide +kernel
theorem dL_areHeld_32 : decode cL_areHeld 32 = .ok (.istore 5, 2) := by decide +kernel
theorem dL_areHeld_34 : decode cL_areHeld 34 = .ok (.iconst 0, 1) := by decide +kernel
theorem dL_areHeld_35 : decode cL_areHeld 35 = .ok (.istore 6, 2) := by decide +kernel
theorem dL_areHeld_37 : decode cL_areHeld 37 = .ok (.iload 6, 2) := by decide +kernel
theorem dL_areHeld_39 : decode cL_areHeld 39 = .ok (.iload_n 2, 1) := by decide +kernel
theorem dL_areHeld_40 : decode cL_areHeld 40 = .ok (.if_icmp .ge 96, 3) := by decide +kernel
theorem dL_areHeld_43 : decode cL_areHeld 43 = .ok (.iload 5, 2) := by decide +kernel
theorem dL_areHeld_45 : decode cL_areHeld 45 = .ok (.ifCond .eq 91, 3) := by decide +kernel
theorem dL_areHeld_48 : decode cL_areHeld 48 = .ok (.aload_n 0, 1) := by decide +kernel
theorem dL_areHeld_49 : decode cL_areHeld 49 = .ok (.iload 6, 2) := by decide +kernel
theorem dL_areHeld_51 : decode cL_areHeld 51 = .ok (.invokevirtual 26, 3) := by decide +kernel
theorem dL_areHeld_54 : decode cL_areHeld 54 = .ok (.istore 7, 2) := by decide +kernel
theorem dL_areHeld_56 : decode cL_areHeld 56 = .ok (.iload 7, 2) := by decide +kernel
theorem dL_areHeld_58 : decode cL_areHeld 58 = .ok (.sipush 1000, 3) := by decide +kernel
theorem dL_areHeld_61 : decode cL_areHeld 61 = .ok (.idiv, 1) := by decide +kernel
theorem dL_areHeld_62 : decode cL_areHeld 62 = .ok (.iload_n 3, 1) := by decide +kernel
theorem dL_areHeld_63 : decode cL_areHeld 63 = .ok (.iconst 1, 1) := by decide +kernel
theorem dL_areHeld_64 : decode cL_areHeld 64 = .ok (.iadd, 1) := by decide +kernel
theorem dL_areHeld_65 : decode cL_areHeld 65 = .ok (.if_icmp .le 35, 3) := by decide +kernel
theorem dL_areHeld_68 : decode cL_areHeld 68 = .ok (.iload 7, 2) := by decide +kernel
theorem dL_areHeld_70 : decode cL_areHeld 70 = .ok (.sipush 1000, 3) := by decide +kernel
theorem dL_areHeld_73 : decode cL_areHeld 73 = .ok (.irem, 1) := by decide +kernel
theorem dL_areHeld_74 : decode cL_areHeld 74 = .ok (.iload 7, 2) := by decide +kernel
theorem dL_areHeld_76 : decode cL_areHeld 76 = .ok (.sipush 1000, 3) := by decide +kernel
theorem dL_areHeld_79 : decode cL_areHeld 79 = .ok (.idiv, 1) := by decide +kernel
theorem dL_areHeld_80 : decode cL_areHeld 80 = .ok (.if_icmp .lt 20, 3) := by decide +kernel
theorem dL_areHeld_83 : decode cL_areHeld 83 = .ok (.iload 7, 2) := by decide +kernel
theorem dL_areHeld_85 : decode cL_areHeld 85 = .ok (.sipush 1000, 3) := by decide +kernel
theorem dL_areHeld_88 : decode cL_areHeld 88 = .ok (.irem, 1) := by decide +kernel
theorem dL_areHeld_89 : decode cL_areHeld 89 = .ok (.aload_n 0, 1) := by decide +kernel
theorem dL_areHeld_90 : decode cL_areHeld 90 = .ok (.invokevirtual 38, 3) := by decide +kernel
theorem dL_areHeld_93 : decode cL_areHeld 93 = .ok (.if_icmp .ge 7, 3) := by decide +kernel
theorem dL_areHeld_96 : decode cL_areHeld 96 = .ok (.iconst 1, 1) := by decide +kernel
theorem dL_areHeld_97 : decode cL_areHeld 97 = .ok (.goto 4, 3) := by decide +kernel
theorem dL_areHeld_100 : decode cL_areHeld 100 = .ok (.iconst 0, 1) := by decide +kernel
theorem dL_areHeld_101 : decode cL_areHeld 101 = .ok (.istore 5, 2) := by decide +kernel
theorem dL_areHeld_103 : decode cL_areHeld 103 = .ok (.iload 7, 2) := by decide +kernel
theorem dL_areHeld_105 : decode cL_areHeld 105 = .ok (.sipush 1000, 3) := by decide +kernel
theorem dL_areHeld_108 : decode cL_areHeld 108 = .ok (.irem, 1) := by decide +kernel
theorem dL_areHeld_109 : decode cL_areHeld 109 = .ok (.istore_n 3, 1) := by decide +kernel
theorem dL_areHeld_110 : decode cL_areHeld 110 = .ok (.iload 4, 2) := by decide +kernel
theorem dL_areHeld_112 : decode cL_areHeld 112 = .ok (.iload 7, 2) := by decide +kernel
theorem dL_areHeld_114 : decode cL_areHeld 114 = .ok (.sipush 1000, 3) := by decide +kernel
theorem dL_areHeld_117 : decode cL_areHeld 117 = .ok (.irem, 1) := by decide +kernel
theorem dL_areHeld_118 : decode cL_areHeld 118 = .ok (.iload 7, 2) := by decide +kernel
theorem dL_areHeld_120 : decode cL_areHeld 120 = .ok (.sipush 1000, 3) := by decide +kernel
theorem dL_areHeld_123 : decode cL_areHeld 123 = .ok (.idiv, 1) := by decide +kernel
theorem dL_areHeld_124 : decode cL_areHeld 124 = .ok (.isub, 1) := by decide +kernel
theorem dL_areHeld_125 : decode cL_areHeld 125 = .ok (.iconst 1, 1) := by decide +kernel
theorem dL_areHeld_126 : decode cL_areHeld 126 = .ok (.iadd, 1) := by decide +kernel
theorem dL_areHeld_127 : decode cL_areHeld 127 = .ok (.iadd, 1) := by decide +kernel
theorem dL_areHeld_128 : decode cL_areHeld 128 = .ok (.istore 4, 2) := by decide +kernel
theorem dL_areHeld_130 : decode cL_areHeld 130 = .ok (.iinc 6 1, 3) := by decide +kernel
theorem dL_areHeld_133 : decode cL_areHeld 133 = .ok (.goto (-96), 3) := by decide +kernel
theorem dL_areHeld_136 : decode cL_areHeld 136 = .ok (.iconst 0, 1) := by decide +kernel
theorem dL_areHeld_137 : decode cL_areHeld 137 = .ok (.istore 6, 2) := by decide +kernel
theorem dL_areHeld_139 : decode cL_areHeld 139 = .ok (.iconst 0, 1) := by decide +kernel
theorem dL_areHeld_140 : decode cL_areHeld 140 = .ok (.istore 7, 2) := by decide +kernel
theorem dL_areHeld_142 : decode cL_areHeld 142 = .ok (.iconst 0, 1) := by decide +kernel
theorem dL_areHeld_143 : decode cL_areHeld 143 = .ok (.istore 8, 2) := by decide +kernel
theorem dL_areHeld_145 : decode cL_areHeld 145 = .ok (.iconst 0, 1) := by decide +kernel
theorem dL_areHeld_146 : decode cL_areHeld 146 = .ok (.istore 9, 2) := by decide +kernel
theorem dL_areHeld_148 : decode cL_areHeld 148 = .ok (.iload 9, 2) := by decide +kernel
theorem dL_areHeld_150 : decode cL_areHeld 150 = .ok (.sipush 200, 3) := by decide +kernel
theorem dL_areHeld_153 : decode cL_areHeld 153 = .ok (.if_icmp .ge 183, 3) := by decide +kernel
theorem dL_areHeld_156 : decode cL_areHeld 156 = .ok (.iload 5, 2) := by decide +kernel
theorem dL_areHeld_158 : decode cL_areHeld 158 = .ok (.ifCond .eq 178, 3) := by decide +kernel
theorem dL_areHeld_161 : decode cL_areHeld 161 = .ok (.iload 9, 2) := by decide +kernel
theorem dL_areHeld_163 : decode cL_areHeld 163 = .ok (.aload_n 0, 1) := by decide +kernel
theorem dL_areHeld_164 : decode cL_areHeld 164 = .ok (.invokevirtual 38, 3) := by decide +kernel
theorem dL_areHeld_167 : decode cL_areHeld 167 = .ok (.if_icmp .ge 27, 3) := by decide +kernel
theorem dL_areHeld_170 : decode cL_areHeld 170 = .ok (.aload_n 0, 1) := by decide +kernel
theorem dL_areHeld_171 : decode cL_areHeld 171 = .ok (.iload 9, 2) := by decide +kernel
theorem dL_areHeld_173 : decode cL_areHeld 173 = .ok (.invokevirtual 62, 3) := by decide +kernel
theorem dL_areHeld_176 : decode cL_areHeld 176 = .ok (.iconst 1, 1) := by decide +kernel
theorem dL_areHeld_177 : decode cL_areHeld 177 = .ok (.if_icmp .eq 13, 3) := by decide +kernel
theorem dL_areHeld_180 : decode cL_areHeld 180 = .ok (.aload_n 0, 1) := by decide +kernel
theorem dL_areHeld_181 : decode cL_areHeld 181 = .ok (.iload 9, 2) := by decide +kernel
theorem dL_areHeld_183 : decode cL_areHeld 183 = .ok (.invokevirtual 62, 3) := by decide +kernel
theorem dL_areHeld_186 : decode cL_areHeld 186 = .ok (.iconst 2, 1) := by decide +kernel
theorem dL_areHeld_187 : decode cL_areHeld 187 = .ok (.if_icmp .ne 7, 3) := by decide +kernel
theorem dL_areHeld_190 : decode cL_areHeld 190 = .ok (.iconst 1, 1) := by decide +kernel
theorem dL_areHeld_191 : decode cL_areHeld 191 = .ok (.goto 4, 3) := by decide +kernel
theorem dL_areHeld_194 : decode cL_areHeld 194 = .ok (.iconst 0, 1) := by decide +kernel
theorem dL_areHeld_195 : decode cL_areHeld 195 = .ok (.istore 10, 2) := by decide +kernel
theorem dL_areHeld_197 : decode cL_areHeld 197 = .ok (.iload 6, 2) := by decide +kernel
theorem dL_areHeld_199 : decode cL_areHeld 199 = .ok (.iload 10, 2) := by decide +kernel
theorem dL_areHeld_201 : decode cL_areHeld 201 = .ok (.ifCond .eq 7, 3) := by decide +kernel
theorem dL_areHeld_204 : decode cL_areHeld 204 = .ok (.iconst 1, 1) := by decide +kernel
theorem dL_areHeld_205 : decode cL_areHeld 205 = .ok (.goto 4, 3) := by decide +kernel
theorem dL_areHeld_208 : decode cL_areHeld 208 = .ok (.iconst 0, 1) := by decide +kernel
theorem dL_areHeld_209 : decode cL_areHeld 209 = .ok (.iadd, 1) := by decide +kernel
theorem dL_areHeld_210 : decode cL_areHeld 210 = .ok (.istore 6, 2) := by decide +kernel
theorem dL_areHeld_212 : decode cL_areHeld 212 = .ok (.aload_n 0, 1) := by decide +kernel
theorem dL_areHeld_213 : decode cL_areHeld 213 = .ok (.iload 9, 2) := by decide +kernel
theorem dL_areHeld_215 : decode cL_areHeld 215 = .ok (.invokevirtual 65, 3) := by decide +kernel
theorem dL_areHeld_218 : decode cL_areHeld 218 = .ok (.iload 10, 2) := by decide +kernel
theorem dL_areHeld_220 : decode cL_areHeld 220 = .ok (.if_icmp .ne 59, 3) := by decide +kernel
theorem dL_areHeld_223 : decode cL_areHeld 223 = .ok (.iload 10, 2) := by decide +kernel
theorem dL_areHeld_225 : decode cL_areHeld 225 = .ok (.ifCond .eq 24, 3) := by decide +kernel
theorem dL_areHeld_228 : decode cL_areHeld 228 = .ok (.aload_n 1, 1) := by decide +kernel
theorem dL_areHeld_229 : decode cL_areHeld 229 = .ok (.iload 9, 2) := by decide +kernel
theorem dL_areHeld_231 : decode cL_areHeld 231 = .ok (.invokestatic 69, 3) := by decide +kernel
theorem dL_areHeld_234 : decode cL_areHeld 234 = .ok (.ifCond .ne 15, 3) := by decide +kernel
theorem dL_areHeld_237 : decode cL_areHeld 237 = .ok (.aload_n 0, 1) := by decide +kernel
theorem dL_areHeld_238 : decode cL_areHeld 238 = .ok (.iconst 1, 1) := by decide +kernel
theorem dL_areHeld_239 : decode cL_areHeld 239 = .ok (.iload 7, 2) := by decide +kernel
theorem dL_areHeld_241 : decode cL_areHeld 241 = .ok (.invokevirtual 73, 3) := by decide +kernel
theorem dL_areHeld_244 : decode cL_areHeld 244 = .ok (.iload 9, 2) := by decide +kernel
theorem dL_areHeld_246 : decode cL_areHeld 246 = .ok (.if_icmp .ne 33, 3) := by decide +kernel
theorem dL_areHeld_249 : decode cL_areHeld 249 = .ok (.iload 10, 2) := by decide +kernel
theorem dL_areHeld_251 : decode cL_areHeld 251 = .ok (.ifCond .ne 24, 3) := by decide +kernel
theorem dL_areHeld_254 : decode cL_areHeld 254 = .ok (.aload_n 1, 1) := by decide +kernel
theorem dL_areHeld_255 : decode cL_areHeld 255 = .ok (.iload 9, 2) := by decide +kernel
theorem dL_areHeld_257 : decode cL_areHeld 257 = .ok (.invokestatic 69, 3) := by decide +kernel
theorem dL_areHeld_260 : decode cL_areHeld 260 = .ok (.ifCond .eq 15, 3) := by decide +kernel
theorem dL_areHeld_263 : decode cL_areHeld 263 = .ok (.aload_n 0, 1) := by decide +kernel
theorem dL_areHeld_264 : decode cL_areHeld 264 = .ok (.iconst 0, 1) := by decide +kernel
theorem dL_areHeld_265 : decode cL_areHeld 265 = .ok (.iload 8, 2) := by decide +kernel
theorem dL_areHeld_267 : decode cL_areHeld 267 = .ok (.invokevirtual 73, 3) := by decide +kernel
theorem dL_areHeld_270 : decode cL_areHeld 270 = .ok (.iload 9, 2) := by decide +kernel
theorem dL_areHeld_272 : decode cL_areHeld 272 = .ok (.if_icmp .ne 7, 3) := by decide +kernel
theorem dL_areHeld_275 : decode cL_areHeld 275 = .ok (.iconst 1, 1) := by decide +kernel
theorem dL_areHeld_276 : decode cL_areHeld 276 = .ok (.goto 4, 3) := by decide +kernel
theorem dL_areHeld_279 : decode cL_areHeld 279 = .ok (.iconst 0, 1) := by decide +kernel
theorem dL_areHeld_280 : decode cL_areHeld 280 = .ok (.istore 5, 2) := by decide +kernel
theorem dL_areHeld_282 : decode cL_areHeld 282 = .ok (.iload 7, 2) := by decide +kernel
theorem dL_areHeld_284 : decode cL_areHeld 284 = .ok (.iload 10, 2) := by decide +kernel
theorem dL_areHeld_286 : decode cL_areHeld 286 = .ok (.ifCond .eq 16, 3) := by decide +kernel
theorem dL_areHeld_289 : decode cL_areHeld 289 = .ok (.aload_n 1, 1) := by decide +kernel
theorem dL_areHeld_290 : decode cL_areHeld 290 = .ok (.iload 9, 2) := by decide +kernel
theorem dL_areHeld_292 : decode cL_areHeld 292 = .ok (.invokestatic 69, 3) := by decide +kernel
theorem dL_areHeld_295 : decode cL_areHeld 295 = .ok (.ifCond .ne 7, 3) := by decide +kernel
theorem dL_areHeld_298 : decode cL_areHeld 298 = .ok (.iconst 1, 1) := by decide +kernel
theorem dL_areHeld_299 : decode cL_areHeld 299 = .ok (.goto 4, 3) := by decide +kernel
theorem dL_areHeld_302 : decode cL_areHeld 302 = .ok (.iconst 0, 1) := by decide +kernel
theorem dL_areHeld_303 : decode cL_areHeld 303 = .ok (.iadd, 1) := by decide +kernel
theorem dL_areHeld_304 : decode cL_areHeld 304 = .ok (.istore 7, 2) := by decide +kernel
theorem dL_areHeld_306 : decode cL_areHeld 306 = .ok (.iload 8, 2) := by decide +kernel
theorem dL_areHeld_308 : decode cL_areHeld 308 = .ok (.iload 10, 2) := by decide +kernel
theorem dL_areHeld_310 : decode cL_areHeld 310 = .ok (.ifCond .ne 16, 3) := by decide +kernel
theorem dL_areHeld_313 : decode cL_areHeld 313 = .ok (.aload_n 1, 1) := by decide +kernel
theorem dL_areHeld_314 : decode cL_areHeld 314 = .ok (.iload 9, 2) := by decide +kernel
theorem dL_areHeld_316 : decode cL_areHeld 316 = .ok (.invokestatic 69, 3) := by decide +kernel
theorem dL_areHeld_319 : decode cL_areHeld 319 = .ok (.ifCond .eq 7, 3) := by decide +kernel
theorem dL_areHeld_322 : decode cL_areHeld 322 = .ok (.iconst 1, 1) := by decide +kernel
theorem dL_areHeld_323 : decode cL_areHeld 323 = .ok (.goto 4, 3) := by decide +kernel
theorem dL_areHeld_326 : decode cL_areHeld 326 = .ok (.iconst 0, 1) := by decide +kernel
theorem dL_areHeld_327 : decode cL_areHeld 327 = .ok (.iadd, 1) := by decide +kernel
theorem dL_areHeld_328 : decode cL_areHeld 328 = .ok (.istore 8, 2) := by decide +kernel
theorem dL_areHeld_330 : decode cL_areHeld 330 = .ok (.iinc 9 1, 3) := by decide +kernel
theorem dL_areHeld_333 : decode cL_areHeld 333 = .ok (.goto (-185), 3) := by decide +kernel
theorem dL_areHeld_336 : decode cL_areHeld 336 = .ok (.iload 5, 2) := by decide +kernel
theorem dL_areHeld_338 : decode cL_areHeld 338 = .ok (.ifCond .eq 54, 3) := by decide +kernel
theorem dL_areHeld_341 : decode cL_areHeld 341 = .ok (.iload 4, 2) := by decide +kernel
theorem dL_areHeld_343 : decode cL_areHeld 343 = .ok (.iload 6, 2) := by decide +kernel
theorem dL_areHeld_345 : decode cL_areHeld 345 = .ok (.if_icmp .ne 47, 3) := by decide +kernel
theorem dL_areHeld_348 : decode cL_areHeld 348 = .ok (.aload_n 0, 1) := by decide +kernel
theorem dL_areHeld_349 : decode cL_areHeld 349 = .ok (.iconst 1, 1) := by decide +kernel
theorem dL_areHeld_350 : decode cL_areHeld 350 = .ok (.iload 7, 2) := by decide +kernel
theorem dL_areHeld_352 : decode cL_areHeld 352 = .ok (.invokevirtual 73, 3) := by decide +kernel
theorem dL_areHeld_355 : decode cL_areHeld 355 = .ok (.iconst (-1), 1) := by decide +kernel
theorem dL_areHeld_356 : decode cL_areHeld 356 = .ok (.if_icmp .ne 36, 3) := by decide +kernel
theorem dL_areHeld_359 : decode cL_areHeld 359 = .ok (.aload_n 0, 1) := by decide +kernel
theorem dL_areHeld_360 : decode cL_areHeld 360 = .ok (.iconst 0, 1) := by decide +kernel
theorem dL_areHeld_361 : decode cL_areHeld 361 = .ok (.iload 8, 2) := by decide +kernel
theorem dL_areHeld_363 : decode cL_areHeld 363 = .ok (.invokevirtual 73, 3) := by decide +kernel
theorem dL_areHeld_366 : decode cL_areHeld 366 = .ok (.iconst (-1), 1) := by decide +kernel
theorem dL_areHeld_367 : decode cL_areHeld 367 = .ok (.if_icmp .ne 25, 3) := by decide +kernel
theorem dL_areHeld_370 : decode cL_areHeld 370 = .ok (.aload_n 0, 1) := by decide +kernel
theorem dL_areHeld_371 : decode cL_areHeld 371 = .ok (.iconst (-1), 1) := by decide +kernel
theorem dL_areHeld_372 : decode cL_areHeld 372 = .ok (.invokevirtual 65, 3) := by decide +kernel
theorem dL_areHeld_375 : decode cL_areHeld 375 = .ok (.ifCond .ne 17, 3) := by decide +kernel
theorem dL_areHeld_378 : decode cL_areHeld 378 = .ok (.aload_n 0, 1) := by decide +kernel
theorem dL_areHeld_379 : decode cL_areHeld 379 = .ok (.sipush 200, 3) := by decide +kernel
theorem dL_areHeld_382 : decode cL_areHeld 382 = .ok (.invokevirtual 65, 3) := by decide +kernel
theorem dL_areHeld_385 : decode cL_areHeld 385 = .ok (.ifCond .ne 7, 3) := by decide +kernel
theorem dL_areHeld_388 : decode cL_areHeld 388 = .ok (.iconst 1, 1) := by decide +kernel
theorem dL_areHeld_389 : decode cL_areHeld 389 = .ok (.goto 4, 3) := by decide +kernel
theorem dL_areHeld_392 : decode cL_areHeld 392 = .ok (.iconst 0, 1) := by decide +kernel
theorem dL_areHeld_393 : decode cL_areHeld 393 = .ok (.ireturn, 1) := by decide +kernel
set_option maxRecDepth 20000 in
theorem ggL_isLabel_X1_labelOf : GoodIn wsL_isLabel wsX1_labelOf := goodIn_ca (goodIn_r _ [5, 6, 7, 8, 9, 10, 4, 11, 12, 13, 14, 15, 16, 17, 18, 19, 20, 21, 22, 27, 28, 29, 30, 31, 32, 33, 34, 35, 36, 37, 38, 39, 40, 41, 42, 43, 44, 45] (by decide +kernel) (by decide +kernel)) (goodIn_sub (fun _ h => List.mem_cons_of_mem _ (List.mem_append_right _ h)) (by decide +kernel))
set_option maxRecDepth 20000 in
theorem gL_isLabel_X1_labelOf : GoodIn wsL_isLabel (wsV RL 77 RX1 yX1_labelOf wsX1_labelOf) := goodIn_app (goodIn_of _ (by decide +kernel)) ggL_isLabel_X1_labelOf
set_option maxRecDepth 20000 in
theorem ggL_isLabel_X1_find : GoodIn wsL_isLabel wsX1_find := goodIn_r _ [26, 8, 12, 13, 14, 15, 16, 17, 18, 19, 20, 21, 22, 27, 28, 29, 30, 31, 32, 33, 34, 35, 36, 37, 38, 39, 40, 41, 42, 43, 44, 45] (by decide +kernel) (by decide +kernel)
set_option maxRecDepth 20000 in
theorem gL_isLabel_X1_find : GoodIn wsL_isLabel (wsV RL 80 RX1 yX1_find wsX1_find) := goodIn_app (goodIn_of _ (by decide +kernel)) ggL_isLabel_X1_find
theorem dL_isLabel_0 : decode cL_isLabel 0 = .ok (.iload_n 2, 1) := by decide +kernel
theorem dL_isLabel_1 : decode cL_isLabel 1 = .ok (.aload_n 1, 1) := by decide +kernel
theorem dL_isLabel_2 : decode cL_isLabel 2 = .ok (.iconst 2, 1) := by decide +kernel
theorem dL_isLabel_3 : decode cL_isLabel 3 = .ok (.iaload, 1) := by decide +kernel
theorem dL_isLabel_4 : decode cL_isLabel 4 = .ok (.idiv, 1) := by decide +kernel
theorem dL_isLabel_5 : decode cL_isLabel 5 = .ok (.iconst 1, 1) := by decide +kernel
theorem dL_isLabel_6 : decode cL_isLabel 6 = .ok (.iadd, 1) := by decide +kernel
theorem dL_isLabel_7 : decode cL_isLabel 7 = .ok (.istore_n 3, 1) := by decide +kernel
theorem dL_isLabel_8 : decode cL_isLabel 8 = .ok (.aload_n 1, 1) := by decide +kernel
theorem dL_isLabel_9 : decode cL_isLabel 9 = .ok (.iconst 3, 1) := by decide +kernel
theorem dL_isLabel_10 : decode cL_isLabel 10 = .ok (.iaload, 1) := by decide +kernel
theorem dL_isLabel_11 : decode cL_isLabel 11 = .ok (.iconst 1, 1) := by decide +kernel
theorem dL_isLabel_12 : decode cL_isLabel 12 = .ok (.if_icmp .ne 13, 3) := by decide +kernel
theorem dL_isLabel_15 : decode cL_isLabel 15 = .ok (.iload_n 2, 1) := by decide +kernel
theorem dL_isLabel_16 : decode cL_isLabel 16 = .ok (.aload_n 1, 1) := by decide +kernel
theorem dL_isLabel_17 : decode cL_isLabel 17 = .ok (.iconst 2, 1) := by decide +kernel
theorem dL_isLabel_18 : decode cL_isLabel 18 = .ok (.iaload, 1) := by decide +kernel
theorem dL_isLabel_19 : decode cL_isLabel 19 = .ok (.irem, 1) := by decide +kernel
theorem dL_isLabel_20 : decode cL_isLabel 20 = .ok (.iconst 1, 1) := by decide +kernel
theorem dL_isLabel_21 : decode cL_isLabel 21 = .ok (.iadd, 1) := by decide +kernel
theorem dL_isLabel_22 : decode cL_isLabel 22 = .ok (.goto 6, 3) := by decide +kernel
theorem dL_isLabel_25 : decode cL_isLabel 25 = .ok (.iload_n 2, 1) := by decide +kernel
theorem dL_isLabel_26 : decode cL_isLabel 26 = .ok (.iconst 1, 1) := by decide +kernel
theorem dL_isLabel_27 : decode cL_isLabel 27 = .ok (.iadd, 1) := by decide +kernel
theorem dL_isLabel_28 : decode cL_isLabel 28 = .ok (.istore 4, 2) := by decide +kernel
theorem dL_isLabel_30 : decode cL_isLabel 30 = .ok (.aload_n 0, 1) := by decide +kernel
theorem dL_isLabel_31 : decode cL_isLabel 31 = .ok (.iload_n 2, 1) := by decide +kernel
theorem dL_isLabel_32 : decode cL_isLabel 32 = .ok (.invokevirtual 77, 3) := by decide +kernel
theorem dL_isLabel_35 : decode cL_isLabel 35 = .ok (.sipush 1000, 3) := by decide +kernel
theorem dL_isLabel_38 : decode cL_isLabel 38 = .ok (.iload_n 3, 1) := by decide +kernel
theorem dL_isLabel_39 : decode cL_isLabel 39 = .ok (.imul, 1) := by decide +kernel
theorem dL_isLabel_40 : decode cL_isLabel 40 = .ok (.iload 4, 2) := by decide +kernel
theorem dL_isLabel_42 : decode cL_isLabel 42 = .ok (.iadd, 1) := by decide +kernel
theorem dL_isLabel_43 : decode cL_isLabel 43 = .ok (.if_icmp .ne 67, 3) := by decide +kernel
theorem dL_isLabel_46 : decode cL_isLabel 46 = .ok (.aload_n 0, 1) := by decide +kernel
theorem dL_isLabel_47 : decode cL_isLabel 47 = .ok (.iload_n 3, 1) := by decide +kernel
theorem dL_isLabel_48 : decode cL_isLabel 48 = .ok (.iload 4, 2) := by decide +kernel
theorem dL_isLabel_50 : decode cL_isLabel 50 = .ok (.invokevirtual 80, 3) := by decide +kernel
theorem dL_isLabel_53 : decode cL_isLabel 53 = .ok (.iload_n 2, 1) := by decide +kernel
theorem dL_isLabel_54 : decode cL_isLabel 54 = .ok (.if_icmp .ne 56, 3) := by decide +kernel
theorem dL_isLabel_57 : decode cL_isLabel 57 = .ok (.aload_n 0, 1) := by decide +kernel
theorem dL_isLabel_58 : decode cL_isLabel 58 = .ok (.iload_n 3, 1) := by decide +kernel
theorem dL_isLabel_59 : decode cL_isLabel 59 = .ok (.iconst 0, 1) := by decide +kernel
theorem dL_isLabel_60 : decode cL_isLabel 60 = .ok (.invokevirtual 80, 3) := by decide +kernel
theorem dL_isLabel_63 : decode cL_isLabel 63 = .ok (.iconst (-1), 1) := by decide +kernel
theorem dL_isLabel_64 : decode cL_isLabel 64 = .ok (.if_icmp .ne 46, 3) := by decide +kernel
theorem dL_isLabel_67 : decode cL_isLabel 67 = .ok (.aload_n 0, 1) := by decide +kernel
theorem dL_isLabel_68 : decode cL_isLabel 68 = .ok (.iconst 0, 1) := by decide +kernel
theorem dL_isLabel_69 : decode cL_isLabel 69 = .ok (.iload 4, 2) := by decide +kernel
theorem dL_isLabel_71 : decode cL_isLabel 71 = .ok (.invokevirtual 80, 3) := by decide +kernel
theorem dL_isLabel_74 : decode cL_isLabel 74 = .ok (.iconst (-1), 1) := by decide +kernel
theorem dL_isLabel_75 : decode cL_isLabel 75 = .ok (.if_icmp .ne 35, 3) := by decide +kernel
theorem dL_isLabel_78 : decode cL_isLabel 78 = .ok (.aload_n 0, 1) := by decide +kernel
theorem dL_isLabel_79 : decode cL_isLabel 79 = .ok (.iload_n 3, 1) := by decide +kernel
theorem dL_isLabel_80 : decode cL_isLabel 80 = .ok (.iconst 1, 1) := by decide +kernel
theorem dL_isLabel_81 : decode cL_isLabel 81 = .ok (.iadd, 1) := by decide +kernel
theorem dL_isLabel_82 : decode cL_isLabel 82 = .ok (.aload_n 1, 1) := by decide +kernel
theorem dL_isLabel_83 : decode cL_isLabel 83 = .ok (.iconst 3, 1) := by decide +kernel
theorem dL_isLabel_84 : decode cL_isLabel 84 = .ok (.iaload, 1) := by decide +kernel
theorem dL_isLabel_85 : decode cL_isLabel 85 = .ok (.iconst 1, 1) := by decide +kernel
theorem dL_isLabel_86 : decode cL_isLabel 86 = .ok (.if_icmp .ne 11, 3) := by decide +kernel
theorem dL_isLabel_89 : decode cL_isLabel 89 = .ok (.aload_n 1, 1) := by decide +kernel
theorem dL_isLabel_90 : decode cL_isLabel 90 = .ok (.iconst 2, 1) := by decide +kernel
theorem dL_isLabel_91 : decode cL_isLabel 91 = .ok (.iaload, 1) := by decide +kernel
theorem dL_isLabel_92 : decode cL_isLabel 92 = .ok (.iconst 1, 1) := by decide +kernel
theorem dL_isLabel_93 : decode cL_isLabel 93 = .ok (.iadd, 1) := by decide +kernel
theorem dL_isLabel_94 : decode cL_isLabel 94 = .ok (.goto 5, 3) := by decide +kernel
theorem dL_isLabel_97 : decode cL_isLabel 97 = .ok (.iload 4, 2) := by decide +kernel
theorem dL_isLabel_99 : decode cL_isLabel 99 = .ok (.invokevirtual 80, 3) := by decide +kernel
theorem dL_isLabel_102 : decode cL_isLabel 102 = .ok (.iconst (-1), 1) := by decide +kernel
theorem dL_isLabel_103 : decode cL_isLabel 103 = .ok (.if_icmp .ne 7, 3) := by decide +kernel
theorem dL_isLabel_106 : decode cL_isLabel 106 = .ok (.iconst 1, 1) := by decide +kernel
theorem dL_isLabel_107 : decode cL_isLabel 107 = .ok (.goto 4, 3) := by decide +kernel
theorem dL_isLabel_110 : decode cL_isLabel 110 = .ok (.iconst 0, 1) := by decide +kernel
theorem dL_isLabel_111 : decode cL_isLabel 111 = .ok (.ireturn, 1) := by decide +kernel
set_option maxRecDepth 20000 in
theorem ggL_isDesk_X1_day : GoodIn wsL_isDesk wsX1_day := goodIn_r _ [5, 6, 45, 46, 47, 48, 49, 50, 51, 52, 53, 54, 55, 56, 57, 58, 59] (by decide +kernel) (by decide +kernel)
set_option maxRecDepth 20000 in
theorem gL_isDesk_X1_day : GoodIn wsL_isDesk (wsV RL 83 RX1 yX1_day wsX1_day) := goodIn_app (goodIn_of _ (by decide +kernel)) ggL_isDesk_X1_day
set_option maxRecDepth 20000 in
theorem ggL_isDesk_X1_dayOf : GoodIn wsL_isDesk wsX1_dayOf := goodIn_ca (goodIn_r _ [10, 11, 12, 13, 14, 15, 16, 4, 17, 18, 19, 20, 21, 45, 46, 47, 48, 49, 50, 51, 52, 53, 54, 55, 56, 57, 58, 59] (by decide +kernel) (by decide +kernel)) (goodIn_sub (fun _ h => List.mem_cons_of_mem _ (List.mem_append_right _ h)) (by decide +kernel))
set_option maxRecDepth 20000 in
theorem gL_isDesk_X1_dayOf : GoodIn wsL_isDesk (wsV RL 42 RX1 yX1_dayOf wsX1_dayOf) := goodIn_app (goodIn_of _ (by decide +kernel)) ggL_isDesk_X1_dayOf
set_option maxRecDepth 20000 in
theorem ggL_isDesk_X1_foretold : GoodIn wsL_isDesk wsX1_foretold := goodIn_r _ [25, 18, 45, 46, 47, 48, 49, 50, 51, 52, 53, 54, 55, 56, 57, 58, 59] (by decide +kernel) (by decide +kernel)
set_option maxRecDepth 20000 in
theorem gL_isDesk_X1_foretold : GoodIn wsL_isDesk (wsV RL 38 RX1 yX1_foretold wsX1_foretold) := goodIn_app (goodIn_of _ (by decide +kernel)) ggL_isDesk_X1_foretold
set_option maxRecDepth 20000 in
theorem ggL_isDesk_X1_stateOf : GoodIn wsL_isDesk wsX1_stateOf := goodIn_ca (goodIn_r _ [29, 11, 12, 30, 14, 15, 16, 4, 17, 18, 19, 20, 21, 45, 46, 47, 48, 49, 50, 51, 52, 53, 54, 55, 56, 57, 58, 59] (by decide +kernel) (by decide +kernel)) (goodIn_sub (fun _ h => List.mem_cons_of_mem _ (List.mem_append_right _ h)) (by decide +kernel))
set_option maxRecDepth 20000 in
theorem gL_isDesk_X1_stateOf : GoodIn wsL_isDesk (wsV RL 62 RX1 yX1_stateOf wsX1_stateOf) := goodIn_app (goodIn_of _ (by decide +kernel)) ggL_isDesk_X1_stateOf
set_option maxRecDepth 20000 in
theorem ggL_isDesk_X1_claimsOf : GoodIn wsL_isDesk wsX1_claimsOf := goodIn_ca (goodIn_r _ [34, 11, 12, 35, 14, 15, 16, 4, 17, 18, 19, 20, 21, 45, 46, 47, 48, 49, 50, 51, 52, 53, 54, 55, 56, 57, 58, 59] (by decide +kernel) (by decide +kernel)) (goodIn_sub (fun _ h => List.mem_cons_of_mem _ (List.mem_append_right _ h)) (by decide +kernel))
set_option maxRecDepth 20000 in
theorem gL_isDesk_X1_claimsOf : GoodIn wsL_isDesk (wsV RL 49 RX1 yX1_claimsOf wsX1_claimsOf) := goodIn_app (goodIn_of _ (by decide +kernel)) ggL_isDesk_X1_claimsOf
set_option maxRecDepth 20000 in
theorem ggL_isDesk_X1_late : GoodIn wsL_isDesk wsX1_late := goodIn_r _ [39, 40, 41, 42, 4, 43, 30, 6, 13, 44, 14, 15, 16, 17, 18, 19, 20, 21, 45, 46, 47, 48, 49, 50, 51, 52, 53, 54, 55, 56, 57, 58, 59] (by decide +kernel) (by decide +kernel)
set_option maxRecDepth 20000 in
theorem gL_isDesk_X1_late : GoodIn wsL_isDesk (wsV RL 86 RX1 yX1_late wsX1_late) := goodIn_app (goodIn_of _ (by decide +kernel)) ggL_isDesk_X1_late
theorem dL_isDesk_0 : decode cL_isDesk 0 = .ok (.iconst 0, 1) := by decide +kernel
theorem dL_isDesk_1 : decode cL_isDesk 1 = .ok (.istore_n 2, 1) := by decide +kernel
theorem dL_isDesk_2 : decode cL_isDesk 2 = .ok (.aload_n 0, 1) := by decide +kernel
theorem dL_isDesk_3 : decode cL_isDesk 3 = .ok (.invokevirtual 83, 3) := by decide +kernel
theorem dL_isDesk_6 : decode cL_isDesk 6 = .ok (.aload_n 1, 1) := by decide +kernel
theorem dL_isDesk_7 : decode cL_isDesk 7 = .ok (.iconst 0, 1) := by decide +kernel
theorem dL_isDesk_8 : decode cL_isDesk 8 = .ok (.iaload, 1) := by decide +kernel
theorem dL_isDesk_9 : decode cL_isDesk 9 = .ok (.if_icmp .ne 15, 3) := by decide +kernel
theorem dL_isDesk_12 : decode cL_isDesk 12 = .ok (.aload_n 0, 1) := by decide +kernel
theorem dL_isDesk_13 : decode cL_isDesk 13 = .ok (.iconst 0, 1) := by decide +kernel
theorem dL_isDesk_14 : decode cL_isDesk 14 = .ok (.invokevirtual 42, 3) := by decide +kernel
theorem dL_isDesk_17 : decode cL_isDesk 17 = .ok (.ifCond .ne 7, 3) := by decide +kernel
theorem dL_isDesk_20 : decode cL_isDesk 20 = .ok (.iconst 1, 1) := by decide +kernel
theorem dL_isDesk_21 : decode cL_isDesk 21 = .ok (.goto 4, 3) := by decide +kernel
theorem dL_isDesk_24 : decode cL_isDesk 24 = .ok (.iconst 0, 1) := by decide +kernel
theorem dL_isDesk_25 : decode cL_isDesk 25 = .ok (.istore_n 3, 1) := by decide +kernel
theorem dL_isDesk_26 : decode cL_isDesk 26 = .ok (.iconst 0, 1) := by decide +kernel
theorem dL_isDesk_27 : decode cL_isDesk 27 = .ok (.istore 4, 2) := by decide +kernel
theorem dL_isDesk_29 : decode cL_isDesk 29 = .ok (.iload 4, 2) := by decide +kernel
theorem dL_isDesk_31 : decode cL_isDesk 31 = .ok (.aload_n 0, 1) := by decide +kernel
theorem dL_isDesk_32 : decode cL_isDesk 32 = .ok (.invokevirtual 38, 3) := by decide +kernel
theorem dL_isDesk_35 : decode cL_isDesk 35 = .ok (.if_icmp .ge 108, 3) := by decide +kernel
theorem dL_isDesk_38 : decode cL_isDesk 38 = .ok (.iload_n 3, 1) := by decide +kernel
theorem dL_isDesk_39 : decode cL_isDesk 39 = .ok (.ifCond .eq 104, 3) := by decide +kernel
theorem dL_isDesk_42 : decode cL_isDesk 42 = .ok (.aload_n 0, 1) := by decide +kernel
theorem dL_isDesk_43 : decode cL_isDesk 43 = .ok (.iload 4, 2) := by decide +kernel
theorem dL_isDesk_45 : decode cL_isDesk 45 = .ok (.invokevirtual 62, 3) := by decide +kernel
theorem dL_isDesk_48 : decode cL_isDesk 48 = .ok (.istore 5, 2) := by decide +kernel
theorem dL_isDesk_50 : decode cL_isDesk 50 = .ok (.iload_n 2, 1) := by decide +kernel
theorem dL_isDesk_51 : decode cL_isDesk 51 = .ok (.iload 5, 2) := by decide +kernel
theorem dL_isDesk_53 : decode cL_isDesk 53 = .ok (.ifCond .ne 23, 3) := by decide +kernel
theorem dL_isDesk_56 : decode cL_isDesk 56 = .ok (.aload_n 1, 1) := by decide +kernel
theorem dL_isDesk_57 : decode cL_isDesk 57 = .ok (.iconst 0, 1) := by decide +kernel
theorem dL_isDesk_58 : decode cL_isDesk 58 = .ok (.iaload, 1) := by decide +kernel
theorem dL_isDesk_59 : decode cL_isDesk 59 = .ok (.aload_n 0, 1) := by decide +kernel
theorem dL_isDesk_60 : decode cL_isDesk 60 = .ok (.iload 4, 2) := by decide +kernel
theorem dL_isDesk_62 : decode cL_isDesk 62 = .ok (.invokevirtual 42, 3) := by decide +kernel
theorem dL_isDesk_65 : decode cL_isDesk 65 = .ok (.isub, 1) := by decide +kernel
theorem dL_isDesk_66 : decode cL_isDesk 66 = .ok (.aload_n 1, 1) := by decide +kernel
theorem dL_isDesk_67 : decode cL_isDesk 67 = .ok (.iconst 5, 1) := by decide +kernel
theorem dL_isDesk_68 : decode cL_isDesk 68 = .ok (.iaload, 1) := by decide +kernel
theorem dL_isDesk_69 : decode cL_isDesk 69 = .ok (.if_icmp .le 7, 3) := by decide +kernel
theorem dL_isDesk_72 : decode cL_isDesk 72 = .ok (.iconst 1, 1) := by decide +kernel
theorem dL_isDesk_73 : decode cL_isDesk 73 = .ok (.goto 4, 3) := by decide +kernel
theorem dL_isDesk_76 : decode cL_isDesk 76 = .ok (.iconst 0, 1) := by decide +kernel
theorem dL_isDesk_77 : decode cL_isDesk 77 = .ok (.iadd, 1) := by decide +kernel
theorem dL_isDesk_78 : decode cL_isDesk 78 = .ok (.istore_n 2, 1) := by decide +kernel
theorem dL_isDesk_79 : decode cL_isDesk 79 = .ok (.iload 4, 2) := by decide +kernel
theorem dL_isDesk_81 : decode cL_isDesk 81 = .ok (.ifCond .eq 20, 3) := by decide +kernel
theorem dL_isDesk_84 : decode cL_isDesk 84 = .ok (.aload_n 0, 1) := by decide +kernel
theorem dL_isDesk_85 : decode cL_isDesk 85 = .ok (.iload 4, 2) := by decide +kernel
theorem dL_isDesk_87 : decode cL_isDesk 87 = .ok (.invokevirtual 42, 3) := by decide +kernel
theorem dL_isDesk_90 : decode cL_isDesk 90 = .ok (.aload_n 0, 1) := by decide +kernel
theorem dL_isDesk_91 : decode cL_isDesk 91 = .ok (.iload 4, 2) := by decide +kernel
theorem dL_isDesk_93 : decode cL_isDesk 93 = .ok (.iconst 1, 1) := by decide +kernel
theorem dL_isDesk_94 : decode cL_isDesk 94 = .ok (.isub, 1) := by decide +kernel
theorem dL_isDesk_95 : decode cL_isDesk 95 = .ok (.invokevirtual 42, 3) := by decide +kernel
theorem dL_isDesk_98 : decode cL_isDesk 98 = .ok (.if_icmp .le 37, 3) := by decide +kernel
theorem dL_isDesk_101 : decode cL_isDesk 101 = .ok (.iload 5, 2) := by decide +kernel
theorem dL_isDesk_103 : decode cL_isDesk 103 = .ok (.ifCond .lt 32, 3) := by decide +kernel
theorem dL_isDesk_106 : decode cL_isDesk 106 = .ok (.iload 5, 2) := by decide +kernel
theorem dL_isDesk_108 : decode cL_isDesk 108 = .ok (.iconst 3, 1) := by decide +kernel
theorem dL_isDesk_109 : decode cL_isDesk 109 = .ok (.if_icmp .gt 26, 3) := by decide +kernel
theorem dL_isDesk_112 : decode cL_isDesk 112 = .ok (.aload_n 0, 1) := by decide +kernel
theorem dL_isDesk_113 : decode cL_isDesk 113 = .ok (.iload 4, 2) := by decide +kernel
theorem dL_isDesk_115 : decode cL_isDesk 115 = .ok (.invokevirtual 49, 3) := by decide +kernel
theorem dL_isDesk_118 : decode cL_isDesk 118 = .ok (.ifCond .lt 17, 3) := by decide +kernel
theorem dL_isDesk_121 : decode cL_isDesk 121 = .ok (.aload_n 0, 1) := by decide +kernel
theorem dL_isDesk_122 : decode cL_isDesk 122 = .ok (.iload 4, 2) := by decide +kernel
theorem dL_isDesk_124 : decode cL_isDesk 124 = .ok (.invokevirtual 49, 3) := by decide +kernel
theorem dL_isDesk_127 : decode cL_isDesk 127 = .ok (.iconst 3, 1) := by decide +kernel
theorem dL_isDesk_128 : decode cL_isDesk 128 = .ok (.if_icmp .gt 7, 3) := by decide +kernel
theorem dL_isDesk_131 : decode cL_isDesk 131 = .ok (.iconst 1, 1) := by decide +kernel
theorem dL_isDesk_132 : decode cL_isDesk 132 = .ok (.goto 4, 3) := by decide +kernel
theorem dL_isDesk_135 : decode cL_isDesk 135 = .ok (.iconst 0, 1) := by decide +kernel
theorem dL_isDesk_136 : decode cL_isDesk 136 = .ok (.istore_n 3, 1) := by decide +kernel
theorem dL_isDesk_137 : decode cL_isDesk 137 = .ok (.iinc 4 1, 3) := by decide +kernel
theorem dL_isDesk_140 : decode cL_isDesk 140 = .ok (.goto (-111), 3) := by decide +kernel
theorem dL_isDesk_143 : decode cL_isDesk 143 = .ok (.iload_n 3, 1) := by decide +kernel
theorem dL_isDesk_144 : decode cL_isDesk 144 = .ok (.ifCond .eq 15, 3) := by decide +kernel
theorem dL_isDesk_147 : decode cL_isDesk 147 = .ok (.aload_n 0, 1) := by decide +kernel
theorem dL_isDesk_148 : decode cL_isDesk 148 = .ok (.invokevirtual 86, 3) := by decide +kernel
theorem dL_isDesk_151 : decode cL_isDesk 151 = .ok (.iload_n 2, 1) := by decide +kernel
theorem dL_isDesk_152 : decode cL_isDesk 152 = .ok (.if_icmp .ne 7, 3) := by decide +kernel
theorem dL_isDesk_155 : decode cL_isDesk 155 = .ok (.iconst 1, 1) := by decide +kernel
theorem dL_isDesk_156 : decode cL_isDesk 156 = .ok (.goto 4, 3) := by decide +kernel
theorem dL_isDesk_159 : decode cL_isDesk 159 = .ok (.iconst 0, 1) := by decide +kernel
theorem dL_isDesk_160 : decode cL_isDesk 160 = .ok (.ireturn, 1) := by decide +kernel
set_option maxRecDepth 20000 in
theorem ggL_follows_X1_stateOf : GoodIn wsL_follows wsX1_stateOf := goodIn_ca (goodIn_r _ [5, 6, 7, 8, 9, 10, 11, 4, 12, 13, 14, 15, 16, 17, 18, 19, 20, 21, 22, 23, 24, 25, 26, 27, 28, 29, 30, 31] (by decide +kernel) (by decide +kernel)) (goodIn_sub (fun _ h => List.mem_cons_of_mem _ (List.mem_append_right _ h)) (by decide +kernel))
set_option maxRecDepth 20000 in
theorem gL_follows_X1_stateOf : GoodIn wsL_follows (wsV RL 62 RX1 yX1_stateOf wsX1_stateOf) := goodIn_app (goodIn_of _ (by decide +kernel)) ggL_follows_X1_stateOf
theorem dL_follows_0 : decode cL_follows 0 = .ok (.aload_n 1, 1) := by decide +kernel
theorem dL_follows_1 : decode cL_follows 1 = .ok (.bipush 7, 2) := by decide +kernel
theorem dL_follows_3 : decode cL_follows 3 = .ok (.iaload, 1) := by decide +kernel
theorem dL_follows_4 : decode cL_follows 4 = .ok (.ifCond .lt 15, 3) := by decide +kernel
theorem dL_follows_7 : decode cL_follows 7 = .ok (.iload_n 2, 1) := by decide +kernel
theorem dL_follows_8 : decode cL_follows 8 = .ok (.aload_n 1, 1) := by decide +kernel
theorem dL_follows_9 : decode cL_follows 9 = .ok (.bipush 7, 2) := by decide +kernel
theorem dL_follows_11 : decode cL_follows 11 = .ok (.iaload, 1) := by decide +kernel
theorem dL_follows_12 : decode cL_follows 12 = .ok (.if_icmp .le 7, 3) := by decide +kernel
theorem dL_follows_15 : decode cL_follows 15 = .ok (.iconst 1, 1) := by decide +kernel
theorem dL_follows_16 : decode cL_follows 16 = .ok (.goto 4, 3) := by decide +kernel
theorem dL_follows_19 : decode cL_follows 19 = .ok (.iconst 0, 1) := by decide +kernel
theorem dL_follows_20 : decode cL_follows 20 = .ok (.istore_n 3, 1) := by decide +kernel
theorem dL_follows_21 : decode cL_follows 21 = .ok (.aload_n 1, 1) := by decide +kernel
theorem dL_follows_22 : decode cL_follows 22 = .ok (.bipush 7, 2) := by decide +kernel
theorem dL_follows_24 : decode cL_follows 24 = .ok (.iaload, 1) := by decide +kernel
theorem dL_follows_25 : decode cL_follows 25 = .ok (.iconst 1, 1) := by decide +kernel
theorem dL_follows_26 : decode cL_follows 26 = .ok (.iadd, 1) := by decide +kernel
theorem dL_follows_27 : decode cL_follows 27 = .ok (.istore 4, 2) := by decide +kernel
theorem dL_follows_29 : decode cL_follows 29 = .ok (.iload 4, 2) := by decide +kernel
theorem dL_follows_31 : decode cL_follows 31 = .ok (.iload_n 2, 1) := by decide +kernel
theorem dL_follows_32 : decode cL_follows 32 = .ok (.if_icmp .ge 29, 3) := by decide +kernel
theorem dL_follows_35 : decode cL_follows 35 = .ok (.iload_n 3, 1) := by decide +kernel
theorem dL_follows_36 : decode cL_follows 36 = .ok (.ifCond .eq 25, 3) := by decide +kernel
theorem dL_follows_39 : decode cL_follows 39 = .ok (.aload_n 0, 1) := by decide +kernel
theorem dL_follows_40 : decode cL_follows 40 = .ok (.iload 4, 2) := by decide +kernel
theorem dL_follows_42 : decode cL_follows 42 = .ok (.invokevirtual 62, 3) := by decide +kernel
theorem dL_follows_45 : decode cL_follows 45 = .ok (.iconst 1, 1) := by decide +kernel
theorem dL_follows_46 : decode cL_follows 46 = .ok (.if_icmp .le 7, 3) := by decide +kernel
theorem dL_follows_49 : decode cL_follows 49 = .ok (.iconst 1, 1) := by decide +kernel
theorem dL_follows_50 : decode cL_follows 50 = .ok (.goto 4, 3) := by decide +kernel
theorem dL_follows_53 : decode cL_follows 53 = .ok (.iconst 0, 1) := by decide +kernel
theorem dL_follows_54 : decode cL_follows 54 = .ok (.istore_n 3, 1) := by decide +kernel
theorem dL_follows_55 : decode cL_follows 55 = .ok (.iinc 4 1, 3) := by decide +kernel
theorem dL_follows_58 : decode cL_follows 58 = .ok (.goto (-29), 3) := by decide +kernel
theorem dL_follows_61 : decode cL_follows 61 = .ok (.iload_n 3, 1) := by decide +kernel
theorem dL_follows_62 : decode cL_follows 62 = .ok (.ireturn, 1) := by decide +kernel
