theorem dL_hits_7 : decode cL_hits 7 = .ok (.invokevirtual 37, 3) := by decide +kernel
theorem dL_hits_10 : decode cL_hits 10 = .ok (.i2l, 1) := by decide +kernel
theorem dL_hits_11 : decode cL_hits 11 = .ok (.lastore, 1) := by decide +kernel
theorem dL_hits_12 : decode cL_hits 12 = .ok (.goto 7, 3) := by decide +kernel
theorem dL_hits_15 : decode cL_hits 15 = .ok (.astore 5, 2) := by decide +kernel
theorem dL_hits_17 : decode cL_hits 17 = .ok (.iconst 1, 1) := by decide +kernel
theorem dL_hits_18 : decode cL_hits 18 = .ok (.ireturn, 1) := by decide +kernel
theorem dL_hits_19 : decode cL_hits 19 = .ok (.iconst 0, 1) := by decide +kernel
theorem dL_hits_20 : decode cL_hits 20 = .ok (.ireturn, 1) := by decide +kernel
set_option maxRecDepth 20000 in
theorem ggL_precisionNumerator_X3_precisionNumerator : GoodIn wsL_precisionNumerator wsX3_precisionNumerator := goodIn_ca (goodIn_r _ [6, 7, 8, 9, 10, 5, 11, 12, 13, 14, 15, 16, 17, 18, 19, 20, 21, 22, 23, 24, 25, 26, 27, 28, 29, 30, 31, 32, 33, 34, 35, 36, 37, 38, 39, 40, 41, 42, 43, 44, 45, 46, 47, 48, 49, 50, 51, 52, 53, 54, 55, 56, 57, 58, 59, 60, 61, 62, 63, 64] (by decide +kernel) (by decide +kernel)) (goodIn_sub (fun _ h => List.mem_cons_of_mem _ (List.mem_append_right _ h)) (by decide +kernel))
set_option maxRecDepth 20000 in
theorem gL_precisionNumerator_X3_precisionNumerator : GoodIn wsL_precisionNumerator (wsV RL 40 RX3 yX3_precisionNumerator wsX3_precisionNumerator) := goodIn_app (goodIn_of _ (by decide +kernel)) ggL_precisionNumerator_X3_precisionNumerator
theorem dL_precisionNumerator_0 : decode cL_precisionNumerator 0 = .ok (.aload 4, 2) := by decide +kernel
theorem dL_precisionNumerator_2 : decode cL_precisionNumerator 2 = .ok (.iconst 0, 1) := by decide +kernel
theorem dL_precisionNumerator_3 : decode cL_precisionNumerator 3 = .ok (.aload_n 0, 1) := by decide +kernel
theorem dL_precisionNumerator_4 : decode cL_precisionNumerator 4 = .ok (.iload_n 1, 1) := by decide +kernel
theorem dL_precisionNumerator_5 : decode cL_precisionNumerator 5 = .ok (.iload_n 2, 1) := by decide +kernel
theorem dL_precisionNumerator_6 : decode cL_precisionNumerator 6 = .ok (.iload_n 3, 1) := by decide +kernel
theorem dL_precisionNumerator_7 : decode cL_precisionNumerator 7 = .ok (.invokevirtual 40, 3) := by decide +kernel
theorem dL_precisionNumerator_10 : decode cL_precisionNumerator 10 = .ok (.lastore, 1) := by decide +kernel
theorem dL_precisionNumerator_11 : decode cL_precisionNumerator 11 = .ok (.goto 7, 3) := by decide +kernel
theorem dL_precisionNumerator_14 : decode cL_precisionNumerator 14 = .ok (.astore 5, 2) := by decide +kernel
theorem dL_precisionNumerator_16 : decode cL_precisionNumerator 16 = .ok (.iconst 1, 1) := by decide +kernel
theorem dL_precisionNumerator_17 : decode cL_precisionNumerator 17 = .ok (.ireturn, 1) := by decide +kernel
theorem dL_precisionNumerator_18 : decode cL_precisionNumerator 18 = .ok (.iconst 0, 1) := by decide +kernel
theorem dL_precisionNumerator_19 : decode cL_precisionNumerator 19 = .ok (.ireturn, 1) := by decide +kernel
set_option maxRecDepth 20000 in
theorem ggL_precisionDenominator_X3_precisionDenominator : GoodIn wsL_precisionDenominator wsX3_precisionDenominator := goodIn_ca (goodIn_r _ [6, 7, 8, 9, 10, 5, 11, 12, 13, 14, 15, 16, 17, 18, 19, 20, 21, 22, 23, 24, 25, 26, 27, 28, 29, 30, 31, 32, 33, 34, 35, 36, 37, 38, 39, 40, 41, 42, 43, 44, 45, 46, 47, 48, 49, 50, 51, 52, 53, 54, 55, 56, 57, 58, 59, 60, 61, 62, 63, 64] (by decide +kernel) (by decide +kernel)) (goodIn_sub (fun _ h => List.mem_cons_of_mem _ (List.mem_append_right _ h)) (by decide +kernel))
set_option maxRecDepth 20000 in
theorem gL_precisionDenominator_X3_precisionDenominator : GoodIn wsL_precisionDenominator (wsV RL 44 RX3 yX3_precisionDenominator wsX3_precisionDenominator) := goodIn_app (goodIn_of _ (by decide +kernel)) ggL_precisionDenominator_X3_precisionDenominator
theorem dL_precisionDenominator_0 : decode cL_precisionDenominator 0 = .ok (.aload 4, 2) := by decide +kernel
theorem dL_precisionDenominator_2 : decode cL_precisionDenominator 2 = .ok (.iconst 0, 1) := by decide +kernel
theorem dL_precisionDenominator_3 : decode cL_precisionDenominator 3 = .ok (.aload_n 0, 1) := by decide +kernel
theorem dL_precisionDenominator_4 : decode cL_precisionDenominator 4 = .ok (.iload_n 1, 1) := by decide +kernel
theorem dL_precisionDenominator_5 : decode cL_precisionDenominator 5 = .ok (.iload_n 2, 1) := by decide +kernel
theorem dL_precisionDenominator_6 : decode cL_precisionDenominator 6 = .ok (.iload_n 3, 1) := by decide +kernel
theorem dL_precisionDenominator_7 : decode cL_precisionDenominator 7 = .ok (.invokevirtual 44, 3) := by decide +kernel
theorem dL_precisionDenominator_10 : decode cL_precisionDenominator 10 = .ok (.lastore, 1) := by decide +kernel
theorem dL_precisionDenominator_11 : decode cL_precisionDenominator 11 = .ok (.goto 7, 3) := by decide +kernel
theorem dL_precisionDenominator_14 : decode cL_precisionDenominator 14 = .ok (.astore 5, 2) := by decide +kernel
theorem dL_precisionDenominator_16 : decode cL_precisionDenominator 16 = .ok (.iconst 1, 1) := by decide +kernel
theorem dL_precisionDenominator_17 : decode cL_precisionDenominator 17 = .ok (.ireturn, 1) := by decide +kernel
theorem dL_precisionDenominator_18 : decode cL_precisionDenominator 18 = .ok (.iconst 0, 1) := by decide +kernel
theorem dL_precisionDenominator_19 : decode cL_precisionDenominator 19 = .ok (.ireturn, 1) := by decide +kernel
set_option maxRecDepth 20000 in
theorem ggL_reciprocalNumerator_X3_reciprocalNumerator : GoodIn wsL_reciprocalNumerator wsX3_reciprocalNumerator := goodIn_ca (goodIn_r _ [6, 7, 8, 9, 5, 10, 11, 12, 13, 14, 15, 16, 17, 18, 19, 20, 21, 22, 23, 24, 25, 26, 27, 28, 29, 30, 31, 32, 33, 34, 35, 36, 37, 38, 39, 40, 41, 42, 43, 44, 45, 46, 47, 48, 49, 50, 51, 52, 53, 54, 55, 56, 57, 58, 59, 60, 61, 62, 63, 64, 65, 66, 67, 68, 69, 70] (by decide +kernel) (by decide +kernel)) (goodIn_sub (fun _ h => List.mem_cons_of_mem _ (List.mem_append_right _ h)) (by decide +kernel))
set_option maxRecDepth 20000 in
theorem gL_reciprocalNumerator_X3_reciprocalNumerator : GoodIn wsL_reciprocalNumerator (wsV RL 47 RX3 yX3_reciprocalNumerator wsX3_reciprocalNumerator) := goodIn_app (goodIn_of _ (by decide +kernel)) ggL_reciprocalNumerator_X3_reciprocalNumerator
theorem dL_reciprocalNumerator_0 : decode cL_reciprocalNumerator 0 = .ok (.aload_n 3, 1) := by decide +kernel
theorem dL_reciprocalNumerator_1 : decode cL_reciprocalNumerator 1 = .ok (.iconst 0, 1) := by decide +kernel
theorem dL_reciprocalNumerator_2 : decode cL_reciprocalNumerator 2 = .ok (.aload_n 0, 1) := by decide +kernel
theorem dL_reciprocalNumerator_3 : decode cL_reciprocalNumerator 3 = .ok (.iload_n 1, 1) := by decide +kernel
theorem dL_reciprocalNumerator_4 : decode cL_reciprocalNumerator 4 = .ok (.iload_n 2, 1) := by decide +kernel
theorem dL_reciprocalNumerator_5 : decode cL_reciprocalNumerator 5 = .ok (.invokevirtual 47, 3) := by decide +kernel
theorem dL_reciprocalNumerator_8 : decode cL_reciprocalNumerator 8 = .ok (.lastore, 1) := by decide +kernel
theorem dL_reciprocalNumerator_9 : decode cL_reciprocalNumerator 9 = .ok (.goto 7, 3) := by decide +kernel
theorem dL_reciprocalNumerator_12 : decode cL_reciprocalNumerator 12 = .ok (.astore 4, 2) := by decide +kernel
theorem dL_reciprocalNumerator_14 : decode cL_reciprocalNumerator 14 = .ok (.iconst 1, 1) := by decide +kernel
theorem dL_reciprocalNumerator_15 : decode cL_reciprocalNumerator 15 = .ok (.ireturn, 1) := by decide +kernel
theorem dL_reciprocalNumerator_16 : decode cL_reciprocalNumerator 16 = .ok (.iconst 0, 1) := by decide +kernel
theorem dL_reciprocalNumerator_17 : decode cL_reciprocalNumerator 17 = .ok (.ireturn, 1) := by decide +kernel
set_option maxRecDepth 20000 in
theorem ggL_reciprocalDenominator_X3_reciprocalDenominator : GoodIn wsL_reciprocalDenominator wsX3_reciprocalDenominator := goodIn_ca (goodIn_r _ [6, 7, 8, 9, 5, 10, 11, 12, 13, 14, 15, 16, 17, 18, 19, 20, 21, 22, 23, 24, 25, 26, 27, 28, 29, 30, 31, 32, 33, 34, 35, 36, 37, 38, 39, 40, 41, 42, 43, 44, 45, 46, 47, 48, 49, 50, 51, 52, 53, 54, 55, 56, 57, 58, 59, 60, 61, 62, 63, 64, 65, 66, 67, 68, 69, 70] (by decide +kernel) (by decide +kernel)) (goodIn_sub (fun _ h => List.mem_cons_of_mem _ (List.mem_append_right _ h)) (by decide +kernel))
set_option maxRecDepth 20000 in
theorem gL_reciprocalDenominator_X3_reciprocalDenominator : GoodIn wsL_reciprocalDenominator (wsV RL 51 RX3 yX3_reciprocalDenominator wsX3_reciprocalDenominator) := goodIn_app (goodIn_of _ (by decide +kernel)) ggL_reciprocalDenominator_X3_reciprocalDenominator
theorem dL_reciprocalDenominator_0 : decode cL_reciprocalDenominator 0 = .ok (.aload_n 3, 1) := by decide +kernel
theorem dL_reciprocalDenominator_1 : decode cL_reciprocalDenominator 1 = .ok (.iconst 0, 1) := by decide +kernel
theorem dL_reciprocalDenominator_2 : decode cL_reciprocalDenominator 2 = .ok (.aload_n 0, 1) := by decide +kernel
theorem dL_reciprocalDenominator_3 : decode cL_reciprocalDenominator 3 = .ok (.iload_n 1, 1) := by decide +kernel
theorem dL_reciprocalDenominator_4 : decode cL_reciprocalDenominator 4 = .ok (.iload_n 2, 1) := by decide +kernel
theorem dL_reciprocalDenominator_5 : decode cL_reciprocalDenominator 5 = .ok (.invokevirtual 51, 3) := by decide +kernel
theorem dL_reciprocalDenominator_8 : decode cL_reciprocalDenominator 8 = .ok (.lastore, 1) := by decide +kernel
theorem dL_reciprocalDenominator_9 : decode cL_reciprocalDenominator 9 = .ok (.goto 7, 3) := by decide +kernel
theorem dL_reciprocalDenominator_12 : decode cL_reciprocalDenominator 12 = .ok (.astore 4, 2) := by decide +kernel
theorem dL_reciprocalDenominator_14 : decode cL_reciprocalDenominator 14 = .ok (.iconst 1, 1) := by decide +kernel
theorem dL_reciprocalDenominator_15 : decode cL_reciprocalDenominator 15 = .ok (.ireturn, 1) := by decide +kernel
theorem dL_reciprocalDenominator_16 : decode cL_reciprocalDenominator 16 = .ok (.iconst 0, 1) := by decide +kernel
theorem dL_reciprocalDenominator_17 : decode cL_reciprocalDenominator 17 = .ok (.ireturn, 1) := by decide +kernel
set_option maxRecDepth 20000 in
theorem ggL_meanNumerator_X3_meanNumerator : GoodIn wsL_meanNumerator wsX3_meanNumerator := goodIn_ca (goodIn_r _ [6, 7, 8, 5, 9, 10, 11, 12, 13, 14, 15, 16, 17, 18, 19, 20, 21, 22, 23, 24, 25, 26, 27, 28, 29, 30, 31, 32, 33, 34, 35, 36, 37, 38, 39, 40, 41, 42, 43, 44, 45, 46, 47, 48, 49, 50, 51, 52, 53, 54, 55, 56, 57, 58, 59, 60, 61, 62, 63, 64, 65, 66, 67, 68, 69, 70, 71, 72, 73] (by decide +kernel) (by decide +kernel)) (goodIn_sub (fun _ h => List.mem_cons_of_mem _ (List.mem_append_right _ h)) (by decide +kernel))
set_option maxRecDepth 20000 in
theorem gL_meanNumerator_X3_meanNumerator : GoodIn wsL_meanNumerator (wsV RL 54 RX3 yX3_meanNumerator wsX3_meanNumerator) := goodIn_app (goodIn_of _ (by decide +kernel)) ggL_meanNumerator_X3_meanNumerator
theorem dL_meanNumerator_0 : decode cL_meanNumerator 0 = .ok (.aload_n 3, 1) := by decide +kernel
theorem dL_meanNumerator_1 : decode cL_meanNumerator 1 = .ok (.iconst 0, 1) := by decide +kernel
theorem dL_meanNumerator_2 : decode cL_meanNumerator 2 = .ok (.aload_n 0, 1) := by decide +kernel
theorem dL_meanNumerator_3 : decode cL_meanNumerator 3 = .ok (.iload_n 1, 1) := by decide +kernel
theorem dL_meanNumerator_4 : decode cL_meanNumerator 4 = .ok (.iload_n 2, 1) := by decide +kernel
theorem dL_meanNumerator_5 : decode cL_meanNumerator 5 = .ok (.invokevirtual 54, 3) := by decide +kernel
theorem dL_meanNumerator_8 : decode cL_meanNumerator 8 = .ok (.lastore, 1) := by decide +kernel
theorem dL_meanNumerator_9 : decode cL_meanNumerator 9 = .ok (.goto 7, 3) := by decide +kernel
theorem dL_meanNumerator_12 : decode cL_meanNumerator 12 = .ok (.astore 4, 2) := by decide +kernel
theorem dL_meanNumerator_14 : decode cL_meanNumerator 14 = .ok (.iconst 1, 1) := by decide +kernel
theorem dL_meanNumerator_15 : decode cL_meanNumerator 15 = .ok (.ireturn, 1) := by decide +kernel
theorem dL_meanNumerator_16 : decode cL_meanNumerator 16 = .ok (.iconst 0, 1) := by decide +kernel
theorem dL_meanNumerator_17 : decode cL_meanNumerator 17 = .ok (.ireturn, 1) := by decide +kernel
set_option maxRecDepth 20000 in
theorem ggL_meanDenominator_X3_meanDenominator : GoodIn wsL_meanDenominator wsX3_meanDenominator := goodIn_ca (goodIn_r _ [6, 7, 8, 5, 9, 10, 11, 12, 13, 14, 15, 16, 17, 18, 19, 20, 21, 22, 23, 24, 25, 26, 27, 28, 29, 30, 31, 32, 33, 34, 35, 36, 37, 38, 39, 40, 41, 42, 43, 44, 45, 46, 47, 48, 49, 50, 51, 52, 53, 54, 55, 56, 57, 58, 59, 60, 61, 62, 63, 64, 65, 66, 67, 68, 69, 70, 71, 72, 73] (by decide +kernel) (by decide +kernel)) (goodIn_sub (fun _ h => List.mem_cons_of_mem _ (List.mem_append_right _ h)) (by decide +kernel))
set_option maxRecDepth 20000 in
theorem gL_meanDenominator_X3_meanDenominator : GoodIn wsL_meanDenominator (wsV RL 57 RX3 yX3_meanDenominator wsX3_meanDenominator) := goodIn_app (goodIn_of _ (by decide +kernel)) ggL_meanDenominator_X3_meanDenominator
theorem dL_meanDenominator_0 : decode cL_meanDenominator 0 = .ok (.aload_n 3, 1) := by decide +kernel
theorem dL_meanDenominator_1 : decode cL_meanDenominator 1 = .ok (.iconst 0, 1) := by decide +kernel
theorem dL_meanDenominator_2 : decode cL_meanDenominator 2 = .ok (.aload_n 0, 1) := by decide +kernel
theorem dL_meanDenominator_3 : decode cL_meanDenominator 3 = .ok (.iload_n 1, 1) := by decide +kernel
theorem dL_meanDenominator_4 : decode cL_meanDenominator 4 = .ok (.iload_n 2, 1) := by decide +kernel
theorem dL_meanDenominator_5 : decode cL_meanDenominator 5 = .ok (.invokevirtual 57, 3) := by decide +kernel
theorem dL_meanDenominator_8 : decode cL_meanDenominator 8 = .ok (.lastore, 1) := by decide +kernel
theorem dL_meanDenominator_9 : decode cL_meanDenominator 9 = .ok (.goto 7, 3) := by decide +kernel
theorem dL_meanDenominator_12 : decode cL_meanDenominator 12 = .ok (.astore 4, 2) := by decide +kernel
theorem dL_meanDenominator_14 : decode cL_meanDenominator 14 = .ok (.iconst 1, 1) := by decide +kernel
theorem dL_meanDenominator_15 : decode cL_meanDenominator 15 = .ok (.ireturn, 1) := by decide +kernel
theorem dL_meanDenominator_16 : decode cL_meanDenominator 16 = .ok (.iconst 0, 1) := by decide +kernel
theorem dL_meanDenominator_17 : decode cL_meanDenominator 17 = .ok (.ireturn, 1) := by decide +kernel
set_option maxRecDepth 20000 in
theorem ggL_best_X3_best : GoodIn wsL_best wsX3_best := goodIn_ca (goodIn_r _ [6, 7, 8, 5, 9, 10, 11, 12, 13, 14, 15, 16, 17, 18, 19, 20, 21, 22, 23, 24, 25, 26, 27, 28, 29, 30, 31, 32, 33, 34, 35, 36, 37, 38, 39, 40, 41, 42, 43, 44, 45, 46, 47, 48, 49, 50, 51, 52, 53, 54, 55, 56, 57, 58, 59] (by decide +kernel) (by decide +kernel)) (goodIn_sub (fun _ h => List.mem_cons_of_mem _ (List.mem_append_right _ h)) (by decide +kernel))
set_option maxRecDepth 20000 in
theorem gL_best_X3_best : GoodIn wsL_best (wsV RL 60 RX3 yX3_best wsX3_best) := goodIn_app (goodIn_of _ (by decide +kernel)) ggL_best_X3_best
theorem dL_best_0 : decode cL_best 0 = .ok (.aload_n 2, 1) := by decide +kernel
theorem dL_best_1 : decode cL_best 1 = .ok (.iconst 0, 1) := by decide +kernel
theorem dL_best_2 : decode cL_best 2 = .ok (.aload_n 0, 1) := by decide +kernel
theorem dL_best_3 : decode cL_best 3 = .ok (.iload_n 1, 1) := by decide +kernel
theorem dL_best_4 : decode cL_best 4 = .ok (.invokevirtual 60, 3) := by decide +kernel
theorem dL_best_7 : decode cL_best 7 = .ok (.i2l, 1) := by decide +kernel
theorem dL_best_8 : decode cL_best 8 = .ok (.lastore, 1) := by decide +kernel
theorem dL_best_9 : decode cL_best 9 = .ok (.goto 6, 3) := by decide +kernel
theorem dL_best_12 : decode cL_best 12 = .ok (.astore_n 3, 1) := by decide +kernel
theorem dL_best_13 : decode cL_best 13 = .ok (.iconst 1, 1) := by decide +kernel
theorem dL_best_14 : decode cL_best 14 = .ok (.ireturn, 1) := by decide +kernel
theorem dL_best_15 : decode cL_best 15 = .ok (.iconst 0, 1) := by decide +kernel
theorem dL_best_16 : decode cL_best 16 = .ok (.ireturn, 1) := by decide +kernel
set_option maxRecDepth 20000 in
theorem ggL_cross_X3_cross : GoodIn wsL_cross wsX3_cross := goodIn_ca (goodIn_r _ [6, 7, 8, 9, 10, 11, 12, 5, 13, 14, 15, 16, 17, 18, 19, 20, 21, 22, 23, 24, 25, 26, 27, 28, 29, 30, 31, 32, 33, 34, 35, 36, 37, 38, 39, 40, 41, 42, 43, 44, 45, 46, 47, 48, 49, 50, 51, 52, 53, 54, 55, 56, 57, 58] (by decide +kernel) (by decide +kernel)) (goodIn_sub (fun _ h => List.mem_cons_of_mem _ (List.mem_append_right _ h)) (by decide +kernel))
set_option maxRecDepth 20000 in
theorem gL_cross_X3_cross : GoodIn wsL_cross (wsV RL 64 RX3 yX3_cross wsX3_cross) := goodIn_app (goodIn_of _ (by decide +kernel)) ggL_cross_X3_cross
theorem dL_cross_0 : decode cL_cross 0 = .ok (.aload 5, 2) := by decide +kernel
theorem dL_cross_2 : decode cL_cross 2 = .ok (.iconst 0, 1) := by decide +kernel
theorem dL_cross_3 : decode cL_cross 3 = .ok (.aload_n 0, 1) := by decide +kernel
theorem dL_cross_4 : decode cL_cross 4 = .ok (.iload_n 1, 1) := by decide +kernel
theorem dL_cross_5 : decode cL_cross 5 = .ok (.iload_n 2, 1) := by decide +kernel
theorem dL_cross_6 : decode cL_cross 6 = .ok (.iload_n 3, 1) := by decide +kernel
theorem dL_cross_7 : decode cL_cross 7 = .ok (.iload 4, 2) := by decide +kernel
theorem dL_cross_9 : decode cL_cross 9 = .ok (.invokevirtual 64, 3) := by decide +kernel
theorem dL_cross_12 : decode cL_cross 12 = .ok (.i2l, 1) := by decide +kernel
theorem dL_cross_13 : decode cL_cross 13 = .ok (.lastore, 1) := by decide +kernel
theorem dL_cross_14 : decode cL_cross 14 = .ok (.goto 7, 3) := by decide +kernel
theorem dL_cross_17 : decode cL_cross 17 = .ok (.astore 6, 2) := by decide +kernel
theorem dL_cross_19 : decode cL_cross 19 = .ok (.iconst 1, 1) := by decide +kernel
theorem dL_cross_20 : decode cL_cross 20 = .ok (.ireturn, 1) := by decide +kernel
theorem dL_cross_21 : decode cL_cross 21 = .ok (.iconst 0, 1) := by decide +kernel
theorem dL_cross_22 : decode cL_cross 22 = .ok (.ireturn, 1) := by decide +kernel
set_option maxRecDepth 20000 in
theorem ggL_crossed_X3_crossed : GoodIn wsL_crossed wsX3_crossed := goodIn_ca (goodIn_r _ [6, 7, 8, 9, 10, 5, 11, 12, 13, 14, 15, 16, 17, 18, 19, 20, 21] (by decide +kernel) (by decide +kernel)) (goodIn_sub (fun _ h => List.mem_cons_of_mem _ (List.mem_append_right _ h)) (by decide +kernel))
set_option maxRecDepth 20000 in
theorem gL_crossed_X3_crossed : GoodIn wsL_crossed (wsV RL 67 RX3 yX3_crossed wsX3_crossed) := goodIn_app (goodIn_of _ (by decide +kernel)) ggL_crossed_X3_crossed
theorem dL_crossed_0 : decode cL_crossed 0 = .ok (.aload_n 2, 1) := by decide +kernel
theorem dL_crossed_1 : decode cL_crossed 1 = .ok (.iconst 0, 1) := by decide +kernel
theorem dL_crossed_2 : decode cL_crossed 2 = .ok (.aload_n 0, 1) := by decide +kernel
theorem dL_crossed_3 : decode cL_crossed 3 = .ok (.iload_n 1, 1) := by decide +kernel
theorem dL_crossed_4 : decode cL_crossed 4 = .ok (.invokevirtual 67, 3) := by decide +kernel
theorem dL_crossed_7 : decode cL_crossed 7 = .ok (.i2l, 1) := by decide +kernel
theorem dL_crossed_8 : decode cL_crossed 8 = .ok (.lastore, 1) := by decide +kernel
theorem dL_crossed_9 : decode cL_crossed 9 = .ok (.goto 6, 3) := by decide +kernel
theorem dL_crossed_12 : decode cL_crossed 12 = .ok (.astore_n 3, 1) := by decide +kernel
theorem dL_crossed_13 : decode cL_crossed 13 = .ok (.iconst 1, 1) := by decide +kernel
theorem dL_crossed_14 : decode cL_crossed 14 = .ok (.ireturn, 1) := by decide +kernel
theorem dL_crossed_15 : decode cL_crossed 15 = .ok (.iconst 0, 1) := by decide +kernel
theorem dL_crossed_16 : decode cL_crossed 16 = .ok (.ireturn, 1) := by decide +kernel
set_option maxRecDepth 20000 in
theorem ggL_click_X3_click : GoodIn wsL_click wsX3_click := goodIn_ca (goodIn_ca (goodIn_r _ [7, 8, 9, 10, 11, 12, 13, 6, 14, 15, 16, 17, 18, 19, 20, 21, 22, 23, 24] (by decide +kernel) (by decide +kernel)) (goodIn_sub (fun _ h => List.mem_cons_of_mem _ (List.mem_append_left _ (List.mem_append_right _ h))) (by decide +kernel))) (goodIn_sub (fun _ h => List.mem_cons_of_mem _ (List.mem_append_right _ h)) (by decide +kernel))
set_option maxRecDepth 20000 in
theorem gL_click_X3_click : GoodIn wsL_click (wsV RL 70 RX3 yX3_click wsX3_click) := goodIn_app (goodIn_of _ (by decide +kernel)) ggL_click_X3_click
theorem dL_click_0 : decode cL_click 0 = .ok (.aload_n 2, 1) := by decide +kernel
theorem dL_click_1 : decode cL_click 1 = .ok (.iconst 0, 1) := by decide +kernel
theorem dL_click_2 : decode cL_click 2 = .ok (.aload_n 0, 1) := by decide +kernel
theorem dL_click_3 : decode cL_click 3 = .ok (.iload_n 1, 1) := by decide +kernel
theorem dL_click_4 : decode cL_click 4 = .ok (.invokevirtual 70, 3) := by decide +kernel
theorem dL_click_7 : decode cL_click 7 = .ok (.i2l, 1) := by decide +kernel
theorem dL_click_8 : decode cL_click 8 = .ok (.lastore, 1) := by decide +kernel
theorem dL_click_9 : decode cL_click 9 = .ok (.goto 9, 3) := by decide +kernel
theorem dL_click_12 : decode cL_click 12 = .ok (.astore_n 3, 1) := by decide +kernel
theorem dL_click_13 : decode cL_click 13 = .ok (.iconst 1, 1) := by decide +kernel
theorem dL_click_14 : decode cL_click 14 = .ok (.ireturn, 1) := by decide +kernel
theorem dL_click_15 : decode cL_click 15 = .ok (.astore_n 3, 1) := by decide +kernel
theorem dL_click_16 : decode cL_click 16 = .ok (.iconst 2, 1) := by decide +kernel
theorem dL_click_17 : decode cL_click 17 = .ok (.ireturn, 1) := by decide +kernel
theorem dL_click_18 : decode cL_click 18 = .ok (.iconst 0, 1) := by decide +kernel
theorem dL_click_19 : decode cL_click 19 = .ok (.ireturn, 1) := by decide +kernel
set_option maxRecDepth 20000 in
theorem ggL_credit_X3_credit : GoodIn wsL_credit wsX3_credit := goodIn_ca (goodIn_r _ [6, 7, 8, 9, 5, 10, 11, 12, 13, 14, 15, 16, 17, 18, 19, 20, 21, 22, 23, 24, 25, 26, 27] (by decide +kernel) (by decide +kernel)) (goodIn_sub (fun _ h => List.mem_cons_of_mem _ (List.mem_append_right _ h)) (by decide +kernel))
set_option maxRecDepth 20000 in
theorem gL_credit_X3_credit : GoodIn wsL_credit (wsV RL 73 RX3 yX3_credit wsX3_credit) := goodIn_app (goodIn_of _ (by decide +kernel)) ggL_credit_X3_credit
theorem dL_credit_0 : decode cL_credit 0 = .ok (.aload_n 2, 1) := by decide +kernel
theorem dL_credit_1 : decode cL_credit 1 = .ok (.iconst 0, 1) := by decide +kernel
theorem dL_credit_2 : decode cL_credit 2 = .ok (.aload_n 0, 1) := by decide +kernel
theorem dL_credit_3 : decode cL_credit 3 = .ok (.iload_n 1, 1) := by decide +kernel
theorem dL_credit_4 : decode cL_credit 4 = .ok (.invokevirtual 73, 3) := by decide +kernel
theorem dL_credit_7 : decode cL_credit 7 = .ok (.i2l, 1) := by decide +kernel
theorem dL_credit_8 : decode cL_credit 8 = .ok (.lastore, 1) := by decide +kernel
theorem dL_credit_9 : decode cL_credit 9 = .ok (.goto 6, 3) := by decide +kernel
theorem dL_credit_12 : decode cL_credit 12 = .ok (.astore_n 3, 1) := by decide +kernel
theorem dL_credit_13 : decode cL_credit 13 = .ok (.iconst 1, 1) := by decide +kernel
theorem dL_credit_14 : decode cL_credit 14 = .ok (.ireturn, 1) := by decide +kernel
theorem dL_credit_15 : decode cL_credit 15 = .ok (.iconst 0, 1) := by decide +kernel
theorem dL_credit_16 : decode cL_credit 16 = .ok (.ireturn, 1) := by decide +kernel
set_option maxRecDepth 20000 in
theorem ggL_sum_X3_sum : GoodIn wsL_sum wsX3_sum := goodIn_ca (goodIn_r _ [6, 7, 8, 5, 9, 10, 11, 12, 13, 14, 15, 16, 17, 18, 19, 20, 21, 22, 23, 24, 25, 26, 27, 28, 29, 30, 31, 32, 33, 34, 35, 36, 37, 38, 39, 40, 41, 42, 43, 44, 45, 46, 47, 48, 49, 50, 51] (by decide +kernel) (by decide +kernel)) (goodIn_sub (fun _ h => List.mem_cons_of_mem _ (List.mem_append_right _ h)) (by decide +kernel))
set_option maxRecDepth 20000 in
theorem gL_sum_X3_sum : GoodIn wsL_sum (wsV RL 76 RX3 yX3_sum wsX3_sum) := goodIn_app (goodIn_of _ (by decide +kernel)) ggL_sum_X3_sum
theorem dL_sum_0 : decode cL_sum 0 = .ok (.aload 4, 2) := by decide +kernel
theorem dL_sum_2 : decode cL_sum 2 = .ok (.iconst 0, 1) := by decide +kernel
theorem dL_sum_3 : decode cL_sum 3 = .ok (.aload_n 0, 1) := by decide +kernel
theorem dL_sum_4 : decode cL_sum 4 = .ok (.iload_n 1, 1) := by decide +kernel
theorem dL_sum_5 : decode cL_sum 5 = .ok (.iload_n 2, 1) := by decide +kernel
theorem dL_sum_6 : decode cL_sum 6 = .ok (.iload_n 3, 1) := by decide +kernel
theorem dL_sum_7 : decode cL_sum 7 = .ok (.invokevirtual 76, 3) := by decide +kernel
theorem dL_sum_10 : decode cL_sum 10 = .ok (.i2l, 1) := by decide +kernel
theorem dL_sum_11 : decode cL_sum 11 = .ok (.lastore, 1) := by decide +kernel
theorem dL_sum_12 : decode cL_sum 12 = .ok (.goto 7, 3) := by decide +kernel
theorem dL_sum_15 : decode cL_sum 15 = .ok (.astore 5, 2) := by decide +kernel
theorem dL_sum_17 : decode cL_sum 17 = .ok (.iconst 1, 1) := by decide +kernel
theorem dL_sum_18 : decode cL_sum 18 = .ok (.ireturn, 1) := by decide +kernel
theorem dL_sum_19 : decode cL_sum 19 = .ok (.iconst 0, 1) := by decide +kernel
theorem dL_sum_20 : decode cL_sum 20 = .ok (.ireturn, 1) := by decide +kernel
set_option maxRecDepth 20000 in
theorem ggL_test_X3_test : GoodIn wsL_test wsX3_test := goodIn_ca (goodIn_r _ [6, 7, 8, 9, 10, 11, 12, 5, 13, 14, 15, 16, 17, 18, 19, 20, 21, 22, 23, 24, 25, 26, 27, 28, 29, 30, 31, 32, 33, 34, 35, 36, 37, 38, 39, 40, 41, 42, 43, 44, 45, 46, 47, 48, 49, 50, 51, 52, 53, 54, 55] (by decide +kernel) (by decide +kernel)) (goodIn_sub (fun _ h => List.mem_cons_of_mem _ (List.mem_append_right _ h)) (by decide +kernel))
set_option maxRecDepth 20000 in
theorem gL_test_X3_test : GoodIn wsL_test (wsV RL 79 RX3 yX3_test wsX3_test) := goodIn_app (goodIn_of _ (by decide +kernel)) ggL_test_X3_test
theorem dL_test_0 : decode cL_test 0 = .ok (.aload 4, 2) := by decide +kernel
theorem dL_test_2 : decode cL_test 2 = .ok (.iconst 0, 1) := by decide +kernel
theorem dL_test_3 : decode cL_test 3 = .ok (.aload_n 0, 1) := by decide +kernel
theorem dL_test_4 : decode cL_test 4 = .ok (.iload_n 1, 1) := by decide +kernel
theorem dL_test_5 : decode cL_test 5 = .ok (.iload_n 2, 1) := by decide +kernel
theorem dL_test_6 : decode cL_test 6 = .ok (.iload_n 3, 1) := by decide +kernel
theorem dL_test_7 : decode cL_test 7 = .ok (.invokevirtual 79, 3) := by decide +kernel
theorem dL_test_10 : decode cL_test 10 = .ok (.i2l, 1) := by decide +kernel
theorem dL_test_11 : decode cL_test 11 = .ok (.lastore, 1) := by decide +kernel
theorem dL_test_12 : decode cL_test 12 = .ok (.goto 7, 3) := by decide +kernel
theorem dL_test_15 : decode cL_test 15 = .ok (.astore 5, 2) := by decide +kernel
theorem dL_test_17 : decode cL_test 17 = .ok (.iconst 1, 1) := by decide +kernel
theorem dL_test_18 : decode cL_test 18 = .ok (.ireturn, 1) := by decide +kernel
theorem dL_test_19 : decode cL_test 19 = .ok (.iconst 0, 1) := by decide +kernel
theorem dL_test_20 : decode cL_test 20 = .ok (.ireturn, 1) := by decide +kernel
set_option maxRecDepth 20000 in
theorem ggL_law_X3_init : GoodIn wsL_law wsX3_init := goodIn_r _ [9, 10, 11, 12, 13, 14, 15, 16, 17, 18, 19, 20, 21, 22, 23, 24, 25, 26, 27, 28, 29, 30, 31, 32, 33, 34, 35, 36, 37, 38, 39, 40, 41, 42, 515, 516, 517, 528, 529, 530, 531, 532, 533, 534, 535, 536, 537] (by decide +kernel) (by decide +kernel)
set_option maxRecDepth 20000 in
theorem gL_law_X3_init : GoodIn wsL_law (wsX3_init) := ggL_law_X3_init
set_option maxRecDepth 20000 in
theorem ggL_law_X4_init : GoodIn wsL_law wsX4_init := goodIn_r _ [45, 46, 11, 12, 21, 47, 48, 49, 50, 51, 52, 518, 519, 520, 521, 522, 523, 524, 525, 526, 527] (by decide +kernel) (by decide +kernel)
set_option maxRecDepth 20000 in
theorem gL_law_X4_init : GoodIn wsL_law (wsX4_init) := ggL_law_X4_init
set_option maxRecDepth 20000 in
theorem ggL_law_L_append : GoodIn wsL_law wsL_append := goodIn_ca (goodIn_ca (goodIn_r _ [56, 57, 58, 59, 60, 61, 2, 62, 63, 64, 65, 66, 14, 67, 68, 69, 70, 71, 72, 73, 74, 75, 76, 29, 77, 78, 79, 34, 80, 81, 82, 35, 83, 84, 85, 515, 516, 517, 528, 529, 535, 536, 537] (by decide +kernel) (by decide +kernel)) (goodIn_sub (fun _ h => List.mem_append_left _ (List.mem_append_right _ h)) (by decide +kernel))) (goodIn_sub (fun _ h => List.mem_append_right _ h) (by decide +kernel))
set_option maxRecDepth 20000 in
theorem gL_law_L_append : GoodIn wsL_law (va_wsS RL 86 yL_append wsL_append) := goodIn_app (goodIn_of _ (by decide +kernel)) ggL_law_L_append
set_option maxRecDepth 20000 in
theorem ggL_law_X4_append : GoodIn wsL_law wsX4_append := goodIn_r _ [89, 47, 48, 90, 91, 92, 5, 93, 94, 95, 96, 97, 98, 99, 100, 101, 102, 103, 104, 105, 518, 519, 520, 521, 522, 523, 524, 525, 526, 527] (by decide +kernel) (by decide +kernel)
set_option maxRecDepth 20000 in
theorem gL_law_X4_append : GoodIn wsL_law (wsV RL 91 RX4 yX4_append wsX4_append) := goodIn_app (goodIn_of _ (by decide +kernel)) ggL_law_X4_append
set_option maxRecDepth 20000 in
theorem ggL_law_X4_thrown : GoodIn wsL_law wsX4_thrown := goodIn_r _ [109, 94, 518, 519, 520, 521, 522, 523, 524, 525, 526, 527] (by decide +kernel) (by decide +kernel)
set_option maxRecDepth 20000 in
theorem gL_law_X4_thrown : GoodIn wsL_law (wsV RL 92 RX4 yX4_thrown wsX4_thrown) := goodIn_app (goodIn_of _ (by decide +kernel)) ggL_law_X4_thrown
set_option maxRecDepth 20000 in
theorem ggL_law_L_empty : GoodIn wsL_law wsL_empty := goodIn_ca (goodIn_r _ [112, 57, 113, 114, 115, 2, 116, 14, 67, 68, 69, 63, 64, 70, 71, 72, 515, 516, 517, 528, 529, 535, 536, 537] (by decide +kernel) (by decide +kernel)) (goodIn_sub (fun _ h => List.mem_append_left _ (List.mem_append_right _ h)) (by decide +kernel))
set_option maxRecDepth 20000 in
theorem gL_law_L_empty : GoodIn wsL_law (va_wsS RL 96 yL_empty wsL_empty) := goodIn_app (goodIn_of _ (by decide +kernel)) ggL_law_L_empty
set_option maxRecDepth 20000 in
theorem ggL_law_X4_empty : GoodIn wsL_law wsX4_empty := goodIn_r _ [120, 47, 90, 91, 92, 5, 93, 94, 95, 96, 97, 518, 519, 520, 521, 522, 523, 524, 525, 526, 527] (by decide +kernel) (by decide +kernel)
set_option maxRecDepth 20000 in
theorem gL_law_X4_empty : GoodIn wsL_law (wsV RL 99 RX4 yX4_empty wsX4_empty) := goodIn_app (goodIn_of _ (by decide +kernel)) ggL_law_X4_empty
set_option maxRecDepth 20000 in
theorem ggL_law_L_length : GoodIn wsL_law wsL_length := goodIn_ca (goodIn_r _ [123, 57, 124, 125, 126, 2, 127, 14, 67, 68, 69, 63, 64, 70, 71, 72, 515, 516, 517, 528, 529, 535, 536, 537] (by decide +kernel) (by decide +kernel)) (goodIn_sub (fun _ h => List.mem_append_left _ (List.mem_append_right _ h)) (by decide +kernel))
set_option maxRecDepth 20000 in
theorem gL_law_L_length : GoodIn wsL_law (va_wsS RL 100 yL_length wsL_length) := goodIn_app (goodIn_of _ (by decide +kernel)) ggL_law_L_length
set_option maxRecDepth 20000 in
theorem ggL_law_X4_length : GoodIn wsL_law wsX4_length := goodIn_r _ [131, 47, 90, 91, 92, 5, 93, 94, 95, 96, 97, 518, 519, 520, 521, 522, 523, 524, 525, 526, 527] (by decide +kernel) (by decide +kernel)
set_option maxRecDepth 20000 in
theorem gL_law_X4_length : GoodIn wsL_law (wsV RL 102 RX4 yX4_length wsX4_length) := goodIn_app (goodIn_of _ (by decide +kernel)) ggL_law_X4_length
set_option maxRecDepth 20000 in
theorem ggL_law_L_at : GoodIn wsL_law wsL_at := goodIn_ca (goodIn_r _ [134, 57, 135, 136, 137, 2, 138, 14, 67, 68, 69, 63, 64, 70, 71, 72, 139, 140, 141, 142, 29, 143, 144, 79, 34, 515, 516, 517, 528, 529, 535, 536, 537] (by decide +kernel) (by decide +kernel)) (goodIn_sub (fun _ h => List.mem_append_left _ (List.mem_append_right _ h)) (by decide +kernel))
set_option maxRecDepth 20000 in
theorem gL_law_L_at : GoodIn wsL_law (va_wsS RL 103 yL_at wsL_at) := goodIn_app (goodIn_of _ (by decide +kernel)) ggL_law_L_at
set_option maxRecDepth 20000 in
theorem ggL_law_X4_at : GoodIn wsL_law wsX4_at := goodIn_r _ [148, 47, 48, 149, 150, 151, 5, 152, 94, 90, 91, 92, 93, 95, 96, 97, 518, 519, 520, 521, 522, 523, 524, 525, 526, 527] (by decide +kernel) (by decide +kernel)
set_option maxRecDepth 20000 in
theorem gL_law_X4_at : GoodIn wsL_law (wsV RL 106 RX4 yX4_at wsX4_at) := goodIn_app (goodIn_of _ (by decide +kernel)) ggL_law_X4_at
set_option maxRecDepth 20000 in
theorem ggL_law_L_judge : GoodIn wsL_law wsL_judge := goodIn_ca (goodIn_r _ [155, 57, 156, 157, 158, 2, 159, 63, 64, 14, 70, 71, 72, 73, 74, 75, 515, 516, 517, 528, 529] (by decide +kernel) (by decide +kernel)) (goodIn_sub (fun _ h => List.mem_append_left _ (List.mem_append_right _ h)) (by decide +kernel))
set_option maxRecDepth 20000 in
theorem gL_law_L_judge : GoodIn wsL_law (va_wsS RL 107 yL_judge wsL_judge) := goodIn_app (goodIn_of _ (by decide +kernel)) ggL_law_L_judge
set_option maxRecDepth 20000 in
theorem ggL_law_X4_judge : GoodIn wsL_law wsX4_judge := goodIn_r _ [163, 94, 49, 95, 96, 5, 97, 518, 519, 520, 521, 522, 523, 524, 525, 526, 527] (by decide +kernel) (by decide +kernel)
set_option maxRecDepth 20000 in
theorem gL_law_X4_judge : GoodIn wsL_law (wsV RL 109 RX4 yX4_judge wsX4_judge) := goodIn_app (goodIn_of _ (by decide +kernel)) ggL_law_X4_judge
set_option maxRecDepth 20000 in
theorem ggL_law_L_pool : GoodIn wsL_law wsL_pool := goodIn_ca (goodIn_r _ [166, 57, 167, 168, 169, 2, 170, 14, 70, 71, 72, 63, 64, 139, 140, 141, 171, 16, 172, 173, 174, 175, 176, 177, 27, 76, 29, 77, 78, 79, 34, 515, 516, 517, 528, 529, 535, 536, 537] (by decide +kernel) (by decide +kernel)) (goodIn_sub (fun _ h => List.mem_append_left _ (List.mem_append_right _ h)) (by decide +kernel))
set_option maxRecDepth 20000 in
theorem gL_law_L_pool : GoodIn wsL_law (va_wsS RL 110 yL_pool wsL_pool) := goodIn_app (goodIn_of _ (by decide +kernel)) ggL_law_L_pool
set_option maxRecDepth 20000 in
theorem ggL_law_X4_pool : GoodIn wsL_law wsX4_pool := goodIn_r _ [181, 182, 183, 184, 5, 185, 94, 95, 96, 97, 186, 187, 188, 189, 47, 102, 103, 104, 105, 48, 518, 519, 520, 521, 522, 523, 524, 525, 526, 527] (by decide +kernel) (by decide +kernel)
set_option maxRecDepth 20000 in
theorem gL_law_X4_pool : GoodIn wsL_law (wsV RL 112 RX4 yX4_pool wsX4_pool) := goodIn_app (goodIn_of _ (by decide +kernel)) ggL_law_X4_pool
set_option maxRecDepth 20000 in
theorem ggL_law_L_toJudge : GoodIn wsL_law wsL_toJudge := goodIn_ca (goodIn_r _ [192, 57, 193, 194, 195, 2, 196, 14, 70, 71, 72, 63, 64, 139, 140, 141, 197, 16, 198, 199, 30, 174, 175, 176, 177, 27, 76, 29, 77, 78, 79, 34, 515, 516, 517, 528, 529, 535, 536, 537] (by decide +kernel) (by decide +kernel)) (goodIn_sub (fun _ h => List.mem_append_left _ (List.mem_append_right _ h)) (by decide +kernel))
set_option maxRecDepth 20000 in
theorem gL_law_L_toJudge : GoodIn wsL_law (va_wsS RL 113 yL_toJudge wsL_toJudge) := goodIn_app (goodIn_of _ (by decide +kernel)) ggL_law_L_toJudge
set_option maxRecDepth 20000 in
theorem ggL_law_X4_toJudge : GoodIn wsL_law wsX4_toJudge := goodIn_r _ [203, 49, 182, 183, 184, 5, 185, 94, 95, 96, 97, 186, 187, 188, 189, 47, 102, 103, 104, 105, 48, 518, 519, 520, 521, 522, 523, 524, 525, 526, 527] (by decide +kernel) (by decide +kernel)
set_option maxRecDepth 20000 in
theorem gL_law_X4_toJudge : GoodIn wsL_law (wsV RL 115 RX4 yX4_toJudge wsX4_toJudge) := goodIn_app (goodIn_of _ (by decide +kernel)) ggL_law_X4_toJudge
set_option maxRecDepth 20000 in
theorem ggL_law_L_hits : GoodIn wsL_law wsL_hits := goodIn_ca (goodIn_r _ [206, 57, 207, 208, 209, 2, 210, 67, 68, 69, 63, 64, 70, 71, 72, 139, 140, 141, 211, 212, 213, 214, 14, 215, 16, 216, 217, 218, 219, 220, 221, 30, 142, 29, 143, 144, 79, 34, 515, 516, 517, 528, 529, 535, 536, 537] (by decide +kernel) (by decide +kernel)) (goodIn_sub (fun _ h => List.mem_append_left _ (List.mem_append_right _ h)) (by decide +kernel))
set_option maxRecDepth 20000 in
theorem gL_law_L_hits : GoodIn wsL_law (va_wsS RL 116 yL_hits wsL_hits) := goodIn_app (goodIn_of _ (by decide +kernel)) ggL_law_L_hits
set_option maxRecDepth 20000 in
theorem ggL_law_X4_hits : GoodIn wsL_law wsX4_hits := goodIn_r _ [225, 149, 150, 151, 5, 152, 94, 90, 91, 92, 93, 95, 96, 97, 226, 227, 228, 229, 47, 49, 48, 518, 519, 520, 521, 522, 523, 524, 525, 526, 527] (by decide +kernel) (by decide +kernel)
set_option maxRecDepth 20000 in
theorem gL_law_X4_hits : GoodIn wsL_law (wsV RL 118 RX4 yX4_hits wsX4_hits) := goodIn_app (goodIn_of _ (by decide +kernel)) ggL_law_X4_hits
set_option maxRecDepth 20000 in
theorem ggL_law_L_precisionNumerator : GoodIn wsL_law wsL_precisionNumerator := goodIn_ca (goodIn_r _ [232, 57, 233, 234, 235, 2, 236, 14, 237, 67, 68, 69, 63, 64, 70, 71, 72, 139, 140, 141, 238, 16, 239, 240, 27, 218, 219, 220, 221, 30, 142, 29, 143, 144, 79, 34, 241, 242, 243, 35, 244, 245, 246, 247, 248, 249, 250, 251, 252, 253, 254, 255, 256, 257, 258, 259, 260, 515, 516, 517, 528, 529, 535, 536, 537] (by decide +kernel) (by decide +kernel)) (goodIn_sub (fun _ h => List.mem_append_left _ (List.mem_append_right _ h)) (by decide +kernel))
set_option maxRecDepth 20000 in
theorem gL_law_L_precisionNumerator : GoodIn wsL_law (va_wsS RL 119 yL_precisionNumerator wsL_precisionNumerator) := goodIn_app (goodIn_of _ (by decide +kernel)) ggL_law_L_precisionNumerator
set_option maxRecDepth 20000 in
theorem ggL_law_X4_precisionNumerator : GoodIn wsL_law wsX4_precisionNumerator := goodIn_r _ [264, 265, 266, 267, 268, 5, 269, 270, 271, 149, 150, 151, 152, 94, 90, 91, 92, 93, 95, 96, 97, 272, 273, 274, 275, 47, 276, 277, 278, 279, 48, 226, 227, 228, 229, 49, 280, 281, 282, 283, 518, 519, 520, 521, 522, 523, 524, 525, 526, 527] (by decide +kernel) (by decide +kernel)
set_option maxRecDepth 20000 in
theorem gL_law_X4_precisionNumerator : GoodIn wsL_law (wsV RL 121 RX4 yX4_precisionNumerator wsX4_precisionNumerator) := goodIn_app (goodIn_of _ (by decide +kernel)) ggL_law_X4_precisionNumerator
set_option maxRecDepth 20000 in
theorem ggL_law_L_precisionDenominator : GoodIn wsL_law wsL_precisionDenominator := goodIn_ca (goodIn_r _ [286, 57, 287, 288, 289, 2, 290, 237, 14, 67, 68, 69, 63, 64, 70, 71, 72, 139, 140, 141, 238, 16, 239, 240, 27, 218, 219, 220, 221, 30, 142, 29, 143, 144, 79, 34, 241, 242, 243, 35, 244, 245, 246, 247, 248, 249, 250, 251, 252, 253, 254, 255, 256, 257, 258, 259, 260, 515, 516, 517, 528, 529, 535, 536, 537] (by decide +kernel) (by decide +kernel)) (goodIn_sub (fun _ h => List.mem_append_left _ (List.mem_append_right _ h)) (by decide +kernel))
set_option maxRecDepth 20000 in
theorem gL_law_L_precisionDenominator : GoodIn wsL_law (va_wsS RL 122 yL_precisionDenominator wsL_precisionDenominator) := goodIn_app (goodIn_of _ (by decide +kernel)) ggL_law_L_precisionDenominator
set_option maxRecDepth 20000 in
theorem ggL_law_X4_precisionDenominator : GoodIn wsL_law wsX4_precisionDenominator := goodIn_r _ [294, 271, 266, 267, 268, 5, 269, 265, 270, 149, 150, 151, 152, 94, 90, 91, 92, 93, 95, 96, 97, 272, 273, 274, 275, 47, 276, 277, 278, 279, 48, 226, 227, 228, 229, 49, 280, 281, 282, 283, 518, 519, 520, 521, 522, 523, 524, 525, 526, 527] (by decide +kernel) (by decide +kernel)
set_option maxRecDepth 20000 in
theorem gL_law_X4_precisionDenominator : GoodIn wsL_law (wsV RL 124 RX4 yX4_precisionDenominator wsX4_precisionDenominator) := goodIn_app (goodIn_of _ (by decide +kernel)) ggL_law_X4_precisionDenominator
set_option maxRecDepth 20000 in
theorem ggL_law_L_reciprocalNumerator : GoodIn wsL_law wsL_reciprocalNumerator := goodIn_ca (goodIn_r _ [297, 57, 298, 299, 300, 2, 301, 14, 67, 68, 69, 63, 64, 70, 71, 72, 302, 16, 303, 304, 27, 305, 306, 252, 307, 254, 308, 309, 310, 311, 218, 219, 220, 221, 30, 142, 29, 143, 144, 79, 34, 241, 242, 243, 35, 244, 245, 246, 312, 215, 216, 217, 313, 314, 315, 316, 317, 255, 256, 257, 258, 259, 260, 515, 516, 517, 528, 529, 535, 536, 537] (by decide +kernel) (by decide +kernel)) (goodIn_sub (fun _ h => List.mem_append_left _ (List.mem_append_right _ h)) (by decide +kernel))
set_option maxRecDepth 20000 in
theorem gL_law_L_reciprocalNumerator : GoodIn wsL_law (va_wsS RL 125 yL_reciprocalNumerator wsL_reciprocalNumerator) := goodIn_app (goodIn_of _ (by decide +kernel)) ggL_law_L_reciprocalNumerator
set_option maxRecDepth 20000 in
theorem ggL_law_X4_reciprocalNumerator : GoodIn wsL_law wsX4_reciprocalNumerator := goodIn_r _ [321, 265, 322, 323, 324, 5, 325, 47, 271, 270, 90, 91, 92, 93, 94, 95, 96, 97, 276, 277, 278, 279, 48, 226, 227, 228, 229, 49, 326, 327, 328, 280, 281, 282, 283, 518, 519, 520, 521, 522, 523, 524, 525, 526, 527] (by decide +kernel) (by decide +kernel)
set_option maxRecDepth 20000 in
theorem gL_law_X4_reciprocalNumerator : GoodIn wsL_law (wsV RL 127 RX4 yX4_reciprocalNumerator wsX4_reciprocalNumerator) := goodIn_app (goodIn_of _ (by decide +kernel)) ggL_law_X4_reciprocalNumerator
set_option maxRecDepth 20000 in
theorem ggL_law_L_reciprocalDenominator : GoodIn wsL_law wsL_reciprocalDenominator := goodIn_ca (goodIn_r _ [331, 57, 332, 333, 334, 2, 335, 14, 67, 68, 69, 63, 64, 70, 71, 72, 315, 16, 316, 317, 27, 254, 308, 309, 310, 311, 218, 219, 220, 221, 30, 142, 29, 143, 144, 79, 34, 241, 242, 243, 35, 244, 245, 246, 312, 215, 216, 217, 313, 314, 302, 303, 304, 305, 306, 252, 307, 255, 256, 257, 258, 259, 260, 515, 516, 517, 528, 529, 535, 536, 537] (by decide +kernel) (by decide +kernel)) (goodIn_sub (fun _ h => List.mem_append_left _ (List.mem_append_right _ h)) (by decide +kernel))
set_option maxRecDepth 20000 in
theorem gL_law_L_reciprocalDenominator : GoodIn wsL_law (va_wsS RL 128 yL_reciprocalDenominator wsL_reciprocalDenominator) := goodIn_app (goodIn_of _ (by decide +kernel)) ggL_law_L_reciprocalDenominator
set_option maxRecDepth 20000 in
theorem ggL_law_X4_reciprocalDenominator : GoodIn wsL_law wsX4_reciprocalDenominator := goodIn_r _ [339, 271, 322, 323, 324, 5, 325, 47, 265, 270, 90, 91, 92, 93, 94, 95, 96, 97, 276, 277, 278, 279, 48, 226, 227, 228, 229, 49, 326, 327, 328, 280, 281, 282, 283, 518, 519, 520, 521, 522, 523, 524, 525, 526, 527] (by decide +kernel) (by decide +kernel)
set_option maxRecDepth 20000 in
theorem gL_law_X4_reciprocalDenominator : GoodIn wsL_law (wsV RL 130 RX4 yX4_reciprocalDenominator wsX4_reciprocalDenominator) := goodIn_app (goodIn_of _ (by decide +kernel)) ggL_law_X4_reciprocalDenominator
set_option maxRecDepth 20000 in
theorem ggL_law_L_meanNumerator : GoodIn wsL_law wsL_meanNumerator := goodIn_ca (goodIn_r _ [342, 57, 343, 344, 345, 2, 346, 67, 68, 69, 63, 64, 139, 140, 141, 347, 348, 349, 350, 14, 238, 16, 239, 240, 27, 218, 219, 220, 221, 30, 142, 29, 143, 144, 79, 34, 241, 242, 243, 35, 244, 245, 246, 247, 248, 249, 250, 251, 252, 253, 254, 351, 352, 353, 354, 237, 355, 356, 357, 358, 255, 256, 257, 258, 259, 260, 515, 516, 517, 528, 529, 535, 536, 537] (by decide +kernel) (by decide +kernel)) (goodIn_sub (fun _ h => List.mem_append_left _ (List.mem_append_right _ h)) (by decide +kernel))
set_option maxRecDepth 20000 in
theorem gL_law_L_meanNumerator : GoodIn wsL_law (va_wsS RL 131 yL_meanNumerator wsL_meanNumerator) := goodIn_app (goodIn_of _ (by decide +kernel)) ggL_law_L_meanNumerator
set_option maxRecDepth 20000 in
theorem ggL_law_X4_meanNumerator : GoodIn wsL_law wsX4_meanNumerator := goodIn_r _ [362, 265, 363, 364, 365, 5, 366, 270, 271, 149, 150, 151, 152, 94, 90, 91, 92, 93, 95, 96, 97, 367, 368, 369, 370, 47, 371, 372, 373, 374, 272, 273, 274, 275, 276, 277, 278, 279, 48, 226, 227, 228, 229, 49, 280, 281, 282, 283, 518, 519, 520, 521, 522, 523, 524, 525, 526, 527] (by decide +kernel) (by decide +kernel)
set_option maxRecDepth 20000 in
theorem gL_law_X4_meanNumerator : GoodIn wsL_law (wsV RL 133 RX4 yX4_meanNumerator wsX4_meanNumerator) := goodIn_app (goodIn_of _ (by decide +kernel)) ggL_law_X4_meanNumerator
set_option maxRecDepth 20000 in
theorem ggL_law_L_meanDenominator : GoodIn wsL_law wsL_meanDenominator := goodIn_ca (goodIn_r _ [377, 57, 378, 379, 380, 2, 381, 67, 68, 69, 63, 64, 139, 140, 141, 351, 352, 353, 354, 237, 355, 356, 357, 358, 14, 347, 348, 349, 350, 238, 16, 239, 240, 27, 218, 219, 220, 221, 30, 142, 29, 143, 144, 79, 34, 241, 242, 243, 35, 244, 245, 246, 247, 248, 249, 250, 251, 252, 253, 254, 255, 256, 257, 258, 259, 260, 515, 516, 517, 528, 529, 535, 536, 537] (by decide +kernel) (by decide +kernel)) (goodIn_sub (fun _ h => List.mem_append_left _ (List.mem_append_right _ h)) (by decide +kernel))
set_option maxRecDepth 20000 in
theorem gL_law_L_meanDenominator : GoodIn wsL_law (va_wsS RL 134 yL_meanDenominator wsL_meanDenominator) := goodIn_app (goodIn_of _ (by decide +kernel)) ggL_law_L_meanDenominator
set_option maxRecDepth 20000 in
theorem ggL_law_X4_meanDenominator : GoodIn wsL_law wsX4_meanDenominator := goodIn_r _ [385, 271, 363, 364, 365, 5, 366, 265, 270, 149, 150, 151, 152, 94, 90, 91, 92, 93, 95, 96, 97, 367, 368, 369, 370, 47, 371, 372, 373, 374, 272, 273, 274, 275, 276, 277, 278, 279, 48, 226, 227, 228, 229, 49, 280, 281, 282, 283, 518, 519, 520, 521, 522, 523, 524, 525, 526, 527] (by decide +kernel) (by decide +kernel)
set_option maxRecDepth 20000 in
theorem gL_law_X4_meanDenominator : GoodIn wsL_law (wsV RL 136 RX4 yX4_meanDenominator wsX4_meanDenominator) := goodIn_app (goodIn_of _ (by decide +kernel)) ggL_law_X4_meanDenominator
set_option maxRecDepth 20000 in
theorem ggL_law_L_best : GoodIn wsL_law wsL_best := goodIn_ca (goodIn_r _ [388, 57, 389, 390, 391, 2, 392, 139, 140, 141, 63, 64, 347, 348, 349, 350, 14, 238, 16, 239, 240, 27, 218, 219, 220, 221, 30, 142, 29, 143, 144, 79, 34, 241, 242, 243, 35, 244, 245, 246, 247, 248, 249, 250, 251, 252, 253, 254, 355, 356, 357, 358, 515, 516, 517, 528, 529, 535, 536, 537] (by decide +kernel) (by decide +kernel)) (goodIn_sub (fun _ h => List.mem_append_left _ (List.mem_append_right _ h)) (by decide +kernel))
set_option maxRecDepth 20000 in
theorem gL_law_L_best : GoodIn wsL_law (va_wsS RL 137 yL_best wsL_best) := goodIn_app (goodIn_of _ (by decide +kernel)) ggL_law_L_best
set_option maxRecDepth 20000 in
theorem ggL_law_X4_best : GoodIn wsL_law wsX4_best := goodIn_r _ [396, 94, 95, 96, 5, 97, 371, 372, 373, 374, 272, 273, 274, 275, 47, 270, 276, 277, 278, 279, 48, 226, 227, 228, 229, 49, 367, 368, 369, 370, 518, 519, 520, 521, 522, 523, 524, 525, 526, 527] (by decide +kernel) (by decide +kernel)
set_option maxRecDepth 20000 in
theorem gL_law_X4_best : GoodIn wsL_law (wsV RL 140 RX4 yX4_best wsX4_best) := goodIn_app (goodIn_of _ (by decide +kernel)) ggL_law_X4_best
set_option maxRecDepth 20000 in
theorem ggL_law_L_cross : GoodIn wsL_law wsL_cross := goodIn_ca (goodIn_r _ [399, 57, 400, 401, 402, 2, 403, 63, 64, 14, 20, 67, 68, 69, 70, 71, 72, 139, 140, 141, 404, 19, 405, 406, 407, 251, 252, 253, 408, 409, 410, 411, 412, 39, 40, 42, 142, 29, 143, 144, 79, 34, 413, 414, 415, 416, 515, 516, 517, 528, 529, 530, 531, 532, 533, 534, 535, 536, 537] (by decide +kernel) (by decide +kernel)) (goodIn_sub (fun _ h => List.mem_append_left _ (List.mem_append_right _ h)) (by decide +kernel))
set_option maxRecDepth 20000 in
theorem gL_law_L_cross : GoodIn wsL_law (va_wsS RL 141 yL_cross wsL_cross) := goodIn_app (goodIn_of _ (by decide +kernel)) ggL_law_L_cross
set_option maxRecDepth 20000 in
theorem ggL_law_X4_cross : GoodIn wsL_law wsX4_cross := goodIn_r _ [420, 94, 421, 95, 96, 5, 97, 422, 423, 424, 425, 47, 48, 50, 51, 52, 426, 427, 428, 429, 518, 519, 520, 521, 522, 523, 524, 525, 526, 527] (by decide +kernel) (by decide +kernel)
set_option maxRecDepth 20000 in
theorem gL_law_X4_cross : GoodIn wsL_law (wsV RL 143 RX4 yX4_cross wsX4_cross) := goodIn_app (goodIn_of _ (by decide +kernel)) ggL_law_X4_cross
set_option maxRecDepth 20000 in
theorem ggL_law_L_crossed : GoodIn wsL_law wsL_crossed := goodIn_ca (goodIn_r _ [432, 57, 433, 434, 435, 2, 436, 20, 437, 438, 439, 440, 63, 64, 515, 516, 517, 530, 531, 532, 533, 534] (by decide +kernel) (by decide +kernel)) (goodIn_sub (fun _ h => List.mem_append_left _ (List.mem_append_right _ h)) (by decide +kernel))
set_option maxRecDepth 20000 in
theorem gL_law_L_crossed : GoodIn wsL_law (va_wsS RL 144 yL_crossed wsL_crossed) := goodIn_app (goodIn_of _ (by decide +kernel)) ggL_law_L_crossed
set_option maxRecDepth 20000 in
theorem ggL_law_X4_crossed : GoodIn wsL_law wsX4_crossed := goodIn_r _ [444, 50, 445, 446, 447, 5, 448, 421, 94, 95, 96, 97, 518, 519, 520, 521, 522, 523, 524, 525, 526, 527] (by decide +kernel) (by decide +kernel)
set_option maxRecDepth 20000 in
theorem gL_law_X4_crossed : GoodIn wsL_law (wsV RL 146 RX4 yX4_crossed wsX4_crossed) := goodIn_app (goodIn_of _ (by decide +kernel)) ggL_law_X4_crossed
set_option maxRecDepth 20000 in
theorem ggL_law_L_click : GoodIn wsL_law wsL_click := goodIn_ca (goodIn_ca (goodIn_r _ [451, 57, 58, 452, 453, 454, 2, 455, 65, 66, 20, 437, 438, 439, 440, 63, 64, 515, 516, 517, 530, 531, 532, 533, 534] (by decide +kernel) (by decide +kernel)) (goodIn_sub (fun _ h => List.mem_append_right _ h) (by decide +kernel))) (goodIn_sub (fun _ h => List.mem_append_left _ (List.mem_append_right _ h)) (by decide +kernel))
set_option maxRecDepth 20000 in
theorem gL_law_L_click : GoodIn wsL_law (va_wsS RL 147 yL_click wsL_click) := goodIn_app (goodIn_of _ (by decide +kernel)) ggL_law_L_click
set_option maxRecDepth 20000 in
theorem ggL_law_X4_click : GoodIn wsL_law wsX4_click := goodIn_r _ [459, 52, 51, 445, 446, 447, 5, 448, 421, 94, 95, 96, 97, 98, 99, 100, 101, 518, 519, 520, 521, 522, 523, 524, 525, 526, 527] (by decide +kernel) (by decide +kernel)
set_option maxRecDepth 20000 in
theorem gL_law_X4_click : GoodIn wsL_law (wsV RL 149 RX4 yX4_click wsX4_click) := goodIn_app (goodIn_of _ (by decide +kernel)) ggL_law_X4_click
set_option maxRecDepth 20000 in
theorem ggL_law_L_credit : GoodIn wsL_law wsL_credit := goodIn_ca (goodIn_r _ [462, 57, 463, 464, 465, 2, 466, 20, 67, 68, 69, 63, 64, 467, 19, 468, 469, 409, 42, 40, 515, 516, 517, 530, 531, 532, 533, 534] (by decide +kernel) (by decide +kernel)) (goodIn_sub (fun _ h => List.mem_append_left _ (List.mem_append_right _ h)) (by decide +kernel))
set_option maxRecDepth 20000 in
theorem gL_law_L_credit : GoodIn wsL_law (va_wsS RL 150 yL_credit wsL_credit) := goodIn_app (goodIn_of _ (by decide +kernel)) ggL_law_L_credit
set_option maxRecDepth 20000 in
theorem ggL_law_X4_credit : GoodIn wsL_law wsX4_credit := goodIn_r _ [473, 94, 421, 52, 51, 95, 96, 5, 97, 518, 519, 520, 521, 522, 523, 524, 525, 526, 527] (by decide +kernel) (by decide +kernel)
set_option maxRecDepth 20000 in
theorem gL_law_X4_credit : GoodIn wsL_law (wsV RL 152 RX4 yX4_credit wsX4_credit) := goodIn_app (goodIn_of _ (by decide +kernel)) ggL_law_X4_credit
set_option maxRecDepth 20000 in
theorem ggL_law_L_sum : GoodIn wsL_law wsL_sum := goodIn_ca (goodIn_r _ [476, 57, 477, 478, 479, 2, 480, 67, 68, 69, 63, 64, 139, 140, 141, 481, 482, 483, 484, 22, 211, 212, 213, 214, 14, 215, 16, 216, 217, 218, 219, 220, 221, 30, 142, 29, 143, 144, 79, 34, 485, 486, 487, 488, 515, 516, 517, 528, 529, 535, 536, 537] (by decide +kernel) (by decide +kernel)) (goodIn_sub (fun _ h => List.mem_append_left _ (List.mem_append_right _ h)) (by decide +kernel))
set_option maxRecDepth 20000 in
theorem gL_law_L_sum : GoodIn wsL_law (va_wsS RL 153 yL_sum wsL_sum) := goodIn_app (goodIn_of _ (by decide +kernel)) ggL_law_L_sum
set_option maxRecDepth 20000 in
theorem ggL_law_X4_sum : GoodIn wsL_law wsX4_sum := goodIn_r _ [492, 493, 494, 495, 5, 496, 94, 95, 96, 97, 497, 498, 499, 500, 226, 227, 228, 229, 47, 49, 48, 518, 519, 520, 521, 522, 523, 524, 525, 526, 527] (by decide +kernel) (by decide +kernel)
set_option maxRecDepth 20000 in
theorem gL_law_X4_sum : GoodIn wsL_law (wsV RL 155 RX4 yX4_sum wsX4_sum) := goodIn_app (goodIn_of _ (by decide +kernel)) ggL_law_X4_sum
set_option maxRecDepth 20000 in
theorem ggL_law_L_test : GoodIn wsL_law wsL_test := goodIn_ca (goodIn_r _ [503, 57, 504, 505, 506, 2, 507, 508, 509, 252, 510, 67, 68, 69, 63, 64, 139, 140, 141, 481, 482, 483, 484, 22, 211, 212, 213, 214, 14, 215, 16, 216, 217, 218, 219, 220, 221, 30, 142, 29, 143, 144, 79, 34, 485, 486, 487, 488, 515, 516, 517, 528, 529, 535, 536, 537] (by decide +kernel) (by decide +kernel)) (goodIn_sub (fun _ h => List.mem_append_left _ (List.mem_append_right _ h)) (by decide +kernel))
set_option maxRecDepth 20000 in
theorem gL_law_L_test : GoodIn wsL_law (va_wsS RL 156 yL_test wsL_test) := goodIn_app (goodIn_of _ (by decide +kernel)) ggL_law_L_test
set_option maxRecDepth 20000 in
theorem ggL_law_X4_test : GoodIn wsL_law wsX4_test := goodIn_r _ [514, 493, 494, 495, 5, 496, 94, 95, 96, 97, 497, 498, 499, 500, 226, 227, 228, 229, 47, 49, 48, 518, 519, 520, 521, 522, 523, 524, 525, 526, 527] (by decide +kernel) (by decide +kernel)
set_option maxRecDepth 20000 in
theorem gL_law_X4_test : GoodIn wsL_law (wsV RL 158 RX4 yX4_test wsX4_test) := goodIn_app (goodIn_of _ (by decide +kernel)) ggL_law_X4_test
theorem dL_law_0 : decode cL_law 0 = .ok (.new 8, 3) := by decide +kernel
theorem dL_law_3 : decode cL_law 3 = .ok (.dup, 1) := by decide +kernel
theorem dL_law_4 : decode cL_law 4 = .ok (.invokespecial 82, 3) := by decide +kernel
theorem dL_law_7 : decode cL_law 7 = .ok (.astore_n 1, 1) := by decide +kernel
theorem dL_law_8 : decode cL_law 8 = .ok (.new 83, 3) := by decide +kernel
theorem dL_law_11 : decode cL_law 11 = .ok (.dup, 1) := by decide +kernel
theorem dL_law_12 : decode cL_law 12 = .ok (.invokespecial 85, 3) := by decide +kernel
theorem dL_law_15 : decode cL_law 15 = .ok (.astore_n 2, 1) := by decide +kernel
theorem dL_law_16 : decode cL_law 16 = .ok (.iconst 1, 1) := by decide +kernel
theorem dL_law_17 : decode cL_law 17 = .ok (.newarray .long, 2) := by decide +kernel
theorem dL_law_19 : decode cL_law 19 = .ok (.astore_n 3, 1) := by decide +kernel
theorem dL_law_20 : decode cL_law 20 = .ok (.iconst 0, 1) := by decide +kernel
theorem dL_law_21 : decode cL_law 21 = .ok (.istore 4, 2) := by decide +kernel
theorem dL_law_23 : decode cL_law 23 = .ok (.iload 4, 2) := by decide +kernel
theorem dL_law_25 : decode cL_law 25 = .ok (.aload_n 0, 1) := by decide +kernel
theorem dL_law_26 : decode cL_law 26 = .ok (.arraylength, 1) := by decide +kernel
theorem dL_law_27 : decode cL_law 27 = .ok (.iconst 5, 1) := by decide +kernel
theorem dL_law_28 : decode cL_law 28 = .ok (.isub, 1) := by decide +kernel
theorem dL_law_29 : decode cL_law 29 = .ok (.if_icmp .gt 1619, 3) := by decide +kernel
theorem dL_law_32 : decode cL_law 32 = .ok (.aload_n 0, 1) := by decide +kernel
theorem dL_law_33 : decode cL_law 33 = .ok (.iload 4, 2) := by decide +kernel
theorem dL_law_35 : decode cL_law 35 = .ok (.iaload, 1) := by decide +kernel
theorem dL_law_36 : decode cL_law 36 = .ok (.bipush 31, 2) := by decide +kernel
theorem dL_law_38 : decode cL_law 38 = .ok (.iand, 1) := by decide +kernel
theorem dL_law_39 : decode cL_law 39 = .ok (.tableswitch 1603 0 20 #[97, 189, 257, 325, 405, 485, 553, 621, 701, 780, 859, 926, 993, 1060, 1127, 1183, 1275, 1331, 1387, 1443, 1523], 97) := by decide +kernel
theorem dL_law_136 : decode cL_law 136 = .ok (.aload_n 1, 1) := by decide +kernel
theorem dL_law_137 : decode cL_law 137 = .ok (.aload_n 0, 1) := by decide +kernel
theorem dL_law_138 : decode cL_law 138 = .ok (.iload 4, 2) := by decide +kernel
theorem dL_law_140 : decode cL_law 140 = .ok (.iconst 1, 1) := by decide +kernel
theorem dL_law_141 : decode cL_law 141 = .ok (.iadd, 1) := by decide +kernel
theorem dL_law_142 : decode cL_law 142 = .ok (.iaload, 1) := by decide +kernel
theorem dL_law_143 : decode cL_law 143 = .ok (.aload_n 0, 1) := by decide +kernel
theorem dL_law_144 : decode cL_law 144 = .ok (.iload 4, 2) := by decide +kernel
theorem dL_law_146 : decode cL_law 146 = .ok (.iconst 2, 1) := by decide +kernel
theorem dL_law_147 : decode cL_law 147 = .ok (.iadd, 1) := by decide +kernel
theorem dL_law_148 : decode cL_law 148 = .ok (.iaload, 1) := by decide +kernel
theorem dL_law_149 : decode cL_law 149 = .ok (.aload_n 0, 1) := by decide +kernel
theorem dL_law_150 : decode cL_law 150 = .ok (.iload 4, 2) := by decide +kernel
theorem dL_law_152 : decode cL_law 152 = .ok (.iconst 3, 1) := by decide +kernel
theorem dL_law_153 : decode cL_law 153 = .ok (.iadd, 1) := by decide +kernel
theorem dL_law_154 : decode cL_law 154 = .ok (.iaload, 1) := by decide +kernel
theorem dL_law_155 : decode cL_law 155 = .ok (.aload_n 0, 1) := by decide +kernel
theorem dL_law_156 : decode cL_law 156 = .ok (.iload 4, 2) := by decide +kernel
theorem dL_law_158 : decode cL_law 158 = .ok (.iconst 4, 1) := by decide +kernel
theorem dL_law_159 : decode cL_law 159 = .ok (.iadd, 1) := by decide +kernel
theorem dL_law_160 : decode cL_law 160 = .ok (.iaload, 1) := by decide +kernel
theorem dL_law_161 : decode cL_law 161 = .ok (.aload_n 3, 1) := by decide +kernel
theorem dL_law_162 : decode cL_law 162 = .ok (.invokestatic 86, 3) := by decide +kernel
theorem dL_law_165 : decode cL_law 165 = .ok (.istore 5, 2) := by decide +kernel
theorem dL_law_167 : decode cL_law 167 = .ok (.aload_n 2, 1) := by decide +kernel
theorem dL_law_168 : decode cL_law 168 = .ok (.aload_n 0, 1) := by decide +kernel
theorem dL_law_169 : decode cL_law 169 = .ok (.iload 4, 2) := by decide +kernel
theorem dL_law_171 : decode cL_law 171 = .ok (.iconst 1, 1) := by decide +kernel
theorem dL_law_172 : decode cL_law 172 = .ok (.iadd, 1) := by decide +kernel
theorem dL_law_173 : decode cL_law 173 = .ok (.iaload, 1) := by decide +kernel
theorem dL_law_174 : decode cL_law 174 = .ok (.aload_n 0, 1) := by decide +kernel
theorem dL_law_175 : decode cL_law 175 = .ok (.iload 4, 2) := by decide +kernel
theorem dL_law_177 : decode cL_law 177 = .ok (.iconst 2, 1) := by decide +kernel
theorem dL_law_178 : decode cL_law 178 = .ok (.iadd, 1) := by decide +kernel
theorem dL_law_179 : decode cL_law 179 = .ok (.iaload, 1) := by decide +kernel
theorem dL_law_180 : decode cL_law 180 = .ok (.aload_n 0, 1) := by decide +kernel
theorem dL_law_181 : decode cL_law 181 = .ok (.iload 4, 2) := by decide +kernel
theorem dL_law_183 : decode cL_law 183 = .ok (.iconst 3, 1) := by decide +kernel
theorem dL_law_184 : decode cL_law 184 = .ok (.iadd, 1) := by decide +kernel
theorem dL_law_185 : decode cL_law 185 = .ok (.iaload, 1) := by decide +kernel
theorem dL_law_186 : decode cL_law 186 = .ok (.aload_n 0, 1) := by decide +kernel
theorem dL_law_187 : decode cL_law 187 = .ok (.iload 4, 2) := by decide +kernel
theorem dL_law_189 : decode cL_law 189 = .ok (.iconst 4, 1) := by decide +kernel
theorem dL_law_190 : decode cL_law 190 = .ok (.iadd, 1) := by decide +kernel
theorem dL_law_191 : decode cL_law 191 = .ok (.iaload, 1) := by decide +kernel
theorem dL_law_192 : decode cL_law 192 = .ok (.invokevirtual 91, 3) := by decide +kernel
theorem dL_law_195 : decode cL_law 195 = .ok (.istore 6, 2) := by decide +kernel
theorem dL_law_197 : decode cL_law 197 = .ok (.aload_n 2, 1) := by decide +kernel
theorem dL_law_198 : decode cL_law 198 = .ok (.invokevirtual 92, 3) := by decide +kernel
theorem dL_law_201 : decode cL_law 201 = .ok (.iload 5, 2) := by decide +kernel
theorem dL_law_203 : decode cL_law 203 = .ok (.if_icmp .eq 5, 3) := by decide +kernel
theorem dL_law_206 : decode cL_law 206 = .ok (.iconst 0, 1) := by decide +kernel
theorem dL_law_207 : decode cL_law 207 = .ok (.ireturn, 1) := by decide +kernel
theorem dL_law_208 : decode cL_law 208 = .ok (.iload 5, 2) := by decide +kernel
theorem dL_law_210 : decode cL_law 210 = .ok (.ifCond .ne 15, 3) := by decide +kernel
theorem dL_law_213 : decode cL_law 213 = .ok (.aload_n 3, 1) := by decide +kernel
theorem dL_law_214 : decode cL_law 214 = .ok (.iconst 0, 1) := by decide +kernel
theorem dL_law_215 : decode cL_law 215 = .ok (.laload, 1) := by decide +kernel
theorem dL_law_216 : decode cL_law 216 = .ok (.iload 6, 2) := by decide +kernel
theorem dL_law_218 : decode cL_law 218 = .ok (.i2l, 1) := by decide +kernel
theorem dL_law_219 : decode cL_law 219 = .ok (.lcmp, 1) := by decide +kernel
theorem dL_law_220 : decode cL_law 220 = .ok (.ifCond .eq 5, 3) := by decide +kernel
theorem dL_law_223 : decode cL_law 223 = .ok (.iconst 0, 1) := by decide +kernel
theorem dL_law_224 : decode cL_law 224 = .ok (.ireturn, 1) := by decide +kernel
theorem dL_law_225 : decode cL_law 225 = .ok (.goto 1417, 3) := by decide +kernel
theorem dL_law_228 : decode cL_law 228 = .ok (.aload_n 1, 1) := by decide +kernel
theorem dL_law_229 : decode cL_law 229 = .ok (.aload_n 0, 1) := by decide +kernel
theorem dL_law_230 : decode cL_law 230 = .ok (.iload 4, 2) := by decide +kernel
theorem dL_law_232 : decode cL_law 232 = .ok (.iconst 1, 1) := by decide +kernel
theorem dL_law_233 : decode cL_law 233 = .ok (.iadd, 1) := by decide +kernel
theorem dL_law_234 : decode cL_law 234 = .ok (.iaload, 1) := by decide +kernel
theorem dL_law_235 : decode cL_law 235 = .ok (.aload_n 0, 1) := by decide +kernel
theorem dL_law_236 : decode cL_law 236 = .ok (.iload 4, 2) := by decide +kernel
theorem dL_law_238 : decode cL_law 238 = .ok (.iconst 2, 1) := by decide +kernel
theorem dL_law_239 : decode cL_law 239 = .ok (.iadd, 1) := by decide +kernel
theorem dL_law_240 : decode cL_law 240 = .ok (.iaload, 1) := by decide +kernel
theorem dL_law_241 : decode cL_law 241 = .ok (.aload_n 3, 1) := by decide +kernel
theorem dL_law_242 : decode cL_law 242 = .ok (.invokestatic 96, 3) := by decide +kernel
theorem dL_law_245 : decode cL_law 245 = .ok (.istore 5, 2) := by decide +kernel
theorem dL_law_247 : decode cL_law 247 = .ok (.aload_n 2, 1) := by decide +kernel
theorem dL_law_248 : decode cL_law 248 = .ok (.aload_n 0, 1) := by decide +kernel
theorem dL_law_249 : decode cL_law 249 = .ok (.iload 4, 2) := by decide +kernel
theorem dL_law_251 : decode cL_law 251 = .ok (.iconst 1, 1) := by decide +kernel
theorem dL_law_252 : decode cL_law 252 = .ok (.iadd, 1) := by decide +kernel
theorem dL_law_253 : decode cL_law 253 = .ok (.iaload, 1) := by decide +kernel
theorem dL_law_254 : decode cL_law 254 = .ok (.aload_n 0, 1) := by decide +kernel
theorem dL_law_255 : decode cL_law 255 = .ok (.iload 4, 2) := by decide +kernel
theorem dL_law_257 : decode cL_law 257 = .ok (.iconst 2, 1) := by decide +kernel
theorem dL_law_258 : decode cL_law 258 = .ok (.iadd, 1) := by decide +kernel
theorem dL_law_259 : decode cL_law 259 = .ok (.iaload, 1) := by decide +kernel
theorem dL_law_260 : decode cL_law 260 = .ok (.invokevirtual 99, 3) := by decide +kernel
theorem dL_law_263 : decode cL_law 263 = .ok (.istore 6, 2) := by decide +kernel
theorem dL_law_265 : decode cL_law 265 = .ok (.aload_n 2, 1) := by decide +kernel
theorem dL_law_266 : decode cL_law 266 = .ok (.invokevirtual 92, 3) := by decide +kernel
theorem dL_law_269 : decode cL_law 269 = .ok (.iload 5, 2) := by decide +kernel
theorem dL_law_271 : decode cL_law 271 = .ok (.if_icmp .eq 5, 3) := by decide +kernel
theorem dL_law_274 : decode cL_law 274 = .ok (.iconst 0, 1) := by decide +kernel
theorem dL_law_275 : decode cL_law 275 = .ok (.ireturn, 1) := by decide +kernel
theorem dL_law_276 : decode cL_law 276 = .ok (.iload 5, 2) := by decide +kernel
theorem dL_law_278 : decode cL_law 278 = .ok (.ifCond .ne 15, 3) := by decide +kernel
theorem dL_law_281 : decode cL_law 281 = .ok (.aload_n 3, 1) := by decide +kernel
theorem dL_law_282 : decode cL_law 282 = .ok (.iconst 0, 1) := by decide +kernel
theorem dL_law_283 : decode cL_law 283 = .ok (.laload, 1) := by decide +kernel
theorem dL_law_284 : decode cL_law 284 = .ok (.iload 6, 2) := by decide +kernel
theorem dL_law_286 : decode cL_law 286 = .ok (.i2l, 1) := by decide +kernel
theorem dL_law_287 : decode cL_law 287 = .ok (.lcmp, 1) := by decide +kernel
theorem dL_law_288 : decode cL_law 288 = .ok (.ifCond .eq 5, 3) := by decide +kernel
theorem dL_law_291 : decode cL_law 291 = .ok (.iconst 0, 1) := by decide +kernel
theorem dL_law_292 : decode cL_law 292 = .ok (.ireturn, 1) := by decide +kernel
theorem dL_law_293 : decode cL_law 293 = .ok (.goto 1349, 3) := by decide +kernel
theorem dL_law_296 : decode cL_law 296 = .ok (.aload_n 1, 1) := by decide +kernel
theorem dL_law_297 : decode cL_law 297 = .ok (.aload_n 0, 1) := by decide +kernel
theorem dL_law_298 : decode cL_law 298 = .ok (.iload 4, 2) := by decide +kernel
theorem dL_law_300 : decode cL_law 300 = .ok (.iconst 1, 1) := by decide +kernel
theorem dL_law_301 : decode cL_law 301 = .ok (.iadd, 1) := by decide +kernel
theorem dL_law_302 : decode cL_law 302 = .ok (.iaload, 1) := by decide +kernel
theorem dL_law_303 : decode cL_law 303 = .ok (.aload_n 0, 1) := by decide +kernel
theorem dL_law_304 : decode cL_law 304 = .ok (.iload 4, 2) := by decide +kernel
theorem dL_law_306 : decode cL_law 306 = .ok (.iconst 2, 1) := by decide +kernel
theorem dL_law_307 : decode cL_law 307 = .ok (.iadd, 1) := by decide +kernel
theorem dL_law_308 : decode cL_law 308 = .ok (.iaload, 1) := by decide +kernel
theorem dL_law_309 : decode cL_law 309 = .ok (.aload_n 3, 1) := by decide +kernel
theorem dL_law_310 : decode cL_law 310 = .ok (.invokestatic 100, 3) := by decide +kernel
theorem dL_law_313 : decode cL_law 313 = .ok (.istore 5, 2) := by decide +kernel
theorem dL_law_315 : decode cL_law 315 = .ok (.aload_n 2, 1) := by decide +kernel
theorem dL_law_316 : decode cL_law 316 = .ok (.aload_n 0, 1) := by decide +kernel
theorem dL_law_317 : decode cL_law 317 = .ok (.iload 4, 2) := by decide +kernel
theorem dL_law_319 : decode cL_law 319 = .ok (.iconst 1, 1) := by decide +kernel
theorem dL_law_320 : decode cL_law 320 = .ok (.iadd, 1) := by decide +kernel
theorem dL_law_321 : decode cL_law 321 = .ok (.iaload, 1) := by decide +kernel
theorem dL_law_322 : decode cL_law 322 = .ok (.aload_n 0, 1) := by decide +kernel
theorem dL_law_323 : decode cL_law 323 = .ok (.iload 4, 2) := by decide +kernel
theorem dL_law_325 : decode cL_law 325 = .ok (.iconst 2, 1) := by decide +kernel
theorem dL_law_326 : decode cL_law 326 = .ok (.iadd, 1) := by decide +kernel
theorem dL_law_327 : decode cL_law 327 = .ok (.iaload, 1) := by decide +kernel
theorem dL_law_328 : decode cL_law 328 = .ok (.invokevirtual 102, 3) := by decide +kernel
theorem dL_law_331 : decode cL_law 331 = .ok (.istore 6, 2) := by decide +kernel
theorem dL_law_333 : decode cL_law 333 = .ok (.aload_n 2, 1) := by decide +kernel
theorem dL_law_334 : decode cL_law 334 = .ok (.invokevirtual 92, 3) := by decide +kernel
theorem dL_law_337 : decode cL_law 337 = .ok (.iload 5, 2) := by decide +kernel
theorem dL_law_339 : decode cL_law 339 = .ok (.if_icmp .eq 5, 3) := by decide +kernel
theorem dL_law_342 : decode cL_law 342 = .ok (.iconst 0, 1) := by decide +kernel
theorem dL_law_343 : decode cL_law 343 = .ok (.ireturn, 1) := by decide +kernel
theorem dL_law_344 : decode cL_law 344 = .ok (.iload 5, 2) := by decide +kernel
theorem dL_law_346 : decode cL_law 346 = .ok (.ifCond .ne 15, 3) := by decide +kernel
theorem dL_law_349 : decode cL_law 349 = .ok (.aload_n 3, 1) := by decide +kernel
theorem dL_law_350 : decode cL_law 350 = .ok (.iconst 0, 1) := by decide +kernel
theorem dL_law_351 : decode cL_law 351 = .ok (.laload, 1) := by decide +kernel
theorem dL_law_352 : decode cL_law 352 = .ok (.iload 6, 2) := by decide +kernel
theorem dL_law_354 : decode cL_law 354 = .ok (.i2l, 1) := by decide +kernel
theorem dL_law_355 : decode cL_law 355 = .ok (.lcmp, 1) := by decide +kernel
theorem dL_law_356 : decode cL_law 356 = .ok (.ifCond .eq 5, 3) := by decide +kernel
theorem dL_law_359 : decode cL_law 359 = .ok (.iconst 0, 1) := by decide +kernel
theorem dL_law_360 : decode cL_law 360 = .ok (.ireturn, 1) := by decide +kernel
theorem dL_law_361 : decode cL_law 361 = .ok (.goto 1281, 3) := by decide +kernel
theorem dL_law_364 : decode cL_law 364 = .ok (.aload_n 1, 1) := by decide +kernel
theorem dL_law_365 : decode cL_law 365 = .ok (.aload_n 0, 1) := by decide +kernel
theorem dL_law_366 : decode cL_law 366 = .ok (.iload 4, 2) := by decide +kernel
theorem dL_law_368 : decode cL_law 368 = .ok (.iconst 1, 1) := by decide +kernel
theorem dL_law_369 : decode cL_law 369 = .ok (.iadd, 1) := by decide +kernel
theorem dL_law_370 : decode cL_law 370 = .ok (.iaload, 1) := by decide +kernel
theorem dL_law_371 : decode cL_law 371 = .ok (.aload_n 0, 1) := by decide +kernel
theorem dL_law_372 : decode cL_law 372 = .ok (.iload 4, 2) := by decide +kernel
theorem dL_law_374 : decode cL_law 374 = .ok (.iconst 2, 1) := by decide +kernel
theorem dL_law_375 : decode cL_law 375 = .ok (.iadd, 1) := by decide +kernel
theorem dL_law_376 : decode cL_law 376 = .ok (.iaload, 1) := by decide +kernel
theorem dL_law_377 : decode cL_law 377 = .ok (.aload_n 0, 1) := by decide +kernel
theorem dL_law_378 : decode cL_law 378 = .ok (.iload 4, 2) := by decide +kernel
theorem dL_law_380 : decode cL_law 380 = .ok (.iconst 3, 1) := by decide +kernel
theorem dL_law_381 : decode cL_law 381 = .ok (.iadd, 1) := by decide +kernel
theorem dL_law_382 : decode cL_law 382 = .ok (.iaload, 1) := by decide +kernel
theorem dL_law_383 : decode cL_law 383 = .ok (.aload_n 3, 1) := by decide +kernel
theorem dL_law_384 : decode cL_law 384 = .ok (.invokestatic 103, 3) := by decide +kernel
theorem dL_law_387 : decode cL_law 387 = .ok (.istore 5, 2) := by decide +kernel
theorem dL_law_389 : decode cL_law 389 = .ok (.aload_n 2, 1) := by decide +kernel
theorem dL_law_390 : decode cL_law 390 = .ok (.aload_n 0, 1) := by decide +kernel
theorem dL_law_391 : decode cL_law 391 = .ok (.iload 4, 2) := by decide +kernel
theorem dL_law_393 : decode cL_law 393 = .ok (.iconst 1, 1) := by decide +kernel
theorem dL_law_394 : decode cL_law 394 = .ok (.iadd, 1) := by decide +kernel
theorem dL_law_395 : decode cL_law 395 = .ok (.iaload, 1) := by decide +kernel
theorem dL_law_396 : decode cL_law 396 = .ok (.aload_n 0, 1) := by decide +kernel
theorem dL_law_397 : decode cL_law 397 = .ok (.iload 4, 2) := by decide +kernel
theorem dL_law_399 : decode cL_law 399 = .ok (.iconst 2, 1) := by decide +kernel
theorem dL_law_400 : decode cL_law 400 = .ok (.iadd, 1) := by decide +kernel
theorem dL_law_401 : decode cL_law 401 = .ok (.iaload, 1) := by decide +kernel
theorem dL_law_402 : decode cL_law 402 = .ok (.aload_n 0, 1) := by decide +kernel
theorem dL_law_403 : decode cL_law 403 = .ok (.iload 4, 2) := by decide +kernel
theorem dL_law_405 : decode cL_law 405 = .ok (.iconst 3, 1) := by decide +kernel
theorem dL_law_406 : decode cL_law 406 = .ok (.iadd, 1) := by decide +kernel
theorem dL_law_407 : decode cL_law 407 = .ok (.iaload, 1) := by decide +kernel
theorem dL_law_408 : decode cL_law 408 = .ok (.invokevirtual 106, 3) := by decide +kernel
theorem dL_law_411 : decode cL_law 411 = .ok (.istore 6, 2) := by decide +kernel
theorem dL_law_413 : decode cL_law 413 = .ok (.aload_n 2, 1) := by decide +kernel
theorem dL_law_414 : decode cL_law 414 = .ok (.invokevirtual 92, 3) := by decide +kernel
theorem dL_law_417 : decode cL_law 417 = .ok (.iload 5, 2) := by decide +kernel
theorem dL_law_419 : decode cL_law 419 = .ok (.if_icmp .eq 5, 3) := by decide +kernel
theorem dL_law_422 : decode cL_law 422 = .ok (.iconst 0, 1) := by decide +kernel
theorem dL_law_423 : decode cL_law 423 = .ok (.ireturn, 1) := by decide +kernel
theorem dL_law_424 : decode cL_law 424 = .ok (.iload 5, 2) := by decide +kernel
theorem dL_law_426 : decode cL_law 426 = .ok (.ifCond .ne 15, 3) := by decide +kernel
theorem dL_law_429 : decode cL_law 429 = .ok (.aload_n 3, 1) := by decide +kernel
theorem dL_law_430 : decode cL_law 430 = .ok (.iconst 0, 1) := by decide +kernel
theorem dL_law_431 : decode cL_law 431 = .ok (.laload, 1) := by decide +kernel
theorem dL_law_432 : decode cL_law 432 = .ok (.iload 6, 2) := by decide +kernel
theorem dL_law_434 : decode cL_law 434 = .ok (.i2l, 1) := by decide +kernel
theorem dL_law_435 : decode cL_law 435 = .ok (.lcmp, 1) := by decide +kernel
theorem dL_law_436 : decode cL_law 436 = .ok (.ifCond .eq 5, 3) := by decide +kernel
theorem dL_law_439 : decode cL_law 439 = .ok (.iconst 0, 1) := by decide +kernel
theorem dL_law_440 : decode cL_law 440 = .ok (.ireturn, 1) := by decide +kernel
theorem dL_law_441 : decode cL_law 441 = .ok (.goto 1201, 3) := by decide +kernel
theorem dL_law_444 : decode cL_law 444 = .ok (.aload_n 1, 1) := by decide +kernel
theorem dL_law_445 : decode cL_law 445 = .ok (.aload_n 0, 1) := by decide +kernel
theorem dL_law_446 : decode cL_law 446 = .ok (.iload 4, 2) := by decide +kernel
theorem dL_law_448 : decode cL_law 448 = .ok (.iconst 1, 1) := by decide +kernel
theorem dL_law_449 : decode cL_law 449 = .ok (.iadd, 1) := by decide +kernel
theorem dL_law_450 : decode cL_law 450 = .ok (.iaload, 1) := by decide +kernel
theorem dL_law_451 : decode cL_law 451 = .ok (.aload_n 0, 1) := by decide +kernel
theorem dL_law_452 : decode cL_law 452 = .ok (.iload 4, 2) := by decide +kernel
theorem dL_law_454 : decode cL_law 454 = .ok (.iconst 2, 1) := by decide +kernel
theorem dL_law_455 : decode cL_law 455 = .ok (.iadd, 1) := by decide +kernel
theorem dL_law_456 : decode cL_law 456 = .ok (.iaload, 1) := by decide +kernel
theorem dL_law_457 : decode cL_law 457 = .ok (.aload_n 0, 1) := by decide +kernel
theorem dL_law_458 : decode cL_law 458 = .ok (.iload 4, 2) := by decide +kernel
theorem dL_law_460 : decode cL_law 460 = .ok (.iconst 3, 1) := by decide +kernel
theorem dL_law_461 : decode cL_law 461 = .ok (.iadd, 1) := by decide +kernel
theorem dL_law_462 : decode cL_law 462 = .ok (.iaload, 1) := by decide +kernel
theorem dL_law_463 : decode cL_law 463 = .ok (.aload_n 3, 1) := by decide +kernel
theorem dL_law_464 : decode cL_law 464 = .ok (.invokestatic 107, 3) := by decide +kernel
theorem dL_law_467 : decode cL_law 467 = .ok (.istore 5, 2) := by decide +kernel
theorem dL_law_469 : decode cL_law 469 = .ok (.aload_n 2, 1) := by decide +kernel
theorem dL_law_470 : decode cL_law 470 = .ok (.aload_n 0, 1) := by decide +kernel
theorem dL_law_471 : decode cL_law 471 = .ok (.iload 4, 2) := by decide +kernel
theorem dL_law_473 : decode cL_law 473 = .ok (.iconst 1, 1) := by decide +kernel
theorem dL_law_474 : decode cL_law 474 = .ok (.iadd, 1) := by decide +kernel
theorem dL_law_475 : decode cL_law 475 = .ok (.iaload, 1) := by decide +kernel
theorem dL_law_476 : decode cL_law 476 = .ok (.aload_n 0, 1) := by decide +kernel
theorem dL_law_477 : decode cL_law 477 = .ok (.iload 4, 2) := by decide +kernel
theorem dL_law_479 : decode cL_law 479 = .ok (.iconst 2, 1) := by decide +kernel
theorem dL_law_480 : decode cL_law 480 = .ok (.iadd, 1) := by decide +kernel
theorem dL_law_481 : decode cL_law 481 = .ok (.iaload, 1) := by decide +kernel
theorem dL_law_482 : decode cL_law 482 = .ok (.aload_n 0, 1) := by decide +kernel
theorem dL_law_483 : decode cL_law 483 = .ok (.iload 4, 2) := by decide +kernel
theorem dL_law_485 : decode cL_law 485 = .ok (.iconst 3, 1) := by decide +kernel
theorem dL_law_486 : decode cL_law 486 = .ok (.iadd, 1) := by decide +kernel
theorem dL_law_487 : decode cL_law 487 = .ok (.iaload, 1) := by decide +kernel
theorem dL_law_488 : decode cL_law 488 = .ok (.invokevirtual 109, 3) := by decide +kernel
theorem dL_law_491 : decode cL_law 491 = .ok (.istore 6, 2) := by decide +kernel
theorem dL_law_493 : decode cL_law 493 = .ok (.aload_n 2, 1) := by decide +kernel
theorem dL_law_494 : decode cL_law 494 = .ok (.invokevirtual 92, 3) := by decide +kernel
theorem dL_law_497 : decode cL_law 497 = .ok (.iload 5, 2) := by decide +kernel
theorem dL_law_499 : decode cL_law 499 = .ok (.if_icmp .eq 5, 3) := by decide +kernel
theorem dL_law_502 : decode cL_law 502 = .ok (.iconst 0, 1) := by decide +kernel
theorem dL_law_503 : decode cL_law 503 = .ok (.ireturn, 1) := by decide +kernel
