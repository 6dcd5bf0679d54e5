theorem dX3_append_0 : decode cX3_append 0 = .ok (.iload_n 1, 1) := by decide +kernel
theorem dX3_append_1 : decode cX3_append 1 = .ok (.invokestatic 27, 3) := by decide +kernel
theorem dX3_append_4 : decode cX3_append 4 = .ok (.iload_n 2, 1) := by decide +kernel
theorem dX3_append_5 : decode cX3_append 5 = .ok (.invokestatic 31, 3) := by decide +kernel
theorem dX3_append_8 : decode cX3_append 8 = .ok (.iload_n 3, 1) := by decide +kernel
theorem dX3_append_9 : decode cX3_append 9 = .ok (.invokestatic 34, 3) := by decide +kernel
theorem dX3_append_12 : decode cX3_append 12 = .ok (.iload 4, 2) := by decide +kernel
theorem dX3_append_14 : decode cX3_append 14 = .ok (.ifCond .lt 11, 3) := by decide +kernel
theorem dX3_append_17 : decode cX3_append 17 = .ok (.iload 4, 2) := by decide +kernel
theorem dX3_append_19 : decode cX3_append 19 = .ok (.sipush 1000, 3) := by decide +kernel
theorem dX3_append_22 : decode cX3_append 22 = .ok (.if_icmp .le 13, 3) := by decide +kernel
theorem dX3_append_25 : decode cX3_append 25 = .ok (.new 37, 3) := by decide +kernel
theorem dX3_append_28 : decode cX3_append 28 = .ok (.dup, 1) := by decide +kernel
theorem dX3_append_29 : decode cX3_append 29 = .ok (.ldc 39, 2) := by decide +kernel
theorem dX3_append_31 : decode cX3_append 31 = .ok (.invokespecial 41, 3) := by decide +kernel
theorem dX3_append_34 : decode cX3_append 34 = .ok (.athrow, 1) := by decide +kernel
theorem dX3_append_35 : decode cX3_append 35 = .ok (.aload_n 0, 1) := by decide +kernel
theorem dX3_append_36 : decode cX3_append 36 = .ok (.getfield 11, 3) := by decide +kernel
theorem dX3_append_39 : decode cX3_append 39 = .ok (.iload_n 2, 1) := by decide +kernel
theorem dX3_append_40 : decode cX3_append 40 = .ok (.aaload, 1) := by decide +kernel
theorem dX3_append_41 : decode cX3_append 41 = .ok (.getfield 44, 3) := by decide +kernel
theorem dX3_append_44 : decode cX3_append 44 = .ok (.iload_n 1, 1) := by decide +kernel
theorem dX3_append_45 : decode cX3_append 45 = .ok (.aaload, 1) := by decide +kernel
theorem dX3_append_46 : decode cX3_append 46 = .ok (.astore 5, 2) := by decide +kernel
theorem dX3_append_48 : decode cX3_append 48 = .ok (.aload 5, 2) := by decide +kernel
theorem dX3_append_50 : decode cX3_append 50 = .ok (.getfield 48, 3) := by decide +kernel
theorem dX3_append_53 : decode cX3_append 53 = .ok (.bipush 20, 2) := by decide +kernel
theorem dX3_append_55 : decode cX3_append 55 = .ok (.if_icmp .lt 13, 3) := by decide +kernel
theorem dX3_append_58 : decode cX3_append 58 = .ok (.new 54, 3) := by decide +kernel
theorem dX3_append_61 : decode cX3_append 61 = .ok (.dup, 1) := by decide +kernel
theorem dX3_append_62 : decode cX3_append 62 = .ok (.ldc 56, 2) := by decide +kernel
theorem dX3_append_64 : decode cX3_append 64 = .ok (.invokespecial 58, 3) := by decide +kernel
theorem dX3_append_67 : decode cX3_append 67 = .ok (.athrow, 1) := by decide +kernel
theorem dX3_append_68 : decode cX3_append 68 = .ok (.aload 5, 2) := by decide +kernel
theorem dX3_append_70 : decode cX3_append 70 = .ok (.iload_n 3, 1) := by decide +kernel
theorem dX3_append_71 : decode cX3_append 71 = .ok (.invokevirtual 59, 3) := by decide +kernel
theorem dX3_append_74 : decode cX3_append 74 = .ok (.iconst (-1), 1) := by decide +kernel
theorem dX3_append_75 : decode cX3_append 75 = .ok (.if_icmp .eq 13, 3) := by decide +kernel
theorem dX3_append_78 : decode cX3_append 78 = .ok (.new 54, 3) := by decide +kernel
theorem dX3_append_81 : decode cX3_append 81 = .ok (.dup, 1) := by decide +kernel
theorem dX3_append_82 : decode cX3_append 82 = .ok (.ldc 63, 2) := by decide +kernel
theorem dX3_append_84 : decode cX3_append 84 = .ok (.invokespecial 58, 3) := by decide +kernel
theorem dX3_append_87 : decode cX3_append 87 = .ok (.athrow, 1) := by decide +kernel
theorem dX3_append_88 : decode cX3_append 88 = .ok (.aload 5, 2) := by decide +kernel
theorem dX3_append_90 : decode cX3_append 90 = .ok (.iload 4, 2) := by decide +kernel
theorem dX3_append_92 : decode cX3_append 92 = .ok (.invokevirtual 65, 3) := by decide +kernel
theorem dX3_append_95 : decode cX3_append 95 = .ok (.ifCond .eq 13, 3) := by decide +kernel
theorem dX3_append_98 : decode cX3_append 98 = .ok (.new 54, 3) := by decide +kernel
theorem dX3_append_101 : decode cX3_append 101 = .ok (.dup, 1) := by decide +kernel
theorem dX3_append_102 : decode cX3_append 102 = .ok (.ldc 69, 2) := by decide +kernel
theorem dX3_append_104 : decode cX3_append 104 = .ok (.invokespecial 58, 3) := by decide +kernel
theorem dX3_append_107 : decode cX3_append 107 = .ok (.athrow, 1) := by decide +kernel
theorem dX3_append_108 : decode cX3_append 108 = .ok (.aload 5, 2) := by decide +kernel
theorem dX3_append_110 : decode cX3_append 110 = .ok (.iload_n 3, 1) := by decide +kernel
theorem dX3_append_111 : decode cX3_append 111 = .ok (.iload 4, 2) := by decide +kernel
theorem dX3_append_113 : decode cX3_append 113 = .ok (.invokevirtual 71, 3) := by decide +kernel
theorem dX3_append_116 : decode cX3_append 116 = .ok (.ireturn, 1) := by decide +kernel
set_option maxRecDepth 20000 in
theorem ggX3_empty_X3_requireSystem : GoodIn wsX3_empty wsX3_requireSystem := goodIn_ca (goodIn_r _ [5, 6, 7] (by decide +kernel) (by decide +kernel)) (goodIn_sub (fun _ h => List.mem_cons_of_mem _ (List.mem_append_right _ h)) (by decide +kernel))
set_option maxRecDepth 20000 in
theorem gX3_empty_X3_requireSystem : GoodIn wsX3_empty (va_wsS RX3 27 yX3_requireSystem wsX3_requireSystem) := goodIn_app (goodIn_of _ (by decide +kernel)) ggX3_empty_X3_requireSystem
set_option maxRecDepth 20000 in
theorem ggX3_empty_X3_requireQuestion : GoodIn wsX3_empty wsX3_requireQuestion := goodIn_ca (goodIn_r _ [10, 6, 7] (by decide +kernel) (by decide +kernel)) (goodIn_sub (fun _ h => List.mem_cons_of_mem _ (List.mem_append_right _ h)) (by decide +kernel))
set_option maxRecDepth 20000 in
theorem gX3_empty_X3_requireQuestion : GoodIn wsX3_empty (va_wsS RX3 31 yX3_requireQuestion wsX3_requireQuestion) := goodIn_app (goodIn_of _ (by decide +kernel)) ggX3_empty_X3_requireQuestion
theorem dX3_empty_0 : decode cX3_empty 0 = .ok (.iload_n 1, 1) := by decide +kernel
theorem dX3_empty_1 : decode cX3_empty 1 = .ok (.invokestatic 27, 3) := by decide +kernel
theorem dX3_empty_4 : decode cX3_empty 4 = .ok (.iload_n 2, 1) := by decide +kernel
theorem dX3_empty_5 : decode cX3_empty 5 = .ok (.invokestatic 31, 3) := by decide +kernel
theorem dX3_empty_8 : decode cX3_empty 8 = .ok (.aload_n 0, 1) := by decide +kernel
theorem dX3_empty_9 : decode cX3_empty 9 = .ok (.getfield 11, 3) := by decide +kernel
theorem dX3_empty_12 : decode cX3_empty 12 = .ok (.iload_n 2, 1) := by decide +kernel
theorem dX3_empty_13 : decode cX3_empty 13 = .ok (.aaload, 1) := by decide +kernel
theorem dX3_empty_14 : decode cX3_empty 14 = .ok (.getfield 44, 3) := by decide +kernel
theorem dX3_empty_17 : decode cX3_empty 17 = .ok (.iload_n 1, 1) := by decide +kernel
theorem dX3_empty_18 : decode cX3_empty 18 = .ok (.aaload, 1) := by decide +kernel
theorem dX3_empty_19 : decode cX3_empty 19 = .ok (.astore_n 3, 1) := by decide +kernel
theorem dX3_empty_20 : decode cX3_empty 20 = .ok (.aload_n 3, 1) := by decide +kernel
theorem dX3_empty_21 : decode cX3_empty 21 = .ok (.getfield 48, 3) := by decide +kernel
theorem dX3_empty_24 : decode cX3_empty 24 = .ok (.istore 4, 2) := by decide +kernel
theorem dX3_empty_26 : decode cX3_empty 26 = .ok (.aload_n 3, 1) := by decide +kernel
theorem dX3_empty_27 : decode cX3_empty 27 = .ok (.iconst 0, 1) := by decide +kernel
theorem dX3_empty_28 : decode cX3_empty 28 = .ok (.putfield 48, 3) := by decide +kernel
theorem dX3_empty_31 : decode cX3_empty 31 = .ok (.iload 4, 2) := by decide +kernel
theorem dX3_empty_33 : decode cX3_empty 33 = .ok (.ireturn, 1) := by decide +kernel
set_option maxRecDepth 20000 in
theorem ggX3_length_X3_requireSystem : GoodIn wsX3_length wsX3_requireSystem := goodIn_ca (goodIn_r _ [5, 6, 7] (by decide +kernel) (by decide +kernel)) (goodIn_sub (fun _ h => List.mem_cons_of_mem _ (List.mem_append_right _ h)) (by decide +kernel))
set_option maxRecDepth 20000 in
theorem gX3_length_X3_requireSystem : GoodIn wsX3_length (va_wsS RX3 27 yX3_requireSystem wsX3_requireSystem) := goodIn_app (goodIn_of _ (by decide +kernel)) ggX3_length_X3_requireSystem
set_option maxRecDepth 20000 in
theorem ggX3_length_X3_requireQuestion : GoodIn wsX3_length wsX3_requireQuestion := goodIn_ca (goodIn_r _ [10, 6, 7] (by decide +kernel) (by decide +kernel)) (goodIn_sub (fun _ h => List.mem_cons_of_mem _ (List.mem_append_right _ h)) (by decide +kernel))
set_option maxRecDepth 20000 in
theorem gX3_length_X3_requireQuestion : GoodIn wsX3_length (va_wsS RX3 31 yX3_requireQuestion wsX3_requireQuestion) := goodIn_app (goodIn_of _ (by decide +kernel)) ggX3_length_X3_requireQuestion
theorem dX3_length_0 : decode cX3_length 0 = .ok (.iload_n 1, 1) := by decide +kernel
theorem dX3_length_1 : decode cX3_length 1 = .ok (.invokestatic 27, 3) := by decide +kernel
theorem dX3_length_4 : decode cX3_length 4 = .ok (.iload_n 2, 1) := by decide +kernel
theorem dX3_length_5 : decode cX3_length 5 = .ok (.invokestatic 31, 3) := by decide +kernel
theorem dX3_length_8 : decode cX3_length 8 = .ok (.aload_n 0, 1) := by decide +kernel
theorem dX3_length_9 : decode cX3_length 9 = .ok (.getfield 11, 3) := by decide +kernel
theorem dX3_length_12 : decode cX3_length 12 = .ok (.iload_n 2, 1) := by decide +kernel
theorem dX3_length_13 : decode cX3_length 13 = .ok (.aaload, 1) := by decide +kernel
theorem dX3_length_14 : decode cX3_length 14 = .ok (.getfield 44, 3) := by decide +kernel
theorem dX3_length_17 : decode cX3_length 17 = .ok (.iload_n 1, 1) := by decide +kernel
theorem dX3_length_18 : decode cX3_length 18 = .ok (.aaload, 1) := by decide +kernel
theorem dX3_length_19 : decode cX3_length 19 = .ok (.getfield 48, 3) := by decide +kernel
theorem dX3_length_22 : decode cX3_length 22 = .ok (.ireturn, 1) := by decide +kernel
set_option maxRecDepth 20000 in
theorem ggX3_at_X3_requireSystem : GoodIn wsX3_at wsX3_requireSystem := goodIn_ca (goodIn_r _ [5, 6, 7] (by decide +kernel) (by decide +kernel)) (goodIn_sub (fun _ h => List.mem_cons_of_mem _ (List.mem_append_right _ h)) (by decide +kernel))
set_option maxRecDepth 20000 in
theorem gX3_at_X3_requireSystem : GoodIn wsX3_at (va_wsS RX3 27 yX3_requireSystem wsX3_requireSystem) := goodIn_app (goodIn_of _ (by decide +kernel)) ggX3_at_X3_requireSystem
set_option maxRecDepth 20000 in
theorem ggX3_at_X3_requireQuestion : GoodIn wsX3_at wsX3_requireQuestion := goodIn_ca (goodIn_r _ [10, 6, 7] (by decide +kernel) (by decide +kernel)) (goodIn_sub (fun _ h => List.mem_cons_of_mem _ (List.mem_append_right _ h)) (by decide +kernel))
set_option maxRecDepth 20000 in
theorem gX3_at_X3_requireQuestion : GoodIn wsX3_at (va_wsS RX3 31 yX3_requireQuestion wsX3_requireQuestion) := goodIn_app (goodIn_of _ (by decide +kernel)) ggX3_at_X3_requireQuestion
set_option maxRecDepth 20000 in
theorem ggX3_at_X3_requireOneToTwenty : GoodIn wsX3_at wsX3_requireOneToTwenty := goodIn_ca (goodIn_r _ [13, 6, 7] (by decide +kernel) (by decide +kernel)) (goodIn_sub (fun _ h => List.mem_cons_of_mem _ (List.mem_append_right _ h)) (by decide +kernel))
set_option maxRecDepth 20000 in
theorem gX3_at_X3_requireOneToTwenty : GoodIn wsX3_at (va_wsS RX3 75 yX3_requireOneToTwenty wsX3_requireOneToTwenty) := goodIn_app (goodIn_of _ (by decide +kernel)) ggX3_at_X3_requireOneToTwenty
set_option maxRecDepth 20000 in
theorem ggX3_at_X2_documentAt : GoodIn wsX3_at wsX2_documentAt := goodIn_r _ [17, 18, 19, 25, 26, 27] (by decide +kernel) (by decide +kernel)
set_option maxRecDepth 20000 in
theorem gX3_at_X2_documentAt_n78 : GoodIn wsX3_at (wsX2_documentAt) := ggX3_at_X2_documentAt
theorem dX3_at_0 : decode cX3_at 0 = .ok (.iload_n 1, 1) := by decide +kernel
theorem dX3_at_1 : decode cX3_at 1 = .ok (.invokestatic 27, 3) := by decide +kernel
theorem dX3_at_4 : decode cX3_at 4 = .ok (.iload_n 2, 1) := by decide +kernel
theorem dX3_at_5 : decode cX3_at 5 = .ok (.invokestatic 31, 3) := by decide +kernel
theorem dX3_at_8 : decode cX3_at 8 = .ok (.iload_n 3, 1) := by decide +kernel
theorem dX3_at_9 : decode cX3_at 9 = .ok (.invokestatic 75, 3) := by decide +kernel
theorem dX3_at_12 : decode cX3_at 12 = .ok (.aload_n 0, 1) := by decide +kernel
theorem dX3_at_13 : decode cX3_at 13 = .ok (.getfield 11, 3) := by decide +kernel
theorem dX3_at_16 : decode cX3_at 16 = .ok (.iload_n 2, 1) := by decide +kernel
theorem dX3_at_17 : decode cX3_at 17 = .ok (.aaload, 1) := by decide +kernel
theorem dX3_at_18 : decode cX3_at 18 = .ok (.getfield 44, 3) := by decide +kernel
theorem dX3_at_21 : decode cX3_at 21 = .ok (.iload_n 1, 1) := by decide +kernel
theorem dX3_at_22 : decode cX3_at 22 = .ok (.aaload, 1) := by decide +kernel
theorem dX3_at_23 : decode cX3_at 23 = .ok (.iload_n 3, 1) := by decide +kernel
theorem dX3_at_24 : decode cX3_at 24 = .ok (.invokevirtual 78, 3) := by decide +kernel
theorem dX3_at_27 : decode cX3_at 27 = .ok (.ireturn, 1) := by decide +kernel
set_option maxRecDepth 20000 in
theorem ggX3_judge_X3_requireQuestion : GoodIn wsX3_judge wsX3_requireQuestion := goodIn_ca (goodIn_r _ [7, 1, 2] (by decide +kernel) (by decide +kernel)) (goodIn_sub (fun _ h => List.mem_cons_of_mem _ (List.mem_append_right _ h)) (by decide +kernel))
set_option maxRecDepth 20000 in
theorem gX3_judge_X3_requireQuestion : GoodIn wsX3_judge (va_wsS RX3 31 yX3_requireQuestion wsX3_requireQuestion) := goodIn_app (goodIn_of _ (by decide +kernel)) ggX3_judge_X3_requireQuestion
set_option maxRecDepth 20000 in
theorem ggX3_judge_X3_requireDocument : GoodIn wsX3_judge wsX3_requireDocument := goodIn_ca (goodIn_r _ [10, 1, 2] (by decide +kernel) (by decide +kernel)) (goodIn_sub (fun _ h => List.mem_cons_of_mem _ (List.mem_append_right _ h)) (by decide +kernel))
set_option maxRecDepth 20000 in
theorem gX3_judge_X3_requireDocument : GoodIn wsX3_judge (va_wsS RX3 34 yX3_requireDocument wsX3_requireDocument) := goodIn_app (goodIn_of _ (by decide +kernel)) ggX3_judge_X3_requireDocument
theorem dX3_judge_0 : decode cX3_judge 0 = .ok (.iload_n 1, 1) := by decide +kernel
theorem dX3_judge_1 : decode cX3_judge 1 = .ok (.invokestatic 31, 3) := by decide +kernel
theorem dX3_judge_4 : decode cX3_judge 4 = .ok (.iload_n 2, 1) := by decide +kernel
theorem dX3_judge_5 : decode cX3_judge 5 = .ok (.invokestatic 34, 3) := by decide +kernel
theorem dX3_judge_8 : decode cX3_judge 8 = .ok (.iload_n 3, 1) := by decide +kernel
theorem dX3_judge_9 : decode cX3_judge 9 = .ok (.ifCond .eq 23, 3) := by decide +kernel
theorem dX3_judge_12 : decode cX3_judge 12 = .ok (.iload_n 3, 1) := by decide +kernel
theorem dX3_judge_13 : decode cX3_judge 13 = .ok (.iconst 1, 1) := by decide +kernel
theorem dX3_judge_14 : decode cX3_judge 14 = .ok (.if_icmp .eq 18, 3) := by decide +kernel
theorem dX3_judge_17 : decode cX3_judge 17 = .ok (.iload_n 3, 1) := by decide +kernel
theorem dX3_judge_18 : decode cX3_judge 18 = .ok (.iconst 2, 1) := by decide +kernel
theorem dX3_judge_19 : decode cX3_judge 19 = .ok (.if_icmp .eq 13, 3) := by decide +kernel
theorem dX3_judge_22 : decode cX3_judge 22 = .ok (.new 37, 3) := by decide +kernel
theorem dX3_judge_25 : decode cX3_judge 25 = .ok (.dup, 1) := by decide +kernel
theorem dX3_judge_26 : decode cX3_judge 26 = .ok (.ldc 81, 2) := by decide +kernel
theorem dX3_judge_28 : decode cX3_judge 28 = .ok (.invokespecial 41, 3) := by decide +kernel
theorem dX3_judge_31 : decode cX3_judge 31 = .ok (.athrow, 1) := by decide +kernel
theorem dX3_judge_32 : decode cX3_judge 32 = .ok (.aload_n 0, 1) := by decide +kernel
theorem dX3_judge_33 : decode cX3_judge 33 = .ok (.getfield 11, 3) := by decide +kernel
theorem dX3_judge_36 : decode cX3_judge 36 = .ok (.iload_n 1, 1) := by decide +kernel
theorem dX3_judge_37 : decode cX3_judge 37 = .ok (.aaload, 1) := by decide +kernel
theorem dX3_judge_38 : decode cX3_judge 38 = .ok (.getfield 83, 3) := by decide +kernel
theorem dX3_judge_41 : decode cX3_judge 41 = .ok (.astore 4, 2) := by decide +kernel
theorem dX3_judge_43 : decode cX3_judge 43 = .ok (.aload 4, 2) := by decide +kernel
theorem dX3_judge_45 : decode cX3_judge 45 = .ok (.iload_n 2, 1) := by decide +kernel
theorem dX3_judge_46 : decode cX3_judge 46 = .ok (.iaload, 1) := by decide +kernel
theorem dX3_judge_47 : decode cX3_judge 47 = .ok (.istore 5, 2) := by decide +kernel
theorem dX3_judge_49 : decode cX3_judge 49 = .ok (.aload 4, 2) := by decide +kernel
theorem dX3_judge_51 : decode cX3_judge 51 = .ok (.iload_n 2, 1) := by decide +kernel
theorem dX3_judge_52 : decode cX3_judge 52 = .ok (.iload_n 3, 1) := by decide +kernel
theorem dX3_judge_53 : decode cX3_judge 53 = .ok (.iastore, 1) := by decide +kernel
theorem dX3_judge_54 : decode cX3_judge 54 = .ok (.iload 5, 2) := by decide +kernel
theorem dX3_judge_56 : decode cX3_judge 56 = .ok (.ireturn, 1) := by decide +kernel
set_option maxRecDepth 20000 in
theorem ggX3_pool_X3_requireQuestion : GoodIn wsX3_pool wsX3_requireQuestion := goodIn_ca (goodIn_r _ [5, 6, 7] (by decide +kernel) (by decide +kernel)) (goodIn_sub (fun _ h => List.mem_cons_of_mem _ (List.mem_append_right _ h)) (by decide +kernel))
set_option maxRecDepth 20000 in
theorem gX3_pool_X3_requireQuestion : GoodIn wsX3_pool (va_wsS RX3 31 yX3_requireQuestion wsX3_requireQuestion) := goodIn_app (goodIn_of _ (by decide +kernel)) ggX3_pool_X3_requireQuestion
set_option maxRecDepth 20000 in
theorem ggX3_pool_X3_requireOneToTwenty : GoodIn wsX3_pool wsX3_requireOneToTwenty := goodIn_ca (goodIn_r _ [10, 6, 7] (by decide +kernel) (by decide +kernel)) (goodIn_sub (fun _ h => List.mem_cons_of_mem _ (List.mem_append_right _ h)) (by decide +kernel))
set_option maxRecDepth 20000 in
theorem gX3_pool_X3_requireOneToTwenty : GoodIn wsX3_pool (va_wsS RX3 75 yX3_requireOneToTwenty wsX3_requireOneToTwenty) := goodIn_app (goodIn_of _ (by decide +kernel)) ggX3_pool_X3_requireOneToTwenty
set_option maxRecDepth 20000 in
theorem ggX3_pool_X1_poolSize : GoodIn wsX3_pool wsX1_poolSize := goodIn_r _ [14, 15, 16, 17, 12, 18, 19, 20, 21, 22, 23, 24, 25, 29, 30, 31, 32, 33] (by decide +kernel) (by decide +kernel)
set_option maxRecDepth 20000 in
theorem gX3_pool_X1_poolSize_n86 : GoodIn wsX3_pool (wsX1_poolSize) := ggX3_pool_X1_poolSize
theorem dX3_pool_0 : decode cX3_pool 0 = .ok (.iload_n 1, 1) := by decide +kernel
theorem dX3_pool_1 : decode cX3_pool 1 = .ok (.invokestatic 31, 3) := by decide +kernel
theorem dX3_pool_4 : decode cX3_pool 4 = .ok (.iload_n 2, 1) := by decide +kernel
theorem dX3_pool_5 : decode cX3_pool 5 = .ok (.invokestatic 75, 3) := by decide +kernel
theorem dX3_pool_8 : decode cX3_pool 8 = .ok (.aload_n 0, 1) := by decide +kernel
theorem dX3_pool_9 : decode cX3_pool 9 = .ok (.getfield 11, 3) := by decide +kernel
theorem dX3_pool_12 : decode cX3_pool 12 = .ok (.iload_n 1, 1) := by decide +kernel
theorem dX3_pool_13 : decode cX3_pool 13 = .ok (.aaload, 1) := by decide +kernel
theorem dX3_pool_14 : decode cX3_pool 14 = .ok (.iload_n 2, 1) := by decide +kernel
theorem dX3_pool_15 : decode cX3_pool 15 = .ok (.invokevirtual 86, 3) := by decide +kernel
theorem dX3_pool_18 : decode cX3_pool 18 = .ok (.ireturn, 1) := by decide +kernel
set_option maxRecDepth 20000 in
theorem ggX3_toJudge_X3_requireQuestion : GoodIn wsX3_toJudge wsX3_requireQuestion := goodIn_ca (goodIn_r _ [5, 6, 7] (by decide +kernel) (by decide +kernel)) (goodIn_sub (fun _ h => List.mem_cons_of_mem _ (List.mem_append_right _ h)) (by decide +kernel))
set_option maxRecDepth 20000 in
theorem gX3_toJudge_X3_requireQuestion : GoodIn wsX3_toJudge (va_wsS RX3 31 yX3_requireQuestion wsX3_requireQuestion) := goodIn_app (goodIn_of _ (by decide +kernel)) ggX3_toJudge_X3_requireQuestion
set_option maxRecDepth 20000 in
theorem ggX3_toJudge_X3_requireOneToTwenty : GoodIn wsX3_toJudge wsX3_requireOneToTwenty := goodIn_ca (goodIn_r _ [10, 6, 7] (by decide +kernel) (by decide +kernel)) (goodIn_sub (fun _ h => List.mem_cons_of_mem _ (List.mem_append_right _ h)) (by decide +kernel))
set_option maxRecDepth 20000 in
theorem gX3_toJudge_X3_requireOneToTwenty : GoodIn wsX3_toJudge (va_wsS RX3 75 yX3_requireOneToTwenty wsX3_requireOneToTwenty) := goodIn_app (goodIn_of _ (by decide +kernel)) ggX3_toJudge_X3_requireOneToTwenty
set_option maxRecDepth 20000 in
theorem ggX3_toJudge_X1_firstUnjudged : GoodIn wsX3_toJudge wsX1_firstUnjudged := goodIn_r _ [14, 15, 16, 17, 18, 12, 19, 20, 21, 22, 23, 24, 25, 26, 30, 31, 32, 33, 34] (by decide +kernel) (by decide +kernel)
set_option maxRecDepth 20000 in
theorem gX3_toJudge_X1_firstUnjudged_n89 : GoodIn wsX3_toJudge (wsX1_firstUnjudged) := ggX3_toJudge_X1_firstUnjudged
theorem dX3_toJudge_0 : decode cX3_toJudge 0 = .ok (.iload_n 1, 1) := by decide +kernel
theorem dX3_toJudge_1 : decode cX3_toJudge 1 = .ok (.invokestatic 31, 3) := by decide +kernel
theorem dX3_toJudge_4 : decode cX3_toJudge 4 = .ok (.iload_n 2, 1) := by decide +kernel
theorem dX3_toJudge_5 : decode cX3_toJudge 5 = .ok (.invokestatic 75, 3) := by decide +kernel
theorem dX3_toJudge_8 : decode cX3_toJudge 8 = .ok (.aload_n 0, 1) := by decide +kernel
theorem dX3_toJudge_9 : decode cX3_toJudge 9 = .ok (.getfield 11, 3) := by decide +kernel
theorem dX3_toJudge_12 : decode cX3_toJudge 12 = .ok (.iload_n 1, 1) := by decide +kernel
theorem dX3_toJudge_13 : decode cX3_toJudge 13 = .ok (.aaload, 1) := by decide +kernel
theorem dX3_toJudge_14 : decode cX3_toJudge 14 = .ok (.iload_n 2, 1) := by decide +kernel
theorem dX3_toJudge_15 : decode cX3_toJudge 15 = .ok (.invokevirtual 89, 3) := by decide +kernel
theorem dX3_toJudge_18 : decode cX3_toJudge 18 = .ok (.ireturn, 1) := by decide +kernel
set_option maxRecDepth 20000 in
theorem ggX3_hits_X3_requireSystem : GoodIn wsX3_hits wsX3_requireSystem := goodIn_ca (goodIn_r _ [4, 5, 6] (by decide +kernel) (by decide +kernel)) (goodIn_sub (fun _ h => List.mem_cons_of_mem _ (List.mem_append_right _ h)) (by decide +kernel))
set_option maxRecDepth 20000 in
theorem gX3_hits_X3_requireSystem : GoodIn wsX3_hits (va_wsS RX3 27 yX3_requireSystem wsX3_requireSystem) := goodIn_app (goodIn_of _ (by decide +kernel)) ggX3_hits_X3_requireSystem
set_option maxRecDepth 20000 in
theorem ggX3_hits_X3_requireQuestion : GoodIn wsX3_hits wsX3_requireQuestion := goodIn_ca (goodIn_r _ [9, 5, 6] (by decide +kernel) (by decide +kernel)) (goodIn_sub (fun _ h => List.mem_cons_of_mem _ (List.mem_append_right _ h)) (by decide +kernel))
set_option maxRecDepth 20000 in
theorem gX3_hits_X3_requireQuestion : GoodIn wsX3_hits (va_wsS RX3 31 yX3_requireQuestion wsX3_requireQuestion) := goodIn_app (goodIn_of _ (by decide +kernel)) ggX3_hits_X3_requireQuestion
set_option maxRecDepth 20000 in
theorem ggX3_hits_X3_requireOneToTwenty : GoodIn wsX3_hits wsX3_requireOneToTwenty := goodIn_ca (goodIn_r _ [12, 5, 6] (by decide +kernel) (by decide +kernel)) (goodIn_sub (fun _ h => List.mem_cons_of_mem _ (List.mem_append_right _ h)) (by decide +kernel))
set_option maxRecDepth 20000 in
theorem gX3_hits_X3_requireOneToTwenty : GoodIn wsX3_hits (va_wsS RX3 75 yX3_requireOneToTwenty wsX3_requireOneToTwenty) := goodIn_app (goodIn_of _ (by decide +kernel)) ggX3_hits_X3_requireOneToTwenty
set_option maxRecDepth 20000 in
theorem ggX3_hits_X3_hitsAsItStands : GoodIn wsX3_hits wsX3_hitsAsItStands := goodIn_r _ [16, 17, 18, 19, 20, 21, 22, 23, 24, 25, 26, 27, 28, 29, 30, 31, 32, 33, 34, 35, 36, 37, 38, 39, 40] (by decide +kernel) (by decide +kernel)
set_option maxRecDepth 20000 in
theorem gX3_hits_X3_hitsAsItStands : GoodIn wsX3_hits (wsV RX3 92 RX3 yX3_hitsAsItStands wsX3_hitsAsItStands) := goodIn_app (goodIn_of _ (by decide +kernel)) ggX3_hits_X3_hitsAsItStands
theorem dX3_hits_0 : decode cX3_hits 0 = .ok (.iload_n 1, 1) := by decide +kernel
theorem dX3_hits_1 : decode cX3_hits 1 = .ok (.invokestatic 27, 3) := by decide +kernel
theorem dX3_hits_4 : decode cX3_hits 4 = .ok (.iload_n 2, 1) := by decide +kernel
theorem dX3_hits_5 : decode cX3_hits 5 = .ok (.invokestatic 31, 3) := by decide +kernel
theorem dX3_hits_8 : decode cX3_hits 8 = .ok (.iload_n 3, 1) := by decide +kernel
theorem dX3_hits_9 : decode cX3_hits 9 = .ok (.invokestatic 75, 3) := by decide +kernel
theorem dX3_hits_12 : decode cX3_hits 12 = .ok (.aload_n 0, 1) := by decide +kernel
theorem dX3_hits_13 : decode cX3_hits 13 = .ok (.iload_n 1, 1) := by decide +kernel
theorem dX3_hits_14 : decode cX3_hits 14 = .ok (.iload_n 2, 1) := by decide +kernel
theorem dX3_hits_15 : decode cX3_hits 15 = .ok (.iload_n 3, 1) := by decide +kernel
theorem dX3_hits_16 : decode cX3_hits 16 = .ok (.invokevirtual 92, 3) := by decide +kernel
theorem dX3_hits_19 : decode cX3_hits 19 = .ok (.ireturn, 1) := by decide +kernel
set_option maxRecDepth 20000 in
theorem ggX3_precisionNumerator_X3_requireSystem : GoodIn wsX3_precisionNumerator wsX3_requireSystem := goodIn_ca (goodIn_r _ [6, 7, 8] (by decide +kernel) (by decide +kernel)) (goodIn_sub (fun _ h => List.mem_cons_of_mem _ (List.mem_append_right _ h)) (by decide +kernel))
set_option maxRecDepth 20000 in
theorem gX3_precisionNumerator_X3_requireSystem : GoodIn wsX3_precisionNumerator (va_wsS RX3 27 yX3_requireSystem wsX3_requireSystem) := goodIn_app (goodIn_of _ (by decide +kernel)) ggX3_precisionNumerator_X3_requireSystem
set_option maxRecDepth 20000 in
theorem ggX3_precisionNumerator_X3_requireQuestion : GoodIn wsX3_precisionNumerator wsX3_requireQuestion := goodIn_ca (goodIn_r _ [11, 7, 8] (by decide +kernel) (by decide +kernel)) (goodIn_sub (fun _ h => List.mem_cons_of_mem _ (List.mem_append_right _ h)) (by decide +kernel))
set_option maxRecDepth 20000 in
theorem gX3_precisionNumerator_X3_requireQuestion : GoodIn wsX3_precisionNumerator (va_wsS RX3 31 yX3_requireQuestion wsX3_requireQuestion) := goodIn_app (goodIn_of _ (by decide +kernel)) ggX3_precisionNumerator_X3_requireQuestion
set_option maxRecDepth 20000 in
theorem ggX3_precisionNumerator_X3_requireOneToTwenty : GoodIn wsX3_precisionNumerator wsX3_requireOneToTwenty := goodIn_ca (goodIn_r _ [14, 7, 8] (by decide +kernel) (by decide +kernel)) (goodIn_sub (fun _ h => List.mem_cons_of_mem _ (List.mem_append_right _ h)) (by decide +kernel))
set_option maxRecDepth 20000 in
theorem gX3_precisionNumerator_X3_requireOneToTwenty : GoodIn wsX3_precisionNumerator (va_wsS RX3 75 yX3_requireOneToTwenty wsX3_requireOneToTwenty) := goodIn_app (goodIn_of _ (by decide +kernel)) ggX3_precisionNumerator_X3_requireOneToTwenty
set_option maxRecDepth 20000 in
theorem ggX3_precisionNumerator_X1_meanHitParts : GoodIn wsX3_precisionNumerator wsX1_meanHitParts := goodIn_r _ [18, 19, 20, 21, 22, 16, 23, 24, 25, 26, 27, 28, 29, 30, 31, 32, 33, 34, 35, 36, 37, 38, 39, 40, 41, 42, 43, 44, 45, 55, 56, 57, 58, 59] (by decide +kernel) (by decide +kernel)
set_option maxRecDepth 20000 in
theorem gX3_precisionNumerator_X1_meanHitParts_n96 : GoodIn wsX3_precisionNumerator (wsX1_meanHitParts) := ggX3_precisionNumerator_X1_meanHitParts
set_option maxRecDepth 20000 in
theorem ggX3_precisionNumerator_X3_reduced : GoodIn wsX3_precisionNumerator wsX3_reduced := goodIn_r _ [48, 49, 50, 5, 51] (by decide +kernel) (by decide +kernel)
set_option maxRecDepth 20000 in
theorem gX3_precisionNumerator_X3_reduced : GoodIn wsX3_precisionNumerator (va_wsS RX3 102 yX3_reduced wsX3_reduced) := goodIn_app (goodIn_of _ (by decide +kernel)) ggX3_precisionNumerator_X3_reduced
theorem dX3_precisionNumerator_0 : decode cX3_precisionNumerator 0 = .ok (.iload_n 1, 1) := by decide +kernel
theorem dX3_precisionNumerator_1 : decode cX3_precisionNumerator 1 = .ok (.invokestatic 27, 3) := by decide +kernel
theorem dX3_precisionNumerator_4 : decode cX3_precisionNumerator 4 = .ok (.iload_n 2, 1) := by decide +kernel
theorem dX3_precisionNumerator_5 : decode cX3_precisionNumerator 5 = .ok (.invokestatic 31, 3) := by decide +kernel
theorem dX3_precisionNumerator_8 : decode cX3_precisionNumerator 8 = .ok (.iload_n 3, 1) := by decide +kernel
theorem dX3_precisionNumerator_9 : decode cX3_precisionNumerator 9 = .ok (.invokestatic 75, 3) := by decide +kernel
theorem dX3_precisionNumerator_12 : decode cX3_precisionNumerator 12 = .ok (.aload_n 0, 1) := by decide +kernel
theorem dX3_precisionNumerator_13 : decode cX3_precisionNumerator 13 = .ok (.getfield 11, 3) := by decide +kernel
theorem dX3_precisionNumerator_16 : decode cX3_precisionNumerator 16 = .ok (.iload_n 2, 1) := by decide +kernel
theorem dX3_precisionNumerator_17 : decode cX3_precisionNumerator 17 = .ok (.aaload, 1) := by decide +kernel
theorem dX3_precisionNumerator_18 : decode cX3_precisionNumerator 18 = .ok (.iload_n 1, 1) := by decide +kernel
theorem dX3_precisionNumerator_19 : decode cX3_precisionNumerator 19 = .ok (.iload_n 3, 1) := by decide +kernel
theorem dX3_precisionNumerator_20 : decode cX3_precisionNumerator 20 = .ok (.invokevirtual 96, 3) := by decide +kernel
theorem dX3_precisionNumerator_23 : decode cX3_precisionNumerator 23 = .ok (.ldc2_w 100, 3) := by decide +kernel
theorem dX3_precisionNumerator_26 : decode cX3_precisionNumerator 26 = .ok (.iload_n 3, 1) := by decide +kernel
theorem dX3_precisionNumerator_27 : decode cX3_precisionNumerator 27 = .ok (.i2l, 1) := by decide +kernel
theorem dX3_precisionNumerator_28 : decode cX3_precisionNumerator 28 = .ok (.lmul, 1) := by decide +kernel
theorem dX3_precisionNumerator_29 : decode cX3_precisionNumerator 29 = .ok (.invokestatic 102, 3) := by decide +kernel
theorem dX3_precisionNumerator_32 : decode cX3_precisionNumerator 32 = .ok (.lreturn, 1) := by decide +kernel
set_option maxRecDepth 20000 in
theorem ggX3_precisionDenominator_X3_requireSystem : GoodIn wsX3_precisionDenominator wsX3_requireSystem := goodIn_ca (goodIn_r _ [6, 7, 8] (by decide +kernel) (by decide +kernel)) (goodIn_sub (fun _ h => List.mem_cons_of_mem _ (List.mem_append_right _ h)) (by decide +kernel))
set_option maxRecDepth 20000 in
theorem gX3_precisionDenominator_X3_requireSystem : GoodIn wsX3_precisionDenominator (va_wsS RX3 27 yX3_requireSystem wsX3_requireSystem) := goodIn_app (goodIn_of _ (by decide +kernel)) ggX3_precisionDenominator_X3_requireSystem
set_option maxRecDepth 20000 in
theorem ggX3_precisionDenominator_X3_requireQuestion : GoodIn wsX3_precisionDenominator wsX3_requireQuestion := goodIn_ca (goodIn_r _ [11, 7, 8] (by decide +kernel) (by decide +kernel)) (goodIn_sub (fun _ h => List.mem_cons_of_mem _ (List.mem_append_right _ h)) (by decide +kernel))
set_option maxRecDepth 20000 in
theorem gX3_precisionDenominator_X3_requireQuestion : GoodIn wsX3_precisionDenominator (va_wsS RX3 31 yX3_requireQuestion wsX3_requireQuestion) := goodIn_app (goodIn_of _ (by decide +kernel)) ggX3_precisionDenominator_X3_requireQuestion
set_option maxRecDepth 20000 in
theorem ggX3_precisionDenominator_X3_requireOneToTwenty : GoodIn wsX3_precisionDenominator wsX3_requireOneToTwenty := goodIn_ca (goodIn_r _ [14, 7, 8] (by decide +kernel) (by decide +kernel)) (goodIn_sub (fun _ h => List.mem_cons_of_mem _ (List.mem_append_right _ h)) (by decide +kernel))
set_option maxRecDepth 20000 in
theorem gX3_precisionDenominator_X3_requireOneToTwenty : GoodIn wsX3_precisionDenominator (va_wsS RX3 75 yX3_requireOneToTwenty wsX3_requireOneToTwenty) := goodIn_app (goodIn_of _ (by decide +kernel)) ggX3_precisionDenominator_X3_requireOneToTwenty
set_option maxRecDepth 20000 in
theorem ggX3_precisionDenominator_X1_meanHitParts : GoodIn wsX3_precisionDenominator wsX1_meanHitParts := goodIn_r _ [18, 19, 20, 21, 22, 16, 23, 24, 25, 26, 27, 28, 29, 30, 31, 32, 33, 34, 35, 36, 37, 38, 39, 40, 41, 42, 43, 44, 45, 55, 56, 57, 58, 59] (by decide +kernel) (by decide +kernel)
set_option maxRecDepth 20000 in
theorem gX3_precisionDenominator_X1_meanHitParts_n96 : GoodIn wsX3_precisionDenominator (wsX1_meanHitParts) := ggX3_precisionDenominator_X1_meanHitParts
set_option maxRecDepth 20000 in
theorem ggX3_precisionDenominator_X3_reduced : GoodIn wsX3_precisionDenominator wsX3_reduced := goodIn_r _ [48, 49, 50, 5, 51] (by decide +kernel) (by decide +kernel)
set_option maxRecDepth 20000 in
theorem gX3_precisionDenominator_X3_reduced : GoodIn wsX3_precisionDenominator (va_wsS RX3 102 yX3_reduced wsX3_reduced) := goodIn_app (goodIn_of _ (by decide +kernel)) ggX3_precisionDenominator_X3_reduced
theorem dX3_precisionDenominator_0 : decode cX3_precisionDenominator 0 = .ok (.iload_n 1, 1) := by decide +kernel
theorem dX3_precisionDenominator_1 : decode cX3_precisionDenominator 1 = .ok (.invokestatic 27, 3) := by decide +kernel
theorem dX3_precisionDenominator_4 : decode cX3_precisionDenominator 4 = .ok (.iload_n 2, 1) := by decide +kernel
theorem dX3_precisionDenominator_5 : decode cX3_precisionDenominator 5 = .ok (.invokestatic 31, 3) := by decide +kernel
theorem dX3_precisionDenominator_8 : decode cX3_precisionDenominator 8 = .ok (.iload_n 3, 1) := by decide +kernel
theorem dX3_precisionDenominator_9 : decode cX3_precisionDenominator 9 = .ok (.invokestatic 75, 3) := by decide +kernel
theorem dX3_precisionDenominator_12 : decode cX3_precisionDenominator 12 = .ok (.ldc2_w 100, 3) := by decide +kernel
theorem dX3_precisionDenominator_15 : decode cX3_precisionDenominator 15 = .ok (.iload_n 3, 1) := by decide +kernel
theorem dX3_precisionDenominator_16 : decode cX3_precisionDenominator 16 = .ok (.i2l, 1) := by decide +kernel
theorem dX3_precisionDenominator_17 : decode cX3_precisionDenominator 17 = .ok (.lmul, 1) := by decide +kernel
theorem dX3_precisionDenominator_18 : decode cX3_precisionDenominator 18 = .ok (.aload_n 0, 1) := by decide +kernel
theorem dX3_precisionDenominator_19 : decode cX3_precisionDenominator 19 = .ok (.getfield 11, 3) := by decide +kernel
theorem dX3_precisionDenominator_22 : decode cX3_precisionDenominator 22 = .ok (.iload_n 2, 1) := by decide +kernel
theorem dX3_precisionDenominator_23 : decode cX3_precisionDenominator 23 = .ok (.aaload, 1) := by decide +kernel
theorem dX3_precisionDenominator_24 : decode cX3_precisionDenominator 24 = .ok (.iload_n 1, 1) := by decide +kernel
theorem dX3_precisionDenominator_25 : decode cX3_precisionDenominator 25 = .ok (.iload_n 3, 1) := by decide +kernel
theorem dX3_precisionDenominator_26 : decode cX3_precisionDenominator 26 = .ok (.invokevirtual 96, 3) := by decide +kernel
theorem dX3_precisionDenominator_29 : decode cX3_precisionDenominator 29 = .ok (.invokestatic 102, 3) := by decide +kernel
theorem dX3_precisionDenominator_32 : decode cX3_precisionDenominator 32 = .ok (.lreturn, 1) := by decide +kernel
set_option maxRecDepth 20000 in
theorem ggX3_reciprocalNumerator_X3_requireSystem : GoodIn wsX3_reciprocalNumerator wsX3_requireSystem := goodIn_ca (goodIn_r _ [5, 6, 7] (by decide +kernel) (by decide +kernel)) (goodIn_sub (fun _ h => List.mem_cons_of_mem _ (List.mem_append_right _ h)) (by decide +kernel))
set_option maxRecDepth 20000 in
theorem gX3_reciprocalNumerator_X3_requireSystem : GoodIn wsX3_reciprocalNumerator (va_wsS RX3 27 yX3_requireSystem wsX3_requireSystem) := goodIn_app (goodIn_of _ (by decide +kernel)) ggX3_reciprocalNumerator_X3_requireSystem
set_option maxRecDepth 20000 in
theorem ggX3_reciprocalNumerator_X3_requireQuestion : GoodIn wsX3_reciprocalNumerator wsX3_requireQuestion := goodIn_ca (goodIn_r _ [10, 6, 7] (by decide +kernel) (by decide +kernel)) (goodIn_sub (fun _ h => List.mem_cons_of_mem _ (List.mem_append_right _ h)) (by decide +kernel))
set_option maxRecDepth 20000 in
theorem gX3_reciprocalNumerator_X3_requireQuestion : GoodIn wsX3_reciprocalNumerator (va_wsS RX3 31 yX3_requireQuestion wsX3_requireQuestion) := goodIn_app (goodIn_of _ (by decide +kernel)) ggX3_reciprocalNumerator_X3_requireQuestion
set_option maxRecDepth 20000 in
theorem ggX3_reciprocalNumerator_X1_reciprocalParts : GoodIn wsX3_reciprocalNumerator wsX1_reciprocalParts := goodIn_r _ [14, 15, 16, 17, 18, 19, 20, 21, 22, 23, 12, 24, 25, 26, 27, 28, 29, 30, 31, 32, 33, 34, 35, 36, 37, 38, 39, 40, 41, 42, 43, 44, 45, 46, 47, 4, 48, 61, 62, 63, 64, 65] (by decide +kernel) (by decide +kernel)
set_option maxRecDepth 20000 in
theorem gX3_reciprocalNumerator_X1_reciprocalParts_n106 : GoodIn wsX3_reciprocalNumerator (wsX1_reciprocalParts) := ggX3_reciprocalNumerator_X1_reciprocalParts
set_option maxRecDepth 20000 in
theorem ggX3_reciprocalNumerator_X1_reciprocalWhole : GoodIn wsX3_reciprocalNumerator wsX1_reciprocalWhole := goodIn_r _ [51, 15, 20, 21, 22, 23, 12, 24, 25, 26, 27, 28, 29, 30, 31, 32, 33, 34, 35, 36, 37, 38, 39, 40, 41, 42, 43, 44, 45, 46, 47, 4, 48, 61, 62, 63, 64, 65] (by decide +kernel) (by decide +kernel)
set_option maxRecDepth 20000 in
theorem gX3_reciprocalNumerator_X1_reciprocalWhole_n110 : GoodIn wsX3_reciprocalNumerator (wsX1_reciprocalWhole) := ggX3_reciprocalNumerator_X1_reciprocalWhole
set_option maxRecDepth 20000 in
theorem ggX3_reciprocalNumerator_X3_reduced : GoodIn wsX3_reciprocalNumerator wsX3_reduced := goodIn_r _ [54, 55, 56, 4, 57] (by decide +kernel) (by decide +kernel)
set_option maxRecDepth 20000 in
theorem gX3_reciprocalNumerator_X3_reduced : GoodIn wsX3_reciprocalNumerator (va_wsS RX3 102 yX3_reduced wsX3_reduced) := goodIn_app (goodIn_of _ (by decide +kernel)) ggX3_reciprocalNumerator_X3_reduced
theorem dX3_reciprocalNumerator_0 : decode cX3_reciprocalNumerator 0 = .ok (.iload_n 1, 1) := by decide +kernel
theorem dX3_reciprocalNumerator_1 : decode cX3_reciprocalNumerator 1 = .ok (.invokestatic 27, 3) := by decide +kernel
theorem dX3_reciprocalNumerator_4 : decode cX3_reciprocalNumerator 4 = .ok (.iload_n 2, 1) := by decide +kernel
theorem dX3_reciprocalNumerator_5 : decode cX3_reciprocalNumerator 5 = .ok (.invokestatic 31, 3) := by decide +kernel
theorem dX3_reciprocalNumerator_8 : decode cX3_reciprocalNumerator 8 = .ok (.aload_n 0, 1) := by decide +kernel
theorem dX3_reciprocalNumerator_9 : decode cX3_reciprocalNumerator 9 = .ok (.getfield 11, 3) := by decide +kernel
theorem dX3_reciprocalNumerator_12 : decode cX3_reciprocalNumerator 12 = .ok (.iload_n 2, 1) := by decide +kernel
theorem dX3_reciprocalNumerator_13 : decode cX3_reciprocalNumerator 13 = .ok (.aaload, 1) := by decide +kernel
theorem dX3_reciprocalNumerator_14 : decode cX3_reciprocalNumerator 14 = .ok (.astore_n 3, 1) := by decide +kernel
theorem dX3_reciprocalNumerator_15 : decode cX3_reciprocalNumerator 15 = .ok (.aload_n 3, 1) := by decide +kernel
theorem dX3_reciprocalNumerator_16 : decode cX3_reciprocalNumerator 16 = .ok (.iload_n 1, 1) := by decide +kernel
theorem dX3_reciprocalNumerator_17 : decode cX3_reciprocalNumerator 17 = .ok (.invokevirtual 106, 3) := by decide +kernel
theorem dX3_reciprocalNumerator_20 : decode cX3_reciprocalNumerator 20 = .ok (.aload_n 3, 1) := by decide +kernel
theorem dX3_reciprocalNumerator_21 : decode cX3_reciprocalNumerator 21 = .ok (.iload_n 1, 1) := by decide +kernel
theorem dX3_reciprocalNumerator_22 : decode cX3_reciprocalNumerator 22 = .ok (.invokevirtual 110, 3) := by decide +kernel
theorem dX3_reciprocalNumerator_25 : decode cX3_reciprocalNumerator 25 = .ok (.invokestatic 102, 3) := by decide +kernel
theorem dX3_reciprocalNumerator_28 : decode cX3_reciprocalNumerator 28 = .ok (.lreturn, 1) := by decide +kernel
set_option maxRecDepth 20000 in
theorem ggX3_reciprocalDenominator_X3_requireSystem : GoodIn wsX3_reciprocalDenominator wsX3_requireSystem := goodIn_ca (goodIn_r _ [5, 6, 7] (by decide +kernel) (by decide +kernel)) (goodIn_sub (fun _ h => List.mem_cons_of_mem _ (List.mem_append_right _ h)) (by decide +kernel))
set_option maxRecDepth 20000 in
theorem gX3_reciprocalDenominator_X3_requireSystem : GoodIn wsX3_reciprocalDenominator (va_wsS RX3 27 yX3_requireSystem wsX3_requireSystem) := goodIn_app (goodIn_of _ (by decide +kernel)) ggX3_reciprocalDenominator_X3_requireSystem
set_option maxRecDepth 20000 in
theorem ggX3_reciprocalDenominator_X3_requireQuestion : GoodIn wsX3_reciprocalDenominator wsX3_requireQuestion := goodIn_ca (goodIn_r _ [10, 6, 7] (by decide +kernel) (by decide +kernel)) (goodIn_sub (fun _ h => List.mem_cons_of_mem _ (List.mem_append_right _ h)) (by decide +kernel))
set_option maxRecDepth 20000 in
theorem gX3_reciprocalDenominator_X3_requireQuestion : GoodIn wsX3_reciprocalDenominator (va_wsS RX3 31 yX3_requireQuestion wsX3_requireQuestion) := goodIn_app (goodIn_of _ (by decide +kernel)) ggX3_reciprocalDenominator_X3_requireQuestion
set_option maxRecDepth 20000 in
theorem ggX3_reciprocalDenominator_X1_reciprocalWhole : GoodIn wsX3_reciprocalDenominator wsX1_reciprocalWhole := goodIn_r _ [14, 15, 16, 17, 18, 19, 12, 20, 21, 22, 23, 24, 25, 26, 27, 28, 29, 30, 31, 32, 33, 34, 35, 36, 37, 38, 39, 40, 41, 42, 43, 4, 44, 61, 62, 63, 64, 65] (by decide +kernel) (by decide +kernel)
set_option maxRecDepth 20000 in
theorem gX3_reciprocalDenominator_X1_reciprocalWhole_n110 : GoodIn wsX3_reciprocalDenominator (wsX1_reciprocalWhole) := ggX3_reciprocalDenominator_X1_reciprocalWhole
set_option maxRecDepth 20000 in
theorem ggX3_reciprocalDenominator_X1_reciprocalParts : GoodIn wsX3_reciprocalDenominator wsX1_reciprocalParts := goodIn_r _ [47, 15, 48, 49, 50, 51, 16, 17, 18, 19, 12, 20, 21, 22, 23, 24, 25, 26, 27, 28, 29, 30, 31, 32, 33, 34, 35, 36, 37, 38, 39, 40, 41, 42, 43, 4, 44, 61, 62, 63, 64, 65] (by decide +kernel) (by decide +kernel)
set_option maxRecDepth 20000 in
theorem gX3_reciprocalDenominator_X1_reciprocalParts_n106 : GoodIn wsX3_reciprocalDenominator (wsX1_reciprocalParts) := ggX3_reciprocalDenominator_X1_reciprocalParts
set_option maxRecDepth 20000 in
theorem ggX3_reciprocalDenominator_X3_reduced : GoodIn wsX3_reciprocalDenominator wsX3_reduced := goodIn_r _ [54, 55, 56, 4, 57] (by decide +kernel) (by decide +kernel)
set_option maxRecDepth 20000 in
theorem gX3_reciprocalDenominator_X3_reduced : GoodIn wsX3_reciprocalDenominator (va_wsS RX3 102 yX3_reduced wsX3_reduced) := goodIn_app (goodIn_of _ (by decide +kernel)) ggX3_reciprocalDenominator_X3_reduced
theorem dX3_reciprocalDenominator_0 : decode cX3_reciprocalDenominator 0 = .ok (.iload_n 1, 1) := by decide +kernel
theorem dX3_reciprocalDenominator_1 : decode cX3_reciprocalDenominator 1 = .ok (.invokestatic 27, 3) := by decide +kernel
theorem dX3_reciprocalDenominator_4 : decode cX3_reciprocalDenominator 4 = .ok (.iload_n 2, 1) := by decide +kernel
theorem dX3_reciprocalDenominator_5 : decode cX3_reciprocalDenominator 5 = .ok (.invokestatic 31, 3) := by decide +kernel
theorem dX3_reciprocalDenominator_8 : decode cX3_reciprocalDenominator 8 = .ok (.aload_n 0, 1) := by decide +kernel
theorem dX3_reciprocalDenominator_9 : decode cX3_reciprocalDenominator 9 = .ok (.getfield 11, 3) := by decide +kernel
theorem dX3_reciprocalDenominator_12 : decode cX3_reciprocalDenominator 12 = .ok (.iload_n 2, 1) := by decide +kernel
theorem dX3_reciprocalDenominator_13 : decode cX3_reciprocalDenominator 13 = .ok (.aaload, 1) := by decide +kernel
theorem dX3_reciprocalDenominator_14 : decode cX3_reciprocalDenominator 14 = .ok (.astore_n 3, 1) := by decide +kernel
theorem dX3_reciprocalDenominator_15 : decode cX3_reciprocalDenominator 15 = .ok (.aload_n 3, 1) := by decide +kernel
theorem dX3_reciprocalDenominator_16 : decode cX3_reciprocalDenominator 16 = .ok (.iload_n 1, 1) := by decide +kernel
theorem dX3_reciprocalDenominator_17 : decode cX3_reciprocalDenominator 17 = .ok (.invokevirtual 110, 3) := by decide +kernel
theorem dX3_reciprocalDenominator_20 : decode cX3_reciprocalDenominator 20 = .ok (.aload_n 3, 1) := by decide +kernel
theorem dX3_reciprocalDenominator_21 : decode cX3_reciprocalDenominator 21 = .ok (.iload_n 1, 1) := by decide +kernel
theorem dX3_reciprocalDenominator_22 : decode cX3_reciprocalDenominator 22 = .ok (.invokevirtual 106, 3) := by decide +kernel
theorem dX3_reciprocalDenominator_25 : decode cX3_reciprocalDenominator 25 = .ok (.invokestatic 102, 3) := by decide +kernel
theorem dX3_reciprocalDenominator_28 : decode cX3_reciprocalDenominator 28 = .ok (.lreturn, 1) := by decide +kernel
set_option maxRecDepth 20000 in
theorem ggX3_meanNumerator_X3_requireSystem : GoodIn wsX3_meanNumerator wsX3_requireSystem := goodIn_ca (goodIn_r _ [4, 5, 6] (by decide +kernel) (by decide +kernel)) (goodIn_sub (fun _ h => List.mem_cons_of_mem _ (List.mem_append_right _ h)) (by decide +kernel))
set_option maxRecDepth 20000 in
theorem gX3_meanNumerator_X3_requireSystem : GoodIn wsX3_meanNumerator (va_wsS RX3 27 yX3_requireSystem wsX3_requireSystem) := goodIn_app (goodIn_of _ (by decide +kernel)) ggX3_meanNumerator_X3_requireSystem
set_option maxRecDepth 20000 in
theorem ggX3_meanNumerator_X3_requireOneToTwenty : GoodIn wsX3_meanNumerator wsX3_requireOneToTwenty := goodIn_ca (goodIn_r _ [9, 5, 6] (by decide +kernel) (by decide +kernel)) (goodIn_sub (fun _ h => List.mem_cons_of_mem _ (List.mem_append_right _ h)) (by decide +kernel))
set_option maxRecDepth 20000 in
theorem gX3_meanNumerator_X3_requireOneToTwenty : GoodIn wsX3_meanNumerator (va_wsS RX3 75 yX3_requireOneToTwenty wsX3_requireOneToTwenty) := goodIn_app (goodIn_of _ (by decide +kernel)) ggX3_meanNumerator_X3_requireOneToTwenty
set_option maxRecDepth 20000 in
theorem ggX3_meanNumerator_X3_systemHitParts : GoodIn wsX3_meanNumerator wsX3_systemHitParts := goodIn_r _ [13, 14, 15, 16, 17, 18, 19, 20, 21, 22, 23, 24, 25, 26, 27, 28, 29, 30, 31, 32, 33, 34, 35, 36, 37, 38, 39, 40, 41, 42, 43, 44, 45, 61, 62, 63, 64, 65, 66, 67, 68] (by decide +kernel) (by decide +kernel)
set_option maxRecDepth 20000 in
theorem gX3_meanNumerator_X3_systemHitParts : GoodIn wsX3_meanNumerator (wsV RX3 113 RX3 yX3_systemHitParts wsX3_systemHitParts) := goodIn_app (goodIn_of _ (by decide +kernel)) ggX3_meanNumerator_X3_systemHitParts
set_option maxRecDepth 20000 in
theorem ggX3_meanNumerator_X3_systemWhole : GoodIn wsX3_meanNumerator wsX3_systemWhole := goodIn_r _ [49, 50, 51, 52, 53, 3, 54, 14, 61, 62, 63, 64, 65, 66, 67, 68] (by decide +kernel) (by decide +kernel)
set_option maxRecDepth 20000 in
theorem gX3_meanNumerator_X3_systemWhole : GoodIn wsX3_meanNumerator (wsV RX3 116 RX3 yX3_systemWhole wsX3_systemWhole) := goodIn_app (goodIn_of _ (by decide +kernel)) ggX3_meanNumerator_X3_systemWhole
set_option maxRecDepth 20000 in
theorem ggX3_meanNumerator_X3_reduced : GoodIn wsX3_meanNumerator wsX3_reduced := goodIn_r _ [57, 58, 59, 3, 60] (by decide +kernel) (by decide +kernel)
set_option maxRecDepth 20000 in
theorem gX3_meanNumerator_X3_reduced : GoodIn wsX3_meanNumerator (va_wsS RX3 102 yX3_reduced wsX3_reduced) := goodIn_app (goodIn_of _ (by decide +kernel)) ggX3_meanNumerator_X3_reduced
theorem dX3_meanNumerator_0 : decode cX3_meanNumerator 0 = .ok (.iload_n 1, 1) := by decide +kernel
theorem dX3_meanNumerator_1 : decode cX3_meanNumerator 1 = .ok (.invokestatic 27, 3) := by decide +kernel
theorem dX3_meanNumerator_4 : decode cX3_meanNumerator 4 = .ok (.iload_n 2, 1) := by decide +kernel
theorem dX3_meanNumerator_5 : decode cX3_meanNumerator 5 = .ok (.invokestatic 75, 3) := by decide +kernel
theorem dX3_meanNumerator_8 : decode cX3_meanNumerator 8 = .ok (.aload_n 0, 1) := by decide +kernel
theorem dX3_meanNumerator_9 : decode cX3_meanNumerator 9 = .ok (.iload_n 1, 1) := by decide +kernel
theorem dX3_meanNumerator_10 : decode cX3_meanNumerator 10 = .ok (.iload_n 2, 1) := by decide +kernel
theorem dX3_meanNumerator_11 : decode cX3_meanNumerator 11 = .ok (.invokevirtual 113, 3) := by decide +kernel
theorem dX3_meanNumerator_14 : decode cX3_meanNumerator 14 = .ok (.aload_n 0, 1) := by decide +kernel
theorem dX3_meanNumerator_15 : decode cX3_meanNumerator 15 = .ok (.iload_n 1, 1) := by decide +kernel
theorem dX3_meanNumerator_16 : decode cX3_meanNumerator 16 = .ok (.iload_n 2, 1) := by decide +kernel
theorem dX3_meanNumerator_17 : decode cX3_meanNumerator 17 = .ok (.invokevirtual 116, 3) := by decide +kernel
theorem dX3_meanNumerator_20 : decode cX3_meanNumerator 20 = .ok (.invokestatic 102, 3) := by decide +kernel
theorem dX3_meanNumerator_23 : decode cX3_meanNumerator 23 = .ok (.lreturn, 1) := by decide +kernel
set_option maxRecDepth 20000 in
theorem ggX3_meanDenominator_X3_requireSystem : GoodIn wsX3_meanDenominator wsX3_requireSystem := goodIn_ca (goodIn_r _ [4, 5, 6] (by decide +kernel) (by decide +kernel)) (goodIn_sub (fun _ h => List.mem_cons_of_mem _ (List.mem_append_right _ h)) (by decide +kernel))
set_option maxRecDepth 20000 in
theorem gX3_meanDenominator_X3_requireSystem : GoodIn wsX3_meanDenominator (va_wsS RX3 27 yX3_requireSystem wsX3_requireSystem) := goodIn_app (goodIn_of _ (by decide +kernel)) ggX3_meanDenominator_X3_requireSystem
set_option maxRecDepth 20000 in
theorem ggX3_meanDenominator_X3_requireOneToTwenty : GoodIn wsX3_meanDenominator wsX3_requireOneToTwenty := goodIn_ca (goodIn_r _ [9, 5, 6] (by decide +kernel) (by decide +kernel)) (goodIn_sub (fun _ h => List.mem_cons_of_mem _ (List.mem_append_right _ h)) (by decide +kernel))
set_option maxRecDepth 20000 in
theorem gX3_meanDenominator_X3_requireOneToTwenty : GoodIn wsX3_meanDenominator (va_wsS RX3 75 yX3_requireOneToTwenty wsX3_requireOneToTwenty) := goodIn_app (goodIn_of _ (by decide +kernel)) ggX3_meanDenominator_X3_requireOneToTwenty
set_option maxRecDepth 20000 in
theorem ggX3_meanDenominator_X3_systemWhole : GoodIn wsX3_meanDenominator wsX3_systemWhole := goodIn_r _ [13, 14, 15, 16, 17, 3, 18, 19, 61, 62, 63, 64, 65, 66, 67, 68] (by decide +kernel) (by decide +kernel)
set_option maxRecDepth 20000 in
theorem gX3_meanDenominator_X3_systemWhole : GoodIn wsX3_meanDenominator (wsV RX3 116 RX3 yX3_systemWhole wsX3_systemWhole) := goodIn_app (goodIn_of _ (by decide +kernel)) ggX3_meanDenominator_X3_systemWhole
set_option maxRecDepth 20000 in
theorem ggX3_meanDenominator_X3_systemHitParts : GoodIn wsX3_meanDenominator wsX3_systemHitParts := goodIn_r _ [23, 19, 24, 25, 26, 27, 28, 29, 30, 31, 32, 33, 34, 35, 36, 37, 38, 39, 40, 41, 42, 43, 44, 45, 46, 47, 48, 49, 50, 51, 52, 53, 54, 61, 62, 63, 64, 65, 66, 67, 68] (by decide +kernel) (by decide +kernel)
set_option maxRecDepth 20000 in
theorem gX3_meanDenominator_X3_systemHitParts : GoodIn wsX3_meanDenominator (wsV RX3 113 RX3 yX3_systemHitParts wsX3_systemHitParts) := goodIn_app (goodIn_of _ (by decide +kernel)) ggX3_meanDenominator_X3_systemHitParts
set_option maxRecDepth 20000 in
theorem ggX3_meanDenominator_X3_reduced : GoodIn wsX3_meanDenominator wsX3_reduced := goodIn_r _ [57, 58, 59, 3, 60] (by decide +kernel) (by decide +kernel)
set_option maxRecDepth 20000 in
theorem gX3_meanDenominator_X3_reduced : GoodIn wsX3_meanDenominator (va_wsS RX3 102 yX3_reduced wsX3_reduced) := goodIn_app (goodIn_of _ (by decide +kernel)) ggX3_meanDenominator_X3_reduced
theorem dX3_meanDenominator_0 : decode cX3_meanDenominator 0 = .ok (.iload_n 1, 1) := by decide +kernel
theorem dX3_meanDenominator_1 : decode cX3_meanDenominator 1 = .ok (.invokestatic 27, 3) := by decide +kernel
theorem dX3_meanDenominator_4 : decode cX3_meanDenominator 4 = .ok (.iload_n 2, 1) := by decide +kernel
theorem dX3_meanDenominator_5 : decode cX3_meanDenominator 5 = .ok (.invokestatic 75, 3) := by decide +kernel
theorem dX3_meanDenominator_8 : decode cX3_meanDenominator 8 = .ok (.aload_n 0, 1) := by decide +kernel
theorem dX3_meanDenominator_9 : decode cX3_meanDenominator 9 = .ok (.iload_n 1, 1) := by decide +kernel
theorem dX3_meanDenominator_10 : decode cX3_meanDenominator 10 = .ok (.iload_n 2, 1) := by decide +kernel
theorem dX3_meanDenominator_11 : decode cX3_meanDenominator 11 = .ok (.invokevirtual 116, 3) := by decide +kernel
theorem dX3_meanDenominator_14 : decode cX3_meanDenominator 14 = .ok (.aload_n 0, 1) := by decide +kernel
theorem dX3_meanDenominator_15 : decode cX3_meanDenominator 15 = .ok (.iload_n 1, 1) := by decide +kernel
theorem dX3_meanDenominator_16 : decode cX3_meanDenominator 16 = .ok (.iload_n 2, 1) := by decide +kernel
theorem dX3_meanDenominator_17 : decode cX3_meanDenominator 17 = .ok (.invokevirtual 113, 3) := by decide +kernel
theorem dX3_meanDenominator_20 : decode cX3_meanDenominator 20 = .ok (.invokestatic 102, 3) := by decide +kernel
theorem dX3_meanDenominator_23 : decode cX3_meanDenominator 23 = .ok (.lreturn, 1) := by decide +kernel
set_option maxRecDepth 20000 in
theorem ggX3_best_X3_requireOneToTwenty : GoodIn wsX3_best wsX3_requireOneToTwenty := goodIn_ca (goodIn_r _ [4, 5, 6] (by decide +kernel) (by decide +kernel)) (goodIn_sub (fun _ h => List.mem_cons_of_mem _ (List.mem_append_right _ h)) (by decide +kernel))
set_option maxRecDepth 20000 in
theorem gX3_best_X3_requireOneToTwenty : GoodIn wsX3_best (va_wsS RX3 75 yX3_requireOneToTwenty wsX3_requireOneToTwenty) := goodIn_app (goodIn_of _ (by decide +kernel)) ggX3_best_X3_requireOneToTwenty
set_option maxRecDepth 20000 in
theorem ggX3_best_X3_systemHitParts : GoodIn wsX3_best wsX3_systemHitParts := goodIn_r _ [10, 11, 12, 13, 14, 15, 16, 17, 18, 19, 20, 21, 22, 23, 24, 25, 26, 27, 28, 29, 30, 31, 32, 33, 34, 35, 36, 37, 38, 39, 40, 41, 42, 47, 48, 49, 50, 51, 52, 53, 54] (by decide +kernel) (by decide +kernel)
set_option maxRecDepth 20000 in
theorem gX3_best_X3_systemHitParts : GoodIn wsX3_best (wsV RX3 113 RX3 yX3_systemHitParts wsX3_systemHitParts) := goodIn_app (goodIn_of _ (by decide +kernel)) ggX3_best_X3_systemHitParts
set_option maxRecDepth 20000 in
theorem ggX3_best_X3_filledRuns : GoodIn wsX3_best wsX3_filledRuns := goodIn_r _ [46, 11, 47, 48, 49, 50, 51, 52, 53, 54] (by decide +kernel) (by decide +kernel)
set_option maxRecDepth 20000 in
theorem gX3_best_X3_filledRuns : GoodIn wsX3_best (wsV RX3 119 RX3 yX3_filledRuns wsX3_filledRuns) := goodIn_app (goodIn_of _ (by decide +kernel)) ggX3_best_X3_filledRuns
theorem dX3_best_0 : decode cX3_best 0 = .ok (.iload_n 1, 1) := by decide +kernel
theorem dX3_best_1 : decode cX3_best 1 = .ok (.invokestatic 75, 3) := by decide +kernel
theorem dX3_best_4 : decode cX3_best 4 = .ok (.iconst 0, 1) := by decide +kernel
theorem dX3_best_5 : decode cX3_best 5 = .ok (.istore_n 2, 1) := by decide +kernel
theorem dX3_best_6 : decode cX3_best 6 = .ok (.lconst 0, 1) := by decide +kernel
theorem dX3_best_7 : decode cX3_best 7 = .ok (.lstore_n 3, 1) := by decide +kernel
theorem dX3_best_8 : decode cX3_best 8 = .ok (.lconst 1, 1) := by decide +kernel
theorem dX3_best_9 : decode cX3_best 9 = .ok (.lstore 5, 2) := by decide +kernel
theorem dX3_best_11 : decode cX3_best 11 = .ok (.iconst 0, 1) := by decide +kernel
theorem dX3_best_12 : decode cX3_best 12 = .ok (.istore 7, 2) := by decide +kernel
theorem dX3_best_14 : decode cX3_best 14 = .ok (.iload 7, 2) := by decide +kernel
theorem dX3_best_16 : decode cX3_best 16 = .ok (.iconst 4, 1) := by decide +kernel
theorem dX3_best_17 : decode cX3_best 17 = .ok (.if_icmp .ge 50, 3) := by decide +kernel
theorem dX3_best_20 : decode cX3_best 20 = .ok (.aload_n 0, 1) := by decide +kernel
theorem dX3_best_21 : decode cX3_best 21 = .ok (.iload 7, 2) := by decide +kernel
theorem dX3_best_23 : decode cX3_best 23 = .ok (.iload_n 1, 1) := by decide +kernel
theorem dX3_best_24 : decode cX3_best 24 = .ok (.invokevirtual 113, 3) := by decide +kernel
theorem dX3_best_27 : decode cX3_best 27 = .ok (.lstore 8, 2) := by decide +kernel
theorem dX3_best_29 : decode cX3_best 29 = .ok (.aload_n 0, 1) := by decide +kernel
theorem dX3_best_30 : decode cX3_best 30 = .ok (.iload 7, 2) := by decide +kernel
theorem dX3_best_32 : decode cX3_best 32 = .ok (.invokevirtual 119, 3) := by decide +kernel
theorem dX3_best_35 : decode cX3_best 35 = .ok (.i2l, 1) := by decide +kernel
theorem dX3_best_36 : decode cX3_best 36 = .ok (.lstore 10, 2) := by decide +kernel
theorem dX3_best_38 : decode cX3_best 38 = .ok (.lload 8, 2) := by decide +kernel
theorem dX3_best_40 : decode cX3_best 40 = .ok (.lload 5, 2) := by decide +kernel
theorem dX3_best_42 : decode cX3_best 42 = .ok (.lmul, 1) := by decide +kernel
theorem dX3_best_43 : decode cX3_best 43 = .ok (.lload_n 3, 1) := by decide +kernel
theorem dX3_best_44 : decode cX3_best 44 = .ok (.lload 10, 2) := by decide +kernel
theorem dX3_best_46 : decode cX3_best 46 = .ok (.lmul, 1) := by decide +kernel
theorem dX3_best_47 : decode cX3_best 47 = .ok (.lcmp, 1) := by decide +kernel
theorem dX3_best_48 : decode cX3_best 48 = .ok (.ifCond .le 13, 3) := by decide +kernel
theorem dX3_best_51 : decode cX3_best 51 = .ok (.iload 7, 2) := by decide +kernel
theorem dX3_best_53 : decode cX3_best 53 = .ok (.istore_n 2, 1) := by decide +kernel
theorem dX3_best_54 : decode cX3_best 54 = .ok (.lload 8, 2) := by decide +kernel
theorem dX3_best_56 : decode cX3_best 56 = .ok (.lstore_n 3, 1) := by decide +kernel
theorem dX3_best_57 : decode cX3_best 57 = .ok (.lload 10, 2) := by decide +kernel
theorem dX3_best_59 : decode cX3_best 59 = .ok (.lstore 5, 2) := by decide +kernel
theorem dX3_best_61 : decode cX3_best 61 = .ok (.iinc 7 1, 3) := by decide +kernel
theorem dX3_best_64 : decode cX3_best 64 = .ok (.goto (-50), 3) := by decide +kernel
theorem dX3_best_67 : decode cX3_best 67 = .ok (.iload_n 2, 1) := by decide +kernel
theorem dX3_best_68 : decode cX3_best 68 = .ok (.ireturn, 1) := by decide +kernel
set_option maxRecDepth 20000 in
theorem ggX3_cross_X3_requireSystem : GoodIn wsX3_cross wsX3_requireSystem := goodIn_ca (goodIn_r _ [8, 1, 2] (by decide +kernel) (by decide +kernel)) (goodIn_sub (fun _ h => List.mem_cons_of_mem _ (List.mem_append_right _ h)) (by decide +kernel))
set_option maxRecDepth 20000 in
theorem gX3_cross_X3_requireSystem : GoodIn wsX3_cross (va_wsS RX3 27 yX3_requireSystem wsX3_requireSystem) := goodIn_app (goodIn_of _ (by decide +kernel)) ggX3_cross_X3_requireSystem
set_option maxRecDepth 20000 in
theorem ggX3_cross_X3_requireQuestion : GoodIn wsX3_cross wsX3_requireQuestion := goodIn_ca (goodIn_r _ [11, 1, 2] (by decide +kernel) (by decide +kernel)) (goodIn_sub (fun _ h => List.mem_cons_of_mem _ (List.mem_append_right _ h)) (by decide +kernel))
set_option maxRecDepth 20000 in
theorem gX3_cross_X3_requireQuestion : GoodIn wsX3_cross (va_wsS RX3 31 yX3_requireQuestion wsX3_requireQuestion) := goodIn_app (goodIn_of _ (by decide +kernel)) ggX3_cross_X3_requireQuestion
set_option maxRecDepth 20000 in
theorem ggX3_cross_X3_requireOneToTwenty : GoodIn wsX3_cross wsX3_requireOneToTwenty := goodIn_ca (goodIn_r _ [14, 1, 2] (by decide +kernel) (by decide +kernel)) (goodIn_sub (fun _ h => List.mem_cons_of_mem _ (List.mem_append_right _ h)) (by decide +kernel))
set_option maxRecDepth 20000 in
theorem gX3_cross_X3_requireOneToTwenty : GoodIn wsX3_cross (va_wsS RX3 75 yX3_requireOneToTwenty wsX3_requireOneToTwenty) := goodIn_app (goodIn_of _ (by decide +kernel)) ggX3_cross_X3_requireOneToTwenty
set_option maxRecDepth 20000 in
theorem ggX3_cross_X0_restart : GoodIn wsX3_cross wsX0_restart := goodIn_r _ [18, 19, 20, 21, 22, 23, 24, 46, 47, 48, 49, 50] (by decide +kernel) (by decide +kernel)
set_option maxRecDepth 20000 in
theorem gX3_cross_X0_restart_n124 : GoodIn wsX3_cross (wsX0_restart) := ggX3_cross_X0_restart
set_option maxRecDepth 20000 in
theorem ggX3_cross_X0_takeFrom : GoodIn wsX3_cross wsX0_takeFrom := goodIn_r _ [27, 24, 23, 28, 29, 30, 31, 32, 33, 34, 35, 36, 37, 38, 39, 16, 40, 51, 52, 53, 46, 47, 48, 49, 50] (by decide +kernel) (by decide +kernel)
set_option maxRecDepth 20000 in
theorem gX3_cross_X0_takeFrom_n127 : GoodIn wsX3_cross (wsX0_takeFrom) := ggX3_cross_X0_takeFrom
theorem dX3_cross_0 : decode cX3_cross 0 = .ok (.iload_n 1, 1) := by decide +kernel
theorem dX3_cross_1 : decode cX3_cross 1 = .ok (.invokestatic 27, 3) := by decide +kernel
theorem dX3_cross_4 : decode cX3_cross 4 = .ok (.iload_n 2, 1) := by decide +kernel
theorem dX3_cross_5 : decode cX3_cross 5 = .ok (.invokestatic 27, 3) := by decide +kernel
theorem dX3_cross_8 : decode cX3_cross 8 = .ok (.iload_n 3, 1) := by decide +kernel
theorem dX3_cross_9 : decode cX3_cross 9 = .ok (.invokestatic 31, 3) := by decide +kernel
theorem dX3_cross_12 : decode cX3_cross 12 = .ok (.iload 4, 2) := by decide +kernel
theorem dX3_cross_14 : decode cX3_cross 14 = .ok (.invokestatic 75, 3) := by decide +kernel
theorem dX3_cross_17 : decode cX3_cross 17 = .ok (.iload_n 1, 1) := by decide +kernel
theorem dX3_cross_18 : decode cX3_cross 18 = .ok (.iload_n 2, 1) := by decide +kernel
theorem dX3_cross_19 : decode cX3_cross 19 = .ok (.if_icmp .ne 13, 3) := by decide +kernel
theorem dX3_cross_22 : decode cX3_cross 22 = .ok (.new 37, 3) := by decide +kernel
theorem dX3_cross_25 : decode cX3_cross 25 = .ok (.dup, 1) := by decide +kernel
theorem dX3_cross_26 : decode cX3_cross 26 = .ok (.ldc 122, 2) := by decide +kernel
theorem dX3_cross_28 : decode cX3_cross 28 = .ok (.invokespecial 41, 3) := by decide +kernel
theorem dX3_cross_31 : decode cX3_cross 31 = .ok (.athrow, 1) := by decide +kernel
theorem dX3_cross_32 : decode cX3_cross 32 = .ok (.aload_n 0, 1) := by decide +kernel
theorem dX3_cross_33 : decode cX3_cross 33 = .ok (.getfield 11, 3) := by decide +kernel
theorem dX3_cross_36 : decode cX3_cross 36 = .ok (.iload_n 3, 1) := by decide +kernel
theorem dX3_cross_37 : decode cX3_cross 37 = .ok (.aaload, 1) := by decide +kernel
theorem dX3_cross_38 : decode cX3_cross 38 = .ok (.getfield 44, 3) := by decide +kernel
theorem dX3_cross_41 : decode cX3_cross 41 = .ok (.astore 5, 2) := by decide +kernel
theorem dX3_cross_43 : decode cX3_cross 43 = .ok (.aload_n 0, 1) := by decide +kernel
theorem dX3_cross_44 : decode cX3_cross 44 = .ok (.getfield 19, 3) := by decide +kernel
theorem dX3_cross_47 : decode cX3_cross 47 = .ok (.iload 4, 2) := by decide +kernel
theorem dX3_cross_49 : decode cX3_cross 49 = .ok (.invokevirtual 124, 3) := by decide +kernel
theorem dX3_cross_52 : decode cX3_cross 52 = .ok (.iconst 0, 1) := by decide +kernel
theorem dX3_cross_53 : decode cX3_cross 53 = .ok (.istore 6, 2) := by decide +kernel
theorem dX3_cross_55 : decode cX3_cross 55 = .ok (.iload 6, 2) := by decide +kernel
theorem dX3_cross_57 : decode cX3_cross 57 = .ok (.iload 4, 2) := by decide +kernel
theorem dX3_cross_59 : decode cX3_cross 59 = .ok (.if_icmp .ge 33, 3) := by decide +kernel
theorem dX3_cross_62 : decode cX3_cross 62 = .ok (.aload_n 0, 1) := by decide +kernel
theorem dX3_cross_63 : decode cX3_cross 63 = .ok (.getfield 19, 3) := by decide +kernel
theorem dX3_cross_66 : decode cX3_cross 66 = .ok (.aload 5, 2) := by decide +kernel
theorem dX3_cross_68 : decode cX3_cross 68 = .ok (.iload_n 1, 1) := by decide +kernel
theorem dX3_cross_69 : decode cX3_cross 69 = .ok (.aaload, 1) := by decide +kernel
theorem dX3_cross_70 : decode cX3_cross 70 = .ok (.iload_n 1, 1) := by decide +kernel
theorem dX3_cross_71 : decode cX3_cross 71 = .ok (.invokevirtual 127, 3) := by decide +kernel
theorem dX3_cross_74 : decode cX3_cross 74 = .ok (.aload_n 0, 1) := by decide +kernel
theorem dX3_cross_75 : decode cX3_cross 75 = .ok (.getfield 19, 3) := by decide +kernel
theorem dX3_cross_78 : decode cX3_cross 78 = .ok (.aload 5, 2) := by decide +kernel
theorem dX3_cross_80 : decode cX3_cross 80 = .ok (.iload_n 2, 1) := by decide +kernel
theorem dX3_cross_81 : decode cX3_cross 81 = .ok (.aaload, 1) := by decide +kernel
theorem dX3_cross_82 : decode cX3_cross 82 = .ok (.iload_n 2, 1) := by decide +kernel
theorem dX3_cross_83 : decode cX3_cross 83 = .ok (.invokevirtual 127, 3) := by decide +kernel
theorem dX3_cross_86 : decode cX3_cross 86 = .ok (.iinc 6 1, 3) := by decide +kernel
theorem dX3_cross_89 : decode cX3_cross 89 = .ok (.goto (-34), 3) := by decide +kernel
theorem dX3_cross_92 : decode cX3_cross 92 = .ok (.aload_n 0, 1) := by decide +kernel
theorem dX3_cross_93 : decode cX3_cross 93 = .ok (.getfield 19, 3) := by decide +kernel
theorem dX3_cross_96 : decode cX3_cross 96 = .ok (.getfield 131, 3) := by decide +kernel
theorem dX3_cross_99 : decode cX3_cross 99 = .ok (.ireturn, 1) := by decide +kernel
set_option maxRecDepth 20000 in
theorem ggX3_click_X3_requireListed : GoodIn wsX3_click wsX3_requireListed := goodIn_ca (goodIn_r _ [8, 9, 10, 3, 11, 12, 13, 14, 15, 16, 17, 18] (by decide +kernel) (by decide +kernel)) (goodIn_sub (fun _ h => List.mem_cons_of_mem _ (List.mem_append_right _ h)) (by decide +kernel))
set_option maxRecDepth 20000 in
theorem gX3_click_X3_requireListed : GoodIn wsX3_click (wsV RX3 132 RX3 yX3_requireListed wsX3_requireListed) := goodIn_app (goodIn_of _ (by decide +kernel)) ggX3_click_X3_requireListed
theorem dX3_click_0 : decode cX3_click 0 = .ok (.aload_n 0, 1) := by decide +kernel
theorem dX3_click_1 : decode cX3_click 1 = .ok (.iload_n 1, 1) := by decide +kernel
theorem dX3_click_2 : decode cX3_click 2 = .ok (.invokevirtual 132, 3) := by decide +kernel
theorem dX3_click_5 : decode cX3_click 5 = .ok (.aload_n 0, 1) := by decide +kernel
theorem dX3_click_6 : decode cX3_click 6 = .ok (.getfield 19, 3) := by decide +kernel
theorem dX3_click_9 : decode cX3_click 9 = .ok (.getfield 138, 3) := by decide +kernel
theorem dX3_click_12 : decode cX3_click 12 = .ok (.iload_n 1, 1) := by decide +kernel
theorem dX3_click_13 : decode cX3_click 13 = .ok (.iconst 1, 1) := by decide +kernel
theorem dX3_click_14 : decode cX3_click 14 = .ok (.isub, 1) := by decide +kernel
theorem dX3_click_15 : decode cX3_click 15 = .ok (.baload, 1) := by decide +kernel
theorem dX3_click_16 : decode cX3_click 16 = .ok (.ifCond .eq 13, 3) := by decide +kernel
theorem dX3_click_19 : decode cX3_click 19 = .ok (.new 54, 3) := by decide +kernel
theorem dX3_click_22 : decode cX3_click 22 = .ok (.dup, 1) := by decide +kernel
theorem dX3_click_23 : decode cX3_click 23 = .ok (.ldc 142, 2) := by decide +kernel
theorem dX3_click_25 : decode cX3_click 25 = .ok (.invokespecial 58, 3) := by decide +kernel
theorem dX3_click_28 : decode cX3_click 28 = .ok (.athrow, 1) := by decide +kernel
theorem dX3_click_29 : decode cX3_click 29 = .ok (.aload_n 0, 1) := by decide +kernel
theorem dX3_click_30 : decode cX3_click 30 = .ok (.getfield 19, 3) := by decide +kernel
theorem dX3_click_33 : decode cX3_click 33 = .ok (.getfield 138, 3) := by decide +kernel
theorem dX3_click_36 : decode cX3_click 36 = .ok (.iload_n 1, 1) := by decide +kernel
theorem dX3_click_37 : decode cX3_click 37 = .ok (.iconst 1, 1) := by decide +kernel
theorem dX3_click_38 : decode cX3_click 38 = .ok (.isub, 1) := by decide +kernel
theorem dX3_click_39 : decode cX3_click 39 = .ok (.iconst 1, 1) := by decide +kernel
theorem dX3_click_40 : decode cX3_click 40 = .ok (.bastore, 1) := by decide +kernel
theorem dX3_click_41 : decode cX3_click 41 = .ok (.aload_n 0, 1) := by decide +kernel
theorem dX3_click_42 : decode cX3_click 42 = .ok (.getfield 19, 3) := by decide +kernel
theorem dX3_click_45 : decode cX3_click 45 = .ok (.getfield 144, 3) := by decide +kernel
theorem dX3_click_48 : decode cX3_click 48 = .ok (.iload_n 1, 1) := by decide +kernel
theorem dX3_click_49 : decode cX3_click 49 = .ok (.iconst 1, 1) := by decide +kernel
theorem dX3_click_50 : decode cX3_click 50 = .ok (.isub, 1) := by decide +kernel
theorem dX3_click_51 : decode cX3_click 51 = .ok (.iaload, 1) := by decide +kernel
theorem dX3_click_52 : decode cX3_click 52 = .ok (.ireturn, 1) := by decide +kernel
set_option maxRecDepth 20000 in
theorem ggX3_credit_X3_requireSystem : GoodIn wsX3_credit wsX3_requireSystem := goodIn_ca (goodIn_r _ [5, 6, 7] (by decide +kernel) (by decide +kernel)) (goodIn_sub (fun _ h => List.mem_cons_of_mem _ (List.mem_append_right _ h)) (by decide +kernel))
set_option maxRecDepth 20000 in
theorem gX3_credit_X3_requireSystem : GoodIn wsX3_credit (va_wsS RX3 27 yX3_requireSystem wsX3_requireSystem) := goodIn_app (goodIn_of _ (by decide +kernel)) ggX3_credit_X3_requireSystem
set_option maxRecDepth 20000 in
theorem ggX3_credit_X0_clicksFor : GoodIn wsX3_credit wsX0_clicksFor := goodIn_r _ [11, 12, 13, 14, 18, 19, 20, 21, 22] (by decide +kernel) (by decide +kernel)
set_option maxRecDepth 20000 in
theorem gX3_credit_X0_clicksFor_n147 : GoodIn wsX3_credit (wsX0_clicksFor) := ggX3_credit_X0_clicksFor
theorem dX3_credit_0 : decode cX3_credit 0 = .ok (.iload_n 1, 1) := by decide +kernel
theorem dX3_credit_1 : decode cX3_credit 1 = .ok (.invokestatic 27, 3) := by decide +kernel
theorem dX3_credit_4 : decode cX3_credit 4 = .ok (.aload_n 0, 1) := by decide +kernel
theorem dX3_credit_5 : decode cX3_credit 5 = .ok (.getfield 19, 3) := by decide +kernel
theorem dX3_credit_8 : decode cX3_credit 8 = .ok (.iload_n 1, 1) := by decide +kernel
theorem dX3_credit_9 : decode cX3_credit 9 = .ok (.invokevirtual 147, 3) := by decide +kernel
theorem dX3_credit_12 : decode cX3_credit 12 = .ok (.ireturn, 1) := by decide +kernel
set_option maxRecDepth 20000 in
theorem ggX3_sum_X3_requireSystem : GoodIn wsX3_sum wsX3_requireSystem := goodIn_ca (goodIn_r _ [4, 5, 6] (by decide +kernel) (by decide +kernel)) (goodIn_sub (fun _ h => List.mem_cons_of_mem _ (List.mem_append_right _ h)) (by decide +kernel))
set_option maxRecDepth 20000 in
theorem gX3_sum_X3_requireSystem : GoodIn wsX3_sum (va_wsS RX3 27 yX3_requireSystem wsX3_requireSystem) := goodIn_app (goodIn_of _ (by decide +kernel)) ggX3_sum_X3_requireSystem
set_option maxRecDepth 20000 in
theorem ggX3_sum_X3_requireOneToTwenty : GoodIn wsX3_sum wsX3_requireOneToTwenty := goodIn_ca (goodIn_r _ [9, 5, 6] (by decide +kernel) (by decide +kernel)) (goodIn_sub (fun _ h => List.mem_cons_of_mem _ (List.mem_append_right _ h)) (by decide +kernel))
set_option maxRecDepth 20000 in
theorem gX3_sum_X3_requireOneToTwenty : GoodIn wsX3_sum (va_wsS RX3 75 yX3_requireOneToTwenty wsX3_requireOneToTwenty) := goodIn_app (goodIn_of _ (by decide +kernel)) ggX3_sum_X3_requireOneToTwenty
set_option maxRecDepth 20000 in
theorem ggX3_sum_X3_noteDifferences : GoodIn wsX3_sum wsX3_noteDifferences := goodIn_r _ [13, 14, 15, 16, 17, 3, 18, 19, 20, 21, 22, 23, 24, 25, 26, 27, 28, 29, 30, 31, 32, 33, 34, 39, 40, 41, 42, 43, 44, 45, 46] (by decide +kernel) (by decide +kernel)
set_option maxRecDepth 20000 in
theorem gX3_sum_X3_noteDifferences : GoodIn wsX3_sum (wsV RX3 150 RX3 yX3_noteDifferences wsX3_noteDifferences) := goodIn_app (goodIn_of _ (by decide +kernel)) ggX3_sum_X3_noteDifferences
set_option maxRecDepth 20000 in
theorem ggX3_sum_X3_sumWithExchange : GoodIn wsX3_sum wsX3_sumWithExchange := goodIn_r _ [38, 14, 39, 40, 41] (by decide +kernel) (by decide +kernel)
set_option maxRecDepth 20000 in
theorem gX3_sum_X3_sumWithExchange : GoodIn wsX3_sum (wsV RX3 154 RX3 yX3_sumWithExchange wsX3_sumWithExchange) := goodIn_app (goodIn_of _ (by decide +kernel)) ggX3_sum_X3_sumWithExchange
theorem dX3_sum_0 : decode cX3_sum 0 = .ok (.iload_n 1, 1) := by decide +kernel
theorem dX3_sum_1 : decode cX3_sum 1 = .ok (.invokestatic 27, 3) := by decide +kernel
theorem dX3_sum_4 : decode cX3_sum 4 = .ok (.iload_n 2, 1) := by decide +kernel
theorem dX3_sum_5 : decode cX3_sum 5 = .ok (.invokestatic 27, 3) := by decide +kernel
theorem dX3_sum_8 : decode cX3_sum 8 = .ok (.iload_n 3, 1) := by decide +kernel
theorem dX3_sum_9 : decode cX3_sum 9 = .ok (.invokestatic 75, 3) := by decide +kernel
theorem dX3_sum_12 : decode cX3_sum 12 = .ok (.aload_n 0, 1) := by decide +kernel
theorem dX3_sum_13 : decode cX3_sum 13 = .ok (.iload_n 1, 1) := by decide +kernel
theorem dX3_sum_14 : decode cX3_sum 14 = .ok (.iload_n 2, 1) := by decide +kernel
theorem dX3_sum_15 : decode cX3_sum 15 = .ok (.iload_n 3, 1) := by decide +kernel
theorem dX3_sum_16 : decode cX3_sum 16 = .ok (.invokevirtual 150, 3) := by decide +kernel
theorem dX3_sum_19 : decode cX3_sum 19 = .ok (.aload_n 0, 1) := by decide +kernel
theorem dX3_sum_20 : decode cX3_sum 20 = .ok (.iconst 0, 1) := by decide +kernel
theorem dX3_sum_21 : decode cX3_sum 21 = .ok (.invokevirtual 154, 3) := by decide +kernel
theorem dX3_sum_24 : decode cX3_sum 24 = .ok (.ireturn, 1) := by decide +kernel
set_option maxRecDepth 20000 in
theorem ggX3_test_X3_requireSystem : GoodIn wsX3_test wsX3_requireSystem := goodIn_ca (goodIn_r _ [8, 9, 10] (by decide +kernel) (by decide +kernel)) (goodIn_sub (fun _ h => List.mem_cons_of_mem _ (List.mem_append_right _ h)) (by decide +kernel))
set_option maxRecDepth 20000 in
theorem gX3_test_X3_requireSystem : GoodIn wsX3_test (va_wsS RX3 27 yX3_requireSystem wsX3_requireSystem) := goodIn_app (goodIn_of _ (by decide +kernel)) ggX3_test_X3_requireSystem
set_option maxRecDepth 20000 in
theorem ggX3_test_X3_requireOneToTwenty : GoodIn wsX3_test wsX3_requireOneToTwenty := goodIn_ca (goodIn_r _ [13, 9, 10] (by decide +kernel) (by decide +kernel)) (goodIn_sub (fun _ h => List.mem_cons_of_mem _ (List.mem_append_right _ h)) (by decide +kernel))
set_option maxRecDepth 20000 in
theorem gX3_test_X3_requireOneToTwenty : GoodIn wsX3_test (va_wsS RX3 75 yX3_requireOneToTwenty wsX3_requireOneToTwenty) := goodIn_app (goodIn_of _ (by decide +kernel)) ggX3_test_X3_requireOneToTwenty
set_option maxRecDepth 20000 in
theorem ggX3_test_X3_noteDifferences : GoodIn wsX3_test wsX3_noteDifferences := goodIn_r _ [17, 18, 19, 20, 21, 7, 22, 23, 24, 25, 26, 27, 28, 29, 30, 31, 32, 33, 34, 35, 36, 37, 38, 43, 44, 45, 46, 47, 48, 49, 50] (by decide +kernel) (by decide +kernel)
set_option maxRecDepth 20000 in
theorem gX3_test_X3_noteDifferences : GoodIn wsX3_test (wsV RX3 150 RX3 yX3_noteDifferences wsX3_noteDifferences) := goodIn_app (goodIn_of _ (by decide +kernel)) ggX3_test_X3_noteDifferences
set_option maxRecDepth 20000 in
theorem ggX3_test_X3_sumWithExchange : GoodIn wsX3_test wsX3_sumWithExchange := goodIn_r _ [42, 18, 43, 44, 45] (by decide +kernel) (by decide +kernel)
set_option maxRecDepth 20000 in
theorem gX3_test_X3_sumWithExchange : GoodIn wsX3_test (wsV RX3 154 RX3 yX3_sumWithExchange wsX3_sumWithExchange) := goodIn_app (goodIn_of _ (by decide +kernel)) ggX3_test_X3_sumWithExchange
theorem dX3_test_0 : decode cX3_test 0 = .ok (.iload_n 1, 1) := by decide +kernel
theorem dX3_test_1 : decode cX3_test 1 = .ok (.invokestatic 27, 3) := by decide +kernel
theorem dX3_test_4 : decode cX3_test 4 = .ok (.iload_n 2, 1) := by decide +kernel
theorem dX3_test_5 : decode cX3_test 5 = .ok (.invokestatic 27, 3) := by decide +kernel
theorem dX3_test_8 : decode cX3_test 8 = .ok (.iload_n 3, 1) := by decide +kernel
