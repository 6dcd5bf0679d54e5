theorem dX0_init_0 : decode cX0_init 0 = .ok (.aload_n 0, 1) := by decide +kernel
theorem dX0_init_1 : decode cX0_init 1 = .ok (.invokespecial 3, 3) := by decide +kernel
theorem dX0_init_4 : decode cX0_init 4 = .ok (.aload_n 0, 1) := by decide +kernel
theorem dX0_init_5 : decode cX0_init 5 = .ok (.bipush 20, 2) := by decide +kernel
theorem dX0_init_7 : decode cX0_init 7 = .ok (.newarray .int, 2) := by decide +kernel
theorem dX0_init_9 : decode cX0_init 9 = .ok (.putfield 9, 3) := by decide +kernel
theorem dX0_init_12 : decode cX0_init 12 = .ok (.aload_n 0, 1) := by decide +kernel
theorem dX0_init_13 : decode cX0_init 13 = .ok (.bipush 20, 2) := by decide +kernel
theorem dX0_init_15 : decode cX0_init 15 = .ok (.newarray .int, 2) := by decide +kernel
theorem dX0_init_17 : decode cX0_init 17 = .ok (.putfield 15, 3) := by decide +kernel
theorem dX0_init_20 : decode cX0_init 20 = .ok (.aload_n 0, 1) := by decide +kernel
theorem dX0_init_21 : decode cX0_init 21 = .ok (.bipush 20, 2) := by decide +kernel
theorem dX0_init_23 : decode cX0_init 23 = .ok (.newarray .boolean, 2) := by decide +kernel
theorem dX0_init_25 : decode cX0_init 25 = .ok (.putfield 18, 3) := by decide +kernel
theorem dX0_init_28 : decode cX0_init 28 = .ok (.return_, 1) := by decide +kernel
theorem dX0_restart_0 : decode cX0_restart 0 = .ok (.aload_n 0, 1) := by decide +kernel
theorem dX0_restart_1 : decode cX0_restart 1 = .ok (.iload_n 1, 1) := by decide +kernel
theorem dX0_restart_2 : decode cX0_restart 2 = .ok (.bipush 20, 2) := by decide +kernel
theorem dX0_restart_4 : decode cX0_restart 4 = .ok (.invokestatic 22, 3) := by decide +kernel
theorem dX0_restart_7 : decode cX0_restart 7 = .ok (.putfield 28, 3) := by decide +kernel
theorem dX0_restart_10 : decode cX0_restart 10 = .ok (.aload_n 0, 1) := by decide +kernel
theorem dX0_restart_11 : decode cX0_restart 11 = .ok (.iconst 0, 1) := by decide +kernel
theorem dX0_restart_12 : decode cX0_restart 12 = .ok (.putfield 32, 3) := by decide +kernel
theorem dX0_restart_15 : decode cX0_restart 15 = .ok (.return_, 1) := by decide +kernel
set_option maxRecDepth 20000 in
theorem ggX0_takeFrom_X2_documentAt : GoodIn wsX0_takeFrom wsX2_documentAt := goodIn_r _ [9, 10, 11, 17, 18, 19] (by decide +kernel) (by decide +kernel)
set_option maxRecDepth 20000 in
theorem gX0_takeFrom_X2_documentAt_n38 : GoodIn wsX0_takeFrom (wsX2_documentAt) := ggX0_takeFrom_X2_documentAt
set_option maxRecDepth 20000 in
theorem ggX0_takeFrom_X0_holds : GoodIn wsX0_takeFrom wsX0_holds := goodIn_r _ [16, 1, 3, 20, 21, 22, 23, 24] (by decide +kernel) (by decide +kernel)
set_option maxRecDepth 20000 in
theorem gX0_takeFrom_X0_holds : GoodIn wsX0_takeFrom (wsV RX0 42 RX0 yX0_holds wsX0_holds) := goodIn_app (goodIn_of _ (by decide +kernel)) ggX0_takeFrom_X0_holds
theorem dX0_takeFrom_0 : decode cX0_takeFrom 0 = .ok (.iconst 1, 1) := by decide +kernel
theorem dX0_takeFrom_1 : decode cX0_takeFrom 1 = .ok (.istore_n 3, 1) := by decide +kernel
theorem dX0_takeFrom_2 : decode cX0_takeFrom 2 = .ok (.iload_n 3, 1) := by decide +kernel
theorem dX0_takeFrom_3 : decode cX0_takeFrom 3 = .ok (.aload_n 1, 1) := by decide +kernel
theorem dX0_takeFrom_4 : decode cX0_takeFrom 4 = .ok (.getfield 35, 3) := by decide +kernel
theorem dX0_takeFrom_7 : decode cX0_takeFrom 7 = .ok (.if_icmp .gt 78, 3) := by decide +kernel
theorem dX0_takeFrom_10 : decode cX0_takeFrom 10 = .ok (.aload_n 0, 1) := by decide +kernel
theorem dX0_takeFrom_11 : decode cX0_takeFrom 11 = .ok (.getfield 32, 3) := by decide +kernel
theorem dX0_takeFrom_14 : decode cX0_takeFrom 14 = .ok (.aload_n 0, 1) := by decide +kernel
theorem dX0_takeFrom_15 : decode cX0_takeFrom 15 = .ok (.getfield 28, 3) := by decide +kernel
theorem dX0_takeFrom_18 : decode cX0_takeFrom 18 = .ok (.if_icmp .ge 67, 3) := by decide +kernel
theorem dX0_takeFrom_21 : decode cX0_takeFrom 21 = .ok (.aload_n 1, 1) := by decide +kernel
theorem dX0_takeFrom_22 : decode cX0_takeFrom 22 = .ok (.iload_n 3, 1) := by decide +kernel
theorem dX0_takeFrom_23 : decode cX0_takeFrom 23 = .ok (.invokevirtual 38, 3) := by decide +kernel
theorem dX0_takeFrom_26 : decode cX0_takeFrom 26 = .ok (.istore 4, 2) := by decide +kernel
theorem dX0_takeFrom_28 : decode cX0_takeFrom 28 = .ok (.aload_n 0, 1) := by decide +kernel
theorem dX0_takeFrom_29 : decode cX0_takeFrom 29 = .ok (.iload 4, 2) := by decide +kernel
theorem dX0_takeFrom_31 : decode cX0_takeFrom 31 = .ok (.invokevirtual 42, 3) := by decide +kernel
theorem dX0_takeFrom_34 : decode cX0_takeFrom 34 = .ok (.ifCond .ne 45, 3) := by decide +kernel
theorem dX0_takeFrom_37 : decode cX0_takeFrom 37 = .ok (.aload_n 0, 1) := by decide +kernel
theorem dX0_takeFrom_38 : decode cX0_takeFrom 38 = .ok (.getfield 9, 3) := by decide +kernel
theorem dX0_takeFrom_41 : decode cX0_takeFrom 41 = .ok (.aload_n 0, 1) := by decide +kernel
theorem dX0_takeFrom_42 : decode cX0_takeFrom 42 = .ok (.getfield 32, 3) := by decide +kernel
theorem dX0_takeFrom_45 : decode cX0_takeFrom 45 = .ok (.iload 4, 2) := by decide +kernel
theorem dX0_takeFrom_47 : decode cX0_takeFrom 47 = .ok (.iastore, 1) := by decide +kernel
theorem dX0_takeFrom_48 : decode cX0_takeFrom 48 = .ok (.aload_n 0, 1) := by decide +kernel
theorem dX0_takeFrom_49 : decode cX0_takeFrom 49 = .ok (.getfield 15, 3) := by decide +kernel
theorem dX0_takeFrom_52 : decode cX0_takeFrom 52 = .ok (.aload_n 0, 1) := by decide +kernel
theorem dX0_takeFrom_53 : decode cX0_takeFrom 53 = .ok (.getfield 32, 3) := by decide +kernel
theorem dX0_takeFrom_56 : decode cX0_takeFrom 56 = .ok (.iload_n 2, 1) := by decide +kernel
theorem dX0_takeFrom_57 : decode cX0_takeFrom 57 = .ok (.iastore, 1) := by decide +kernel
theorem dX0_takeFrom_58 : decode cX0_takeFrom 58 = .ok (.aload_n 0, 1) := by decide +kernel
theorem dX0_takeFrom_59 : decode cX0_takeFrom 59 = .ok (.getfield 18, 3) := by decide +kernel
theorem dX0_takeFrom_62 : decode cX0_takeFrom 62 = .ok (.aload_n 0, 1) := by decide +kernel
theorem dX0_takeFrom_63 : decode cX0_takeFrom 63 = .ok (.getfield 32, 3) := by decide +kernel
theorem dX0_takeFrom_66 : decode cX0_takeFrom 66 = .ok (.iconst 0, 1) := by decide +kernel
theorem dX0_takeFrom_67 : decode cX0_takeFrom 67 = .ok (.bastore, 1) := by decide +kernel
theorem dX0_takeFrom_68 : decode cX0_takeFrom 68 = .ok (.aload_n 0, 1) := by decide +kernel
theorem dX0_takeFrom_69 : decode cX0_takeFrom 69 = .ok (.dup, 1) := by decide +kernel
theorem dX0_takeFrom_70 : decode cX0_takeFrom 70 = .ok (.getfield 32, 3) := by decide +kernel
theorem dX0_takeFrom_73 : decode cX0_takeFrom 73 = .ok (.iconst 1, 1) := by decide +kernel
theorem dX0_takeFrom_74 : decode cX0_takeFrom 74 = .ok (.iadd, 1) := by decide +kernel
theorem dX0_takeFrom_75 : decode cX0_takeFrom 75 = .ok (.putfield 32, 3) := by decide +kernel
theorem dX0_takeFrom_78 : decode cX0_takeFrom 78 = .ok (.return_, 1) := by decide +kernel
theorem dX0_takeFrom_79 : decode cX0_takeFrom 79 = .ok (.iinc 3 1, 3) := by decide +kernel
theorem dX0_takeFrom_82 : decode cX0_takeFrom 82 = .ok (.goto (-80), 3) := by decide +kernel
theorem dX0_takeFrom_85 : decode cX0_takeFrom 85 = .ok (.return_, 1) := by decide +kernel
theorem dX0_holds_0 : decode cX0_holds 0 = .ok (.iconst 0, 1) := by decide +kernel
theorem dX0_holds_1 : decode cX0_holds 1 = .ok (.istore_n 2, 1) := by decide +kernel
theorem dX0_holds_2 : decode cX0_holds 2 = .ok (.iload_n 2, 1) := by decide +kernel
theorem dX0_holds_3 : decode cX0_holds 3 = .ok (.aload_n 0, 1) := by decide +kernel
theorem dX0_holds_4 : decode cX0_holds 4 = .ok (.getfield 32, 3) := by decide +kernel
theorem dX0_holds_7 : decode cX0_holds 7 = .ok (.if_icmp .ge 21, 3) := by decide +kernel
theorem dX0_holds_10 : decode cX0_holds 10 = .ok (.aload_n 0, 1) := by decide +kernel
theorem dX0_holds_11 : decode cX0_holds 11 = .ok (.getfield 9, 3) := by decide +kernel
theorem dX0_holds_14 : decode cX0_holds 14 = .ok (.iload_n 2, 1) := by decide +kernel
theorem dX0_holds_15 : decode cX0_holds 15 = .ok (.iaload, 1) := by decide +kernel
theorem dX0_holds_16 : decode cX0_holds 16 = .ok (.iload_n 1, 1) := by decide +kernel
theorem dX0_holds_17 : decode cX0_holds 17 = .ok (.if_icmp .ne 5, 3) := by decide +kernel
theorem dX0_holds_20 : decode cX0_holds 20 = .ok (.iconst 1, 1) := by decide +kernel
theorem dX0_holds_21 : decode cX0_holds 21 = .ok (.ireturn, 1) := by decide +kernel
theorem dX0_holds_22 : decode cX0_holds 22 = .ok (.iinc 2 1, 3) := by decide +kernel
theorem dX0_holds_25 : decode cX0_holds 25 = .ok (.goto (-23), 3) := by decide +kernel
theorem dX0_holds_28 : decode cX0_holds 28 = .ok (.iconst 0, 1) := by decide +kernel
theorem dX0_holds_29 : decode cX0_holds 29 = .ok (.ireturn, 1) := by decide +kernel
theorem dX0_clicksFor_0 : decode cX0_clicksFor 0 = .ok (.iconst 0, 1) := by decide +kernel
theorem dX0_clicksFor_1 : decode cX0_clicksFor 1 = .ok (.istore_n 2, 1) := by decide +kernel
theorem dX0_clicksFor_2 : decode cX0_clicksFor 2 = .ok (.iconst 0, 1) := by decide +kernel
theorem dX0_clicksFor_3 : decode cX0_clicksFor 3 = .ok (.istore_n 3, 1) := by decide +kernel
theorem dX0_clicksFor_4 : decode cX0_clicksFor 4 = .ok (.iload_n 3, 1) := by decide +kernel
theorem dX0_clicksFor_5 : decode cX0_clicksFor 5 = .ok (.aload_n 0, 1) := by decide +kernel
theorem dX0_clicksFor_6 : decode cX0_clicksFor 6 = .ok (.getfield 32, 3) := by decide +kernel
theorem dX0_clicksFor_9 : decode cX0_clicksFor 9 = .ok (.if_icmp .ge 31, 3) := by decide +kernel
theorem dX0_clicksFor_12 : decode cX0_clicksFor 12 = .ok (.aload_n 0, 1) := by decide +kernel
theorem dX0_clicksFor_13 : decode cX0_clicksFor 13 = .ok (.getfield 18, 3) := by decide +kernel
theorem dX0_clicksFor_16 : decode cX0_clicksFor 16 = .ok (.iload_n 3, 1) := by decide +kernel
theorem dX0_clicksFor_17 : decode cX0_clicksFor 17 = .ok (.baload, 1) := by decide +kernel
theorem dX0_clicksFor_18 : decode cX0_clicksFor 18 = .ok (.ifCond .eq 16, 3) := by decide +kernel
theorem dX0_clicksFor_21 : decode cX0_clicksFor 21 = .ok (.aload_n 0, 1) := by decide +kernel
theorem dX0_clicksFor_22 : decode cX0_clicksFor 22 = .ok (.getfield 15, 3) := by decide +kernel
theorem dX0_clicksFor_25 : decode cX0_clicksFor 25 = .ok (.iload_n 3, 1) := by decide +kernel
theorem dX0_clicksFor_26 : decode cX0_clicksFor 26 = .ok (.iaload, 1) := by decide +kernel
theorem dX0_clicksFor_27 : decode cX0_clicksFor 27 = .ok (.iload_n 1, 1) := by decide +kernel
theorem dX0_clicksFor_28 : decode cX0_clicksFor 28 = .ok (.if_icmp .ne 6, 3) := by decide +kernel
theorem dX0_clicksFor_31 : decode cX0_clicksFor 31 = .ok (.iinc 2 1, 3) := by decide +kernel
theorem dX0_clicksFor_34 : decode cX0_clicksFor 34 = .ok (.iinc 3 1, 3) := by decide +kernel
theorem dX0_clicksFor_37 : decode cX0_clicksFor 37 = .ok (.goto (-33), 3) := by decide +kernel
theorem dX0_clicksFor_40 : decode cX0_clicksFor 40 = .ok (.iload_n 2, 1) := by decide +kernel
theorem dX0_clicksFor_41 : decode cX0_clicksFor 41 = .ok (.ireturn, 1) := by decide +kernel
set_option maxRecDepth 20000 in
theorem ggX1_init_X2_init : GoodIn wsX1_init wsX2_init := goodIn_r _ [11, 12, 2, 3, 8, 13, 14, 17, 18, 19] (by decide +kernel) (by decide +kernel)
set_option maxRecDepth 20000 in
theorem gX1_init_X2_init_n17 : GoodIn wsX1_init (wsX2_init) := ggX1_init_X2_init
theorem dX1_init_0 : decode cX1_init 0 = .ok (.aload_n 0, 1) := by decide +kernel
theorem dX1_init_1 : decode cX1_init 1 = .ok (.invokespecial 3, 3) := by decide +kernel
theorem dX1_init_4 : decode cX1_init 4 = .ok (.aload_n 0, 1) := by decide +kernel
theorem dX1_init_5 : decode cX1_init 5 = .ok (.iconst 4, 1) := by decide +kernel
theorem dX1_init_6 : decode cX1_init 6 = .ok (.anewarray 9, 3) := by decide +kernel
theorem dX1_init_9 : decode cX1_init 9 = .ok (.putfield 11, 3) := by decide +kernel
theorem dX1_init_12 : decode cX1_init 12 = .ok (.iconst 0, 1) := by decide +kernel
theorem dX1_init_13 : decode cX1_init 13 = .ok (.istore_n 1, 1) := by decide +kernel
theorem dX1_init_14 : decode cX1_init 14 = .ok (.iload_n 1, 1) := by decide +kernel
theorem dX1_init_15 : decode cX1_init 15 = .ok (.iconst 4, 1) := by decide +kernel
theorem dX1_init_16 : decode cX1_init 16 = .ok (.if_icmp .ge 22, 3) := by decide +kernel
theorem dX1_init_19 : decode cX1_init 19 = .ok (.aload_n 0, 1) := by decide +kernel
theorem dX1_init_20 : decode cX1_init 20 = .ok (.getfield 11, 3) := by decide +kernel
theorem dX1_init_23 : decode cX1_init 23 = .ok (.iload_n 1, 1) := by decide +kernel
theorem dX1_init_24 : decode cX1_init 24 = .ok (.new 9, 3) := by decide +kernel
theorem dX1_init_27 : decode cX1_init 27 = .ok (.dup, 1) := by decide +kernel
theorem dX1_init_28 : decode cX1_init 28 = .ok (.invokespecial 17, 3) := by decide +kernel
theorem dX1_init_31 : decode cX1_init 31 = .ok (.aastore, 1) := by decide +kernel
theorem dX1_init_32 : decode cX1_init 32 = .ok (.iinc 1 1, 3) := by decide +kernel
theorem dX1_init_35 : decode cX1_init 35 = .ok (.goto (-21), 3) := by decide +kernel
theorem dX1_init_38 : decode cX1_init 38 = .ok (.aload_n 0, 1) := by decide +kernel
theorem dX1_init_39 : decode cX1_init 39 = .ok (.bipush 40, 2) := by decide +kernel
theorem dX1_init_41 : decode cX1_init 41 = .ok (.newarray .int, 2) := by decide +kernel
theorem dX1_init_43 : decode cX1_init 43 = .ok (.putfield 18, 3) := by decide +kernel
theorem dX1_init_46 : decode cX1_init 46 = .ok (.return_, 1) := by decide +kernel
set_option maxRecDepth 20000 in
theorem ggX1_isPooled_X2_rankOf : GoodIn wsX1_isPooled wsX2_rankOf := goodIn_r _ [5, 6, 7, 10, 11, 12] (by decide +kernel) (by decide +kernel)
set_option maxRecDepth 20000 in
theorem gX1_isPooled_X2_rankOf_n22 : GoodIn wsX1_isPooled (wsX2_rankOf) := ggX1_isPooled_X2_rankOf
theorem dX1_isPooled_0 : decode cX1_isPooled 0 = .ok (.iconst 0, 1) := by decide +kernel
theorem dX1_isPooled_1 : decode cX1_isPooled 1 = .ok (.istore_n 3, 1) := by decide +kernel
theorem dX1_isPooled_2 : decode cX1_isPooled 2 = .ok (.iload_n 3, 1) := by decide +kernel
theorem dX1_isPooled_3 : decode cX1_isPooled 3 = .ok (.iconst 4, 1) := by decide +kernel
theorem dX1_isPooled_4 : decode cX1_isPooled 4 = .ok (.if_icmp .ge 35, 3) := by decide +kernel
theorem dX1_isPooled_7 : decode cX1_isPooled 7 = .ok (.aload_n 0, 1) := by decide +kernel
theorem dX1_isPooled_8 : decode cX1_isPooled 8 = .ok (.getfield 11, 3) := by decide +kernel
theorem dX1_isPooled_11 : decode cX1_isPooled 11 = .ok (.iload_n 3, 1) := by decide +kernel
theorem dX1_isPooled_12 : decode cX1_isPooled 12 = .ok (.aaload, 1) := by decide +kernel
theorem dX1_isPooled_13 : decode cX1_isPooled 13 = .ok (.iload_n 1, 1) := by decide +kernel
theorem dX1_isPooled_14 : decode cX1_isPooled 14 = .ok (.invokevirtual 22, 3) := by decide +kernel
theorem dX1_isPooled_17 : decode cX1_isPooled 17 = .ok (.istore 4, 2) := by decide +kernel
theorem dX1_isPooled_19 : decode cX1_isPooled 19 = .ok (.iload 4, 2) := by decide +kernel
theorem dX1_isPooled_21 : decode cX1_isPooled 21 = .ok (.iconst (-1), 1) := by decide +kernel
theorem dX1_isPooled_22 : decode cX1_isPooled 22 = .ok (.if_icmp .eq 11, 3) := by decide +kernel
theorem dX1_isPooled_25 : decode cX1_isPooled 25 = .ok (.iload 4, 2) := by decide +kernel
theorem dX1_isPooled_27 : decode cX1_isPooled 27 = .ok (.iload_n 2, 1) := by decide +kernel
theorem dX1_isPooled_28 : decode cX1_isPooled 28 = .ok (.if_icmp .gt 5, 3) := by decide +kernel
theorem dX1_isPooled_31 : decode cX1_isPooled 31 = .ok (.iconst 1, 1) := by decide +kernel
theorem dX1_isPooled_32 : decode cX1_isPooled 32 = .ok (.ireturn, 1) := by decide +kernel
theorem dX1_isPooled_33 : decode cX1_isPooled 33 = .ok (.iinc 3 1, 3) := by decide +kernel
theorem dX1_isPooled_36 : decode cX1_isPooled 36 = .ok (.goto (-34), 3) := by decide +kernel
theorem dX1_isPooled_39 : decode cX1_isPooled 39 = .ok (.iconst 0, 1) := by decide +kernel
theorem dX1_isPooled_40 : decode cX1_isPooled 40 = .ok (.ireturn, 1) := by decide +kernel
set_option maxRecDepth 20000 in
theorem ggX1_poolSize_X1_isPooled : GoodIn wsX1_poolSize wsX1_isPooled := goodIn_r _ [5, 6, 7, 8, 9, 10, 11, 12, 13, 14, 15, 16, 17] (by decide +kernel) (by decide +kernel)
set_option maxRecDepth 20000 in
theorem gX1_poolSize_X1_isPooled : GoodIn wsX1_poolSize (wsV RX1 26 RX1 yX1_isPooled wsX1_isPooled) := goodIn_app (goodIn_of _ (by decide +kernel)) ggX1_poolSize_X1_isPooled
theorem dX1_poolSize_0 : decode cX1_poolSize 0 = .ok (.iconst 0, 1) := by decide +kernel
theorem dX1_poolSize_1 : decode cX1_poolSize 1 = .ok (.istore_n 2, 1) := by decide +kernel
theorem dX1_poolSize_2 : decode cX1_poolSize 2 = .ok (.iconst 0, 1) := by decide +kernel
theorem dX1_poolSize_3 : decode cX1_poolSize 3 = .ok (.istore_n 3, 1) := by decide +kernel
theorem dX1_poolSize_4 : decode cX1_poolSize 4 = .ok (.iload_n 3, 1) := by decide +kernel
theorem dX1_poolSize_5 : decode cX1_poolSize 5 = .ok (.bipush 40, 2) := by decide +kernel
theorem dX1_poolSize_7 : decode cX1_poolSize 7 = .ok (.if_icmp .ge 21, 3) := by decide +kernel
theorem dX1_poolSize_10 : decode cX1_poolSize 10 = .ok (.aload_n 0, 1) := by decide +kernel
theorem dX1_poolSize_11 : decode cX1_poolSize 11 = .ok (.iload_n 3, 1) := by decide +kernel
theorem dX1_poolSize_12 : decode cX1_poolSize 12 = .ok (.iload_n 1, 1) := by decide +kernel
theorem dX1_poolSize_13 : decode cX1_poolSize 13 = .ok (.invokevirtual 26, 3) := by decide +kernel
theorem dX1_poolSize_16 : decode cX1_poolSize 16 = .ok (.ifCond .eq 6, 3) := by decide +kernel
theorem dX1_poolSize_19 : decode cX1_poolSize 19 = .ok (.iinc 2 1, 3) := by decide +kernel
theorem dX1_poolSize_22 : decode cX1_poolSize 22 = .ok (.iinc 3 1, 3) := by decide +kernel
theorem dX1_poolSize_25 : decode cX1_poolSize 25 = .ok (.goto (-21), 3) := by decide +kernel
theorem dX1_poolSize_28 : decode cX1_poolSize 28 = .ok (.iload_n 2, 1) := by decide +kernel
theorem dX1_poolSize_29 : decode cX1_poolSize 29 = .ok (.ireturn, 1) := by decide +kernel
set_option maxRecDepth 20000 in
theorem ggX1_firstUnjudged_X1_isPooled : GoodIn wsX1_firstUnjudged wsX1_isPooled := goodIn_r _ [6, 7, 8, 9, 10, 11, 12, 13, 14, 15, 16, 17, 18] (by decide +kernel) (by decide +kernel)
set_option maxRecDepth 20000 in
theorem gX1_firstUnjudged_X1_isPooled : GoodIn wsX1_firstUnjudged (wsV RX1 26 RX1 yX1_isPooled wsX1_isPooled) := goodIn_app (goodIn_of _ (by decide +kernel)) ggX1_firstUnjudged_X1_isPooled
theorem dX1_firstUnjudged_0 : decode cX1_firstUnjudged 0 = .ok (.iconst 0, 1) := by decide +kernel
theorem dX1_firstUnjudged_1 : decode cX1_firstUnjudged 1 = .ok (.istore_n 2, 1) := by decide +kernel
theorem dX1_firstUnjudged_2 : decode cX1_firstUnjudged 2 = .ok (.iload_n 2, 1) := by decide +kernel
theorem dX1_firstUnjudged_3 : decode cX1_firstUnjudged 3 = .ok (.bipush 40, 2) := by decide +kernel
theorem dX1_firstUnjudged_5 : decode cX1_firstUnjudged 5 = .ok (.if_icmp .ge 29, 3) := by decide +kernel
theorem dX1_firstUnjudged_8 : decode cX1_firstUnjudged 8 = .ok (.aload_n 0, 1) := by decide +kernel
theorem dX1_firstUnjudged_9 : decode cX1_firstUnjudged 9 = .ok (.getfield 18, 3) := by decide +kernel
theorem dX1_firstUnjudged_12 : decode cX1_firstUnjudged 12 = .ok (.iload_n 2, 1) := by decide +kernel
theorem dX1_firstUnjudged_13 : decode cX1_firstUnjudged 13 = .ok (.iaload, 1) := by decide +kernel
theorem dX1_firstUnjudged_14 : decode cX1_firstUnjudged 14 = .ok (.ifCond .ne 14, 3) := by decide +kernel
theorem dX1_firstUnjudged_17 : decode cX1_firstUnjudged 17 = .ok (.aload_n 0, 1) := by decide +kernel
theorem dX1_firstUnjudged_18 : decode cX1_firstUnjudged 18 = .ok (.iload_n 2, 1) := by decide +kernel
theorem dX1_firstUnjudged_19 : decode cX1_firstUnjudged 19 = .ok (.iload_n 1, 1) := by decide +kernel
theorem dX1_firstUnjudged_20 : decode cX1_firstUnjudged 20 = .ok (.invokevirtual 26, 3) := by decide +kernel
theorem dX1_firstUnjudged_23 : decode cX1_firstUnjudged 23 = .ok (.ifCond .eq 5, 3) := by decide +kernel
theorem dX1_firstUnjudged_26 : decode cX1_firstUnjudged 26 = .ok (.iload_n 2, 1) := by decide +kernel
theorem dX1_firstUnjudged_27 : decode cX1_firstUnjudged 27 = .ok (.ireturn, 1) := by decide +kernel
theorem dX1_firstUnjudged_28 : decode cX1_firstUnjudged 28 = .ok (.iinc 2 1, 3) := by decide +kernel
theorem dX1_firstUnjudged_31 : decode cX1_firstUnjudged 31 = .ok (.goto (-29), 3) := by decide +kernel
theorem dX1_firstUnjudged_34 : decode cX1_firstUnjudged 34 = .ok (.iconst (-1), 1) := by decide +kernel
theorem dX1_firstUnjudged_35 : decode cX1_firstUnjudged 35 = .ok (.ireturn, 1) := by decide +kernel
set_option maxRecDepth 20000 in
theorem ggX1_isRelevantAt_X2_documentAt : GoodIn wsX1_isRelevantAt wsX2_documentAt := goodIn_r _ [5, 6, 7, 10, 11, 12] (by decide +kernel) (by decide +kernel)
set_option maxRecDepth 20000 in
theorem gX1_isRelevantAt_X2_documentAt_n30 : GoodIn wsX1_isRelevantAt (wsX2_documentAt) := ggX1_isRelevantAt_X2_documentAt
theorem dX1_isRelevantAt_0 : decode cX1_isRelevantAt 0 = .ok (.aload_n 1, 1) := by decide +kernel
theorem dX1_isRelevantAt_1 : decode cX1_isRelevantAt 1 = .ok (.iload_n 2, 1) := by decide +kernel
theorem dX1_isRelevantAt_2 : decode cX1_isRelevantAt 2 = .ok (.invokevirtual 30, 3) := by decide +kernel
theorem dX1_isRelevantAt_5 : decode cX1_isRelevantAt 5 = .ok (.istore_n 3, 1) := by decide +kernel
theorem dX1_isRelevantAt_6 : decode cX1_isRelevantAt 6 = .ok (.iload_n 3, 1) := by decide +kernel
theorem dX1_isRelevantAt_7 : decode cX1_isRelevantAt 7 = .ok (.ifCond .lt 23, 3) := by decide +kernel
theorem dX1_isRelevantAt_10 : decode cX1_isRelevantAt 10 = .ok (.iload_n 3, 1) := by decide +kernel
theorem dX1_isRelevantAt_11 : decode cX1_isRelevantAt 11 = .ok (.bipush 40, 2) := by decide +kernel
theorem dX1_isRelevantAt_13 : decode cX1_isRelevantAt 13 = .ok (.if_icmp .ge 17, 3) := by decide +kernel
theorem dX1_isRelevantAt_16 : decode cX1_isRelevantAt 16 = .ok (.aload_n 0, 1) := by decide +kernel
theorem dX1_isRelevantAt_17 : decode cX1_isRelevantAt 17 = .ok (.getfield 18, 3) := by decide +kernel
theorem dX1_isRelevantAt_20 : decode cX1_isRelevantAt 20 = .ok (.iload_n 3, 1) := by decide +kernel
theorem dX1_isRelevantAt_21 : decode cX1_isRelevantAt 21 = .ok (.iaload, 1) := by decide +kernel
theorem dX1_isRelevantAt_22 : decode cX1_isRelevantAt 22 = .ok (.iconst 2, 1) := by decide +kernel
theorem dX1_isRelevantAt_23 : decode cX1_isRelevantAt 23 = .ok (.if_icmp .ne 7, 3) := by decide +kernel
theorem dX1_isRelevantAt_26 : decode cX1_isRelevantAt 26 = .ok (.iconst 1, 1) := by decide +kernel
theorem dX1_isRelevantAt_27 : decode cX1_isRelevantAt 27 = .ok (.goto 4, 3) := by decide +kernel
theorem dX1_isRelevantAt_30 : decode cX1_isRelevantAt 30 = .ok (.iconst 0, 1) := by decide +kernel
theorem dX1_isRelevantAt_31 : decode cX1_isRelevantAt 31 = .ok (.ireturn, 1) := by decide +kernel
set_option maxRecDepth 20000 in
theorem ggX1_relevantWithin_X1_isRelevantAt : GoodIn wsX1_relevantWithin wsX1_isRelevantAt := goodIn_r _ [5, 6, 7, 8, 9, 10, 11, 12, 16, 17, 13, 14, 15] (by decide +kernel) (by decide +kernel)
set_option maxRecDepth 20000 in
theorem gX1_relevantWithin_X1_isRelevantAt : GoodIn wsX1_relevantWithin (wsV RX1 37 RX1 yX1_isRelevantAt wsX1_isRelevantAt) := goodIn_app (goodIn_of _ (by decide +kernel)) ggX1_relevantWithin_X1_isRelevantAt
theorem dX1_relevantWithin_0 : decode cX1_relevantWithin 0 = .ok (.iconst 0, 1) := by decide +kernel
theorem dX1_relevantWithin_1 : decode cX1_relevantWithin 1 = .ok (.istore 4, 2) := by decide +kernel
theorem dX1_relevantWithin_3 : decode cX1_relevantWithin 3 = .ok (.iload_n 2, 1) := by decide +kernel
theorem dX1_relevantWithin_4 : decode cX1_relevantWithin 4 = .ok (.istore 5, 2) := by decide +kernel
theorem dX1_relevantWithin_6 : decode cX1_relevantWithin 6 = .ok (.iload 5, 2) := by decide +kernel
theorem dX1_relevantWithin_8 : decode cX1_relevantWithin 8 = .ok (.iload_n 3, 1) := by decide +kernel
theorem dX1_relevantWithin_9 : decode cX1_relevantWithin 9 = .ok (.if_icmp .gt 31, 3) := by decide +kernel
theorem dX1_relevantWithin_12 : decode cX1_relevantWithin 12 = .ok (.iload 5, 2) := by decide +kernel
theorem dX1_relevantWithin_14 : decode cX1_relevantWithin 14 = .ok (.aload_n 1, 1) := by decide +kernel
theorem dX1_relevantWithin_15 : decode cX1_relevantWithin 15 = .ok (.getfield 33, 3) := by decide +kernel
theorem dX1_relevantWithin_18 : decode cX1_relevantWithin 18 = .ok (.if_icmp .gt 22, 3) := by decide +kernel
theorem dX1_relevantWithin_21 : decode cX1_relevantWithin 21 = .ok (.aload_n 0, 1) := by decide +kernel
theorem dX1_relevantWithin_22 : decode cX1_relevantWithin 22 = .ok (.aload_n 1, 1) := by decide +kernel
theorem dX1_relevantWithin_23 : decode cX1_relevantWithin 23 = .ok (.iload 5, 2) := by decide +kernel
theorem dX1_relevantWithin_25 : decode cX1_relevantWithin 25 = .ok (.invokevirtual 37, 3) := by decide +kernel
theorem dX1_relevantWithin_28 : decode cX1_relevantWithin 28 = .ok (.ifCond .eq 6, 3) := by decide +kernel
theorem dX1_relevantWithin_31 : decode cX1_relevantWithin 31 = .ok (.iinc 4 1, 3) := by decide +kernel
theorem dX1_relevantWithin_34 : decode cX1_relevantWithin 34 = .ok (.iinc 5 1, 3) := by decide +kernel
theorem dX1_relevantWithin_37 : decode cX1_relevantWithin 37 = .ok (.goto (-31), 3) := by decide +kernel
theorem dX1_relevantWithin_40 : decode cX1_relevantWithin 40 = .ok (.iload 4, 2) := by decide +kernel
theorem dX1_relevantWithin_42 : decode cX1_relevantWithin 42 = .ok (.ireturn, 1) := by decide +kernel
set_option maxRecDepth 20000 in
theorem ggX1_meanHitParts_X1_isRelevantAt : GoodIn wsX1_meanHitParts wsX1_isRelevantAt := goodIn_r _ [6, 7, 8, 9, 10, 11, 12, 13, 29, 30, 31, 32, 33] (by decide +kernel) (by decide +kernel)
set_option maxRecDepth 20000 in
theorem gX1_meanHitParts_X1_isRelevantAt : GoodIn wsX1_meanHitParts (wsV RX1 37 RX1 yX1_isRelevantAt wsX1_isRelevantAt) := goodIn_app (goodIn_of _ (by decide +kernel)) ggX1_meanHitParts_X1_isRelevantAt
set_option maxRecDepth 20000 in
theorem ggX1_meanHitParts_X2_firstTied : GoodIn wsX1_meanHitParts wsX2_firstTied := goodIn_r _ [16, 12, 17, 31, 32, 33] (by decide +kernel) (by decide +kernel)
set_option maxRecDepth 20000 in
theorem gX1_meanHitParts_X2_firstTied_n41 : GoodIn wsX1_meanHitParts (wsX2_firstTied) := ggX1_meanHitParts_X2_firstTied
set_option maxRecDepth 20000 in
theorem ggX1_meanHitParts_X2_lastTied : GoodIn wsX1_meanHitParts wsX2_lastTied := goodIn_r _ [20, 12, 17, 31, 32, 33] (by decide +kernel) (by decide +kernel)
set_option maxRecDepth 20000 in
theorem gX1_meanHitParts_X2_lastTied_n44 : GoodIn wsX1_meanHitParts (wsX2_lastTied) := ggX1_meanHitParts_X2_lastTied
set_option maxRecDepth 20000 in
theorem ggX1_meanHitParts_X1_hitParts : GoodIn wsX1_meanHitParts wsX1_hitParts := goodIn_r _ [23, 24, 25, 26, 27, 28] (by decide +kernel) (by decide +kernel)
set_option maxRecDepth 20000 in
theorem gX1_meanHitParts_X1_hitParts : GoodIn wsX1_meanHitParts (va_wsS RX1 47 yX1_hitParts wsX1_hitParts) := goodIn_app (goodIn_of _ (by decide +kernel)) ggX1_meanHitParts_X1_hitParts
theorem dX1_meanHitParts_0 : decode cX1_meanHitParts 0 = .ok (.aload_n 0, 1) := by decide +kernel
theorem dX1_meanHitParts_1 : decode cX1_meanHitParts 1 = .ok (.getfield 11, 3) := by decide +kernel
theorem dX1_meanHitParts_4 : decode cX1_meanHitParts 4 = .ok (.iload_n 1, 1) := by decide +kernel
theorem dX1_meanHitParts_5 : decode cX1_meanHitParts 5 = .ok (.aaload, 1) := by decide +kernel
theorem dX1_meanHitParts_6 : decode cX1_meanHitParts 6 = .ok (.astore_n 3, 1) := by decide +kernel
theorem dX1_meanHitParts_7 : decode cX1_meanHitParts 7 = .ok (.lconst 0, 1) := by decide +kernel
theorem dX1_meanHitParts_8 : decode cX1_meanHitParts 8 = .ok (.lstore 4, 2) := by decide +kernel
theorem dX1_meanHitParts_10 : decode cX1_meanHitParts 10 = .ok (.iconst 1, 1) := by decide +kernel
theorem dX1_meanHitParts_11 : decode cX1_meanHitParts 11 = .ok (.istore 6, 2) := by decide +kernel
theorem dX1_meanHitParts_13 : decode cX1_meanHitParts 13 = .ok (.iload 6, 2) := by decide +kernel
theorem dX1_meanHitParts_15 : decode cX1_meanHitParts 15 = .ok (.aload_n 3, 1) := by decide +kernel
theorem dX1_meanHitParts_16 : decode cX1_meanHitParts 16 = .ok (.getfield 33, 3) := by decide +kernel
theorem dX1_meanHitParts_19 : decode cX1_meanHitParts 19 = .ok (.if_icmp .gt 40, 3) := by decide +kernel
theorem dX1_meanHitParts_22 : decode cX1_meanHitParts 22 = .ok (.aload_n 0, 1) := by decide +kernel
theorem dX1_meanHitParts_23 : decode cX1_meanHitParts 23 = .ok (.aload_n 3, 1) := by decide +kernel
theorem dX1_meanHitParts_24 : decode cX1_meanHitParts 24 = .ok (.iload 6, 2) := by decide +kernel
theorem dX1_meanHitParts_26 : decode cX1_meanHitParts 26 = .ok (.invokevirtual 37, 3) := by decide +kernel
theorem dX1_meanHitParts_29 : decode cX1_meanHitParts 29 = .ok (.ifCond .eq 24, 3) := by decide +kernel
theorem dX1_meanHitParts_32 : decode cX1_meanHitParts 32 = .ok (.lload 4, 2) := by decide +kernel
theorem dX1_meanHitParts_34 : decode cX1_meanHitParts 34 = .ok (.aload_n 3, 1) := by decide +kernel
theorem dX1_meanHitParts_35 : decode cX1_meanHitParts 35 = .ok (.iload 6, 2) := by decide +kernel
theorem dX1_meanHitParts_37 : decode cX1_meanHitParts 37 = .ok (.invokevirtual 41, 3) := by decide +kernel
theorem dX1_meanHitParts_40 : decode cX1_meanHitParts 40 = .ok (.aload_n 3, 1) := by decide +kernel
theorem dX1_meanHitParts_41 : decode cX1_meanHitParts 41 = .ok (.iload 6, 2) := by decide +kernel
theorem dX1_meanHitParts_43 : decode cX1_meanHitParts 43 = .ok (.invokevirtual 44, 3) := by decide +kernel
theorem dX1_meanHitParts_46 : decode cX1_meanHitParts 46 = .ok (.iload_n 2, 1) := by decide +kernel
theorem dX1_meanHitParts_47 : decode cX1_meanHitParts 47 = .ok (.invokestatic 47, 3) := by decide +kernel
theorem dX1_meanHitParts_50 : decode cX1_meanHitParts 50 = .ok (.ladd, 1) := by decide +kernel
theorem dX1_meanHitParts_51 : decode cX1_meanHitParts 51 = .ok (.lstore 4, 2) := by decide +kernel
theorem dX1_meanHitParts_53 : decode cX1_meanHitParts 53 = .ok (.iinc 6 1, 3) := by decide +kernel
theorem dX1_meanHitParts_56 : decode cX1_meanHitParts 56 = .ok (.goto (-43), 3) := by decide +kernel
theorem dX1_meanHitParts_59 : decode cX1_meanHitParts 59 = .ok (.lload 4, 2) := by decide +kernel
theorem dX1_meanHitParts_61 : decode cX1_meanHitParts 61 = .ok (.lreturn, 1) := by decide +kernel
theorem dX1_hitParts_0 : decode cX1_hitParts 0 = .ok (.iload_n 1, 1) := by decide +kernel
theorem dX1_hitParts_1 : decode cX1_hitParts 1 = .ok (.iload_n 0, 1) := by decide +kernel
theorem dX1_hitParts_2 : decode cX1_hitParts 2 = .ok (.isub, 1) := by decide +kernel
theorem dX1_hitParts_3 : decode cX1_hitParts 3 = .ok (.iconst 1, 1) := by decide +kernel
theorem dX1_hitParts_4 : decode cX1_hitParts 4 = .ok (.iadd, 1) := by decide +kernel
theorem dX1_hitParts_5 : decode cX1_hitParts 5 = .ok (.istore_n 3, 1) := by decide +kernel
theorem dX1_hitParts_6 : decode cX1_hitParts 6 = .ok (.iload_n 1, 1) := by decide +kernel
theorem dX1_hitParts_7 : decode cX1_hitParts 7 = .ok (.iload_n 2, 1) := by decide +kernel
theorem dX1_hitParts_8 : decode cX1_hitParts 8 = .ok (.invokestatic 51, 3) := by decide +kernel
theorem dX1_hitParts_11 : decode cX1_hitParts 11 = .ok (.iload_n 0, 1) := by decide +kernel
theorem dX1_hitParts_12 : decode cX1_hitParts 12 = .ok (.isub, 1) := by decide +kernel
theorem dX1_hitParts_13 : decode cX1_hitParts 13 = .ok (.iconst 1, 1) := by decide +kernel
theorem dX1_hitParts_14 : decode cX1_hitParts 14 = .ok (.iadd, 1) := by decide +kernel
theorem dX1_hitParts_15 : decode cX1_hitParts 15 = .ok (.istore 4, 2) := by decide +kernel
theorem dX1_hitParts_17 : decode cX1_hitParts 17 = .ok (.iload_n 3, 1) := by decide +kernel
theorem dX1_hitParts_18 : decode cX1_hitParts 18 = .ok (.iconst 1, 1) := by decide +kernel
theorem dX1_hitParts_19 : decode cX1_hitParts 19 = .ok (.if_icmp .lt 9, 3) := by decide +kernel
theorem dX1_hitParts_22 : decode cX1_hitParts 22 = .ok (.iload 4, 2) := by decide +kernel
theorem dX1_hitParts_24 : decode cX1_hitParts 24 = .ok (.iconst 1, 1) := by decide +kernel
theorem dX1_hitParts_25 : decode cX1_hitParts 25 = .ok (.if_icmp .ge 7, 3) := by decide +kernel
theorem dX1_hitParts_28 : decode cX1_hitParts 28 = .ok (.lconst 0, 1) := by decide +kernel
theorem dX1_hitParts_29 : decode cX1_hitParts 29 = .ok (.goto 13, 3) := by decide +kernel
theorem dX1_hitParts_32 : decode cX1_hitParts 32 = .ok (.ldc2_w 57, 3) := by decide +kernel
theorem dX1_hitParts_35 : decode cX1_hitParts 35 = .ok (.iload_n 3, 1) := by decide +kernel
theorem dX1_hitParts_36 : decode cX1_hitParts 36 = .ok (.i2l, 1) := by decide +kernel
theorem dX1_hitParts_37 : decode cX1_hitParts 37 = .ok (.ldiv, 1) := by decide +kernel
theorem dX1_hitParts_38 : decode cX1_hitParts 38 = .ok (.iload 4, 2) := by decide +kernel
theorem dX1_hitParts_40 : decode cX1_hitParts 40 = .ok (.i2l, 1) := by decide +kernel
theorem dX1_hitParts_41 : decode cX1_hitParts 41 = .ok (.lmul, 1) := by decide +kernel
theorem dX1_hitParts_42 : decode cX1_hitParts 42 = .ok (.lreturn, 1) := by decide +kernel
set_option maxRecDepth 20000 in
theorem ggX1_firstRelevantRank_X1_isRelevantAt : GoodIn wsX1_firstRelevantRank wsX1_isRelevantAt := goodIn_r _ [5, 6, 7, 8, 9, 10, 11, 12, 16, 17, 13, 14, 15] (by decide +kernel) (by decide +kernel)
set_option maxRecDepth 20000 in
theorem gX1_firstRelevantRank_X1_isRelevantAt : GoodIn wsX1_firstRelevantRank (wsV RX1 37 RX1 yX1_isRelevantAt wsX1_isRelevantAt) := goodIn_app (goodIn_of _ (by decide +kernel)) ggX1_firstRelevantRank_X1_isRelevantAt
theorem dX1_firstRelevantRank_0 : decode cX1_firstRelevantRank 0 = .ok (.iconst 1, 1) := by decide +kernel
theorem dX1_firstRelevantRank_1 : decode cX1_firstRelevantRank 1 = .ok (.istore_n 2, 1) := by decide +kernel
theorem dX1_firstRelevantRank_2 : decode cX1_firstRelevantRank 2 = .ok (.iload_n 2, 1) := by decide +kernel
theorem dX1_firstRelevantRank_3 : decode cX1_firstRelevantRank 3 = .ok (.aload_n 1, 1) := by decide +kernel
theorem dX1_firstRelevantRank_4 : decode cX1_firstRelevantRank 4 = .ok (.getfield 33, 3) := by decide +kernel
theorem dX1_firstRelevantRank_7 : decode cX1_firstRelevantRank 7 = .ok (.if_icmp .gt 20, 3) := by decide +kernel
theorem dX1_firstRelevantRank_10 : decode cX1_firstRelevantRank 10 = .ok (.aload_n 0, 1) := by decide +kernel
theorem dX1_firstRelevantRank_11 : decode cX1_firstRelevantRank 11 = .ok (.aload_n 1, 1) := by decide +kernel
theorem dX1_firstRelevantRank_12 : decode cX1_firstRelevantRank 12 = .ok (.iload_n 2, 1) := by decide +kernel
theorem dX1_firstRelevantRank_13 : decode cX1_firstRelevantRank 13 = .ok (.invokevirtual 37, 3) := by decide +kernel
theorem dX1_firstRelevantRank_16 : decode cX1_firstRelevantRank 16 = .ok (.ifCond .eq 5, 3) := by decide +kernel
theorem dX1_firstRelevantRank_19 : decode cX1_firstRelevantRank 19 = .ok (.iload_n 2, 1) := by decide +kernel
theorem dX1_firstRelevantRank_20 : decode cX1_firstRelevantRank 20 = .ok (.ireturn, 1) := by decide +kernel
theorem dX1_firstRelevantRank_21 : decode cX1_firstRelevantRank 21 = .ok (.iinc 2 1, 3) := by decide +kernel
theorem dX1_firstRelevantRank_24 : decode cX1_firstRelevantRank 24 = .ok (.goto (-22), 3) := by decide +kernel
theorem dX1_firstRelevantRank_27 : decode cX1_firstRelevantRank 27 = .ok (.iconst (-1), 1) := by decide +kernel
theorem dX1_firstRelevantRank_28 : decode cX1_firstRelevantRank 28 = .ok (.ireturn, 1) := by decide +kernel
set_option maxRecDepth 20000 in
theorem ggX1_reciprocalParts_X1_firstRelevantRank : GoodIn wsX1_reciprocalParts wsX1_firstRelevantRank := goodIn_r _ [11, 12, 13, 14, 10, 15, 16, 17, 18, 19, 20, 21, 22, 39, 40, 41, 37, 38] (by decide +kernel) (by decide +kernel)
set_option maxRecDepth 20000 in
theorem gX1_reciprocalParts_X1_firstRelevantRank : GoodIn wsX1_reciprocalParts (wsV RX1 59 RX1 yX1_firstRelevantRank wsX1_firstRelevantRank) := goodIn_app (goodIn_of _ (by decide +kernel)) ggX1_reciprocalParts_X1_firstRelevantRank
set_option maxRecDepth 20000 in
theorem ggX1_reciprocalParts_X2_firstTied : GoodIn wsX1_reciprocalParts wsX2_firstTied := goodIn_r _ [25, 21, 26, 39, 40, 41] (by decide +kernel) (by decide +kernel)
set_option maxRecDepth 20000 in
theorem gX1_reciprocalParts_X2_firstTied_n41 : GoodIn wsX1_reciprocalParts (wsX2_firstTied) := ggX1_reciprocalParts_X2_firstTied
set_option maxRecDepth 20000 in
theorem ggX1_reciprocalParts_X2_lastTied : GoodIn wsX1_reciprocalParts wsX2_lastTied := goodIn_r _ [29, 21, 26, 39, 40, 41] (by decide +kernel) (by decide +kernel)
set_option maxRecDepth 20000 in
theorem gX1_reciprocalParts_X2_lastTied_n44 : GoodIn wsX1_reciprocalParts (wsX2_lastTied) := ggX1_reciprocalParts_X2_lastTied
set_option maxRecDepth 20000 in
theorem ggX1_reciprocalParts_X1_relevantWithin : GoodIn wsX1_reciprocalParts wsX1_relevantWithin := goodIn_r _ [33, 12, 13, 14, 10, 15, 16, 17, 18, 19, 20, 21, 22, 39, 40, 41, 37, 38] (by decide +kernel) (by decide +kernel)
set_option maxRecDepth 20000 in
theorem gX1_reciprocalParts_X1_relevantWithin : GoodIn wsX1_reciprocalParts (wsV RX1 63 RX1 yX1_relevantWithin wsX1_relevantWithin) := goodIn_app (goodIn_of _ (by decide +kernel)) ggX1_reciprocalParts_X1_relevantWithin
set_option maxRecDepth 20000 in
theorem ggX1_reciprocalParts_X3_subsets : GoodIn wsX1_reciprocalParts wsX3_subsets := goodIn_r _ [36] (by decide +kernel) (by decide +kernel)
set_option maxRecDepth 20000 in
theorem gX1_reciprocalParts_X3_subsets_n70 : GoodIn wsX1_reciprocalParts (wsX3_subsets) := ggX1_reciprocalParts_X3_subsets
theorem dX1_reciprocalParts_0 : decode cX1_reciprocalParts 0 = .ok (.aload_n 0, 1) := by decide +kernel
theorem dX1_reciprocalParts_1 : decode cX1_reciprocalParts 1 = .ok (.getfield 11, 3) := by decide +kernel
theorem dX1_reciprocalParts_4 : decode cX1_reciprocalParts 4 = .ok (.iload_n 1, 1) := by decide +kernel
theorem dX1_reciprocalParts_5 : decode cX1_reciprocalParts 5 = .ok (.aaload, 1) := by decide +kernel
theorem dX1_reciprocalParts_6 : decode cX1_reciprocalParts 6 = .ok (.astore_n 2, 1) := by decide +kernel
theorem dX1_reciprocalParts_7 : decode cX1_reciprocalParts 7 = .ok (.aload_n 0, 1) := by decide +kernel
theorem dX1_reciprocalParts_8 : decode cX1_reciprocalParts 8 = .ok (.aload_n 2, 1) := by decide +kernel
theorem dX1_reciprocalParts_9 : decode cX1_reciprocalParts 9 = .ok (.invokevirtual 59, 3) := by decide +kernel
theorem dX1_reciprocalParts_12 : decode cX1_reciprocalParts 12 = .ok (.istore_n 3, 1) := by decide +kernel
theorem dX1_reciprocalParts_13 : decode cX1_reciprocalParts 13 = .ok (.iload_n 3, 1) := by decide +kernel
theorem dX1_reciprocalParts_14 : decode cX1_reciprocalParts 14 = .ok (.iconst (-1), 1) := by decide +kernel
theorem dX1_reciprocalParts_15 : decode cX1_reciprocalParts 15 = .ok (.if_icmp .ne 5, 3) := by decide +kernel
theorem dX1_reciprocalParts_18 : decode cX1_reciprocalParts 18 = .ok (.lconst 0, 1) := by decide +kernel
theorem dX1_reciprocalParts_19 : decode cX1_reciprocalParts 19 = .ok (.lreturn, 1) := by decide +kernel
theorem dX1_reciprocalParts_20 : decode cX1_reciprocalParts 20 = .ok (.aload_n 2, 1) := by decide +kernel
theorem dX1_reciprocalParts_21 : decode cX1_reciprocalParts 21 = .ok (.iload_n 3, 1) := by decide +kernel
theorem dX1_reciprocalParts_22 : decode cX1_reciprocalParts 22 = .ok (.invokevirtual 41, 3) := by decide +kernel
theorem dX1_reciprocalParts_25 : decode cX1_reciprocalParts 25 = .ok (.istore 4, 2) := by decide +kernel
theorem dX1_reciprocalParts_27 : decode cX1_reciprocalParts 27 = .ok (.aload_n 2, 1) := by decide +kernel
theorem dX1_reciprocalParts_28 : decode cX1_reciprocalParts 28 = .ok (.iload_n 3, 1) := by decide +kernel
theorem dX1_reciprocalParts_29 : decode cX1_reciprocalParts 29 = .ok (.invokevirtual 44, 3) := by decide +kernel
theorem dX1_reciprocalParts_32 : decode cX1_reciprocalParts 32 = .ok (.istore 5, 2) := by decide +kernel
theorem dX1_reciprocalParts_34 : decode cX1_reciprocalParts 34 = .ok (.aload_n 0, 1) := by decide +kernel
theorem dX1_reciprocalParts_35 : decode cX1_reciprocalParts 35 = .ok (.aload_n 2, 1) := by decide +kernel
theorem dX1_reciprocalParts_36 : decode cX1_reciprocalParts 36 = .ok (.iload 4, 2) := by decide +kernel
theorem dX1_reciprocalParts_38 : decode cX1_reciprocalParts 38 = .ok (.iload 5, 2) := by decide +kernel
theorem dX1_reciprocalParts_40 : decode cX1_reciprocalParts 40 = .ok (.invokevirtual 63, 3) := by decide +kernel
theorem dX1_reciprocalParts_43 : decode cX1_reciprocalParts 43 = .ok (.istore 6, 2) := by decide +kernel
theorem dX1_reciprocalParts_45 : decode cX1_reciprocalParts 45 = .ok (.lconst 0, 1) := by decide +kernel
theorem dX1_reciprocalParts_46 : decode cX1_reciprocalParts 46 = .ok (.lstore 7, 2) := by decide +kernel
theorem dX1_reciprocalParts_48 : decode cX1_reciprocalParts 48 = .ok (.iload 4, 2) := by decide +kernel
theorem dX1_reciprocalParts_50 : decode cX1_reciprocalParts 50 = .ok (.iconst 1, 1) := by decide +kernel
theorem dX1_reciprocalParts_51 : decode cX1_reciprocalParts 51 = .ok (.invokestatic 67, 3) := by decide +kernel
theorem dX1_reciprocalParts_54 : decode cX1_reciprocalParts 54 = .ok (.istore 9, 2) := by decide +kernel
theorem dX1_reciprocalParts_56 : decode cX1_reciprocalParts 56 = .ok (.iload 9, 2) := by decide +kernel
theorem dX1_reciprocalParts_58 : decode cX1_reciprocalParts 58 = .ok (.iload 5, 2) := by decide +kernel
theorem dX1_reciprocalParts_60 : decode cX1_reciprocalParts 60 = .ok (.iload 6, 2) := by decide +kernel
theorem dX1_reciprocalParts_62 : decode cX1_reciprocalParts 62 = .ok (.isub, 1) := by decide +kernel
theorem dX1_reciprocalParts_63 : decode cX1_reciprocalParts 63 = .ok (.iconst 1, 1) := by decide +kernel
theorem dX1_reciprocalParts_64 : decode cX1_reciprocalParts 64 = .ok (.iadd, 1) := by decide +kernel
theorem dX1_reciprocalParts_65 : decode cX1_reciprocalParts 65 = .ok (.if_icmp .gt 34, 3) := by decide +kernel
theorem dX1_reciprocalParts_68 : decode cX1_reciprocalParts 68 = .ok (.lload 7, 2) := by decide +kernel
theorem dX1_reciprocalParts_70 : decode cX1_reciprocalParts 70 = .ok (.ldc2_w 57, 3) := by decide +kernel
theorem dX1_reciprocalParts_73 : decode cX1_reciprocalParts 73 = .ok (.iload 9, 2) := by decide +kernel
theorem dX1_reciprocalParts_75 : decode cX1_reciprocalParts 75 = .ok (.i2l, 1) := by decide +kernel
theorem dX1_reciprocalParts_76 : decode cX1_reciprocalParts 76 = .ok (.ldiv, 1) := by decide +kernel
theorem dX1_reciprocalParts_77 : decode cX1_reciprocalParts 77 = .ok (.iload 5, 2) := by decide +kernel
theorem dX1_reciprocalParts_79 : decode cX1_reciprocalParts 79 = .ok (.iload 9, 2) := by decide +kernel
theorem dX1_reciprocalParts_81 : decode cX1_reciprocalParts 81 = .ok (.isub, 1) := by decide +kernel
theorem dX1_reciprocalParts_82 : decode cX1_reciprocalParts 82 = .ok (.iload 6, 2) := by decide +kernel
theorem dX1_reciprocalParts_84 : decode cX1_reciprocalParts 84 = .ok (.iconst 1, 1) := by decide +kernel
theorem dX1_reciprocalParts_85 : decode cX1_reciprocalParts 85 = .ok (.isub, 1) := by decide +kernel
theorem dX1_reciprocalParts_86 : decode cX1_reciprocalParts 86 = .ok (.invokestatic 70, 3) := by decide +kernel
theorem dX1_reciprocalParts_89 : decode cX1_reciprocalParts 89 = .ok (.lmul, 1) := by decide +kernel
theorem dX1_reciprocalParts_90 : decode cX1_reciprocalParts 90 = .ok (.ladd, 1) := by decide +kernel
theorem dX1_reciprocalParts_91 : decode cX1_reciprocalParts 91 = .ok (.lstore 7, 2) := by decide +kernel
theorem dX1_reciprocalParts_93 : decode cX1_reciprocalParts 93 = .ok (.iinc 9 1, 3) := by decide +kernel
theorem dX1_reciprocalParts_96 : decode cX1_reciprocalParts 96 = .ok (.goto (-40), 3) := by decide +kernel
theorem dX1_reciprocalParts_99 : decode cX1_reciprocalParts 99 = .ok (.lload 7, 2) := by decide +kernel
theorem dX1_reciprocalParts_101 : decode cX1_reciprocalParts 101 = .ok (.lreturn, 1) := by decide +kernel
set_option maxRecDepth 20000 in
theorem ggX1_reciprocalWhole_X1_firstRelevantRank : GoodIn wsX1_reciprocalWhole wsX1_firstRelevantRank := goodIn_r _ [7, 8, 9, 10, 6, 11, 12, 13, 14, 15, 16, 17, 18, 35, 36, 37, 33, 34] (by decide +kernel) (by decide +kernel)
set_option maxRecDepth 20000 in
theorem gX1_reciprocalWhole_X1_firstRelevantRank : GoodIn wsX1_reciprocalWhole (wsV RX1 59 RX1 yX1_firstRelevantRank wsX1_firstRelevantRank) := goodIn_app (goodIn_of _ (by decide +kernel)) ggX1_reciprocalWhole_X1_firstRelevantRank
set_option maxRecDepth 20000 in
theorem ggX1_reciprocalWhole_X2_firstTied : GoodIn wsX1_reciprocalWhole wsX2_firstTied := goodIn_r _ [21, 17, 22, 35, 36, 37] (by decide +kernel) (by decide +kernel)
set_option maxRecDepth 20000 in
theorem gX1_reciprocalWhole_X2_firstTied_n41 : GoodIn wsX1_reciprocalWhole (wsX2_firstTied) := ggX1_reciprocalWhole_X2_firstTied
set_option maxRecDepth 20000 in
theorem ggX1_reciprocalWhole_X2_lastTied : GoodIn wsX1_reciprocalWhole wsX2_lastTied := goodIn_r _ [25, 17, 22, 35, 36, 37] (by decide +kernel) (by decide +kernel)
set_option maxRecDepth 20000 in
theorem gX1_reciprocalWhole_X2_lastTied_n44 : GoodIn wsX1_reciprocalWhole (wsX2_lastTied) := ggX1_reciprocalWhole_X2_lastTied
set_option maxRecDepth 20000 in
theorem ggX1_reciprocalWhole_X1_relevantWithin : GoodIn wsX1_reciprocalWhole wsX1_relevantWithin := goodIn_r _ [29, 8, 9, 10, 6, 11, 12, 13, 14, 15, 16, 17, 18, 35, 36, 37, 33, 34] (by decide +kernel) (by decide +kernel)
set_option maxRecDepth 20000 in
theorem gX1_reciprocalWhole_X1_relevantWithin : GoodIn wsX1_reciprocalWhole (wsV RX1 63 RX1 yX1_relevantWithin wsX1_relevantWithin) := goodIn_app (goodIn_of _ (by decide +kernel)) ggX1_reciprocalWhole_X1_relevantWithin
set_option maxRecDepth 20000 in
theorem ggX1_reciprocalWhole_X3_subsets : GoodIn wsX1_reciprocalWhole wsX3_subsets := goodIn_r _ [32] (by decide +kernel) (by decide +kernel)
set_option maxRecDepth 20000 in
theorem gX1_reciprocalWhole_X3_subsets_n70 : GoodIn wsX1_reciprocalWhole (wsX3_subsets) := ggX1_reciprocalWhole_X3_subsets
theorem dX1_reciprocalWhole_0 : decode cX1_reciprocalWhole 0 = .ok (.aload_n 0, 1) := by decide +kernel
theorem dX1_reciprocalWhole_1 : decode cX1_reciprocalWhole 1 = .ok (.getfield 11, 3) := by decide +kernel
theorem dX1_reciprocalWhole_4 : decode cX1_reciprocalWhole 4 = .ok (.iload_n 1, 1) := by decide +kernel
theorem dX1_reciprocalWhole_5 : decode cX1_reciprocalWhole 5 = .ok (.aaload, 1) := by decide +kernel
theorem dX1_reciprocalWhole_6 : decode cX1_reciprocalWhole 6 = .ok (.astore_n 2, 1) := by decide +kernel
theorem dX1_reciprocalWhole_7 : decode cX1_reciprocalWhole 7 = .ok (.aload_n 0, 1) := by decide +kernel
theorem dX1_reciprocalWhole_8 : decode cX1_reciprocalWhole 8 = .ok (.aload_n 2, 1) := by decide +kernel
theorem dX1_reciprocalWhole_9 : decode cX1_reciprocalWhole 9 = .ok (.invokevirtual 59, 3) := by decide +kernel
theorem dX1_reciprocalWhole_12 : decode cX1_reciprocalWhole 12 = .ok (.istore_n 3, 1) := by decide +kernel
theorem dX1_reciprocalWhole_13 : decode cX1_reciprocalWhole 13 = .ok (.iload_n 3, 1) := by decide +kernel
theorem dX1_reciprocalWhole_14 : decode cX1_reciprocalWhole 14 = .ok (.iconst (-1), 1) := by decide +kernel
theorem dX1_reciprocalWhole_15 : decode cX1_reciprocalWhole 15 = .ok (.if_icmp .ne 5, 3) := by decide +kernel
theorem dX1_reciprocalWhole_18 : decode cX1_reciprocalWhole 18 = .ok (.lconst 1, 1) := by decide +kernel
theorem dX1_reciprocalWhole_19 : decode cX1_reciprocalWhole 19 = .ok (.lreturn, 1) := by decide +kernel
theorem dX1_reciprocalWhole_20 : decode cX1_reciprocalWhole 20 = .ok (.aload_n 2, 1) := by decide +kernel
theorem dX1_reciprocalWhole_21 : decode cX1_reciprocalWhole 21 = .ok (.iload_n 3, 1) := by decide +kernel
theorem dX1_reciprocalWhole_22 : decode cX1_reciprocalWhole 22 = .ok (.invokevirtual 41, 3) := by decide +kernel
theorem dX1_reciprocalWhole_25 : decode cX1_reciprocalWhole 25 = .ok (.istore 4, 2) := by decide +kernel
theorem dX1_reciprocalWhole_27 : decode cX1_reciprocalWhole 27 = .ok (.aload_n 2, 1) := by decide +kernel
theorem dX1_reciprocalWhole_28 : decode cX1_reciprocalWhole 28 = .ok (.iload_n 3, 1) := by decide +kernel
theorem dX1_reciprocalWhole_29 : decode cX1_reciprocalWhole 29 = .ok (.invokevirtual 44, 3) := by decide +kernel
theorem dX1_reciprocalWhole_32 : decode cX1_reciprocalWhole 32 = .ok (.istore 5, 2) := by decide +kernel
theorem dX1_reciprocalWhole_34 : decode cX1_reciprocalWhole 34 = .ok (.ldc2_w 57, 3) := by decide +kernel
theorem dX1_reciprocalWhole_37 : decode cX1_reciprocalWhole 37 = .ok (.iload 5, 2) := by decide +kernel
theorem dX1_reciprocalWhole_39 : decode cX1_reciprocalWhole 39 = .ok (.iload 4, 2) := by decide +kernel
theorem dX1_reciprocalWhole_41 : decode cX1_reciprocalWhole 41 = .ok (.isub, 1) := by decide +kernel
theorem dX1_reciprocalWhole_42 : decode cX1_reciprocalWhole 42 = .ok (.iconst 1, 1) := by decide +kernel
theorem dX1_reciprocalWhole_43 : decode cX1_reciprocalWhole 43 = .ok (.iadd, 1) := by decide +kernel
theorem dX1_reciprocalWhole_44 : decode cX1_reciprocalWhole 44 = .ok (.aload_n 0, 1) := by decide +kernel
theorem dX1_reciprocalWhole_45 : decode cX1_reciprocalWhole 45 = .ok (.aload_n 2, 1) := by decide +kernel
theorem dX1_reciprocalWhole_46 : decode cX1_reciprocalWhole 46 = .ok (.iload 4, 2) := by decide +kernel
theorem dX1_reciprocalWhole_48 : decode cX1_reciprocalWhole 48 = .ok (.iload 5, 2) := by decide +kernel
theorem dX1_reciprocalWhole_50 : decode cX1_reciprocalWhole 50 = .ok (.invokevirtual 63, 3) := by decide +kernel
theorem dX1_reciprocalWhole_53 : decode cX1_reciprocalWhole 53 = .ok (.invokestatic 70, 3) := by decide +kernel
theorem dX1_reciprocalWhole_56 : decode cX1_reciprocalWhole 56 = .ok (.lmul, 1) := by decide +kernel
theorem dX1_reciprocalWhole_57 : decode cX1_reciprocalWhole 57 = .ok (.lreturn, 1) := by decide +kernel
theorem dX2_init_0 : decode cX2_init 0 = .ok (.aload_n 0, 1) := by decide +kernel
theorem dX2_init_1 : decode cX2_init 1 = .ok (.invokespecial 3, 3) := by decide +kernel
theorem dX2_init_4 : decode cX2_init 4 = .ok (.aload_n 0, 1) := by decide +kernel
theorem dX2_init_5 : decode cX2_init 5 = .ok (.bipush 20, 2) := by decide +kernel
theorem dX2_init_7 : decode cX2_init 7 = .ok (.newarray .int, 2) := by decide +kernel
theorem dX2_init_9 : decode cX2_init 9 = .ok (.putfield 9, 3) := by decide +kernel
theorem dX2_init_12 : decode cX2_init 12 = .ok (.aload_n 0, 1) := by decide +kernel
theorem dX2_init_13 : decode cX2_init 13 = .ok (.bipush 20, 2) := by decide +kernel
theorem dX2_init_15 : decode cX2_init 15 = .ok (.newarray .int, 2) := by decide +kernel
theorem dX2_init_17 : decode cX2_init 17 = .ok (.putfield 15, 3) := by decide +kernel
theorem dX2_init_20 : decode cX2_init 20 = .ok (.return_, 1) := by decide +kernel
theorem dX2_add_0 : decode cX2_add 0 = .ok (.aload_n 0, 1) := by decide +kernel
theorem dX2_add_1 : decode cX2_add 1 = .ok (.getfield 18, 3) := by decide +kernel
theorem dX2_add_4 : decode cX2_add 4 = .ok (.bipush 20, 2) := by decide +kernel
theorem dX2_add_6 : decode cX2_add 6 = .ok (.if_icmp .ge 33, 3) := by decide +kernel
theorem dX2_add_9 : decode cX2_add 9 = .ok (.aload_n 0, 1) := by decide +kernel
theorem dX2_add_10 : decode cX2_add 10 = .ok (.getfield 9, 3) := by decide +kernel
theorem dX2_add_13 : decode cX2_add 13 = .ok (.aload_n 0, 1) := by decide +kernel
theorem dX2_add_14 : decode cX2_add 14 = .ok (.getfield 18, 3) := by decide +kernel
theorem dX2_add_17 : decode cX2_add 17 = .ok (.iload_n 1, 1) := by decide +kernel
theorem dX2_add_18 : decode cX2_add 18 = .ok (.iastore, 1) := by decide +kernel
theorem dX2_add_19 : decode cX2_add 19 = .ok (.aload_n 0, 1) := by decide +kernel
theorem dX2_add_20 : decode cX2_add 20 = .ok (.getfield 15, 3) := by decide +kernel
theorem dX2_add_23 : decode cX2_add 23 = .ok (.aload_n 0, 1) := by decide +kernel
theorem dX2_add_24 : decode cX2_add 24 = .ok (.getfield 18, 3) := by decide +kernel
theorem dX2_add_27 : decode cX2_add 27 = .ok (.iload_n 2, 1) := by decide +kernel
theorem dX2_add_28 : decode cX2_add 28 = .ok (.iastore, 1) := by decide +kernel
theorem dX2_add_29 : decode cX2_add 29 = .ok (.aload_n 0, 1) := by decide +kernel
theorem dX2_add_30 : decode cX2_add 30 = .ok (.dup, 1) := by decide +kernel
theorem dX2_add_31 : decode cX2_add 31 = .ok (.getfield 18, 3) := by decide +kernel
theorem dX2_add_34 : decode cX2_add 34 = .ok (.iconst 1, 1) := by decide +kernel
theorem dX2_add_35 : decode cX2_add 35 = .ok (.iadd, 1) := by decide +kernel
theorem dX2_add_36 : decode cX2_add 36 = .ok (.putfield 18, 3) := by decide +kernel
theorem dX2_add_39 : decode cX2_add 39 = .ok (.aload_n 0, 1) := by decide +kernel
theorem dX2_add_40 : decode cX2_add 40 = .ok (.getfield 18, 3) := by decide +kernel
theorem dX2_add_43 : decode cX2_add 43 = .ok (.ireturn, 1) := by decide +kernel
theorem dX2_endsBelow_0 : decode cX2_endsBelow 0 = .ok (.aload_n 0, 1) := by decide +kernel
theorem dX2_endsBelow_1 : decode cX2_endsBelow 1 = .ok (.getfield 18, 3) := by decide +kernel
theorem dX2_endsBelow_4 : decode cX2_endsBelow 4 = .ok (.ifCond .le 22, 3) := by decide +kernel
theorem dX2_endsBelow_7 : decode cX2_endsBelow 7 = .ok (.aload_n 0, 1) := by decide +kernel
theorem dX2_endsBelow_8 : decode cX2_endsBelow 8 = .ok (.getfield 15, 3) := by decide +kernel
theorem dX2_endsBelow_11 : decode cX2_endsBelow 11 = .ok (.aload_n 0, 1) := by decide +kernel
theorem dX2_endsBelow_12 : decode cX2_endsBelow 12 = .ok (.getfield 18, 3) := by decide +kernel
theorem dX2_endsBelow_15 : decode cX2_endsBelow 15 = .ok (.iconst 1, 1) := by decide +kernel
theorem dX2_endsBelow_16 : decode cX2_endsBelow 16 = .ok (.isub, 1) := by decide +kernel
theorem dX2_endsBelow_17 : decode cX2_endsBelow 17 = .ok (.iaload, 1) := by decide +kernel
theorem dX2_endsBelow_18 : decode cX2_endsBelow 18 = .ok (.iload_n 1, 1) := by decide +kernel
theorem dX2_endsBelow_19 : decode cX2_endsBelow 19 = .ok (.if_icmp .ge 7, 3) := by decide +kernel
theorem dX2_endsBelow_22 : decode cX2_endsBelow 22 = .ok (.iconst 1, 1) := by decide +kernel
theorem dX2_endsBelow_23 : decode cX2_endsBelow 23 = .ok (.goto 4, 3) := by decide +kernel
theorem dX2_endsBelow_26 : decode cX2_endsBelow 26 = .ok (.iconst 0, 1) := by decide +kernel
theorem dX2_endsBelow_27 : decode cX2_endsBelow 27 = .ok (.ireturn, 1) := by decide +kernel
theorem dX2_documentAt_0 : decode cX2_documentAt 0 = .ok (.iload_n 1, 1) := by decide +kernel
theorem dX2_documentAt_1 : decode cX2_documentAt 1 = .ok (.iconst 1, 1) := by decide +kernel
theorem dX2_documentAt_2 : decode cX2_documentAt 2 = .ok (.if_icmp .lt 22, 3) := by decide +kernel
theorem dX2_documentAt_5 : decode cX2_documentAt 5 = .ok (.iload_n 1, 1) := by decide +kernel
theorem dX2_documentAt_6 : decode cX2_documentAt 6 = .ok (.aload_n 0, 1) := by decide +kernel
theorem dX2_documentAt_7 : decode cX2_documentAt 7 = .ok (.getfield 18, 3) := by decide +kernel
theorem dX2_documentAt_10 : decode cX2_documentAt 10 = .ok (.if_icmp .gt 14, 3) := by decide +kernel
theorem dX2_documentAt_13 : decode cX2_documentAt 13 = .ok (.aload_n 0, 1) := by decide +kernel
theorem dX2_documentAt_14 : decode cX2_documentAt 14 = .ok (.getfield 9, 3) := by decide +kernel
theorem dX2_documentAt_17 : decode cX2_documentAt 17 = .ok (.iload_n 1, 1) := by decide +kernel
theorem dX2_documentAt_18 : decode cX2_documentAt 18 = .ok (.iconst 1, 1) := by decide +kernel
theorem dX2_documentAt_19 : decode cX2_documentAt 19 = .ok (.isub, 1) := by decide +kernel
theorem dX2_documentAt_20 : decode cX2_documentAt 20 = .ok (.iaload, 1) := by decide +kernel
theorem dX2_documentAt_21 : decode cX2_documentAt 21 = .ok (.goto 4, 3) := by decide +kernel
theorem dX2_documentAt_24 : decode cX2_documentAt 24 = .ok (.iconst (-1), 1) := by decide +kernel
theorem dX2_documentAt_25 : decode cX2_documentAt 25 = .ok (.ireturn, 1) := by decide +kernel
theorem dX2_rankOf_0 : decode cX2_rankOf 0 = .ok (.iconst 1, 1) := by decide +kernel
theorem dX2_rankOf_1 : decode cX2_rankOf 1 = .ok (.istore_n 2, 1) := by decide +kernel
theorem dX2_rankOf_2 : decode cX2_rankOf 2 = .ok (.iload_n 2, 1) := by decide +kernel
theorem dX2_rankOf_3 : decode cX2_rankOf 3 = .ok (.aload_n 0, 1) := by decide +kernel
theorem dX2_rankOf_4 : decode cX2_rankOf 4 = .ok (.getfield 18, 3) := by decide +kernel
theorem dX2_rankOf_7 : decode cX2_rankOf 7 = .ok (.if_icmp .gt 23, 3) := by decide +kernel
theorem dX2_rankOf_10 : decode cX2_rankOf 10 = .ok (.aload_n 0, 1) := by decide +kernel
theorem dX2_rankOf_11 : decode cX2_rankOf 11 = .ok (.getfield 9, 3) := by decide +kernel
theorem dX2_rankOf_14 : decode cX2_rankOf 14 = .ok (.iload_n 2, 1) := by decide +kernel
theorem dX2_rankOf_15 : decode cX2_rankOf 15 = .ok (.iconst 1, 1) := by decide +kernel
theorem dX2_rankOf_16 : decode cX2_rankOf 16 = .ok (.isub, 1) := by decide +kernel
theorem dX2_rankOf_17 : decode cX2_rankOf 17 = .ok (.iaload, 1) := by decide +kernel
theorem dX2_rankOf_18 : decode cX2_rankOf 18 = .ok (.iload_n 1, 1) := by decide +kernel
theorem dX2_rankOf_19 : decode cX2_rankOf 19 = .ok (.if_icmp .ne 5, 3) := by decide +kernel
theorem dX2_rankOf_22 : decode cX2_rankOf 22 = .ok (.iload_n 2, 1) := by decide +kernel
theorem dX2_rankOf_23 : decode cX2_rankOf 23 = .ok (.ireturn, 1) := by decide +kernel
theorem dX2_rankOf_24 : decode cX2_rankOf 24 = .ok (.iinc 2 1, 3) := by decide +kernel
theorem dX2_rankOf_27 : decode cX2_rankOf 27 = .ok (.goto (-25), 3) := by decide +kernel
theorem dX2_rankOf_30 : decode cX2_rankOf 30 = .ok (.iconst (-1), 1) := by decide +kernel
theorem dX2_rankOf_31 : decode cX2_rankOf 31 = .ok (.ireturn, 1) := by decide +kernel
theorem dX2_firstTied_0 : decode cX2_firstTied 0 = .ok (.iload_n 1, 1) := by decide +kernel
theorem dX2_firstTied_1 : decode cX2_firstTied 1 = .ok (.istore_n 2, 1) := by decide +kernel
theorem dX2_firstTied_2 : decode cX2_firstTied 2 = .ok (.iload_n 2, 1) := by decide +kernel
theorem dX2_firstTied_3 : decode cX2_firstTied 3 = .ok (.iconst 1, 1) := by decide +kernel
theorem dX2_firstTied_4 : decode cX2_firstTied 4 = .ok (.if_icmp .le 36, 3) := by decide +kernel
theorem dX2_firstTied_7 : decode cX2_firstTied 7 = .ok (.iload_n 2, 1) := by decide +kernel
theorem dX2_firstTied_8 : decode cX2_firstTied 8 = .ok (.aload_n 0, 1) := by decide +kernel
theorem dX2_firstTied_9 : decode cX2_firstTied 9 = .ok (.getfield 18, 3) := by decide +kernel
theorem dX2_firstTied_12 : decode cX2_firstTied 12 = .ok (.if_icmp .gt 28, 3) := by decide +kernel
theorem dX2_firstTied_15 : decode cX2_firstTied 15 = .ok (.aload_n 0, 1) := by decide +kernel
theorem dX2_firstTied_16 : decode cX2_firstTied 16 = .ok (.getfield 15, 3) := by decide +kernel
theorem dX2_firstTied_19 : decode cX2_firstTied 19 = .ok (.iload_n 2, 1) := by decide +kernel
theorem dX2_firstTied_20 : decode cX2_firstTied 20 = .ok (.iconst 2, 1) := by decide +kernel
theorem dX2_firstTied_21 : decode cX2_firstTied 21 = .ok (.isub, 1) := by decide +kernel
theorem dX2_firstTied_22 : decode cX2_firstTied 22 = .ok (.iaload, 1) := by decide +kernel
theorem dX2_firstTied_23 : decode cX2_firstTied 23 = .ok (.aload_n 0, 1) := by decide +kernel
theorem dX2_firstTied_24 : decode cX2_firstTied 24 = .ok (.getfield 15, 3) := by decide +kernel
theorem dX2_firstTied_27 : decode cX2_firstTied 27 = .ok (.iload_n 2, 1) := by decide +kernel
theorem dX2_firstTied_28 : decode cX2_firstTied 28 = .ok (.iconst 1, 1) := by decide +kernel
theorem dX2_firstTied_29 : decode cX2_firstTied 29 = .ok (.isub, 1) := by decide +kernel
theorem dX2_firstTied_30 : decode cX2_firstTied 30 = .ok (.iaload, 1) := by decide +kernel
theorem dX2_firstTied_31 : decode cX2_firstTied 31 = .ok (.if_icmp .ne 9, 3) := by decide +kernel
theorem dX2_firstTied_34 : decode cX2_firstTied 34 = .ok (.iinc 2 (-1), 3) := by decide +kernel
theorem dX2_firstTied_37 : decode cX2_firstTied 37 = .ok (.goto (-35), 3) := by decide +kernel
theorem dX2_firstTied_40 : decode cX2_firstTied 40 = .ok (.iload_n 2, 1) := by decide +kernel
theorem dX2_firstTied_41 : decode cX2_firstTied 41 = .ok (.ireturn, 1) := by decide +kernel
theorem dX2_lastTied_0 : decode cX2_lastTied 0 = .ok (.iload_n 1, 1) := by decide +kernel
theorem dX2_lastTied_1 : decode cX2_lastTied 1 = .ok (.istore_n 2, 1) := by decide +kernel
theorem dX2_lastTied_2 : decode cX2_lastTied 2 = .ok (.iload_n 2, 1) := by decide +kernel
theorem dX2_lastTied_3 : decode cX2_lastTied 3 = .ok (.iconst 1, 1) := by decide +kernel
theorem dX2_lastTied_4 : decode cX2_lastTied 4 = .ok (.if_icmp .lt 34, 3) := by decide +kernel
theorem dX2_lastTied_7 : decode cX2_lastTied 7 = .ok (.iload_n 2, 1) := by decide +kernel
theorem dX2_lastTied_8 : decode cX2_lastTied 8 = .ok (.aload_n 0, 1) := by decide +kernel
theorem dX2_lastTied_9 : decode cX2_lastTied 9 = .ok (.getfield 18, 3) := by decide +kernel
theorem dX2_lastTied_12 : decode cX2_lastTied 12 = .ok (.if_icmp .ge 26, 3) := by decide +kernel
theorem dX2_lastTied_15 : decode cX2_lastTied 15 = .ok (.aload_n 0, 1) := by decide +kernel
theorem dX2_lastTied_16 : decode cX2_lastTied 16 = .ok (.getfield 15, 3) := by decide +kernel
theorem dX2_lastTied_19 : decode cX2_lastTied 19 = .ok (.iload_n 2, 1) := by decide +kernel
theorem dX2_lastTied_20 : decode cX2_lastTied 20 = .ok (.iaload, 1) := by decide +kernel
theorem dX2_lastTied_21 : decode cX2_lastTied 21 = .ok (.aload_n 0, 1) := by decide +kernel
theorem dX2_lastTied_22 : decode cX2_lastTied 22 = .ok (.getfield 15, 3) := by decide +kernel
theorem dX2_lastTied_25 : decode cX2_lastTied 25 = .ok (.iload_n 2, 1) := by decide +kernel
theorem dX2_lastTied_26 : decode cX2_lastTied 26 = .ok (.iconst 1, 1) := by decide +kernel
theorem dX2_lastTied_27 : decode cX2_lastTied 27 = .ok (.isub, 1) := by decide +kernel
theorem dX2_lastTied_28 : decode cX2_lastTied 28 = .ok (.iaload, 1) := by decide +kernel
theorem dX2_lastTied_29 : decode cX2_lastTied 29 = .ok (.if_icmp .ne 9, 3) := by decide +kernel
theorem dX2_lastTied_32 : decode cX2_lastTied 32 = .ok (.iinc 2 1, 3) := by decide +kernel
theorem dX2_lastTied_35 : decode cX2_lastTied 35 = .ok (.goto (-33), 3) := by decide +kernel
theorem dX2_lastTied_38 : decode cX2_lastTied 38 = .ok (.iload_n 2, 1) := by decide +kernel
theorem dX2_lastTied_39 : decode cX2_lastTied 39 = .ok (.ireturn, 1) := by decide +kernel
set_option maxRecDepth 20000 in
theorem ggX3_init_X1_init : GoodIn wsX3_init wsX1_init := goodIn_r _ [15, 16, 2, 3, 17, 18, 19, 20, 12, 21, 22, 23, 24, 25, 26, 37, 38, 44, 45, 46] (by decide +kernel) (by decide +kernel)
set_option maxRecDepth 20000 in
theorem gX3_init_X1_init_n15 : GoodIn wsX3_init (wsX1_init) := ggX3_init_X1_init
set_option maxRecDepth 20000 in
theorem ggX3_init_X0_init : GoodIn wsX3_init wsX0_init := goodIn_r _ [28, 29, 2, 3, 12, 30, 31, 32, 33, 39, 40, 41, 42, 43] (by decide +kernel) (by decide +kernel)
set_option maxRecDepth 20000 in
theorem gX3_init_X0_init_n18 : GoodIn wsX3_init (wsX0_init) := ggX3_init_X0_init
theorem dX3_init_0 : decode cX3_init 0 = .ok (.aload_n 0, 1) := by decide +kernel
theorem dX3_init_1 : decode cX3_init 1 = .ok (.invokespecial 1, 3) := by decide +kernel
theorem dX3_init_4 : decode cX3_init 4 = .ok (.aload_n 0, 1) := by decide +kernel
theorem dX3_init_5 : decode cX3_init 5 = .ok (.bipush 8, 2) := by decide +kernel
theorem dX3_init_7 : decode cX3_init 7 = .ok (.anewarray 9, 3) := by decide +kernel
theorem dX3_init_10 : decode cX3_init 10 = .ok (.putfield 11, 3) := by decide +kernel
theorem dX3_init_13 : decode cX3_init 13 = .ok (.iconst 0, 1) := by decide +kernel
theorem dX3_init_14 : decode cX3_init 14 = .ok (.istore_n 1, 1) := by decide +kernel
theorem dX3_init_15 : decode cX3_init 15 = .ok (.iload_n 1, 1) := by decide +kernel
theorem dX3_init_16 : decode cX3_init 16 = .ok (.bipush 8, 2) := by decide +kernel
theorem dX3_init_18 : decode cX3_init 18 = .ok (.if_icmp .ge 22, 3) := by decide +kernel
theorem dX3_init_21 : decode cX3_init 21 = .ok (.aload_n 0, 1) := by decide +kernel
theorem dX3_init_22 : decode cX3_init 22 = .ok (.getfield 11, 3) := by decide +kernel
theorem dX3_init_25 : decode cX3_init 25 = .ok (.iload_n 1, 1) := by decide +kernel
theorem dX3_init_26 : decode cX3_init 26 = .ok (.new 9, 3) := by decide +kernel
theorem dX3_init_29 : decode cX3_init 29 = .ok (.dup, 1) := by decide +kernel
theorem dX3_init_30 : decode cX3_init 30 = .ok (.invokespecial 15, 3) := by decide +kernel
theorem dX3_init_33 : decode cX3_init 33 = .ok (.aastore, 1) := by decide +kernel
theorem dX3_init_34 : decode cX3_init 34 = .ok (.iinc 1 1, 3) := by decide +kernel
theorem dX3_init_37 : decode cX3_init 37 = .ok (.goto (-22), 3) := by decide +kernel
theorem dX3_init_40 : decode cX3_init 40 = .ok (.aload_n 0, 1) := by decide +kernel
theorem dX3_init_41 : decode cX3_init 41 = .ok (.new 16, 3) := by decide +kernel
theorem dX3_init_44 : decode cX3_init 44 = .ok (.dup, 1) := by decide +kernel
theorem dX3_init_45 : decode cX3_init 45 = .ok (.invokespecial 18, 3) := by decide +kernel
theorem dX3_init_48 : decode cX3_init 48 = .ok (.putfield 19, 3) := by decide +kernel
theorem dX3_init_51 : decode cX3_init 51 = .ok (.aload_n 0, 1) := by decide +kernel
theorem dX3_init_52 : decode cX3_init 52 = .ok (.bipush 8, 2) := by decide +kernel
theorem dX3_init_54 : decode cX3_init 54 = .ok (.newarray .int, 2) := by decide +kernel
theorem dX3_init_56 : decode cX3_init 56 = .ok (.putfield 23, 3) := by decide +kernel
theorem dX3_init_59 : decode cX3_init 59 = .ok (.return_, 1) := by decide +kernel
set_option maxRecDepth 20000 in
theorem ggX3_append_X3_requireSystem : GoodIn wsX3_append wsX3_requireSystem := goodIn_ca (goodIn_r _ [9, 1, 2] (by decide +kernel) (by decide +kernel)) (goodIn_sub (fun _ h => List.mem_cons_of_mem _ (List.mem_append_left _ (List.mem_append_right _ h))) (by decide +kernel))
set_option maxRecDepth 20000 in
theorem gX3_append_X3_requireSystem : GoodIn wsX3_append (va_wsS RX3 27 yX3_requireSystem wsX3_requireSystem) := goodIn_app (goodIn_of _ (by decide +kernel)) ggX3_append_X3_requireSystem
set_option maxRecDepth 20000 in
theorem ggX3_append_X3_requireQuestion : GoodIn wsX3_append wsX3_requireQuestion := goodIn_ca (goodIn_r _ [12, 1, 2] (by decide +kernel) (by decide +kernel)) (goodIn_sub (fun _ h => List.mem_cons_of_mem _ (List.mem_append_left _ (List.mem_append_right _ h))) (by decide +kernel))
set_option maxRecDepth 20000 in
theorem gX3_append_X3_requireQuestion : GoodIn wsX3_append (va_wsS RX3 31 yX3_requireQuestion wsX3_requireQuestion) := goodIn_app (goodIn_of _ (by decide +kernel)) ggX3_append_X3_requireQuestion
set_option maxRecDepth 20000 in
theorem ggX3_append_X3_requireDocument : GoodIn wsX3_append wsX3_requireDocument := goodIn_ca (goodIn_r _ [15, 1, 2] (by decide +kernel) (by decide +kernel)) (goodIn_sub (fun _ h => List.mem_cons_of_mem _ (List.mem_append_left _ (List.mem_append_right _ h))) (by decide +kernel))
set_option maxRecDepth 20000 in
theorem gX3_append_X3_requireDocument : GoodIn wsX3_append (va_wsS RX3 34 yX3_requireDocument wsX3_requireDocument) := goodIn_app (goodIn_of _ (by decide +kernel)) ggX3_append_X3_requireDocument
set_option maxRecDepth 20000 in
theorem ggX3_append_X2_rankOf : GoodIn wsX3_append wsX2_rankOf := goodIn_r _ [19, 20, 21, 34, 35, 36] (by decide +kernel) (by decide +kernel)
set_option maxRecDepth 20000 in
theorem gX3_append_X2_rankOf_n59 : GoodIn wsX3_append (wsX2_rankOf) := ggX3_append_X2_rankOf
set_option maxRecDepth 20000 in
theorem ggX3_append_X2_endsBelow : GoodIn wsX3_append wsX2_endsBelow := goodIn_r _ [24, 20, 25, 34, 35, 36] (by decide +kernel) (by decide +kernel)
set_option maxRecDepth 20000 in
theorem gX3_append_X2_endsBelow_n65 : GoodIn wsX3_append (wsX2_endsBelow) := ggX3_append_X2_endsBelow
set_option maxRecDepth 20000 in
theorem ggX3_append_X2_add : GoodIn wsX3_append wsX2_add := goodIn_r _ [28, 20, 21, 25, 34, 35, 36] (by decide +kernel) (by decide +kernel)
set_option maxRecDepth 20000 in
theorem gX3_append_X2_add_n71 : GoodIn wsX3_append (wsX2_add) := ggX3_append_X2_add
