theorem dX4_isPooled_41 : decode cX4_isPooled 41 = .ok (.iload 6, 2) := by decide +kernel
theorem dX4_isPooled_43 : decode cX4_isPooled 43 = .ok (.iaload, 1) := by decide +kernel
theorem dX4_isPooled_44 : decode cX4_isPooled 44 = .ok (.if_icmp .ge 13, 3) := by decide +kernel
theorem dX4_isPooled_47 : decode cX4_isPooled 47 = .ok (.iload 7, 2) := by decide +kernel
theorem dX4_isPooled_49 : decode cX4_isPooled 49 = .ok (.iload_n 3, 1) := by decide +kernel
theorem dX4_isPooled_50 : decode cX4_isPooled 50 = .ok (.if_icmp .ge 7, 3) := by decide +kernel
theorem dX4_isPooled_53 : decode cX4_isPooled 53 = .ok (.iconst 1, 1) := by decide +kernel
theorem dX4_isPooled_54 : decode cX4_isPooled 54 = .ok (.goto 4, 3) := by decide +kernel
theorem dX4_isPooled_57 : decode cX4_isPooled 57 = .ok (.iconst 0, 1) := by decide +kernel
theorem dX4_isPooled_58 : decode cX4_isPooled 58 = .ok (.istore 4, 2) := by decide +kernel
theorem dX4_isPooled_60 : decode cX4_isPooled 60 = .ok (.iinc 5 1, 3) := by decide +kernel
theorem dX4_isPooled_63 : decode cX4_isPooled 63 = .ok (.goto (-57), 3) := by decide +kernel
theorem dX4_isPooled_66 : decode cX4_isPooled 66 = .ok (.iload 4, 2) := by decide +kernel
theorem dX4_isPooled_68 : decode cX4_isPooled 68 = .ok (.ireturn, 1) := by decide +kernel
set_option maxRecDepth 20000 in
theorem ggX4_isPool_X4_in : GoodIn wsX4_isPool wsX4_in := goodIn_r _ [5] (by decide +kernel) (by decide +kernel)
set_option maxRecDepth 20000 in
theorem gX4_isPool_X4_in : GoodIn wsX4_isPool (va_wsS RX4 32 yX4_in wsX4_in) := goodIn_app (goodIn_of _ (by decide +kernel)) ggX4_isPool_X4_in
theorem dX4_isPool_0 : decode cX4_isPool 0 = .ok (.aload_n 0, 1) := by decide +kernel
theorem dX4_isPool_1 : decode cX4_isPool 1 = .ok (.iload_n 1, 1) := by decide +kernel
theorem dX4_isPool_2 : decode cX4_isPool 2 = .ok (.iconst 0, 1) := by decide +kernel
theorem dX4_isPool_3 : decode cX4_isPool 3 = .ok (.bipush 7, 2) := by decide +kernel
theorem dX4_isPool_5 : decode cX4_isPool 5 = .ok (.invokestatic 32, 3) := by decide +kernel
theorem dX4_isPool_8 : decode cX4_isPool 8 = .ok (.ifCond .eq 17, 3) := by decide +kernel
theorem dX4_isPool_11 : decode cX4_isPool 11 = .ok (.iload_n 2, 1) := by decide +kernel
theorem dX4_isPool_12 : decode cX4_isPool 12 = .ok (.iconst 1, 1) := by decide +kernel
theorem dX4_isPool_13 : decode cX4_isPool 13 = .ok (.bipush 20, 2) := by decide +kernel
theorem dX4_isPool_15 : decode cX4_isPool 15 = .ok (.invokestatic 32, 3) := by decide +kernel
theorem dX4_isPool_18 : decode cX4_isPool 18 = .ok (.ifCond .eq 7, 3) := by decide +kernel
theorem dX4_isPool_21 : decode cX4_isPool 21 = .ok (.iconst 0, 1) := by decide +kernel
theorem dX4_isPool_22 : decode cX4_isPool 22 = .ok (.goto 4, 3) := by decide +kernel
theorem dX4_isPool_25 : decode cX4_isPool 25 = .ok (.iconst 1, 1) := by decide +kernel
theorem dX4_isPool_26 : decode cX4_isPool 26 = .ok (.putfield 28, 3) := by decide +kernel
theorem dX4_isPool_29 : decode cX4_isPool 29 = .ok (.aload_n 0, 1) := by decide +kernel
theorem dX4_isPool_30 : decode cX4_isPool 30 = .ok (.getfield 28, 3) := by decide +kernel
theorem dX4_isPool_33 : decode cX4_isPool 33 = .ok (.ifCond .ne 7, 3) := by decide +kernel
theorem dX4_isPool_36 : decode cX4_isPool 36 = .ok (.iconst 1, 1) := by decide +kernel
theorem dX4_isPool_37 : decode cX4_isPool 37 = .ok (.goto 4, 3) := by decide +kernel
theorem dX4_isPool_40 : decode cX4_isPool 40 = .ok (.iconst 0, 1) := by decide +kernel
theorem dX4_isPool_41 : decode cX4_isPool 41 = .ok (.ireturn, 1) := by decide +kernel
set_option maxRecDepth 20000 in
theorem ggX4_pool_X4_isPool : GoodIn wsX4_pool wsX4_isPool := goodIn_r _ [5, 6, 7, 8, 4, 9, 20, 21, 22, 23, 24, 25, 26, 27, 28, 29] (by decide +kernel) (by decide +kernel)
set_option maxRecDepth 20000 in
theorem gX4_pool_X4_isPool : GoodIn wsX4_pool (wsV RX4 51 RX4 yX4_isPool wsX4_isPool) := goodIn_app (goodIn_of _ (by decide +kernel)) ggX4_pool_X4_isPool
set_option maxRecDepth 20000 in
theorem ggX4_pool_X4_isPooled : GoodIn wsX4_pool wsX4_isPooled := goodIn_r _ [13, 14, 15, 16, 17, 4, 18, 19, 20, 21, 22, 23, 24, 25, 26, 27, 28, 29] (by decide +kernel) (by decide +kernel)
set_option maxRecDepth 20000 in
theorem gX4_pool_X4_isPooled : GoodIn wsX4_pool (wsV RX4 54 RX4 yX4_isPooled wsX4_isPooled) := goodIn_app (goodIn_of _ (by decide +kernel)) ggX4_pool_X4_isPooled
theorem dX4_pool_0 : decode cX4_pool 0 = .ok (.iconst 0, 1) := by decide +kernel
theorem dX4_pool_1 : decode cX4_pool 1 = .ok (.istore_n 3, 1) := by decide +kernel
theorem dX4_pool_2 : decode cX4_pool 2 = .ok (.iconst 0, 1) := by decide +kernel
theorem dX4_pool_3 : decode cX4_pool 3 = .ok (.istore 4, 2) := by decide +kernel
theorem dX4_pool_5 : decode cX4_pool 5 = .ok (.aload_n 0, 1) := by decide +kernel
theorem dX4_pool_6 : decode cX4_pool 6 = .ok (.iload_n 1, 1) := by decide +kernel
theorem dX4_pool_7 : decode cX4_pool 7 = .ok (.iload_n 2, 1) := by decide +kernel
theorem dX4_pool_8 : decode cX4_pool 8 = .ok (.invokevirtual 51, 3) := by decide +kernel
theorem dX4_pool_11 : decode cX4_pool 11 = .ok (.ifCond .eq 35, 3) := by decide +kernel
theorem dX4_pool_14 : decode cX4_pool 14 = .ok (.iload 4, 2) := by decide +kernel
theorem dX4_pool_16 : decode cX4_pool 16 = .ok (.bipush 40, 2) := by decide +kernel
theorem dX4_pool_18 : decode cX4_pool 18 = .ok (.if_icmp .ge 28, 3) := by decide +kernel
theorem dX4_pool_21 : decode cX4_pool 21 = .ok (.iload_n 3, 1) := by decide +kernel
theorem dX4_pool_22 : decode cX4_pool 22 = .ok (.aload_n 0, 1) := by decide +kernel
theorem dX4_pool_23 : decode cX4_pool 23 = .ok (.iload_n 1, 1) := by decide +kernel
theorem dX4_pool_24 : decode cX4_pool 24 = .ok (.iload 4, 2) := by decide +kernel
theorem dX4_pool_26 : decode cX4_pool 26 = .ok (.iload_n 2, 1) := by decide +kernel
theorem dX4_pool_27 : decode cX4_pool 27 = .ok (.invokevirtual 54, 3) := by decide +kernel
theorem dX4_pool_30 : decode cX4_pool 30 = .ok (.ifCond .eq 7, 3) := by decide +kernel
theorem dX4_pool_33 : decode cX4_pool 33 = .ok (.iconst 1, 1) := by decide +kernel
theorem dX4_pool_34 : decode cX4_pool 34 = .ok (.goto 4, 3) := by decide +kernel
theorem dX4_pool_37 : decode cX4_pool 37 = .ok (.iconst 0, 1) := by decide +kernel
theorem dX4_pool_38 : decode cX4_pool 38 = .ok (.iadd, 1) := by decide +kernel
theorem dX4_pool_39 : decode cX4_pool 39 = .ok (.istore_n 3, 1) := by decide +kernel
theorem dX4_pool_40 : decode cX4_pool 40 = .ok (.iinc 4 1, 3) := by decide +kernel
theorem dX4_pool_43 : decode cX4_pool 43 = .ok (.goto (-38), 3) := by decide +kernel
theorem dX4_pool_46 : decode cX4_pool 46 = .ok (.iload_n 3, 1) := by decide +kernel
theorem dX4_pool_47 : decode cX4_pool 47 = .ok (.ireturn, 1) := by decide +kernel
set_option maxRecDepth 20000 in
theorem ggX4_toJudge_X4_isPool : GoodIn wsX4_toJudge wsX4_isPool := goodIn_r _ [6, 7, 8, 9, 5, 10, 21, 22, 23, 24, 25, 26, 27, 28, 29, 30] (by decide +kernel) (by decide +kernel)
set_option maxRecDepth 20000 in
theorem gX4_toJudge_X4_isPool : GoodIn wsX4_toJudge (wsV RX4 51 RX4 yX4_isPool wsX4_isPool) := goodIn_app (goodIn_of _ (by decide +kernel)) ggX4_toJudge_X4_isPool
set_option maxRecDepth 20000 in
theorem ggX4_toJudge_X4_isPooled : GoodIn wsX4_toJudge wsX4_isPooled := goodIn_r _ [14, 15, 16, 17, 18, 5, 19, 20, 21, 22, 23, 24, 25, 26, 27, 28, 29, 30] (by decide +kernel) (by decide +kernel)
set_option maxRecDepth 20000 in
theorem gX4_toJudge_X4_isPooled : GoodIn wsX4_toJudge (wsV RX4 54 RX4 yX4_isPooled wsX4_isPooled) := goodIn_app (goodIn_of _ (by decide +kernel)) ggX4_toJudge_X4_isPooled
theorem dX4_toJudge_0 : decode cX4_toJudge 0 = .ok (.aload_n 0, 1) := by decide +kernel
theorem dX4_toJudge_1 : decode cX4_toJudge 1 = .ok (.iload_n 1, 1) := by decide +kernel
theorem dX4_toJudge_2 : decode cX4_toJudge 2 = .ok (.iload_n 2, 1) := by decide +kernel
theorem dX4_toJudge_3 : decode cX4_toJudge 3 = .ok (.invokevirtual 51, 3) := by decide +kernel
theorem dX4_toJudge_6 : decode cX4_toJudge 6 = .ok (.ifCond .ne 5, 3) := by decide +kernel
theorem dX4_toJudge_9 : decode cX4_toJudge 9 = .ok (.iconst 0, 1) := by decide +kernel
theorem dX4_toJudge_10 : decode cX4_toJudge 10 = .ok (.ireturn, 1) := by decide +kernel
theorem dX4_toJudge_11 : decode cX4_toJudge 11 = .ok (.iconst 0, 1) := by decide +kernel
theorem dX4_toJudge_12 : decode cX4_toJudge 12 = .ok (.istore_n 3, 1) := by decide +kernel
theorem dX4_toJudge_13 : decode cX4_toJudge 13 = .ok (.iload_n 3, 1) := by decide +kernel
theorem dX4_toJudge_14 : decode cX4_toJudge 14 = .ok (.bipush 40, 2) := by decide +kernel
theorem dX4_toJudge_16 : decode cX4_toJudge 16 = .ok (.if_icmp .ge 33, 3) := by decide +kernel
theorem dX4_toJudge_19 : decode cX4_toJudge 19 = .ok (.aload_n 0, 1) := by decide +kernel
theorem dX4_toJudge_20 : decode cX4_toJudge 20 = .ok (.iload_n 1, 1) := by decide +kernel
theorem dX4_toJudge_21 : decode cX4_toJudge 21 = .ok (.iload_n 3, 1) := by decide +kernel
theorem dX4_toJudge_22 : decode cX4_toJudge 22 = .ok (.iload_n 2, 1) := by decide +kernel
theorem dX4_toJudge_23 : decode cX4_toJudge 23 = .ok (.invokevirtual 54, 3) := by decide +kernel
theorem dX4_toJudge_26 : decode cX4_toJudge 26 = .ok (.ifCond .eq 17, 3) := by decide +kernel
theorem dX4_toJudge_29 : decode cX4_toJudge 29 = .ok (.aload_n 0, 1) := by decide +kernel
theorem dX4_toJudge_30 : decode cX4_toJudge 30 = .ok (.getfield 16, 3) := by decide +kernel
theorem dX4_toJudge_33 : decode cX4_toJudge 33 = .ok (.bipush 40, 2) := by decide +kernel
theorem dX4_toJudge_35 : decode cX4_toJudge 35 = .ok (.iload_n 1, 1) := by decide +kernel
theorem dX4_toJudge_36 : decode cX4_toJudge 36 = .ok (.imul, 1) := by decide +kernel
theorem dX4_toJudge_37 : decode cX4_toJudge 37 = .ok (.iload_n 3, 1) := by decide +kernel
theorem dX4_toJudge_38 : decode cX4_toJudge 38 = .ok (.iadd, 1) := by decide +kernel
theorem dX4_toJudge_39 : decode cX4_toJudge 39 = .ok (.iaload, 1) := by decide +kernel
theorem dX4_toJudge_40 : decode cX4_toJudge 40 = .ok (.ifCond .eq 9, 3) := by decide +kernel
theorem dX4_toJudge_43 : decode cX4_toJudge 43 = .ok (.iinc 3 1, 3) := by decide +kernel
theorem dX4_toJudge_46 : decode cX4_toJudge 46 = .ok (.goto (-33), 3) := by decide +kernel
theorem dX4_toJudge_49 : decode cX4_toJudge 49 = .ok (.iload_n 3, 1) := by decide +kernel
theorem dX4_toJudge_50 : decode cX4_toJudge 50 = .ok (.bipush 40, 2) := by decide +kernel
theorem dX4_toJudge_52 : decode cX4_toJudge 52 = .ok (.if_icmp .ge 7, 3) := by decide +kernel
theorem dX4_toJudge_55 : decode cX4_toJudge 55 = .ok (.iload_n 3, 1) := by decide +kernel
theorem dX4_toJudge_56 : decode cX4_toJudge 56 = .ok (.goto 4, 3) := by decide +kernel
theorem dX4_toJudge_59 : decode cX4_toJudge 59 = .ok (.iconst (-1), 1) := by decide +kernel
theorem dX4_toJudge_60 : decode cX4_toJudge 60 = .ok (.ireturn, 1) := by decide +kernel
theorem dX4_relevantAmong_0 : decode cX4_relevantAmong 0 = .ok (.iconst 0, 1) := by decide +kernel
theorem dX4_relevantAmong_1 : decode cX4_relevantAmong 1 = .ok (.istore 4, 2) := by decide +kernel
theorem dX4_relevantAmong_3 : decode cX4_relevantAmong 3 = .ok (.iload_n 2, 1) := by decide +kernel
theorem dX4_relevantAmong_4 : decode cX4_relevantAmong 4 = .ok (.istore 5, 2) := by decide +kernel
theorem dX4_relevantAmong_6 : decode cX4_relevantAmong 6 = .ok (.iload 5, 2) := by decide +kernel
theorem dX4_relevantAmong_8 : decode cX4_relevantAmong 8 = .ok (.iload_n 3, 1) := by decide +kernel
theorem dX4_relevantAmong_9 : decode cX4_relevantAmong 9 = .ok (.if_icmp .ge 62, 3) := by decide +kernel
theorem dX4_relevantAmong_12 : decode cX4_relevantAmong 12 = .ok (.iload 5, 2) := by decide +kernel
theorem dX4_relevantAmong_14 : decode cX4_relevantAmong 14 = .ok (.aload_n 0, 1) := by decide +kernel
theorem dX4_relevantAmong_15 : decode cX4_relevantAmong 15 = .ok (.getfield 7, 3) := by decide +kernel
theorem dX4_relevantAmong_18 : decode cX4_relevantAmong 18 = .ok (.iload_n 1, 1) := by decide +kernel
theorem dX4_relevantAmong_19 : decode cX4_relevantAmong 19 = .ok (.iaload, 1) := by decide +kernel
theorem dX4_relevantAmong_20 : decode cX4_relevantAmong 20 = .ok (.if_icmp .ge 51, 3) := by decide +kernel
theorem dX4_relevantAmong_23 : decode cX4_relevantAmong 23 = .ok (.iload 4, 2) := by decide +kernel
theorem dX4_relevantAmong_25 : decode cX4_relevantAmong 25 = .ok (.aload_n 0, 1) := by decide +kernel
theorem dX4_relevantAmong_26 : decode cX4_relevantAmong 26 = .ok (.getfield 16, 3) := by decide +kernel
theorem dX4_relevantAmong_29 : decode cX4_relevantAmong 29 = .ok (.bipush 40, 2) := by decide +kernel
theorem dX4_relevantAmong_31 : decode cX4_relevantAmong 31 = .ok (.iload_n 1, 1) := by decide +kernel
theorem dX4_relevantAmong_32 : decode cX4_relevantAmong 32 = .ok (.bipush 8, 2) := by decide +kernel
theorem dX4_relevantAmong_34 : decode cX4_relevantAmong 34 = .ok (.irem, 1) := by decide +kernel
theorem dX4_relevantAmong_35 : decode cX4_relevantAmong 35 = .ok (.imul, 1) := by decide +kernel
theorem dX4_relevantAmong_36 : decode cX4_relevantAmong 36 = .ok (.aload_n 0, 1) := by decide +kernel
theorem dX4_relevantAmong_37 : decode cX4_relevantAmong 37 = .ok (.getfield 13, 3) := by decide +kernel
theorem dX4_relevantAmong_40 : decode cX4_relevantAmong 40 = .ok (.bipush 20, 2) := by decide +kernel
theorem dX4_relevantAmong_42 : decode cX4_relevantAmong 42 = .ok (.iload_n 1, 1) := by decide +kernel
theorem dX4_relevantAmong_43 : decode cX4_relevantAmong 43 = .ok (.imul, 1) := by decide +kernel
theorem dX4_relevantAmong_44 : decode cX4_relevantAmong 44 = .ok (.iload 5, 2) := by decide +kernel
theorem dX4_relevantAmong_46 : decode cX4_relevantAmong 46 = .ok (.iadd, 1) := by decide +kernel
theorem dX4_relevantAmong_47 : decode cX4_relevantAmong 47 = .ok (.iaload, 1) := by decide +kernel
theorem dX4_relevantAmong_48 : decode cX4_relevantAmong 48 = .ok (.bipush 64, 2) := by decide +kernel
theorem dX4_relevantAmong_50 : decode cX4_relevantAmong 50 = .ok (.irem, 1) := by decide +kernel
theorem dX4_relevantAmong_51 : decode cX4_relevantAmong 51 = .ok (.iadd, 1) := by decide +kernel
theorem dX4_relevantAmong_52 : decode cX4_relevantAmong 52 = .ok (.iaload, 1) := by decide +kernel
theorem dX4_relevantAmong_53 : decode cX4_relevantAmong 53 = .ok (.iconst 2, 1) := by decide +kernel
theorem dX4_relevantAmong_54 : decode cX4_relevantAmong 54 = .ok (.if_icmp .ne 7, 3) := by decide +kernel
theorem dX4_relevantAmong_57 : decode cX4_relevantAmong 57 = .ok (.iconst 1, 1) := by decide +kernel
theorem dX4_relevantAmong_58 : decode cX4_relevantAmong 58 = .ok (.goto 4, 3) := by decide +kernel
theorem dX4_relevantAmong_61 : decode cX4_relevantAmong 61 = .ok (.iconst 0, 1) := by decide +kernel
theorem dX4_relevantAmong_62 : decode cX4_relevantAmong 62 = .ok (.iadd, 1) := by decide +kernel
theorem dX4_relevantAmong_63 : decode cX4_relevantAmong 63 = .ok (.istore 4, 2) := by decide +kernel
theorem dX4_relevantAmong_65 : decode cX4_relevantAmong 65 = .ok (.iinc 5 1, 3) := by decide +kernel
theorem dX4_relevantAmong_68 : decode cX4_relevantAmong 68 = .ok (.goto (-62), 3) := by decide +kernel
theorem dX4_relevantAmong_71 : decode cX4_relevantAmong 71 = .ok (.iload 4, 2) := by decide +kernel
theorem dX4_relevantAmong_73 : decode cX4_relevantAmong 73 = .ok (.ireturn, 1) := by decide +kernel
theorem dX4_tieEnd_0 : decode cX4_tieEnd 0 = .ok (.iload_n 2, 1) := by decide +kernel
theorem dX4_tieEnd_1 : decode cX4_tieEnd 1 = .ok (.istore_n 3, 1) := by decide +kernel
theorem dX4_tieEnd_2 : decode cX4_tieEnd 2 = .ok (.iload_n 3, 1) := by decide +kernel
theorem dX4_tieEnd_3 : decode cX4_tieEnd 3 = .ok (.aload_n 0, 1) := by decide +kernel
theorem dX4_tieEnd_4 : decode cX4_tieEnd 4 = .ok (.getfield 7, 3) := by decide +kernel
theorem dX4_tieEnd_7 : decode cX4_tieEnd 7 = .ok (.iload_n 1, 1) := by decide +kernel
theorem dX4_tieEnd_8 : decode cX4_tieEnd 8 = .ok (.iaload, 1) := by decide +kernel
theorem dX4_tieEnd_9 : decode cX4_tieEnd 9 = .ok (.if_icmp .ge 40, 3) := by decide +kernel
theorem dX4_tieEnd_12 : decode cX4_tieEnd 12 = .ok (.aload_n 0, 1) := by decide +kernel
theorem dX4_tieEnd_13 : decode cX4_tieEnd 13 = .ok (.getfield 13, 3) := by decide +kernel
theorem dX4_tieEnd_16 : decode cX4_tieEnd 16 = .ok (.bipush 20, 2) := by decide +kernel
theorem dX4_tieEnd_18 : decode cX4_tieEnd 18 = .ok (.iload_n 1, 1) := by decide +kernel
theorem dX4_tieEnd_19 : decode cX4_tieEnd 19 = .ok (.imul, 1) := by decide +kernel
theorem dX4_tieEnd_20 : decode cX4_tieEnd 20 = .ok (.iload_n 3, 1) := by decide +kernel
theorem dX4_tieEnd_21 : decode cX4_tieEnd 21 = .ok (.iadd, 1) := by decide +kernel
theorem dX4_tieEnd_22 : decode cX4_tieEnd 22 = .ok (.iaload, 1) := by decide +kernel
theorem dX4_tieEnd_23 : decode cX4_tieEnd 23 = .ok (.bipush 64, 2) := by decide +kernel
theorem dX4_tieEnd_25 : decode cX4_tieEnd 25 = .ok (.idiv, 1) := by decide +kernel
theorem dX4_tieEnd_26 : decode cX4_tieEnd 26 = .ok (.aload_n 0, 1) := by decide +kernel
theorem dX4_tieEnd_27 : decode cX4_tieEnd 27 = .ok (.getfield 13, 3) := by decide +kernel
theorem dX4_tieEnd_30 : decode cX4_tieEnd 30 = .ok (.bipush 20, 2) := by decide +kernel
theorem dX4_tieEnd_32 : decode cX4_tieEnd 32 = .ok (.iload_n 1, 1) := by decide +kernel
theorem dX4_tieEnd_33 : decode cX4_tieEnd 33 = .ok (.imul, 1) := by decide +kernel
theorem dX4_tieEnd_34 : decode cX4_tieEnd 34 = .ok (.iload_n 2, 1) := by decide +kernel
theorem dX4_tieEnd_35 : decode cX4_tieEnd 35 = .ok (.iadd, 1) := by decide +kernel
theorem dX4_tieEnd_36 : decode cX4_tieEnd 36 = .ok (.iaload, 1) := by decide +kernel
theorem dX4_tieEnd_37 : decode cX4_tieEnd 37 = .ok (.bipush 64, 2) := by decide +kernel
theorem dX4_tieEnd_39 : decode cX4_tieEnd 39 = .ok (.idiv, 1) := by decide +kernel
theorem dX4_tieEnd_40 : decode cX4_tieEnd 40 = .ok (.if_icmp .ne 9, 3) := by decide +kernel
theorem dX4_tieEnd_43 : decode cX4_tieEnd 43 = .ok (.iinc 3 1, 3) := by decide +kernel
theorem dX4_tieEnd_46 : decode cX4_tieEnd 46 = .ok (.goto (-44), 3) := by decide +kernel
theorem dX4_tieEnd_49 : decode cX4_tieEnd 49 = .ok (.iload_n 3, 1) := by decide +kernel
theorem dX4_tieEnd_50 : decode cX4_tieEnd 50 = .ok (.ireturn, 1) := by decide +kernel
set_option maxRecDepth 20000 in
theorem ggX4_meanHits_X4_tieEnd : GoodIn wsX4_meanHits wsX4_tieEnd := goodIn_r _ [7, 1, 8, 14, 15, 16, 17, 18, 19, 20, 21, 22, 23] (by decide +kernel) (by decide +kernel)
set_option maxRecDepth 20000 in
theorem gX4_meanHits_X4_tieEnd : GoodIn wsX4_meanHits (wsV RX4 57 RX4 yX4_tieEnd wsX4_tieEnd) := goodIn_app (goodIn_of _ (by decide +kernel)) ggX4_meanHits_X4_tieEnd
set_option maxRecDepth 20000 in
theorem ggX4_meanHits_X4_relevantAmong : GoodIn wsX4_meanHits wsX4_relevantAmong := goodIn_r _ [12, 1, 13, 8, 14, 15, 16, 17, 18, 19, 20, 21, 22, 23] (by decide +kernel) (by decide +kernel)
set_option maxRecDepth 20000 in
theorem gX4_meanHits_X4_relevantAmong : GoodIn wsX4_meanHits (wsV RX4 60 RX4 yX4_relevantAmong wsX4_relevantAmong) := goodIn_app (goodIn_of _ (by decide +kernel)) ggX4_meanHits_X4_relevantAmong
theorem dX4_meanHits_0 : decode cX4_meanHits 0 = .ok (.lconst 0, 1) := by decide +kernel
theorem dX4_meanHits_1 : decode cX4_meanHits 1 = .ok (.lstore_n 3, 1) := by decide +kernel
theorem dX4_meanHits_2 : decode cX4_meanHits 2 = .ok (.iconst 0, 1) := by decide +kernel
theorem dX4_meanHits_3 : decode cX4_meanHits 3 = .ok (.istore 5, 2) := by decide +kernel
theorem dX4_meanHits_5 : decode cX4_meanHits 5 = .ok (.iload 5, 2) := by decide +kernel
theorem dX4_meanHits_7 : decode cX4_meanHits 7 = .ok (.aload_n 0, 1) := by decide +kernel
theorem dX4_meanHits_8 : decode cX4_meanHits 8 = .ok (.getfield 7, 3) := by decide +kernel
theorem dX4_meanHits_11 : decode cX4_meanHits 11 = .ok (.iload_n 1, 1) := by decide +kernel
theorem dX4_meanHits_12 : decode cX4_meanHits 12 = .ok (.iaload, 1) := by decide +kernel
theorem dX4_meanHits_13 : decode cX4_meanHits 13 = .ok (.if_icmp .ge 70, 3) := by decide +kernel
theorem dX4_meanHits_16 : decode cX4_meanHits 16 = .ok (.iload 5, 2) := by decide +kernel
theorem dX4_meanHits_18 : decode cX4_meanHits 18 = .ok (.iload_n 2, 1) := by decide +kernel
theorem dX4_meanHits_19 : decode cX4_meanHits 19 = .ok (.if_icmp .ge 64, 3) := by decide +kernel
theorem dX4_meanHits_22 : decode cX4_meanHits 22 = .ok (.aload_n 0, 1) := by decide +kernel
theorem dX4_meanHits_23 : decode cX4_meanHits 23 = .ok (.iload_n 1, 1) := by decide +kernel
theorem dX4_meanHits_24 : decode cX4_meanHits 24 = .ok (.iload 5, 2) := by decide +kernel
theorem dX4_meanHits_26 : decode cX4_meanHits 26 = .ok (.invokevirtual 57, 3) := by decide +kernel
theorem dX4_meanHits_29 : decode cX4_meanHits 29 = .ok (.istore 6, 2) := by decide +kernel
theorem dX4_meanHits_31 : decode cX4_meanHits 31 = .ok (.iload 6, 2) := by decide +kernel
theorem dX4_meanHits_33 : decode cX4_meanHits 33 = .ok (.iload_n 2, 1) := by decide +kernel
theorem dX4_meanHits_34 : decode cX4_meanHits 34 = .ok (.if_icmp .ge 8, 3) := by decide +kernel
theorem dX4_meanHits_37 : decode cX4_meanHits 37 = .ok (.iload 6, 2) := by decide +kernel
theorem dX4_meanHits_39 : decode cX4_meanHits 39 = .ok (.goto 4, 3) := by decide +kernel
theorem dX4_meanHits_42 : decode cX4_meanHits 42 = .ok (.iload_n 2, 1) := by decide +kernel
theorem dX4_meanHits_43 : decode cX4_meanHits 43 = .ok (.iload 5, 2) := by decide +kernel
theorem dX4_meanHits_45 : decode cX4_meanHits 45 = .ok (.isub, 1) := by decide +kernel
theorem dX4_meanHits_46 : decode cX4_meanHits 46 = .ok (.istore 7, 2) := by decide +kernel
theorem dX4_meanHits_48 : decode cX4_meanHits 48 = .ok (.lload_n 3, 1) := by decide +kernel
theorem dX4_meanHits_49 : decode cX4_meanHits 49 = .ok (.aload_n 0, 1) := by decide +kernel
theorem dX4_meanHits_50 : decode cX4_meanHits 50 = .ok (.iload_n 1, 1) := by decide +kernel
theorem dX4_meanHits_51 : decode cX4_meanHits 51 = .ok (.iload 5, 2) := by decide +kernel
theorem dX4_meanHits_53 : decode cX4_meanHits 53 = .ok (.iload 6, 2) := by decide +kernel
theorem dX4_meanHits_55 : decode cX4_meanHits 55 = .ok (.invokevirtual 60, 3) := by decide +kernel
theorem dX4_meanHits_58 : decode cX4_meanHits 58 = .ok (.i2l, 1) := by decide +kernel
theorem dX4_meanHits_59 : decode cX4_meanHits 59 = .ok (.iload 7, 2) := by decide +kernel
theorem dX4_meanHits_61 : decode cX4_meanHits 61 = .ok (.i2l, 1) := by decide +kernel
theorem dX4_meanHits_62 : decode cX4_meanHits 62 = .ok (.lmul, 1) := by decide +kernel
theorem dX4_meanHits_63 : decode cX4_meanHits 63 = .ok (.ldc2_w 64, 3) := by decide +kernel
theorem dX4_meanHits_66 : decode cX4_meanHits 66 = .ok (.iload 6, 2) := by decide +kernel
theorem dX4_meanHits_68 : decode cX4_meanHits 68 = .ok (.iload 5, 2) := by decide +kernel
theorem dX4_meanHits_70 : decode cX4_meanHits 70 = .ok (.isub, 1) := by decide +kernel
theorem dX4_meanHits_71 : decode cX4_meanHits 71 = .ok (.i2l, 1) := by decide +kernel
theorem dX4_meanHits_72 : decode cX4_meanHits 72 = .ok (.ldiv, 1) := by decide +kernel
theorem dX4_meanHits_73 : decode cX4_meanHits 73 = .ok (.lmul, 1) := by decide +kernel
theorem dX4_meanHits_74 : decode cX4_meanHits 74 = .ok (.ladd, 1) := by decide +kernel
theorem dX4_meanHits_75 : decode cX4_meanHits 75 = .ok (.lstore_n 3, 1) := by decide +kernel
theorem dX4_meanHits_76 : decode cX4_meanHits 76 = .ok (.iload 6, 2) := by decide +kernel
theorem dX4_meanHits_78 : decode cX4_meanHits 78 = .ok (.istore 5, 2) := by decide +kernel
theorem dX4_meanHits_80 : decode cX4_meanHits 80 = .ok (.goto (-75), 3) := by decide +kernel
theorem dX4_meanHits_83 : decode cX4_meanHits 83 = .ok (.lload_n 3, 1) := by decide +kernel
theorem dX4_meanHits_84 : decode cX4_meanHits 84 = .ok (.lreturn, 1) := by decide +kernel
theorem dX4_lowers_0 : decode cX4_lowers 0 = .ok (.aload_n 0, 1) := by decide +kernel
theorem dX4_lowers_1 : decode cX4_lowers 1 = .ok (.getfield 66, 3) := by decide +kernel
theorem dX4_lowers_4 : decode cX4_lowers 4 = .ok (.lstore_n 1, 1) := by decide +kernel
theorem dX4_lowers_5 : decode cX4_lowers 5 = .ok (.aload_n 0, 1) := by decide +kernel
theorem dX4_lowers_6 : decode cX4_lowers 6 = .ok (.getfield 70, 3) := by decide +kernel
theorem dX4_lowers_9 : decode cX4_lowers 9 = .ok (.lstore_n 3, 1) := by decide +kernel
theorem dX4_lowers_10 : decode cX4_lowers 10 = .ok (.lload_n 3, 1) := by decide +kernel
theorem dX4_lowers_11 : decode cX4_lowers 11 = .ok (.lconst 0, 1) := by decide +kernel
theorem dX4_lowers_12 : decode cX4_lowers 12 = .ok (.lcmp, 1) := by decide +kernel
theorem dX4_lowers_13 : decode cX4_lowers 13 = .ok (.ifCond .eq 16, 3) := by decide +kernel
theorem dX4_lowers_16 : decode cX4_lowers 16 = .ok (.lload_n 1, 1) := by decide +kernel
theorem dX4_lowers_17 : decode cX4_lowers 17 = .ok (.lload_n 3, 1) := by decide +kernel
theorem dX4_lowers_18 : decode cX4_lowers 18 = .ok (.lrem, 1) := by decide +kernel
theorem dX4_lowers_19 : decode cX4_lowers 19 = .ok (.lstore 5, 2) := by decide +kernel
theorem dX4_lowers_21 : decode cX4_lowers 21 = .ok (.lload_n 3, 1) := by decide +kernel
theorem dX4_lowers_22 : decode cX4_lowers 22 = .ok (.lstore_n 1, 1) := by decide +kernel
theorem dX4_lowers_23 : decode cX4_lowers 23 = .ok (.lload 5, 2) := by decide +kernel
theorem dX4_lowers_25 : decode cX4_lowers 25 = .ok (.lstore_n 3, 1) := by decide +kernel
theorem dX4_lowers_26 : decode cX4_lowers 26 = .ok (.goto (-16), 3) := by decide +kernel
theorem dX4_lowers_29 : decode cX4_lowers 29 = .ok (.aload_n 0, 1) := by decide +kernel
theorem dX4_lowers_30 : decode cX4_lowers 30 = .ok (.dup, 1) := by decide +kernel
theorem dX4_lowers_31 : decode cX4_lowers 31 = .ok (.getfield 66, 3) := by decide +kernel
theorem dX4_lowers_34 : decode cX4_lowers 34 = .ok (.lload_n 1, 1) := by decide +kernel
theorem dX4_lowers_35 : decode cX4_lowers 35 = .ok (.ldiv, 1) := by decide +kernel
theorem dX4_lowers_36 : decode cX4_lowers 36 = .ok (.putfield 66, 3) := by decide +kernel
theorem dX4_lowers_39 : decode cX4_lowers 39 = .ok (.aload_n 0, 1) := by decide +kernel
theorem dX4_lowers_40 : decode cX4_lowers 40 = .ok (.dup, 1) := by decide +kernel
theorem dX4_lowers_41 : decode cX4_lowers 41 = .ok (.getfield 70, 3) := by decide +kernel
theorem dX4_lowers_44 : decode cX4_lowers 44 = .ok (.lload_n 1, 1) := by decide +kernel
theorem dX4_lowers_45 : decode cX4_lowers 45 = .ok (.ldiv, 1) := by decide +kernel
theorem dX4_lowers_46 : decode cX4_lowers 46 = .ok (.putfield 70, 3) := by decide +kernel
theorem dX4_lowers_49 : decode cX4_lowers 49 = .ok (.return_, 1) := by decide +kernel
set_option maxRecDepth 20000 in
theorem ggX4_hits_X4_isDeep : GoodIn wsX4_hits wsX4_isDeep := goodIn_r _ [5, 6, 7, 8, 9, 4, 10, 11, 12, 13, 21, 22, 23, 24, 25, 26, 27, 28, 29, 30] (by decide +kernel) (by decide +kernel)
set_option maxRecDepth 20000 in
theorem gX4_hits_X4_isDeep : GoodIn wsX4_hits (wsV RX4 48 RX4 yX4_isDeep wsX4_isDeep) := goodIn_app (goodIn_of _ (by decide +kernel)) ggX4_hits_X4_isDeep
set_option maxRecDepth 20000 in
theorem ggX4_hits_X4_relevantAmong : GoodIn wsX4_hits wsX4_relevantAmong := goodIn_r _ [17, 18, 19, 20, 21, 22, 23, 24, 25, 26, 27, 28, 29, 30] (by decide +kernel) (by decide +kernel)
set_option maxRecDepth 20000 in
theorem gX4_hits_X4_relevantAmong : GoodIn wsX4_hits (wsV RX4 60 RX4 yX4_relevantAmong wsX4_relevantAmong) := goodIn_app (goodIn_of _ (by decide +kernel)) ggX4_hits_X4_relevantAmong
theorem dX4_hits_0 : decode cX4_hits 0 = .ok (.aload_n 0, 1) := by decide +kernel
theorem dX4_hits_1 : decode cX4_hits 1 = .ok (.iload_n 1, 1) := by decide +kernel
theorem dX4_hits_2 : decode cX4_hits 2 = .ok (.iload_n 2, 1) := by decide +kernel
theorem dX4_hits_3 : decode cX4_hits 3 = .ok (.iload_n 3, 1) := by decide +kernel
theorem dX4_hits_4 : decode cX4_hits 4 = .ok (.invokevirtual 48, 3) := by decide +kernel
theorem dX4_hits_7 : decode cX4_hits 7 = .ok (.ifCond .eq 18, 3) := by decide +kernel
theorem dX4_hits_10 : decode cX4_hits 10 = .ok (.aload_n 0, 1) := by decide +kernel
theorem dX4_hits_11 : decode cX4_hits 11 = .ok (.bipush 8, 2) := by decide +kernel
theorem dX4_hits_13 : decode cX4_hits 13 = .ok (.iload_n 1, 1) := by decide +kernel
theorem dX4_hits_14 : decode cX4_hits 14 = .ok (.imul, 1) := by decide +kernel
theorem dX4_hits_15 : decode cX4_hits 15 = .ok (.iload_n 2, 1) := by decide +kernel
theorem dX4_hits_16 : decode cX4_hits 16 = .ok (.iadd, 1) := by decide +kernel
theorem dX4_hits_17 : decode cX4_hits 17 = .ok (.iconst 0, 1) := by decide +kernel
theorem dX4_hits_18 : decode cX4_hits 18 = .ok (.iload_n 3, 1) := by decide +kernel
theorem dX4_hits_19 : decode cX4_hits 19 = .ok (.invokevirtual 60, 3) := by decide +kernel
theorem dX4_hits_22 : decode cX4_hits 22 = .ok (.goto 4, 3) := by decide +kernel
theorem dX4_hits_25 : decode cX4_hits 25 = .ok (.iconst 0, 1) := by decide +kernel
theorem dX4_hits_26 : decode cX4_hits 26 = .ok (.ireturn, 1) := by decide +kernel
set_option maxRecDepth 20000 in
theorem ggX4_isPrecision_X4_isDeep : GoodIn wsX4_isPrecision wsX4_isDeep := goodIn_r _ [8, 9, 10, 11, 12, 7, 13, 14, 15, 16, 36, 37, 38, 39, 40, 41, 42, 43, 44, 45] (by decide +kernel) (by decide +kernel)
set_option maxRecDepth 20000 in
theorem gX4_isPrecision_X4_isDeep : GoodIn wsX4_isPrecision (wsV RX4 48 RX4 yX4_isDeep wsX4_isDeep) := goodIn_app (goodIn_of _ (by decide +kernel)) ggX4_isPrecision_X4_isDeep
set_option maxRecDepth 20000 in
theorem ggX4_isPrecision_X4_meanHits : GoodIn wsX4_isPrecision wsX4_meanHits := goodIn_r _ [20, 21, 2, 22, 23, 24, 7, 25, 26, 27, 28, 29, 30, 31, 36, 37, 38, 39, 40, 41, 42, 43, 44, 45] (by decide +kernel) (by decide +kernel)
set_option maxRecDepth 20000 in
theorem gX4_isPrecision_X4_meanHits : GoodIn wsX4_isPrecision (wsV RX4 73 RX4 yX4_meanHits wsX4_meanHits) := goodIn_app (goodIn_of _ (by decide +kernel)) ggX4_isPrecision_X4_meanHits
set_option maxRecDepth 20000 in
theorem ggX4_isPrecision_X4_lowers : GoodIn wsX4_isPrecision wsX4_lowers := goodIn_r _ [35, 1, 3, 36, 37, 38, 39, 40, 41, 42, 43, 44, 45] (by decide +kernel) (by decide +kernel)
set_option maxRecDepth 20000 in
theorem gX4_isPrecision_X4_lowers : GoodIn wsX4_isPrecision (wsV RX4 77 RX4 yX4_lowers wsX4_lowers) := goodIn_app (goodIn_of _ (by decide +kernel)) ggX4_isPrecision_X4_lowers
theorem dX4_isPrecision_0 : decode cX4_isPrecision 0 = .ok (.aload_n 0, 1) := by decide +kernel
theorem dX4_isPrecision_1 : decode cX4_isPrecision 1 = .ok (.iload_n 1, 1) := by decide +kernel
theorem dX4_isPrecision_2 : decode cX4_isPrecision 2 = .ok (.iload_n 2, 1) := by decide +kernel
theorem dX4_isPrecision_3 : decode cX4_isPrecision 3 = .ok (.iload_n 3, 1) := by decide +kernel
theorem dX4_isPrecision_4 : decode cX4_isPrecision 4 = .ok (.invokevirtual 48, 3) := by decide +kernel
theorem dX4_isPrecision_7 : decode cX4_isPrecision 7 = .ok (.ifCond .ne 5, 3) := by decide +kernel
theorem dX4_isPrecision_10 : decode cX4_isPrecision 10 = .ok (.iconst 0, 1) := by decide +kernel
theorem dX4_isPrecision_11 : decode cX4_isPrecision 11 = .ok (.ireturn, 1) := by decide +kernel
theorem dX4_isPrecision_12 : decode cX4_isPrecision 12 = .ok (.aload_n 0, 1) := by decide +kernel
theorem dX4_isPrecision_13 : decode cX4_isPrecision 13 = .ok (.aload_n 0, 1) := by decide +kernel
theorem dX4_isPrecision_14 : decode cX4_isPrecision 14 = .ok (.bipush 8, 2) := by decide +kernel
theorem dX4_isPrecision_16 : decode cX4_isPrecision 16 = .ok (.iload_n 1, 1) := by decide +kernel
theorem dX4_isPrecision_17 : decode cX4_isPrecision 17 = .ok (.imul, 1) := by decide +kernel
theorem dX4_isPrecision_18 : decode cX4_isPrecision 18 = .ok (.iload_n 2, 1) := by decide +kernel
theorem dX4_isPrecision_19 : decode cX4_isPrecision 19 = .ok (.iadd, 1) := by decide +kernel
theorem dX4_isPrecision_20 : decode cX4_isPrecision 20 = .ok (.iload_n 3, 1) := by decide +kernel
theorem dX4_isPrecision_21 : decode cX4_isPrecision 21 = .ok (.invokevirtual 73, 3) := by decide +kernel
theorem dX4_isPrecision_24 : decode cX4_isPrecision 24 = .ok (.putfield 66, 3) := by decide +kernel
theorem dX4_isPrecision_27 : decode cX4_isPrecision 27 = .ok (.aload_n 0, 1) := by decide +kernel
theorem dX4_isPrecision_28 : decode cX4_isPrecision 28 = .ok (.ldc2_w 64, 3) := by decide +kernel
theorem dX4_isPrecision_31 : decode cX4_isPrecision 31 = .ok (.iload_n 3, 1) := by decide +kernel
theorem dX4_isPrecision_32 : decode cX4_isPrecision 32 = .ok (.i2l, 1) := by decide +kernel
theorem dX4_isPrecision_33 : decode cX4_isPrecision 33 = .ok (.lmul, 1) := by decide +kernel
theorem dX4_isPrecision_34 : decode cX4_isPrecision 34 = .ok (.putfield 70, 3) := by decide +kernel
theorem dX4_isPrecision_37 : decode cX4_isPrecision 37 = .ok (.aload_n 0, 1) := by decide +kernel
theorem dX4_isPrecision_38 : decode cX4_isPrecision 38 = .ok (.invokevirtual 77, 3) := by decide +kernel
theorem dX4_isPrecision_41 : decode cX4_isPrecision 41 = .ok (.iconst 1, 1) := by decide +kernel
theorem dX4_isPrecision_42 : decode cX4_isPrecision 42 = .ok (.ireturn, 1) := by decide +kernel
set_option maxRecDepth 20000 in
theorem ggX4_precisionNumerator_X4_isPrecision : GoodIn wsX4_precisionNumerator wsX4_isPrecision := goodIn_r _ [6, 1, 7, 8, 9, 10, 11, 5, 12, 13, 14, 15, 16, 17, 18, 19, 20, 21, 22, 23, 24, 25, 26, 27, 28, 29, 30, 31, 32, 33, 34, 35, 36, 37, 38, 39, 40, 41, 42, 43, 44, 45, 46, 47, 48, 49] (by decide +kernel) (by decide +kernel)
set_option maxRecDepth 20000 in
theorem gX4_precisionNumerator_X4_isPrecision : GoodIn wsX4_precisionNumerator (wsV RX4 80 RX4 yX4_isPrecision wsX4_isPrecision) := goodIn_app (goodIn_of _ (by decide +kernel)) ggX4_precisionNumerator_X4_isPrecision
theorem dX4_precisionNumerator_0 : decode cX4_precisionNumerator 0 = .ok (.aload_n 0, 1) := by decide +kernel
theorem dX4_precisionNumerator_1 : decode cX4_precisionNumerator 1 = .ok (.iload_n 1, 1) := by decide +kernel
theorem dX4_precisionNumerator_2 : decode cX4_precisionNumerator 2 = .ok (.iload_n 2, 1) := by decide +kernel
theorem dX4_precisionNumerator_3 : decode cX4_precisionNumerator 3 = .ok (.iload_n 3, 1) := by decide +kernel
theorem dX4_precisionNumerator_4 : decode cX4_precisionNumerator 4 = .ok (.invokevirtual 80, 3) := by decide +kernel
theorem dX4_precisionNumerator_7 : decode cX4_precisionNumerator 7 = .ok (.ifCond .eq 10, 3) := by decide +kernel
theorem dX4_precisionNumerator_10 : decode cX4_precisionNumerator 10 = .ok (.aload_n 0, 1) := by decide +kernel
theorem dX4_precisionNumerator_11 : decode cX4_precisionNumerator 11 = .ok (.getfield 66, 3) := by decide +kernel
theorem dX4_precisionNumerator_14 : decode cX4_precisionNumerator 14 = .ok (.goto 4, 3) := by decide +kernel
theorem dX4_precisionNumerator_17 : decode cX4_precisionNumerator 17 = .ok (.lconst 0, 1) := by decide +kernel
theorem dX4_precisionNumerator_18 : decode cX4_precisionNumerator 18 = .ok (.lreturn, 1) := by decide +kernel
set_option maxRecDepth 20000 in
theorem ggX4_precisionDenominator_X4_isPrecision : GoodIn wsX4_precisionDenominator wsX4_isPrecision := goodIn_r _ [6, 7, 8, 1, 9, 10, 11, 5, 12, 13, 14, 15, 16, 17, 18, 19, 20, 21, 22, 23, 24, 25, 26, 27, 28, 29, 30, 31, 32, 33, 34, 35, 36, 37, 38, 39, 40, 41, 42, 43, 44, 45, 46, 47, 48, 49] (by decide +kernel) (by decide +kernel)
set_option maxRecDepth 20000 in
theorem gX4_precisionDenominator_X4_isPrecision : GoodIn wsX4_precisionDenominator (wsV RX4 80 RX4 yX4_isPrecision wsX4_isPrecision) := goodIn_app (goodIn_of _ (by decide +kernel)) ggX4_precisionDenominator_X4_isPrecision
theorem dX4_precisionDenominator_0 : decode cX4_precisionDenominator 0 = .ok (.aload_n 0, 1) := by decide +kernel
theorem dX4_precisionDenominator_1 : decode cX4_precisionDenominator 1 = .ok (.iload_n 1, 1) := by decide +kernel
theorem dX4_precisionDenominator_2 : decode cX4_precisionDenominator 2 = .ok (.iload_n 2, 1) := by decide +kernel
theorem dX4_precisionDenominator_3 : decode cX4_precisionDenominator 3 = .ok (.iload_n 3, 1) := by decide +kernel
theorem dX4_precisionDenominator_4 : decode cX4_precisionDenominator 4 = .ok (.invokevirtual 80, 3) := by decide +kernel
theorem dX4_precisionDenominator_7 : decode cX4_precisionDenominator 7 = .ok (.ifCond .eq 10, 3) := by decide +kernel
theorem dX4_precisionDenominator_10 : decode cX4_precisionDenominator 10 = .ok (.aload_n 0, 1) := by decide +kernel
theorem dX4_precisionDenominator_11 : decode cX4_precisionDenominator 11 = .ok (.getfield 70, 3) := by decide +kernel
theorem dX4_precisionDenominator_14 : decode cX4_precisionDenominator 14 = .ok (.goto 4, 3) := by decide +kernel
theorem dX4_precisionDenominator_17 : decode cX4_precisionDenominator 17 = .ok (.lconst 0, 1) := by decide +kernel
theorem dX4_precisionDenominator_18 : decode cX4_precisionDenominator 18 = .ok (.lreturn, 1) := by decide +kernel
theorem dX4_ways_0 : decode cX4_ways 0 = .ok (.iload_n 1, 1) := by decide +kernel
theorem dX4_ways_1 : decode cX4_ways 1 = .ok (.ifCond .lt 8, 3) := by decide +kernel
theorem dX4_ways_4 : decode cX4_ways 4 = .ok (.iload_n 1, 1) := by decide +kernel
theorem dX4_ways_5 : decode cX4_ways 5 = .ok (.iload_n 0, 1) := by decide +kernel
theorem dX4_ways_6 : decode cX4_ways 6 = .ok (.if_icmp .le 5, 3) := by decide +kernel
theorem dX4_ways_9 : decode cX4_ways 9 = .ok (.lconst 0, 1) := by decide +kernel
theorem dX4_ways_10 : decode cX4_ways 10 = .ok (.lreturn, 1) := by decide +kernel
theorem dX4_ways_11 : decode cX4_ways 11 = .ok (.lconst 1, 1) := by decide +kernel
theorem dX4_ways_12 : decode cX4_ways 12 = .ok (.lstore_n 2, 1) := by decide +kernel
theorem dX4_ways_13 : decode cX4_ways 13 = .ok (.iconst 1, 1) := by decide +kernel
theorem dX4_ways_14 : decode cX4_ways 14 = .ok (.istore 4, 2) := by decide +kernel
theorem dX4_ways_16 : decode cX4_ways 16 = .ok (.iload 4, 2) := by decide +kernel
theorem dX4_ways_18 : decode cX4_ways 18 = .ok (.iload_n 1, 1) := by decide +kernel
theorem dX4_ways_19 : decode cX4_ways 19 = .ok (.if_icmp .gt 23, 3) := by decide +kernel
theorem dX4_ways_22 : decode cX4_ways 22 = .ok (.lload_n 2, 1) := by decide +kernel
theorem dX4_ways_23 : decode cX4_ways 23 = .ok (.iload_n 0, 1) := by decide +kernel
theorem dX4_ways_24 : decode cX4_ways 24 = .ok (.iload_n 1, 1) := by decide +kernel
theorem dX4_ways_25 : decode cX4_ways 25 = .ok (.isub, 1) := by decide +kernel
theorem dX4_ways_26 : decode cX4_ways 26 = .ok (.iload 4, 2) := by decide +kernel
theorem dX4_ways_28 : decode cX4_ways 28 = .ok (.iadd, 1) := by decide +kernel
theorem dX4_ways_29 : decode cX4_ways 29 = .ok (.i2l, 1) := by decide +kernel
theorem dX4_ways_30 : decode cX4_ways 30 = .ok (.lmul, 1) := by decide +kernel
theorem dX4_ways_31 : decode cX4_ways 31 = .ok (.iload 4, 2) := by decide +kernel
theorem dX4_ways_33 : decode cX4_ways 33 = .ok (.i2l, 1) := by decide +kernel
theorem dX4_ways_34 : decode cX4_ways 34 = .ok (.ldiv, 1) := by decide +kernel
theorem dX4_ways_35 : decode cX4_ways 35 = .ok (.lstore_n 2, 1) := by decide +kernel
theorem dX4_ways_36 : decode cX4_ways 36 = .ok (.iinc 4 1, 3) := by decide +kernel
theorem dX4_ways_39 : decode cX4_ways 39 = .ok (.goto (-23), 3) := by decide +kernel
theorem dX4_ways_42 : decode cX4_ways 42 = .ok (.lload_n 2, 1) := by decide +kernel
theorem dX4_ways_43 : decode cX4_ways 43 = .ok (.lreturn, 1) := by decide +kernel
set_option maxRecDepth 20000 in
theorem ggX4_isReciprocal_X4_isRun : GoodIn wsX4_isReciprocal wsX4_isRun := goodIn_r _ [9, 10, 11, 12, 8, 13, 31, 32, 33, 34, 35, 36, 37, 38, 39, 40] (by decide +kernel) (by decide +kernel)
set_option maxRecDepth 20000 in
theorem gX4_isReciprocal_X4_isRun : GoodIn wsX4_isReciprocal (wsV RX4 36 RX4 yX4_isRun wsX4_isRun) := goodIn_app (goodIn_of _ (by decide +kernel)) ggX4_isReciprocal_X4_isRun
set_option maxRecDepth 20000 in
theorem ggX4_isReciprocal_X4_tieEnd : GoodIn wsX4_isReciprocal wsX4_tieEnd := goodIn_r _ [17, 1, 18, 31, 32, 33, 34, 35, 36, 37, 38, 39, 40] (by decide +kernel) (by decide +kernel)
set_option maxRecDepth 20000 in
theorem gX4_isReciprocal_X4_tieEnd : GoodIn wsX4_isReciprocal (wsV RX4 57 RX4 yX4_tieEnd wsX4_tieEnd) := goodIn_app (goodIn_of _ (by decide +kernel)) ggX4_isReciprocal_X4_tieEnd
set_option maxRecDepth 20000 in
theorem ggX4_isReciprocal_X4_relevantAmong : GoodIn wsX4_isReciprocal wsX4_relevantAmong := goodIn_r _ [22, 1, 23, 18, 31, 32, 33, 34, 35, 36, 37, 38, 39, 40] (by decide +kernel) (by decide +kernel)
set_option maxRecDepth 20000 in
theorem gX4_isReciprocal_X4_relevantAmong : GoodIn wsX4_isReciprocal (wsV RX4 60 RX4 yX4_relevantAmong wsX4_relevantAmong) := goodIn_app (goodIn_of _ (by decide +kernel)) ggX4_isReciprocal_X4_relevantAmong
set_option maxRecDepth 20000 in
theorem ggX4_isReciprocal_X4_ways : GoodIn wsX4_isReciprocal wsX4_ways := goodIn_r _ [26] (by decide +kernel) (by decide +kernel)
set_option maxRecDepth 20000 in
theorem gX4_isReciprocal_X4_ways : GoodIn wsX4_isReciprocal (va_wsS RX4 83 yX4_ways wsX4_ways) := goodIn_app (goodIn_of _ (by decide +kernel)) ggX4_isReciprocal_X4_ways
set_option maxRecDepth 20000 in
theorem ggX4_isReciprocal_X4_lowers : GoodIn wsX4_isReciprocal wsX4_lowers := goodIn_r _ [30, 2, 3, 31, 32, 33, 34, 35, 36, 37, 38, 39, 40] (by decide +kernel) (by decide +kernel)
set_option maxRecDepth 20000 in
theorem gX4_isReciprocal_X4_lowers : GoodIn wsX4_isReciprocal (wsV RX4 77 RX4 yX4_lowers wsX4_lowers) := goodIn_app (goodIn_of _ (by decide +kernel)) ggX4_isReciprocal_X4_lowers
theorem dX4_isReciprocal_0 : decode cX4_isReciprocal 0 = .ok (.aload_n 0, 1) := by decide +kernel
theorem dX4_isReciprocal_1 : decode cX4_isReciprocal 1 = .ok (.iload_n 1, 1) := by decide +kernel
theorem dX4_isReciprocal_2 : decode cX4_isReciprocal 2 = .ok (.iload_n 2, 1) := by decide +kernel
theorem dX4_isReciprocal_3 : decode cX4_isReciprocal 3 = .ok (.invokevirtual 36, 3) := by decide +kernel
theorem dX4_isReciprocal_6 : decode cX4_isReciprocal 6 = .ok (.ifCond .ne 5, 3) := by decide +kernel
theorem dX4_isReciprocal_9 : decode cX4_isReciprocal 9 = .ok (.iconst 0, 1) := by decide +kernel
theorem dX4_isReciprocal_10 : decode cX4_isReciprocal 10 = .ok (.ireturn, 1) := by decide +kernel
theorem dX4_isReciprocal_11 : decode cX4_isReciprocal 11 = .ok (.bipush 8, 2) := by decide +kernel
theorem dX4_isReciprocal_13 : decode cX4_isReciprocal 13 = .ok (.iload_n 1, 1) := by decide +kernel
theorem dX4_isReciprocal_14 : decode cX4_isReciprocal 14 = .ok (.imul, 1) := by decide +kernel
theorem dX4_isReciprocal_15 : decode cX4_isReciprocal 15 = .ok (.iload_n 2, 1) := by decide +kernel
theorem dX4_isReciprocal_16 : decode cX4_isReciprocal 16 = .ok (.iadd, 1) := by decide +kernel
theorem dX4_isReciprocal_17 : decode cX4_isReciprocal 17 = .ok (.istore_n 3, 1) := by decide +kernel
theorem dX4_isReciprocal_18 : decode cX4_isReciprocal 18 = .ok (.iconst 0, 1) := by decide +kernel
theorem dX4_isReciprocal_19 : decode cX4_isReciprocal 19 = .ok (.istore 4, 2) := by decide +kernel
theorem dX4_isReciprocal_21 : decode cX4_isReciprocal 21 = .ok (.iload 4, 2) := by decide +kernel
theorem dX4_isReciprocal_23 : decode cX4_isReciprocal 23 = .ok (.aload_n 0, 1) := by decide +kernel
theorem dX4_isReciprocal_24 : decode cX4_isReciprocal 24 = .ok (.getfield 7, 3) := by decide +kernel
theorem dX4_isReciprocal_27 : decode cX4_isReciprocal 27 = .ok (.iload_n 3, 1) := by decide +kernel
theorem dX4_isReciprocal_28 : decode cX4_isReciprocal 28 = .ok (.iaload, 1) := by decide +kernel
theorem dX4_isReciprocal_29 : decode cX4_isReciprocal 29 = .ok (.if_icmp .ge 32, 3) := by decide +kernel
theorem dX4_isReciprocal_32 : decode cX4_isReciprocal 32 = .ok (.aload_n 0, 1) := by decide +kernel
theorem dX4_isReciprocal_33 : decode cX4_isReciprocal 33 = .ok (.iload_n 3, 1) := by decide +kernel
theorem dX4_isReciprocal_34 : decode cX4_isReciprocal 34 = .ok (.iload 4, 2) := by decide +kernel
theorem dX4_isReciprocal_36 : decode cX4_isReciprocal 36 = .ok (.aload_n 0, 1) := by decide +kernel
theorem dX4_isReciprocal_37 : decode cX4_isReciprocal 37 = .ok (.iload_n 3, 1) := by decide +kernel
theorem dX4_isReciprocal_38 : decode cX4_isReciprocal 38 = .ok (.iload 4, 2) := by decide +kernel
theorem dX4_isReciprocal_40 : decode cX4_isReciprocal 40 = .ok (.invokevirtual 57, 3) := by decide +kernel
theorem dX4_isReciprocal_43 : decode cX4_isReciprocal 43 = .ok (.invokevirtual 60, 3) := by decide +kernel
theorem dX4_isReciprocal_46 : decode cX4_isReciprocal 46 = .ok (.ifCond .ne 15, 3) := by decide +kernel
theorem dX4_isReciprocal_49 : decode cX4_isReciprocal 49 = .ok (.aload_n 0, 1) := by decide +kernel
theorem dX4_isReciprocal_50 : decode cX4_isReciprocal 50 = .ok (.iload_n 3, 1) := by decide +kernel
theorem dX4_isReciprocal_51 : decode cX4_isReciprocal 51 = .ok (.iload 4, 2) := by decide +kernel
theorem dX4_isReciprocal_53 : decode cX4_isReciprocal 53 = .ok (.invokevirtual 57, 3) := by decide +kernel
theorem dX4_isReciprocal_56 : decode cX4_isReciprocal 56 = .ok (.istore 4, 2) := by decide +kernel
theorem dX4_isReciprocal_58 : decode cX4_isReciprocal 58 = .ok (.goto (-37), 3) := by decide +kernel
theorem dX4_isReciprocal_61 : decode cX4_isReciprocal 61 = .ok (.aload_n 0, 1) := by decide +kernel
theorem dX4_isReciprocal_62 : decode cX4_isReciprocal 62 = .ok (.lconst 0, 1) := by decide +kernel
theorem dX4_isReciprocal_63 : decode cX4_isReciprocal 63 = .ok (.putfield 66, 3) := by decide +kernel
theorem dX4_isReciprocal_66 : decode cX4_isReciprocal 66 = .ok (.aload_n 0, 1) := by decide +kernel
theorem dX4_isReciprocal_67 : decode cX4_isReciprocal 67 = .ok (.lconst 1, 1) := by decide +kernel
theorem dX4_isReciprocal_68 : decode cX4_isReciprocal 68 = .ok (.putfield 70, 3) := by decide +kernel
theorem dX4_isReciprocal_71 : decode cX4_isReciprocal 71 = .ok (.iload 4, 2) := by decide +kernel
theorem dX4_isReciprocal_73 : decode cX4_isReciprocal 73 = .ok (.aload_n 0, 1) := by decide +kernel
theorem dX4_isReciprocal_74 : decode cX4_isReciprocal 74 = .ok (.getfield 7, 3) := by decide +kernel
theorem dX4_isReciprocal_77 : decode cX4_isReciprocal 77 = .ok (.iload_n 3, 1) := by decide +kernel
theorem dX4_isReciprocal_78 : decode cX4_isReciprocal 78 = .ok (.iaload, 1) := by decide +kernel
theorem dX4_isReciprocal_79 : decode cX4_isReciprocal 79 = .ok (.if_icmp .ge 103, 3) := by decide +kernel
theorem dX4_isReciprocal_82 : decode cX4_isReciprocal 82 = .ok (.aload_n 0, 1) := by decide +kernel
theorem dX4_isReciprocal_83 : decode cX4_isReciprocal 83 = .ok (.iload_n 3, 1) := by decide +kernel
theorem dX4_isReciprocal_84 : decode cX4_isReciprocal 84 = .ok (.iload 4, 2) := by decide +kernel
theorem dX4_isReciprocal_86 : decode cX4_isReciprocal 86 = .ok (.invokevirtual 57, 3) := by decide +kernel
theorem dX4_isReciprocal_89 : decode cX4_isReciprocal 89 = .ok (.iload 4, 2) := by decide +kernel
theorem dX4_isReciprocal_91 : decode cX4_isReciprocal 91 = .ok (.isub, 1) := by decide +kernel
theorem dX4_isReciprocal_92 : decode cX4_isReciprocal 92 = .ok (.istore 5, 2) := by decide +kernel
theorem dX4_isReciprocal_94 : decode cX4_isReciprocal 94 = .ok (.aload_n 0, 1) := by decide +kernel
theorem dX4_isReciprocal_95 : decode cX4_isReciprocal 95 = .ok (.iload_n 3, 1) := by decide +kernel
theorem dX4_isReciprocal_96 : decode cX4_isReciprocal 96 = .ok (.iload 4, 2) := by decide +kernel
theorem dX4_isReciprocal_98 : decode cX4_isReciprocal 98 = .ok (.iload 4, 2) := by decide +kernel
theorem dX4_isReciprocal_100 : decode cX4_isReciprocal 100 = .ok (.iload 5, 2) := by decide +kernel
theorem dX4_isReciprocal_102 : decode cX4_isReciprocal 102 = .ok (.iadd, 1) := by decide +kernel
theorem dX4_isReciprocal_103 : decode cX4_isReciprocal 103 = .ok (.invokevirtual 60, 3) := by decide +kernel
theorem dX4_isReciprocal_106 : decode cX4_isReciprocal 106 = .ok (.istore 6, 2) := by decide +kernel
theorem dX4_isReciprocal_108 : decode cX4_isReciprocal 108 = .ok (.iconst 0, 1) := by decide +kernel
theorem dX4_isReciprocal_109 : decode cX4_isReciprocal 109 = .ok (.istore 7, 2) := by decide +kernel
theorem dX4_isReciprocal_111 : decode cX4_isReciprocal 111 = .ok (.iload 7, 2) := by decide +kernel
theorem dX4_isReciprocal_113 : decode cX4_isReciprocal 113 = .ok (.iload 5, 2) := by decide +kernel
theorem dX4_isReciprocal_115 : decode cX4_isReciprocal 115 = .ok (.iload 6, 2) := by decide +kernel
theorem dX4_isReciprocal_117 : decode cX4_isReciprocal 117 = .ok (.isub, 1) := by decide +kernel
theorem dX4_isReciprocal_118 : decode cX4_isReciprocal 118 = .ok (.if_icmp .gt 45, 3) := by decide +kernel
theorem dX4_isReciprocal_121 : decode cX4_isReciprocal 121 = .ok (.aload_n 0, 1) := by decide +kernel
theorem dX4_isReciprocal_122 : decode cX4_isReciprocal 122 = .ok (.dup, 1) := by decide +kernel
theorem dX4_isReciprocal_123 : decode cX4_isReciprocal 123 = .ok (.getfield 66, 3) := by decide +kernel
theorem dX4_isReciprocal_126 : decode cX4_isReciprocal 126 = .ok (.iload 5, 2) := by decide +kernel
theorem dX4_isReciprocal_128 : decode cX4_isReciprocal 128 = .ok (.iload 7, 2) := by decide +kernel
theorem dX4_isReciprocal_130 : decode cX4_isReciprocal 130 = .ok (.isub, 1) := by decide +kernel
theorem dX4_isReciprocal_131 : decode cX4_isReciprocal 131 = .ok (.iconst 1, 1) := by decide +kernel
theorem dX4_isReciprocal_132 : decode cX4_isReciprocal 132 = .ok (.isub, 1) := by decide +kernel
theorem dX4_isReciprocal_133 : decode cX4_isReciprocal 133 = .ok (.iload 6, 2) := by decide +kernel
theorem dX4_isReciprocal_135 : decode cX4_isReciprocal 135 = .ok (.iconst 1, 1) := by decide +kernel
theorem dX4_isReciprocal_136 : decode cX4_isReciprocal 136 = .ok (.isub, 1) := by decide +kernel
theorem dX4_isReciprocal_137 : decode cX4_isReciprocal 137 = .ok (.invokestatic 83, 3) := by decide +kernel
theorem dX4_isReciprocal_140 : decode cX4_isReciprocal 140 = .ok (.ldc2_w 64, 3) := by decide +kernel
theorem dX4_isReciprocal_143 : decode cX4_isReciprocal 143 = .ok (.iload 4, 2) := by decide +kernel
theorem dX4_isReciprocal_145 : decode cX4_isReciprocal 145 = .ok (.iload 7, 2) := by decide +kernel
theorem dX4_isReciprocal_147 : decode cX4_isReciprocal 147 = .ok (.iadd, 1) := by decide +kernel
theorem dX4_isReciprocal_148 : decode cX4_isReciprocal 148 = .ok (.iconst 1, 1) := by decide +kernel
theorem dX4_isReciprocal_149 : decode cX4_isReciprocal 149 = .ok (.iadd, 1) := by decide +kernel
theorem dX4_isReciprocal_150 : decode cX4_isReciprocal 150 = .ok (.i2l, 1) := by decide +kernel
theorem dX4_isReciprocal_151 : decode cX4_isReciprocal 151 = .ok (.ldiv, 1) := by decide +kernel
theorem dX4_isReciprocal_152 : decode cX4_isReciprocal 152 = .ok (.lmul, 1) := by decide +kernel
theorem dX4_isReciprocal_153 : decode cX4_isReciprocal 153 = .ok (.ladd, 1) := by decide +kernel
theorem dX4_isReciprocal_154 : decode cX4_isReciprocal 154 = .ok (.putfield 66, 3) := by decide +kernel
theorem dX4_isReciprocal_157 : decode cX4_isReciprocal 157 = .ok (.iinc 7 1, 3) := by decide +kernel
theorem dX4_isReciprocal_160 : decode cX4_isReciprocal 160 = .ok (.goto (-49), 3) := by decide +kernel
theorem dX4_isReciprocal_163 : decode cX4_isReciprocal 163 = .ok (.aload_n 0, 1) := by decide +kernel
theorem dX4_isReciprocal_164 : decode cX4_isReciprocal 164 = .ok (.iload 5, 2) := by decide +kernel
theorem dX4_isReciprocal_166 : decode cX4_isReciprocal 166 = .ok (.iload 6, 2) := by decide +kernel
theorem dX4_isReciprocal_168 : decode cX4_isReciprocal 168 = .ok (.invokestatic 83, 3) := by decide +kernel
theorem dX4_isReciprocal_171 : decode cX4_isReciprocal 171 = .ok (.ldc2_w 64, 3) := by decide +kernel
theorem dX4_isReciprocal_174 : decode cX4_isReciprocal 174 = .ok (.lmul, 1) := by decide +kernel
theorem dX4_isReciprocal_175 : decode cX4_isReciprocal 175 = .ok (.putfield 70, 3) := by decide +kernel
theorem dX4_isReciprocal_178 : decode cX4_isReciprocal 178 = .ok (.aload_n 0, 1) := by decide +kernel
theorem dX4_isReciprocal_179 : decode cX4_isReciprocal 179 = .ok (.invokevirtual 77, 3) := by decide +kernel
theorem dX4_isReciprocal_182 : decode cX4_isReciprocal 182 = .ok (.iconst 1, 1) := by decide +kernel
theorem dX4_isReciprocal_183 : decode cX4_isReciprocal 183 = .ok (.ireturn, 1) := by decide +kernel
set_option maxRecDepth 20000 in
theorem ggX4_reciprocalNumerator_X4_isReciprocal : GoodIn wsX4_reciprocalNumerator wsX4_isReciprocal := goodIn_r _ [6, 7, 1, 8, 9, 10, 11, 12, 5, 13, 14, 15, 16, 17, 18, 19, 20, 21, 22, 23, 24, 25, 26, 27, 28, 29, 30, 31, 32, 33, 34, 35, 36, 37, 38, 39, 40, 41, 42, 43, 44] (by decide +kernel) (by decide +kernel)
set_option maxRecDepth 20000 in
theorem gX4_reciprocalNumerator_X4_isReciprocal : GoodIn wsX4_reciprocalNumerator (wsV RX4 86 RX4 yX4_isReciprocal wsX4_isReciprocal) := goodIn_app (goodIn_of _ (by decide +kernel)) ggX4_reciprocalNumerator_X4_isReciprocal
theorem dX4_reciprocalNumerator_0 : decode cX4_reciprocalNumerator 0 = .ok (.aload_n 0, 1) := by decide +kernel
theorem dX4_reciprocalNumerator_1 : decode cX4_reciprocalNumerator 1 = .ok (.iload_n 1, 1) := by decide +kernel
theorem dX4_reciprocalNumerator_2 : decode cX4_reciprocalNumerator 2 = .ok (.iload_n 2, 1) := by decide +kernel
theorem dX4_reciprocalNumerator_3 : decode cX4_reciprocalNumerator 3 = .ok (.invokevirtual 86, 3) := by decide +kernel
theorem dX4_reciprocalNumerator_6 : decode cX4_reciprocalNumerator 6 = .ok (.ifCond .eq 10, 3) := by decide +kernel
theorem dX4_reciprocalNumerator_9 : decode cX4_reciprocalNumerator 9 = .ok (.aload_n 0, 1) := by decide +kernel
theorem dX4_reciprocalNumerator_10 : decode cX4_reciprocalNumerator 10 = .ok (.getfield 66, 3) := by decide +kernel
theorem dX4_reciprocalNumerator_13 : decode cX4_reciprocalNumerator 13 = .ok (.goto 4, 3) := by decide +kernel
theorem dX4_reciprocalNumerator_16 : decode cX4_reciprocalNumerator 16 = .ok (.lconst 0, 1) := by decide +kernel
theorem dX4_reciprocalNumerator_17 : decode cX4_reciprocalNumerator 17 = .ok (.lreturn, 1) := by decide +kernel
set_option maxRecDepth 20000 in
theorem ggX4_reciprocalDenominator_X4_isReciprocal : GoodIn wsX4_reciprocalDenominator wsX4_isReciprocal := goodIn_r _ [6, 7, 8, 1, 9, 10, 11, 12, 5, 13, 14, 15, 16, 17, 18, 19, 20, 21, 22, 23, 24, 25, 26, 27, 28, 29, 30, 31, 32, 33, 34, 35, 36, 37, 38, 39, 40, 41, 42, 43, 44] (by decide +kernel) (by decide +kernel)
set_option maxRecDepth 20000 in
theorem gX4_reciprocalDenominator_X4_isReciprocal : GoodIn wsX4_reciprocalDenominator (wsV RX4 86 RX4 yX4_isReciprocal wsX4_isReciprocal) := goodIn_app (goodIn_of _ (by decide +kernel)) ggX4_reciprocalDenominator_X4_isReciprocal
theorem dX4_reciprocalDenominator_0 : decode cX4_reciprocalDenominator 0 = .ok (.aload_n 0, 1) := by decide +kernel
theorem dX4_reciprocalDenominator_1 : decode cX4_reciprocalDenominator 1 = .ok (.iload_n 1, 1) := by decide +kernel
theorem dX4_reciprocalDenominator_2 : decode cX4_reciprocalDenominator 2 = .ok (.iload_n 2, 1) := by decide +kernel
theorem dX4_reciprocalDenominator_3 : decode cX4_reciprocalDenominator 3 = .ok (.invokevirtual 86, 3) := by decide +kernel
theorem dX4_reciprocalDenominator_6 : decode cX4_reciprocalDenominator 6 = .ok (.ifCond .eq 10, 3) := by decide +kernel
theorem dX4_reciprocalDenominator_9 : decode cX4_reciprocalDenominator 9 = .ok (.aload_n 0, 1) := by decide +kernel
theorem dX4_reciprocalDenominator_10 : decode cX4_reciprocalDenominator 10 = .ok (.getfield 70, 3) := by decide +kernel
theorem dX4_reciprocalDenominator_13 : decode cX4_reciprocalDenominator 13 = .ok (.goto 4, 3) := by decide +kernel
theorem dX4_reciprocalDenominator_16 : decode cX4_reciprocalDenominator 16 = .ok (.lconst 0, 1) := by decide +kernel
theorem dX4_reciprocalDenominator_17 : decode cX4_reciprocalDenominator 17 = .ok (.lreturn, 1) := by decide +kernel
theorem dX4_runsOf_0 : decode cX4_runsOf 0 = .ok (.iconst 0, 1) := by decide +kernel
theorem dX4_runsOf_1 : decode cX4_runsOf 1 = .ok (.istore_n 2, 1) := by decide +kernel
theorem dX4_runsOf_2 : decode cX4_runsOf 2 = .ok (.iconst 0, 1) := by decide +kernel
theorem dX4_runsOf_3 : decode cX4_runsOf 3 = .ok (.istore_n 3, 1) := by decide +kernel
theorem dX4_runsOf_4 : decode cX4_runsOf 4 = .ok (.iload_n 3, 1) := by decide +kernel
theorem dX4_runsOf_5 : decode cX4_runsOf 5 = .ok (.bipush 8, 2) := by decide +kernel
theorem dX4_runsOf_7 : decode cX4_runsOf 7 = .ok (.if_icmp .ge 31, 3) := by decide +kernel
theorem dX4_runsOf_10 : decode cX4_runsOf 10 = .ok (.iload_n 2, 1) := by decide +kernel
theorem dX4_runsOf_11 : decode cX4_runsOf 11 = .ok (.aload_n 0, 1) := by decide +kernel
theorem dX4_runsOf_12 : decode cX4_runsOf 12 = .ok (.getfield 7, 3) := by decide +kernel
theorem dX4_runsOf_15 : decode cX4_runsOf 15 = .ok (.bipush 8, 2) := by decide +kernel
theorem dX4_runsOf_17 : decode cX4_runsOf 17 = .ok (.iload_n 1, 1) := by decide +kernel
theorem dX4_runsOf_18 : decode cX4_runsOf 18 = .ok (.imul, 1) := by decide +kernel
theorem dX4_runsOf_19 : decode cX4_runsOf 19 = .ok (.iload_n 3, 1) := by decide +kernel
theorem dX4_runsOf_20 : decode cX4_runsOf 20 = .ok (.iadd, 1) := by decide +kernel
theorem dX4_runsOf_21 : decode cX4_runsOf 21 = .ok (.iaload, 1) := by decide +kernel
theorem dX4_runsOf_22 : decode cX4_runsOf 22 = .ok (.ifCond .le 7, 3) := by decide +kernel
theorem dX4_runsOf_25 : decode cX4_runsOf 25 = .ok (.iconst 1, 1) := by decide +kernel
theorem dX4_runsOf_26 : decode cX4_runsOf 26 = .ok (.goto 4, 3) := by decide +kernel
theorem dX4_runsOf_29 : decode cX4_runsOf 29 = .ok (.iconst 0, 1) := by decide +kernel
theorem dX4_runsOf_30 : decode cX4_runsOf 30 = .ok (.iadd, 1) := by decide +kernel
theorem dX4_runsOf_31 : decode cX4_runsOf 31 = .ok (.istore_n 2, 1) := by decide +kernel
theorem dX4_runsOf_32 : decode cX4_runsOf 32 = .ok (.iinc 3 1, 3) := by decide +kernel
theorem dX4_runsOf_35 : decode cX4_runsOf 35 = .ok (.goto (-31), 3) := by decide +kernel
theorem dX4_runsOf_38 : decode cX4_runsOf 38 = .ok (.iload_n 2, 1) := by decide +kernel
theorem dX4_runsOf_39 : decode cX4_runsOf 39 = .ok (.ireturn, 1) := by decide +kernel
set_option maxRecDepth 20000 in
theorem ggX4_allHits_X4_meanHits : GoodIn wsX4_allHits wsX4_meanHits := goodIn_r _ [5, 6, 7, 8, 9, 10, 4, 11, 12, 13, 14, 15, 16, 17, 18, 19, 20, 21, 22, 23, 24, 25, 26, 27] (by decide +kernel) (by decide +kernel)
set_option maxRecDepth 20000 in
theorem gX4_allHits_X4_meanHits : GoodIn wsX4_allHits (wsV RX4 73 RX4 yX4_meanHits wsX4_meanHits) := goodIn_app (goodIn_of _ (by decide +kernel)) ggX4_allHits_X4_meanHits
theorem dX4_allHits_0 : decode cX4_allHits 0 = .ok (.lconst 0, 1) := by decide +kernel
theorem dX4_allHits_1 : decode cX4_allHits 1 = .ok (.lstore_n 3, 1) := by decide +kernel
theorem dX4_allHits_2 : decode cX4_allHits 2 = .ok (.iconst 0, 1) := by decide +kernel
theorem dX4_allHits_3 : decode cX4_allHits 3 = .ok (.istore 5, 2) := by decide +kernel
theorem dX4_allHits_5 : decode cX4_allHits 5 = .ok (.iload 5, 2) := by decide +kernel
theorem dX4_allHits_7 : decode cX4_allHits 7 = .ok (.bipush 8, 2) := by decide +kernel
theorem dX4_allHits_9 : decode cX4_allHits 9 = .ok (.if_icmp .ge 24, 3) := by decide +kernel
theorem dX4_allHits_12 : decode cX4_allHits 12 = .ok (.lload_n 3, 1) := by decide +kernel
theorem dX4_allHits_13 : decode cX4_allHits 13 = .ok (.aload_n 0, 1) := by decide +kernel
theorem dX4_allHits_14 : decode cX4_allHits 14 = .ok (.bipush 8, 2) := by decide +kernel
theorem dX4_allHits_16 : decode cX4_allHits 16 = .ok (.iload_n 1, 1) := by decide +kernel
theorem dX4_allHits_17 : decode cX4_allHits 17 = .ok (.imul, 1) := by decide +kernel
theorem dX4_allHits_18 : decode cX4_allHits 18 = .ok (.iload 5, 2) := by decide +kernel
theorem dX4_allHits_20 : decode cX4_allHits 20 = .ok (.iadd, 1) := by decide +kernel
theorem dX4_allHits_21 : decode cX4_allHits 21 = .ok (.iload_n 2, 1) := by decide +kernel
theorem dX4_allHits_22 : decode cX4_allHits 22 = .ok (.invokevirtual 73, 3) := by decide +kernel
theorem dX4_allHits_25 : decode cX4_allHits 25 = .ok (.ladd, 1) := by decide +kernel
theorem dX4_allHits_26 : decode cX4_allHits 26 = .ok (.lstore_n 3, 1) := by decide +kernel
theorem dX4_allHits_27 : decode cX4_allHits 27 = .ok (.iinc 5 1, 3) := by decide +kernel
theorem dX4_allHits_30 : decode cX4_allHits 30 = .ok (.goto (-25), 3) := by decide +kernel
theorem dX4_allHits_33 : decode cX4_allHits 33 = .ok (.lload_n 3, 1) := by decide +kernel
theorem dX4_allHits_34 : decode cX4_allHits 34 = .ok (.lreturn, 1) := by decide +kernel
set_option maxRecDepth 20000 in
theorem ggX4_isMean_X4_isDeep : GoodIn wsX4_isMean wsX4_isDeep := goodIn_r _ [8, 9, 10, 11, 12, 7, 13, 14, 15, 16, 44, 45, 46, 47, 48, 49, 50, 51, 52, 53] (by decide +kernel) (by decide +kernel)
set_option maxRecDepth 20000 in
theorem gX4_isMean_X4_isDeep : GoodIn wsX4_isMean (wsV RX4 48 RX4 yX4_isDeep wsX4_isDeep) := goodIn_app (goodIn_of _ (by decide +kernel)) ggX4_isMean_X4_isDeep
set_option maxRecDepth 20000 in
theorem ggX4_isMean_X4_runsOf : GoodIn wsX4_isMean wsX4_runsOf := goodIn_r _ [20, 21, 44, 45, 46, 47, 48, 49, 50, 51, 52, 53] (by decide +kernel) (by decide +kernel)
set_option maxRecDepth 20000 in
theorem gX4_isMean_X4_runsOf : GoodIn wsX4_isMean (wsV RX4 89 RX4 yX4_runsOf wsX4_runsOf) := goodIn_app (goodIn_of _ (by decide +kernel)) ggX4_isMean_X4_runsOf
set_option maxRecDepth 20000 in
theorem ggX4_isMean_X4_allHits : GoodIn wsX4_isMean wsX4_allHits := goodIn_r _ [25, 26, 27, 28, 7, 29, 21, 2, 30, 31, 32, 33, 34, 35, 36, 37, 38, 39, 44, 45, 46, 47, 48, 49, 50, 51, 52, 53] (by decide +kernel) (by decide +kernel)
set_option maxRecDepth 20000 in
theorem gX4_isMean_X4_allHits : GoodIn wsX4_isMean (wsV RX4 92 RX4 yX4_allHits wsX4_allHits) := goodIn_app (goodIn_of _ (by decide +kernel)) ggX4_isMean_X4_allHits
set_option maxRecDepth 20000 in
theorem ggX4_isMean_X4_lowers : GoodIn wsX4_isMean wsX4_lowers := goodIn_r _ [43, 1, 3, 44, 45, 46, 47, 48, 49, 50, 51, 52, 53] (by decide +kernel) (by decide +kernel)
set_option maxRecDepth 20000 in
theorem gX4_isMean_X4_lowers : GoodIn wsX4_isMean (wsV RX4 77 RX4 yX4_lowers wsX4_lowers) := goodIn_app (goodIn_of _ (by decide +kernel)) ggX4_isMean_X4_lowers
theorem dX4_isMean_0 : decode cX4_isMean 0 = .ok (.aload_n 0, 1) := by decide +kernel
theorem dX4_isMean_1 : decode cX4_isMean 1 = .ok (.iload_n 1, 1) := by decide +kernel
theorem dX4_isMean_2 : decode cX4_isMean 2 = .ok (.iconst 0, 1) := by decide +kernel
theorem dX4_isMean_3 : decode cX4_isMean 3 = .ok (.iload_n 2, 1) := by decide +kernel
theorem dX4_isMean_4 : decode cX4_isMean 4 = .ok (.invokevirtual 48, 3) := by decide +kernel
theorem dX4_isMean_7 : decode cX4_isMean 7 = .ok (.ifCond .ne 5, 3) := by decide +kernel
theorem dX4_isMean_10 : decode cX4_isMean 10 = .ok (.iconst 0, 1) := by decide +kernel
theorem dX4_isMean_11 : decode cX4_isMean 11 = .ok (.ireturn, 1) := by decide +kernel
theorem dX4_isMean_12 : decode cX4_isMean 12 = .ok (.aload_n 0, 1) := by decide +kernel
theorem dX4_isMean_13 : decode cX4_isMean 13 = .ok (.iload_n 1, 1) := by decide +kernel
theorem dX4_isMean_14 : decode cX4_isMean 14 = .ok (.invokevirtual 89, 3) := by decide +kernel
theorem dX4_isMean_17 : decode cX4_isMean 17 = .ok (.istore_n 3, 1) := by decide +kernel
theorem dX4_isMean_18 : decode cX4_isMean 18 = .ok (.aload_n 0, 1) := by decide +kernel
theorem dX4_isMean_19 : decode cX4_isMean 19 = .ok (.aload_n 0, 1) := by decide +kernel
theorem dX4_isMean_20 : decode cX4_isMean 20 = .ok (.iload_n 1, 1) := by decide +kernel
theorem dX4_isMean_21 : decode cX4_isMean 21 = .ok (.iload_n 2, 1) := by decide +kernel
theorem dX4_isMean_22 : decode cX4_isMean 22 = .ok (.invokevirtual 92, 3) := by decide +kernel
theorem dX4_isMean_25 : decode cX4_isMean 25 = .ok (.putfield 66, 3) := by decide +kernel
theorem dX4_isMean_28 : decode cX4_isMean 28 = .ok (.aload_n 0, 1) := by decide +kernel
theorem dX4_isMean_29 : decode cX4_isMean 29 = .ok (.iload_n 3, 1) := by decide +kernel
theorem dX4_isMean_30 : decode cX4_isMean 30 = .ok (.ifCond .ne 7, 3) := by decide +kernel
theorem dX4_isMean_33 : decode cX4_isMean 33 = .ok (.lconst 1, 1) := by decide +kernel
theorem dX4_isMean_34 : decode cX4_isMean 34 = .ok (.goto 12, 3) := by decide +kernel
theorem dX4_isMean_37 : decode cX4_isMean 37 = .ok (.ldc2_w 64, 3) := by decide +kernel
theorem dX4_isMean_40 : decode cX4_isMean 40 = .ok (.iload_n 2, 1) := by decide +kernel
theorem dX4_isMean_41 : decode cX4_isMean 41 = .ok (.i2l, 1) := by decide +kernel
theorem dX4_isMean_42 : decode cX4_isMean 42 = .ok (.lmul, 1) := by decide +kernel
theorem dX4_isMean_43 : decode cX4_isMean 43 = .ok (.iload_n 3, 1) := by decide +kernel
theorem dX4_isMean_44 : decode cX4_isMean 44 = .ok (.i2l, 1) := by decide +kernel
theorem dX4_isMean_45 : decode cX4_isMean 45 = .ok (.lmul, 1) := by decide +kernel
theorem dX4_isMean_46 : decode cX4_isMean 46 = .ok (.putfield 70, 3) := by decide +kernel
theorem dX4_isMean_49 : decode cX4_isMean 49 = .ok (.aload_n 0, 1) := by decide +kernel
theorem dX4_isMean_50 : decode cX4_isMean 50 = .ok (.invokevirtual 77, 3) := by decide +kernel
theorem dX4_isMean_53 : decode cX4_isMean 53 = .ok (.iconst 1, 1) := by decide +kernel
theorem dX4_isMean_54 : decode cX4_isMean 54 = .ok (.ireturn, 1) := by decide +kernel
set_option maxRecDepth 20000 in
theorem ggX4_meanNumerator_X4_isMean : GoodIn wsX4_meanNumerator wsX4_isMean := goodIn_r _ [6, 1, 7, 8, 9, 10, 11, 5, 12, 13, 14, 15, 16, 17, 18, 19, 20, 21, 22, 23, 24, 25, 26, 27, 28, 29, 30, 31, 32, 33, 34, 35, 36, 37, 38, 39, 40, 41, 42, 43, 44, 45, 46, 47, 48, 49, 50, 51, 52, 53, 54, 55, 56, 57] (by decide +kernel) (by decide +kernel)
set_option maxRecDepth 20000 in
theorem gX4_meanNumerator_X4_isMean : GoodIn wsX4_meanNumerator (wsV RX4 95 RX4 yX4_isMean wsX4_isMean) := goodIn_app (goodIn_of _ (by decide +kernel)) ggX4_meanNumerator_X4_isMean
theorem dX4_meanNumerator_0 : decode cX4_meanNumerator 0 = .ok (.aload_n 0, 1) := by decide +kernel
theorem dX4_meanNumerator_1 : decode cX4_meanNumerator 1 = .ok (.iload_n 1, 1) := by decide +kernel
theorem dX4_meanNumerator_2 : decode cX4_meanNumerator 2 = .ok (.iload_n 2, 1) := by decide +kernel
theorem dX4_meanNumerator_3 : decode cX4_meanNumerator 3 = .ok (.invokevirtual 95, 3) := by decide +kernel
theorem dX4_meanNumerator_6 : decode cX4_meanNumerator 6 = .ok (.ifCond .eq 10, 3) := by decide +kernel
theorem dX4_meanNumerator_9 : decode cX4_meanNumerator 9 = .ok (.aload_n 0, 1) := by decide +kernel
theorem dX4_meanNumerator_10 : decode cX4_meanNumerator 10 = .ok (.getfield 66, 3) := by decide +kernel
theorem dX4_meanNumerator_13 : decode cX4_meanNumerator 13 = .ok (.goto 4, 3) := by decide +kernel
theorem dX4_meanNumerator_16 : decode cX4_meanNumerator 16 = .ok (.lconst 0, 1) := by decide +kernel
theorem dX4_meanNumerator_17 : decode cX4_meanNumerator 17 = .ok (.lreturn, 1) := by decide +kernel
set_option maxRecDepth 20000 in
theorem ggX4_meanDenominator_X4_isMean : GoodIn wsX4_meanDenominator wsX4_isMean := goodIn_r _ [6, 7, 8, 1, 9, 10, 11, 5, 12, 13, 14, 15, 16, 17, 18, 19, 20, 21, 22, 23, 24, 25, 26, 27, 28, 29, 30, 31, 32, 33, 34, 35, 36, 37, 38, 39, 40, 41, 42, 43, 44, 45, 46, 47, 48, 49, 50, 51, 52, 53, 54, 55, 56, 57] (by decide +kernel) (by decide +kernel)
set_option maxRecDepth 20000 in
theorem gX4_meanDenominator_X4_isMean : GoodIn wsX4_meanDenominator (wsV RX4 95 RX4 yX4_isMean wsX4_isMean) := goodIn_app (goodIn_of _ (by decide +kernel)) ggX4_meanDenominator_X4_isMean
theorem dX4_meanDenominator_0 : decode cX4_meanDenominator 0 = .ok (.aload_n 0, 1) := by decide +kernel
theorem dX4_meanDenominator_1 : decode cX4_meanDenominator 1 = .ok (.iload_n 1, 1) := by decide +kernel
theorem dX4_meanDenominator_2 : decode cX4_meanDenominator 2 = .ok (.iload_n 2, 1) := by decide +kernel
theorem dX4_meanDenominator_3 : decode cX4_meanDenominator 3 = .ok (.invokevirtual 95, 3) := by decide +kernel
theorem dX4_meanDenominator_6 : decode cX4_meanDenominator 6 = .ok (.ifCond .eq 10, 3) := by decide +kernel
theorem dX4_meanDenominator_9 : decode cX4_meanDenominator 9 = .ok (.aload_n 0, 1) := by decide +kernel
theorem dX4_meanDenominator_10 : decode cX4_meanDenominator 10 = .ok (.getfield 70, 3) := by decide +kernel
theorem dX4_meanDenominator_13 : decode cX4_meanDenominator 13 = .ok (.goto 4, 3) := by decide +kernel
theorem dX4_meanDenominator_16 : decode cX4_meanDenominator 16 = .ok (.lconst 0, 1) := by decide +kernel
theorem dX4_meanDenominator_17 : decode cX4_meanDenominator 17 = .ok (.lreturn, 1) := by decide +kernel
set_option maxRecDepth 20000 in
theorem ggX4_best_X4_in : GoodIn wsX4_best wsX4_in := goodIn_r _ [5] (by decide +kernel) (by decide +kernel)
set_option maxRecDepth 20000 in
theorem gX4_best_X4_in : GoodIn wsX4_best (va_wsS RX4 32 yX4_in wsX4_in) := goodIn_app (goodIn_of _ (by decide +kernel)) ggX4_best_X4_in
set_option maxRecDepth 20000 in
theorem ggX4_best_X4_allHits : GoodIn wsX4_best wsX4_allHits := goodIn_r _ [9, 10, 11, 12, 4, 13, 14, 15, 16, 17, 18, 19, 20, 21, 22, 23, 24, 25, 30, 31, 32, 33, 34, 35, 36, 37, 38, 39] (by decide +kernel) (by decide +kernel)
set_option maxRecDepth 20000 in
theorem gX4_best_X4_allHits : GoodIn wsX4_best (wsV RX4 92 RX4 yX4_allHits wsX4_allHits) := goodIn_app (goodIn_of _ (by decide +kernel)) ggX4_best_X4_allHits
set_option maxRecDepth 20000 in
theorem ggX4_best_X4_runsOf : GoodIn wsX4_best wsX4_runsOf := goodIn_r _ [29, 14, 30, 31, 32, 33, 34, 35, 36, 37, 38, 39] (by decide +kernel) (by decide +kernel)
set_option maxRecDepth 20000 in
theorem gX4_best_X4_runsOf : GoodIn wsX4_best (wsV RX4 89 RX4 yX4_runsOf wsX4_runsOf) := goodIn_app (goodIn_of _ (by decide +kernel)) ggX4_best_X4_runsOf
