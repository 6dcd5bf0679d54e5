theorem dX3_test_9 : decode cX3_test 9 = .ok (.invokestatic 75, 3) := by decide +kernel
theorem dX3_test_12 : decode cX3_test 12 = .ok (.aload_n 0, 1) := by decide +kernel
theorem dX3_test_13 : decode cX3_test 13 = .ok (.iload_n 1, 1) := by decide +kernel
theorem dX3_test_14 : decode cX3_test 14 = .ok (.iload_n 2, 1) := by decide +kernel
theorem dX3_test_15 : decode cX3_test 15 = .ok (.iload_n 3, 1) := by decide +kernel
theorem dX3_test_16 : decode cX3_test 16 = .ok (.invokevirtual 150, 3) := by decide +kernel
theorem dX3_test_19 : decode cX3_test 19 = .ok (.aload_n 0, 1) := by decide +kernel
theorem dX3_test_20 : decode cX3_test 20 = .ok (.iconst 0, 1) := by decide +kernel
theorem dX3_test_21 : decode cX3_test 21 = .ok (.invokevirtual 154, 3) := by decide +kernel
theorem dX3_test_24 : decode cX3_test 24 = .ok (.invokestatic 157, 3) := by decide +kernel
theorem dX3_test_27 : decode cX3_test 27 = .ok (.istore 4, 2) := by decide +kernel
theorem dX3_test_29 : decode cX3_test 29 = .ok (.iconst 0, 1) := by decide +kernel
theorem dX3_test_30 : decode cX3_test 30 = .ok (.istore 5, 2) := by decide +kernel
theorem dX3_test_32 : decode cX3_test 32 = .ok (.iconst 0, 1) := by decide +kernel
theorem dX3_test_33 : decode cX3_test 33 = .ok (.istore 6, 2) := by decide +kernel
theorem dX3_test_35 : decode cX3_test 35 = .ok (.iload 6, 2) := by decide +kernel
theorem dX3_test_37 : decode cX3_test 37 = .ok (.sipush 256, 3) := by decide +kernel
theorem dX3_test_40 : decode cX3_test 40 = .ok (.if_icmp .ge 26, 3) := by decide +kernel
theorem dX3_test_43 : decode cX3_test 43 = .ok (.aload_n 0, 1) := by decide +kernel
theorem dX3_test_44 : decode cX3_test 44 = .ok (.iload 6, 2) := by decide +kernel
theorem dX3_test_46 : decode cX3_test 46 = .ok (.invokevirtual 154, 3) := by decide +kernel
theorem dX3_test_49 : decode cX3_test 49 = .ok (.invokestatic 157, 3) := by decide +kernel
theorem dX3_test_52 : decode cX3_test 52 = .ok (.iload 4, 2) := by decide +kernel
theorem dX3_test_54 : decode cX3_test 54 = .ok (.if_icmp .lt 6, 3) := by decide +kernel
theorem dX3_test_57 : decode cX3_test 57 = .ok (.iinc 5 1, 3) := by decide +kernel
theorem dX3_test_60 : decode cX3_test 60 = .ok (.iinc 6 1, 3) := by decide +kernel
theorem dX3_test_63 : decode cX3_test 63 = .ok (.goto (-28), 3) := by decide +kernel
theorem dX3_test_66 : decode cX3_test 66 = .ok (.iload 5, 2) := by decide +kernel
theorem dX3_test_68 : decode cX3_test 68 = .ok (.ireturn, 1) := by decide +kernel
theorem dX3_requireSystem_0 : decode cX3_requireSystem 0 = .ok (.iload_n 0, 1) := by decide +kernel
theorem dX3_requireSystem_1 : decode cX3_requireSystem 1 = .ok (.ifCond .lt 8, 3) := by decide +kernel
theorem dX3_requireSystem_4 : decode cX3_requireSystem 4 = .ok (.iload_n 0, 1) := by decide +kernel
theorem dX3_requireSystem_5 : decode cX3_requireSystem 5 = .ok (.iconst 4, 1) := by decide +kernel
theorem dX3_requireSystem_6 : decode cX3_requireSystem 6 = .ok (.if_icmp .lt 13, 3) := by decide +kernel
theorem dX3_requireSystem_9 : decode cX3_requireSystem 9 = .ok (.new 37, 3) := by decide +kernel
theorem dX3_requireSystem_12 : decode cX3_requireSystem 12 = .ok (.dup, 1) := by decide +kernel
theorem dX3_requireSystem_13 : decode cX3_requireSystem 13 = .ok (.ldc 162, 2) := by decide +kernel
theorem dX3_requireSystem_15 : decode cX3_requireSystem 15 = .ok (.invokespecial 41, 3) := by decide +kernel
theorem dX3_requireSystem_18 : decode cX3_requireSystem 18 = .ok (.athrow, 1) := by decide +kernel
theorem dX3_requireSystem_19 : decode cX3_requireSystem 19 = .ok (.return_, 1) := by decide +kernel
theorem dX3_requireQuestion_0 : decode cX3_requireQuestion 0 = .ok (.iload_n 0, 1) := by decide +kernel
theorem dX3_requireQuestion_1 : decode cX3_requireQuestion 1 = .ok (.ifCond .lt 9, 3) := by decide +kernel
theorem dX3_requireQuestion_4 : decode cX3_requireQuestion 4 = .ok (.iload_n 0, 1) := by decide +kernel
theorem dX3_requireQuestion_5 : decode cX3_requireQuestion 5 = .ok (.bipush 8, 2) := by decide +kernel
theorem dX3_requireQuestion_7 : decode cX3_requireQuestion 7 = .ok (.if_icmp .lt 13, 3) := by decide +kernel
theorem dX3_requireQuestion_10 : decode cX3_requireQuestion 10 = .ok (.new 37, 3) := by decide +kernel
theorem dX3_requireQuestion_13 : decode cX3_requireQuestion 13 = .ok (.dup, 1) := by decide +kernel
theorem dX3_requireQuestion_14 : decode cX3_requireQuestion 14 = .ok (.ldc 164, 2) := by decide +kernel
theorem dX3_requireQuestion_16 : decode cX3_requireQuestion 16 = .ok (.invokespecial 41, 3) := by decide +kernel
theorem dX3_requireQuestion_19 : decode cX3_requireQuestion 19 = .ok (.athrow, 1) := by decide +kernel
theorem dX3_requireQuestion_20 : decode cX3_requireQuestion 20 = .ok (.return_, 1) := by decide +kernel
theorem dX3_requireDocument_0 : decode cX3_requireDocument 0 = .ok (.iload_n 0, 1) := by decide +kernel
theorem dX3_requireDocument_1 : decode cX3_requireDocument 1 = .ok (.ifCond .lt 9, 3) := by decide +kernel
theorem dX3_requireDocument_4 : decode cX3_requireDocument 4 = .ok (.iload_n 0, 1) := by decide +kernel
theorem dX3_requireDocument_5 : decode cX3_requireDocument 5 = .ok (.bipush 40, 2) := by decide +kernel
theorem dX3_requireDocument_7 : decode cX3_requireDocument 7 = .ok (.if_icmp .lt 13, 3) := by decide +kernel
theorem dX3_requireDocument_10 : decode cX3_requireDocument 10 = .ok (.new 37, 3) := by decide +kernel
theorem dX3_requireDocument_13 : decode cX3_requireDocument 13 = .ok (.dup, 1) := by decide +kernel
theorem dX3_requireDocument_14 : decode cX3_requireDocument 14 = .ok (.ldc 166, 2) := by decide +kernel
theorem dX3_requireDocument_16 : decode cX3_requireDocument 16 = .ok (.invokespecial 41, 3) := by decide +kernel
theorem dX3_requireDocument_19 : decode cX3_requireDocument 19 = .ok (.athrow, 1) := by decide +kernel
theorem dX3_requireDocument_20 : decode cX3_requireDocument 20 = .ok (.return_, 1) := by decide +kernel
theorem dX3_requireOneToTwenty_0 : decode cX3_requireOneToTwenty 0 = .ok (.iload_n 0, 1) := by decide +kernel
theorem dX3_requireOneToTwenty_1 : decode cX3_requireOneToTwenty 1 = .ok (.iconst 1, 1) := by decide +kernel
theorem dX3_requireOneToTwenty_2 : decode cX3_requireOneToTwenty 2 = .ok (.if_icmp .lt 9, 3) := by decide +kernel
theorem dX3_requireOneToTwenty_5 : decode cX3_requireOneToTwenty 5 = .ok (.iload_n 0, 1) := by decide +kernel
theorem dX3_requireOneToTwenty_6 : decode cX3_requireOneToTwenty 6 = .ok (.bipush 20, 2) := by decide +kernel
theorem dX3_requireOneToTwenty_8 : decode cX3_requireOneToTwenty 8 = .ok (.if_icmp .le 13, 3) := by decide +kernel
theorem dX3_requireOneToTwenty_11 : decode cX3_requireOneToTwenty 11 = .ok (.new 37, 3) := by decide +kernel
theorem dX3_requireOneToTwenty_14 : decode cX3_requireOneToTwenty 14 = .ok (.dup, 1) := by decide +kernel
theorem dX3_requireOneToTwenty_15 : decode cX3_requireOneToTwenty 15 = .ok (.ldc 168, 2) := by decide +kernel
theorem dX3_requireOneToTwenty_17 : decode cX3_requireOneToTwenty 17 = .ok (.invokespecial 41, 3) := by decide +kernel
theorem dX3_requireOneToTwenty_20 : decode cX3_requireOneToTwenty 20 = .ok (.athrow, 1) := by decide +kernel
theorem dX3_requireOneToTwenty_21 : decode cX3_requireOneToTwenty 21 = .ok (.return_, 1) := by decide +kernel
theorem dX3_requireListed_0 : decode cX3_requireListed 0 = .ok (.iload_n 1, 1) := by decide +kernel
theorem dX3_requireListed_1 : decode cX3_requireListed 1 = .ok (.iconst 1, 1) := by decide +kernel
theorem dX3_requireListed_2 : decode cX3_requireListed 2 = .ok (.if_icmp .lt 14, 3) := by decide +kernel
theorem dX3_requireListed_5 : decode cX3_requireListed 5 = .ok (.iload_n 1, 1) := by decide +kernel
theorem dX3_requireListed_6 : decode cX3_requireListed 6 = .ok (.aload_n 0, 1) := by decide +kernel
theorem dX3_requireListed_7 : decode cX3_requireListed 7 = .ok (.getfield 19, 3) := by decide +kernel
theorem dX3_requireListed_10 : decode cX3_requireListed 10 = .ok (.getfield 131, 3) := by decide +kernel
theorem dX3_requireListed_13 : decode cX3_requireListed 13 = .ok (.if_icmp .le 13, 3) := by decide +kernel
theorem dX3_requireListed_16 : decode cX3_requireListed 16 = .ok (.new 37, 3) := by decide +kernel
theorem dX3_requireListed_19 : decode cX3_requireListed 19 = .ok (.dup, 1) := by decide +kernel
theorem dX3_requireListed_20 : decode cX3_requireListed 20 = .ok (.ldc 170, 2) := by decide +kernel
theorem dX3_requireListed_22 : decode cX3_requireListed 22 = .ok (.invokespecial 41, 3) := by decide +kernel
theorem dX3_requireListed_25 : decode cX3_requireListed 25 = .ok (.athrow, 1) := by decide +kernel
theorem dX3_requireListed_26 : decode cX3_requireListed 26 = .ok (.return_, 1) := by decide +kernel
set_option maxRecDepth 20000 in
theorem ggX3_hitsAsItStands_X1_relevantWithin : GoodIn wsX3_hitsAsItStands wsX1_relevantWithin := goodIn_r _ [5, 6, 7, 8, 3, 9, 10, 11, 12, 13, 14, 15, 16, 22, 23, 24, 20, 21] (by decide +kernel) (by decide +kernel)
set_option maxRecDepth 20000 in
theorem gX3_hitsAsItStands_X1_relevantWithin_n172 : GoodIn wsX3_hitsAsItStands (wsX1_relevantWithin) := ggX3_hitsAsItStands_X1_relevantWithin
theorem dX3_hitsAsItStands_0 : decode cX3_hitsAsItStands 0 = .ok (.aload_n 0, 1) := by decide +kernel
theorem dX3_hitsAsItStands_1 : decode cX3_hitsAsItStands 1 = .ok (.getfield 11, 3) := by decide +kernel
theorem dX3_hitsAsItStands_4 : decode cX3_hitsAsItStands 4 = .ok (.iload_n 2, 1) := by decide +kernel
theorem dX3_hitsAsItStands_5 : decode cX3_hitsAsItStands 5 = .ok (.aaload, 1) := by decide +kernel
theorem dX3_hitsAsItStands_6 : decode cX3_hitsAsItStands 6 = .ok (.astore 4, 2) := by decide +kernel
theorem dX3_hitsAsItStands_8 : decode cX3_hitsAsItStands 8 = .ok (.aload 4, 2) := by decide +kernel
theorem dX3_hitsAsItStands_10 : decode cX3_hitsAsItStands 10 = .ok (.aload 4, 2) := by decide +kernel
theorem dX3_hitsAsItStands_12 : decode cX3_hitsAsItStands 12 = .ok (.getfield 44, 3) := by decide +kernel
theorem dX3_hitsAsItStands_15 : decode cX3_hitsAsItStands 15 = .ok (.iload_n 1, 1) := by decide +kernel
theorem dX3_hitsAsItStands_16 : decode cX3_hitsAsItStands 16 = .ok (.aaload, 1) := by decide +kernel
theorem dX3_hitsAsItStands_17 : decode cX3_hitsAsItStands 17 = .ok (.iconst 1, 1) := by decide +kernel
theorem dX3_hitsAsItStands_18 : decode cX3_hitsAsItStands 18 = .ok (.iload_n 3, 1) := by decide +kernel
theorem dX3_hitsAsItStands_19 : decode cX3_hitsAsItStands 19 = .ok (.invokevirtual 172, 3) := by decide +kernel
theorem dX3_hitsAsItStands_22 : decode cX3_hitsAsItStands 22 = .ok (.ireturn, 1) := by decide +kernel
set_option maxRecDepth 20000 in
theorem ggX3_systemHitParts_X1_meanHitParts : GoodIn wsX3_systemHitParts wsX1_meanHitParts := goodIn_r _ [5, 6, 7, 8, 9, 3, 10, 11, 12, 13, 14, 15, 16, 17, 18, 19, 20, 21, 22, 23, 24, 25, 26, 27, 28, 29, 30, 31, 32, 36, 37, 38, 39, 40] (by decide +kernel) (by decide +kernel)
set_option maxRecDepth 20000 in
theorem gX3_systemHitParts_X1_meanHitParts_n96 : GoodIn wsX3_systemHitParts (wsX1_meanHitParts) := ggX3_systemHitParts_X1_meanHitParts
theorem dX3_systemHitParts_0 : decode cX3_systemHitParts 0 = .ok (.lconst 0, 1) := by decide +kernel
theorem dX3_systemHitParts_1 : decode cX3_systemHitParts 1 = .ok (.lstore_n 3, 1) := by decide +kernel
theorem dX3_systemHitParts_2 : decode cX3_systemHitParts 2 = .ok (.iconst 0, 1) := by decide +kernel
theorem dX3_systemHitParts_3 : decode cX3_systemHitParts 3 = .ok (.istore 5, 2) := by decide +kernel
theorem dX3_systemHitParts_5 : decode cX3_systemHitParts 5 = .ok (.iload 5, 2) := by decide +kernel
theorem dX3_systemHitParts_7 : decode cX3_systemHitParts 7 = .ok (.bipush 8, 2) := by decide +kernel
theorem dX3_systemHitParts_9 : decode cX3_systemHitParts 9 = .ok (.if_icmp .ge 24, 3) := by decide +kernel
theorem dX3_systemHitParts_12 : decode cX3_systemHitParts 12 = .ok (.lload_n 3, 1) := by decide +kernel
theorem dX3_systemHitParts_13 : decode cX3_systemHitParts 13 = .ok (.aload_n 0, 1) := by decide +kernel
theorem dX3_systemHitParts_14 : decode cX3_systemHitParts 14 = .ok (.getfield 11, 3) := by decide +kernel
theorem dX3_systemHitParts_17 : decode cX3_systemHitParts 17 = .ok (.iload 5, 2) := by decide +kernel
theorem dX3_systemHitParts_19 : decode cX3_systemHitParts 19 = .ok (.aaload, 1) := by decide +kernel
theorem dX3_systemHitParts_20 : decode cX3_systemHitParts 20 = .ok (.iload_n 1, 1) := by decide +kernel
theorem dX3_systemHitParts_21 : decode cX3_systemHitParts 21 = .ok (.iload_n 2, 1) := by decide +kernel
theorem dX3_systemHitParts_22 : decode cX3_systemHitParts 22 = .ok (.invokevirtual 96, 3) := by decide +kernel
theorem dX3_systemHitParts_25 : decode cX3_systemHitParts 25 = .ok (.ladd, 1) := by decide +kernel
theorem dX3_systemHitParts_26 : decode cX3_systemHitParts 26 = .ok (.lstore_n 3, 1) := by decide +kernel
theorem dX3_systemHitParts_27 : decode cX3_systemHitParts 27 = .ok (.iinc 5 1, 3) := by decide +kernel
theorem dX3_systemHitParts_30 : decode cX3_systemHitParts 30 = .ok (.goto (-25), 3) := by decide +kernel
theorem dX3_systemHitParts_33 : decode cX3_systemHitParts 33 = .ok (.lload_n 3, 1) := by decide +kernel
theorem dX3_systemHitParts_34 : decode cX3_systemHitParts 34 = .ok (.lreturn, 1) := by decide +kernel
set_option maxRecDepth 20000 in
theorem ggX3_systemWhole_X3_filledRuns : GoodIn wsX3_systemWhole wsX3_filledRuns := goodIn_r _ [6, 7, 8, 9, 10, 11, 12, 13, 14, 15] (by decide +kernel) (by decide +kernel)
set_option maxRecDepth 20000 in
theorem gX3_systemWhole_X3_filledRuns : GoodIn wsX3_systemWhole (wsV RX3 119 RX3 yX3_filledRuns wsX3_filledRuns) := goodIn_app (goodIn_of _ (by decide +kernel)) ggX3_systemWhole_X3_filledRuns
theorem dX3_systemWhole_0 : decode cX3_systemWhole 0 = .ok (.aload_n 0, 1) := by decide +kernel
theorem dX3_systemWhole_1 : decode cX3_systemWhole 1 = .ok (.iload_n 1, 1) := by decide +kernel
theorem dX3_systemWhole_2 : decode cX3_systemWhole 2 = .ok (.invokevirtual 119, 3) := by decide +kernel
theorem dX3_systemWhole_5 : decode cX3_systemWhole 5 = .ok (.istore_n 3, 1) := by decide +kernel
theorem dX3_systemWhole_6 : decode cX3_systemWhole 6 = .ok (.iload_n 3, 1) := by decide +kernel
theorem dX3_systemWhole_7 : decode cX3_systemWhole 7 = .ok (.ifCond .ne 7, 3) := by decide +kernel
theorem dX3_systemWhole_10 : decode cX3_systemWhole 10 = .ok (.lconst 1, 1) := by decide +kernel
theorem dX3_systemWhole_11 : decode cX3_systemWhole 11 = .ok (.goto 12, 3) := by decide +kernel
theorem dX3_systemWhole_14 : decode cX3_systemWhole 14 = .ok (.ldc2_w 100, 3) := by decide +kernel
theorem dX3_systemWhole_17 : decode cX3_systemWhole 17 = .ok (.iload_n 2, 1) := by decide +kernel
theorem dX3_systemWhole_18 : decode cX3_systemWhole 18 = .ok (.i2l, 1) := by decide +kernel
theorem dX3_systemWhole_19 : decode cX3_systemWhole 19 = .ok (.lmul, 1) := by decide +kernel
theorem dX3_systemWhole_20 : decode cX3_systemWhole 20 = .ok (.iload_n 3, 1) := by decide +kernel
theorem dX3_systemWhole_21 : decode cX3_systemWhole 21 = .ok (.i2l, 1) := by decide +kernel
theorem dX3_systemWhole_22 : decode cX3_systemWhole 22 = .ok (.lmul, 1) := by decide +kernel
theorem dX3_systemWhole_23 : decode cX3_systemWhole 23 = .ok (.lreturn, 1) := by decide +kernel
theorem dX3_filledRuns_0 : decode cX3_filledRuns 0 = .ok (.iconst 0, 1) := by decide +kernel
theorem dX3_filledRuns_1 : decode cX3_filledRuns 1 = .ok (.istore_n 2, 1) := by decide +kernel
theorem dX3_filledRuns_2 : decode cX3_filledRuns 2 = .ok (.iconst 0, 1) := by decide +kernel
theorem dX3_filledRuns_3 : decode cX3_filledRuns 3 = .ok (.istore_n 3, 1) := by decide +kernel
theorem dX3_filledRuns_4 : decode cX3_filledRuns 4 = .ok (.iload_n 3, 1) := by decide +kernel
theorem dX3_filledRuns_5 : decode cX3_filledRuns 5 = .ok (.bipush 8, 2) := by decide +kernel
theorem dX3_filledRuns_7 : decode cX3_filledRuns 7 = .ok (.if_icmp .ge 29, 3) := by decide +kernel
theorem dX3_filledRuns_10 : decode cX3_filledRuns 10 = .ok (.aload_n 0, 1) := by decide +kernel
theorem dX3_filledRuns_11 : decode cX3_filledRuns 11 = .ok (.getfield 11, 3) := by decide +kernel
theorem dX3_filledRuns_14 : decode cX3_filledRuns 14 = .ok (.iload_n 3, 1) := by decide +kernel
theorem dX3_filledRuns_15 : decode cX3_filledRuns 15 = .ok (.aaload, 1) := by decide +kernel
theorem dX3_filledRuns_16 : decode cX3_filledRuns 16 = .ok (.getfield 44, 3) := by decide +kernel
theorem dX3_filledRuns_19 : decode cX3_filledRuns 19 = .ok (.iload_n 1, 1) := by decide +kernel
theorem dX3_filledRuns_20 : decode cX3_filledRuns 20 = .ok (.aaload, 1) := by decide +kernel
theorem dX3_filledRuns_21 : decode cX3_filledRuns 21 = .ok (.getfield 48, 3) := by decide +kernel
theorem dX3_filledRuns_24 : decode cX3_filledRuns 24 = .ok (.ifCond .le 6, 3) := by decide +kernel
theorem dX3_filledRuns_27 : decode cX3_filledRuns 27 = .ok (.iinc 2 1, 3) := by decide +kernel
theorem dX3_filledRuns_30 : decode cX3_filledRuns 30 = .ok (.iinc 3 1, 3) := by decide +kernel
theorem dX3_filledRuns_33 : decode cX3_filledRuns 33 = .ok (.goto (-29), 3) := by decide +kernel
theorem dX3_filledRuns_36 : decode cX3_filledRuns 36 = .ok (.iload_n 2, 1) := by decide +kernel
theorem dX3_filledRuns_37 : decode cX3_filledRuns 37 = .ok (.ireturn, 1) := by decide +kernel
set_option maxRecDepth 20000 in
theorem ggX3_noteDifferences_X3_hitsAsItStands : GoodIn wsX3_noteDifferences wsX3_hitsAsItStands := goodIn_r _ [6, 7, 8, 9, 10, 11, 12, 13, 14, 15, 16, 17, 18, 19, 20, 21, 22, 23, 24, 25, 26, 27, 28, 29, 30] (by decide +kernel) (by decide +kernel)
set_option maxRecDepth 20000 in
theorem gX3_noteDifferences_X3_hitsAsItStands : GoodIn wsX3_noteDifferences (wsV RX3 92 RX3 yX3_hitsAsItStands wsX3_hitsAsItStands) := goodIn_app (goodIn_of _ (by decide +kernel)) ggX3_noteDifferences_X3_hitsAsItStands
theorem dX3_noteDifferences_0 : decode cX3_noteDifferences 0 = .ok (.iconst 0, 1) := by decide +kernel
theorem dX3_noteDifferences_1 : decode cX3_noteDifferences 1 = .ok (.istore 4, 2) := by decide +kernel
theorem dX3_noteDifferences_3 : decode cX3_noteDifferences 3 = .ok (.iload 4, 2) := by decide +kernel
theorem dX3_noteDifferences_5 : decode cX3_noteDifferences 5 = .ok (.bipush 8, 2) := by decide +kernel
theorem dX3_noteDifferences_7 : decode cX3_noteDifferences 7 = .ok (.if_icmp .ge 33, 3) := by decide +kernel
theorem dX3_noteDifferences_10 : decode cX3_noteDifferences 10 = .ok (.aload_n 0, 1) := by decide +kernel
theorem dX3_noteDifferences_11 : decode cX3_noteDifferences 11 = .ok (.getfield 23, 3) := by decide +kernel
theorem dX3_noteDifferences_14 : decode cX3_noteDifferences 14 = .ok (.iload 4, 2) := by decide +kernel
theorem dX3_noteDifferences_16 : decode cX3_noteDifferences 16 = .ok (.aload_n 0, 1) := by decide +kernel
theorem dX3_noteDifferences_17 : decode cX3_noteDifferences 17 = .ok (.iload_n 1, 1) := by decide +kernel
theorem dX3_noteDifferences_18 : decode cX3_noteDifferences 18 = .ok (.iload 4, 2) := by decide +kernel
theorem dX3_noteDifferences_20 : decode cX3_noteDifferences 20 = .ok (.iload_n 3, 1) := by decide +kernel
theorem dX3_noteDifferences_21 : decode cX3_noteDifferences 21 = .ok (.invokevirtual 92, 3) := by decide +kernel
theorem dX3_noteDifferences_24 : decode cX3_noteDifferences 24 = .ok (.aload_n 0, 1) := by decide +kernel
theorem dX3_noteDifferences_25 : decode cX3_noteDifferences 25 = .ok (.iload_n 2, 1) := by decide +kernel
theorem dX3_noteDifferences_26 : decode cX3_noteDifferences 26 = .ok (.iload 4, 2) := by decide +kernel
theorem dX3_noteDifferences_28 : decode cX3_noteDifferences 28 = .ok (.iload_n 3, 1) := by decide +kernel
theorem dX3_noteDifferences_29 : decode cX3_noteDifferences 29 = .ok (.invokevirtual 92, 3) := by decide +kernel
theorem dX3_noteDifferences_32 : decode cX3_noteDifferences 32 = .ok (.isub, 1) := by decide +kernel
theorem dX3_noteDifferences_33 : decode cX3_noteDifferences 33 = .ok (.iastore, 1) := by decide +kernel
theorem dX3_noteDifferences_34 : decode cX3_noteDifferences 34 = .ok (.iinc 4 1, 3) := by decide +kernel
theorem dX3_noteDifferences_37 : decode cX3_noteDifferences 37 = .ok (.goto (-34), 3) := by decide +kernel
theorem dX3_noteDifferences_40 : decode cX3_noteDifferences 40 = .ok (.return_, 1) := by decide +kernel
theorem dX3_sumWithExchange_0 : decode cX3_sumWithExchange 0 = .ok (.iconst 0, 1) := by decide +kernel
theorem dX3_sumWithExchange_1 : decode cX3_sumWithExchange 1 = .ok (.istore_n 2, 1) := by decide +kernel
theorem dX3_sumWithExchange_2 : decode cX3_sumWithExchange 2 = .ok (.iconst 0, 1) := by decide +kernel
theorem dX3_sumWithExchange_3 : decode cX3_sumWithExchange 3 = .ok (.istore_n 3, 1) := by decide +kernel
theorem dX3_sumWithExchange_4 : decode cX3_sumWithExchange 4 = .ok (.iload_n 3, 1) := by decide +kernel
theorem dX3_sumWithExchange_5 : decode cX3_sumWithExchange 5 = .ok (.bipush 8, 2) := by decide +kernel
theorem dX3_sumWithExchange_7 : decode cX3_sumWithExchange 7 = .ok (.if_icmp .ge 49, 3) := by decide +kernel
theorem dX3_sumWithExchange_10 : decode cX3_sumWithExchange 10 = .ok (.iload_n 1, 1) := by decide +kernel
theorem dX3_sumWithExchange_11 : decode cX3_sumWithExchange 11 = .ok (.iload_n 3, 1) := by decide +kernel
theorem dX3_sumWithExchange_12 : decode cX3_sumWithExchange 12 = .ok (.ishr, 1) := by decide +kernel
theorem dX3_sumWithExchange_13 : decode cX3_sumWithExchange 13 = .ok (.iconst 1, 1) := by decide +kernel
theorem dX3_sumWithExchange_14 : decode cX3_sumWithExchange 14 = .ok (.iand, 1) := by decide +kernel
theorem dX3_sumWithExchange_15 : decode cX3_sumWithExchange 15 = .ok (.iconst 1, 1) := by decide +kernel
theorem dX3_sumWithExchange_16 : decode cX3_sumWithExchange 16 = .ok (.if_icmp .ne 7, 3) := by decide +kernel
theorem dX3_sumWithExchange_19 : decode cX3_sumWithExchange 19 = .ok (.iconst 1, 1) := by decide +kernel
theorem dX3_sumWithExchange_20 : decode cX3_sumWithExchange 20 = .ok (.goto 4, 3) := by decide +kernel
theorem dX3_sumWithExchange_23 : decode cX3_sumWithExchange 23 = .ok (.iconst 0, 1) := by decide +kernel
theorem dX3_sumWithExchange_24 : decode cX3_sumWithExchange 24 = .ok (.istore 4, 2) := by decide +kernel
theorem dX3_sumWithExchange_26 : decode cX3_sumWithExchange 26 = .ok (.iload_n 2, 1) := by decide +kernel
theorem dX3_sumWithExchange_27 : decode cX3_sumWithExchange 27 = .ok (.iload 4, 2) := by decide +kernel
theorem dX3_sumWithExchange_29 : decode cX3_sumWithExchange 29 = .ok (.ifCond .eq 13, 3) := by decide +kernel
theorem dX3_sumWithExchange_32 : decode cX3_sumWithExchange 32 = .ok (.aload_n 0, 1) := by decide +kernel
theorem dX3_sumWithExchange_33 : decode cX3_sumWithExchange 33 = .ok (.getfield 23, 3) := by decide +kernel
theorem dX3_sumWithExchange_36 : decode cX3_sumWithExchange 36 = .ok (.iload_n 3, 1) := by decide +kernel
theorem dX3_sumWithExchange_37 : decode cX3_sumWithExchange 37 = .ok (.iaload, 1) := by decide +kernel
theorem dX3_sumWithExchange_38 : decode cX3_sumWithExchange 38 = .ok (.ineg, 1) := by decide +kernel
theorem dX3_sumWithExchange_39 : decode cX3_sumWithExchange 39 = .ok (.goto 9, 3) := by decide +kernel
theorem dX3_sumWithExchange_42 : decode cX3_sumWithExchange 42 = .ok (.aload_n 0, 1) := by decide +kernel
theorem dX3_sumWithExchange_43 : decode cX3_sumWithExchange 43 = .ok (.getfield 23, 3) := by decide +kernel
theorem dX3_sumWithExchange_46 : decode cX3_sumWithExchange 46 = .ok (.iload_n 3, 1) := by decide +kernel
theorem dX3_sumWithExchange_47 : decode cX3_sumWithExchange 47 = .ok (.iaload, 1) := by decide +kernel
theorem dX3_sumWithExchange_48 : decode cX3_sumWithExchange 48 = .ok (.iadd, 1) := by decide +kernel
theorem dX3_sumWithExchange_49 : decode cX3_sumWithExchange 49 = .ok (.istore_n 2, 1) := by decide +kernel
theorem dX3_sumWithExchange_50 : decode cX3_sumWithExchange 50 = .ok (.iinc 3 1, 3) := by decide +kernel
theorem dX3_sumWithExchange_53 : decode cX3_sumWithExchange 53 = .ok (.goto (-49), 3) := by decide +kernel
theorem dX3_sumWithExchange_56 : decode cX3_sumWithExchange 56 = .ok (.iload_n 2, 1) := by decide +kernel
theorem dX3_sumWithExchange_57 : decode cX3_sumWithExchange 57 = .ok (.ireturn, 1) := by decide +kernel
set_option maxRecDepth 20000 in
theorem ggX3_reduced_X3_greatestDivisor : GoodIn wsX3_reduced wsX3_greatestDivisor := goodIn_r _ [4] (by decide +kernel) (by decide +kernel)
set_option maxRecDepth 20000 in
theorem gX3_reduced_X3_greatestDivisor : GoodIn wsX3_reduced (va_wsS RX3 176 yX3_greatestDivisor wsX3_greatestDivisor) := goodIn_app (goodIn_of _ (by decide +kernel)) ggX3_reduced_X3_greatestDivisor
theorem dX3_reduced_0 : decode cX3_reduced 0 = .ok (.lload_n 0, 1) := by decide +kernel
theorem dX3_reduced_1 : decode cX3_reduced 1 = .ok (.lload_n 2, 1) := by decide +kernel
theorem dX3_reduced_2 : decode cX3_reduced 2 = .ok (.invokestatic 176, 3) := by decide +kernel
theorem dX3_reduced_5 : decode cX3_reduced 5 = .ok (.lstore 4, 2) := by decide +kernel
theorem dX3_reduced_7 : decode cX3_reduced 7 = .ok (.lload 4, 2) := by decide +kernel
theorem dX3_reduced_9 : decode cX3_reduced 9 = .ok (.lconst 0, 1) := by decide +kernel
theorem dX3_reduced_10 : decode cX3_reduced 10 = .ok (.lcmp, 1) := by decide +kernel
theorem dX3_reduced_11 : decode cX3_reduced 11 = .ok (.ifCond .ne 7, 3) := by decide +kernel
theorem dX3_reduced_14 : decode cX3_reduced 14 = .ok (.lload_n 0, 1) := by decide +kernel
theorem dX3_reduced_15 : decode cX3_reduced 15 = .ok (.goto 7, 3) := by decide +kernel
theorem dX3_reduced_18 : decode cX3_reduced 18 = .ok (.lload_n 0, 1) := by decide +kernel
theorem dX3_reduced_19 : decode cX3_reduced 19 = .ok (.lload 4, 2) := by decide +kernel
theorem dX3_reduced_21 : decode cX3_reduced 21 = .ok (.ldiv, 1) := by decide +kernel
theorem dX3_reduced_22 : decode cX3_reduced 22 = .ok (.lreturn, 1) := by decide +kernel
theorem dX3_greatestDivisor_0 : decode cX3_greatestDivisor 0 = .ok (.lload_n 0, 1) := by decide +kernel
theorem dX3_greatestDivisor_1 : decode cX3_greatestDivisor 1 = .ok (.lstore 4, 2) := by decide +kernel
theorem dX3_greatestDivisor_3 : decode cX3_greatestDivisor 3 = .ok (.lload_n 2, 1) := by decide +kernel
theorem dX3_greatestDivisor_4 : decode cX3_greatestDivisor 4 = .ok (.lstore 6, 2) := by decide +kernel
theorem dX3_greatestDivisor_6 : decode cX3_greatestDivisor 6 = .ok (.iconst 0, 1) := by decide +kernel
theorem dX3_greatestDivisor_7 : decode cX3_greatestDivisor 7 = .ok (.istore 8, 2) := by decide +kernel
theorem dX3_greatestDivisor_9 : decode cX3_greatestDivisor 9 = .ok (.iload 8, 2) := by decide +kernel
theorem dX3_greatestDivisor_11 : decode cX3_greatestDivisor 11 = .ok (.sipush 200, 3) := by decide +kernel
theorem dX3_greatestDivisor_14 : decode cX3_greatestDivisor 14 = .ok (.if_icmp .ge 31, 3) := by decide +kernel
theorem dX3_greatestDivisor_17 : decode cX3_greatestDivisor 17 = .ok (.lload 6, 2) := by decide +kernel
theorem dX3_greatestDivisor_19 : decode cX3_greatestDivisor 19 = .ok (.lconst 0, 1) := by decide +kernel
theorem dX3_greatestDivisor_20 : decode cX3_greatestDivisor 20 = .ok (.lcmp, 1) := by decide +kernel
theorem dX3_greatestDivisor_21 : decode cX3_greatestDivisor 21 = .ok (.ifCond .eq 24, 3) := by decide +kernel
theorem dX3_greatestDivisor_24 : decode cX3_greatestDivisor 24 = .ok (.lload 4, 2) := by decide +kernel
theorem dX3_greatestDivisor_26 : decode cX3_greatestDivisor 26 = .ok (.lload 6, 2) := by decide +kernel
theorem dX3_greatestDivisor_28 : decode cX3_greatestDivisor 28 = .ok (.lrem, 1) := by decide +kernel
theorem dX3_greatestDivisor_29 : decode cX3_greatestDivisor 29 = .ok (.lstore 9, 2) := by decide +kernel
theorem dX3_greatestDivisor_31 : decode cX3_greatestDivisor 31 = .ok (.lload 6, 2) := by decide +kernel
theorem dX3_greatestDivisor_33 : decode cX3_greatestDivisor 33 = .ok (.lstore 4, 2) := by decide +kernel
theorem dX3_greatestDivisor_35 : decode cX3_greatestDivisor 35 = .ok (.lload 9, 2) := by decide +kernel
theorem dX3_greatestDivisor_37 : decode cX3_greatestDivisor 37 = .ok (.lstore 6, 2) := by decide +kernel
theorem dX3_greatestDivisor_39 : decode cX3_greatestDivisor 39 = .ok (.iinc 8 1, 3) := by decide +kernel
theorem dX3_greatestDivisor_42 : decode cX3_greatestDivisor 42 = .ok (.goto (-33), 3) := by decide +kernel
theorem dX3_greatestDivisor_45 : decode cX3_greatestDivisor 45 = .ok (.lload 4, 2) := by decide +kernel
theorem dX3_greatestDivisor_47 : decode cX3_greatestDivisor 47 = .ok (.lreturn, 1) := by decide +kernel
theorem dX3_subsets_0 : decode cX3_subsets 0 = .ok (.lconst 1, 1) := by decide +kernel
theorem dX3_subsets_1 : decode cX3_subsets 1 = .ok (.lstore_n 2, 1) := by decide +kernel
theorem dX3_subsets_2 : decode cX3_subsets 2 = .ok (.iconst 1, 1) := by decide +kernel
theorem dX3_subsets_3 : decode cX3_subsets 3 = .ok (.istore 4, 2) := by decide +kernel
theorem dX3_subsets_5 : decode cX3_subsets 5 = .ok (.iload 4, 2) := by decide +kernel
theorem dX3_subsets_7 : decode cX3_subsets 7 = .ok (.iload_n 1, 1) := by decide +kernel
theorem dX3_subsets_8 : decode cX3_subsets 8 = .ok (.if_icmp .gt 23, 3) := by decide +kernel
theorem dX3_subsets_11 : decode cX3_subsets 11 = .ok (.lload_n 2, 1) := by decide +kernel
theorem dX3_subsets_12 : decode cX3_subsets 12 = .ok (.iload_n 0, 1) := by decide +kernel
theorem dX3_subsets_13 : decode cX3_subsets 13 = .ok (.iload_n 1, 1) := by decide +kernel
theorem dX3_subsets_14 : decode cX3_subsets 14 = .ok (.isub, 1) := by decide +kernel
theorem dX3_subsets_15 : decode cX3_subsets 15 = .ok (.iload 4, 2) := by decide +kernel
theorem dX3_subsets_17 : decode cX3_subsets 17 = .ok (.iadd, 1) := by decide +kernel
theorem dX3_subsets_18 : decode cX3_subsets 18 = .ok (.i2l, 1) := by decide +kernel
theorem dX3_subsets_19 : decode cX3_subsets 19 = .ok (.lmul, 1) := by decide +kernel
theorem dX3_subsets_20 : decode cX3_subsets 20 = .ok (.iload 4, 2) := by decide +kernel
theorem dX3_subsets_22 : decode cX3_subsets 22 = .ok (.i2l, 1) := by decide +kernel
theorem dX3_subsets_23 : decode cX3_subsets 23 = .ok (.ldiv, 1) := by decide +kernel
theorem dX3_subsets_24 : decode cX3_subsets 24 = .ok (.lstore_n 2, 1) := by decide +kernel
theorem dX3_subsets_25 : decode cX3_subsets 25 = .ok (.iinc 4 1, 3) := by decide +kernel
theorem dX3_subsets_28 : decode cX3_subsets 28 = .ok (.goto (-23), 3) := by decide +kernel
theorem dX3_subsets_31 : decode cX3_subsets 31 = .ok (.lload_n 2, 1) := by decide +kernel
theorem dX3_subsets_32 : decode cX3_subsets 32 = .ok (.lreturn, 1) := by decide +kernel
theorem dJ9_abs_0f7a4_0 : decode cJ9_abs_0f7a4 0 = .ok (.iload_n 0, 1) := by decide +kernel
theorem dJ9_abs_0f7a4_1 : decode cJ9_abs_0f7a4 1 = .ok (.ifCond .ge 8, 3) := by decide +kernel
theorem dJ9_abs_0f7a4_4 : decode cJ9_abs_0f7a4 4 = .ok (.iload_n 0, 1) := by decide +kernel
theorem dJ9_abs_0f7a4_5 : decode cJ9_abs_0f7a4 5 = .ok (.ineg, 1) := by decide +kernel
theorem dJ9_abs_0f7a4_6 : decode cJ9_abs_0f7a4 6 = .ok (.goto 4, 3) := by decide +kernel
theorem dJ9_abs_0f7a4_9 : decode cJ9_abs_0f7a4 9 = .ok (.iload_n 0, 1) := by decide +kernel
theorem dJ9_abs_0f7a4_10 : decode cJ9_abs_0f7a4 10 = .ok (.ireturn, 1) := by decide +kernel
theorem dJ9_max_7cf53_0 : decode cJ9_max_7cf53 0 = .ok (.iload_n 0, 1) := by decide +kernel
theorem dJ9_max_7cf53_1 : decode cJ9_max_7cf53 1 = .ok (.iload_n 1, 1) := by decide +kernel
theorem dJ9_max_7cf53_2 : decode cJ9_max_7cf53 2 = .ok (.if_icmp .lt 7, 3) := by decide +kernel
theorem dJ9_max_7cf53_5 : decode cJ9_max_7cf53 5 = .ok (.iload_n 0, 1) := by decide +kernel
theorem dJ9_max_7cf53_6 : decode cJ9_max_7cf53 6 = .ok (.goto 4, 3) := by decide +kernel
theorem dJ9_max_7cf53_9 : decode cJ9_max_7cf53 9 = .ok (.iload_n 1, 1) := by decide +kernel
theorem dJ9_max_7cf53_10 : decode cJ9_max_7cf53 10 = .ok (.ireturn, 1) := by decide +kernel
theorem dJ9_min_7cf53_0 : decode cJ9_min_7cf53 0 = .ok (.iload_n 0, 1) := by decide +kernel
theorem dJ9_min_7cf53_1 : decode cJ9_min_7cf53 1 = .ok (.iload_n 1, 1) := by decide +kernel
theorem dJ9_min_7cf53_2 : decode cJ9_min_7cf53 2 = .ok (.if_icmp .gt 7, 3) := by decide +kernel
theorem dJ9_min_7cf53_5 : decode cJ9_min_7cf53 5 = .ok (.iload_n 0, 1) := by decide +kernel
theorem dJ9_min_7cf53_6 : decode cJ9_min_7cf53 6 = .ok (.goto 4, 3) := by decide +kernel
theorem dJ9_min_7cf53_9 : decode cJ9_min_7cf53 9 = .ok (.iload_n 1, 1) := by decide +kernel
theorem dJ9_min_7cf53_10 : decode cJ9_min_7cf53 10 = .ok (.ireturn, 1) := by decide +kernel
theorem dL_low_0 : decode cL_low 0 = .ok (.iload_n 0, 1) := by decide +kernel
theorem dL_low_1 : decode cL_low 1 = .ok (.ldc 7, 2) := by decide +kernel
theorem dL_low_3 : decode cL_low 3 = .ok (.iand, 1) := by decide +kernel
theorem dL_low_4 : decode cL_low 4 = .ok (.iload_n 1, 1) := by decide +kernel
theorem dL_low_5 : decode cL_low 5 = .ok (.irem, 1) := by decide +kernel
theorem dL_low_6 : decode cL_low 6 = .ok (.ireturn, 1) := by decide +kernel
theorem dL_cell_0 : decode cL_cell 0 = .ok (.iload_n 1, 1) := by decide +kernel
theorem dL_cell_1 : decode cL_cell 1 = .ok (.aload_n 0, 1) := by decide +kernel
theorem dL_cell_2 : decode cL_cell 2 = .ok (.arraylength, 1) := by decide +kernel
theorem dL_cell_3 : decode cL_cell 3 = .ok (.if_icmp .ge 9, 3) := by decide +kernel
theorem dL_cell_6 : decode cL_cell 6 = .ok (.aload_n 0, 1) := by decide +kernel
theorem dL_cell_7 : decode cL_cell 7 = .ok (.iload_n 1, 1) := by decide +kernel
theorem dL_cell_8 : decode cL_cell 8 = .ok (.iaload, 1) := by decide +kernel
theorem dL_cell_9 : decode cL_cell 9 = .ok (.goto 11, 3) := by decide +kernel
theorem dL_cell_12 : decode cL_cell 12 = .ok (.ldc 8, 2) := by decide +kernel
theorem dL_cell_14 : decode cL_cell 14 = .ok (.iload_n 1, 1) := by decide +kernel
theorem dL_cell_15 : decode cL_cell 15 = .ok (.imul, 1) := by decide +kernel
theorem dL_cell_16 : decode cL_cell 16 = .ok (.sipush 977, 3) := by decide +kernel
theorem dL_cell_19 : decode cL_cell 19 = .ok (.iadd, 1) := by decide +kernel
theorem dL_cell_20 : decode cL_cell 20 = .ok (.ireturn, 1) := by decide +kernel
set_option maxRecDepth 20000 in
theorem ggL_append_X3_append : GoodIn wsL_append wsX3_append := goodIn_ca (goodIn_ca (goodIn_r _ [6, 7, 8, 9, 10, 11, 12, 13, 5, 14, 15, 16, 17, 18, 19, 20, 21, 22, 23, 24, 25, 26, 27, 28, 29, 30, 31, 32, 33, 34, 35, 36, 37, 38, 39, 40, 41] (by decide +kernel) (by decide +kernel)) (goodIn_sub (fun _ h => List.mem_cons_of_mem _ (List.mem_append_left _ (List.mem_append_right _ h))) (by decide +kernel))) (goodIn_sub (fun _ h => List.mem_cons_of_mem _ (List.mem_append_right _ h)) (by decide +kernel))
set_option maxRecDepth 20000 in
theorem gL_append_X3_append : GoodIn wsL_append (wsV RL 9 RX3 yX3_append wsX3_append) := goodIn_app (goodIn_of _ (by decide +kernel)) ggL_append_X3_append
theorem dL_append_0 : decode cL_append 0 = .ok (.aload_n 0, 1) := by decide +kernel
theorem dL_append_1 : decode cL_append 1 = .ok (.iload_n 1, 1) := by decide +kernel
theorem dL_append_2 : decode cL_append 2 = .ok (.iload_n 2, 1) := by decide +kernel
theorem dL_append_3 : decode cL_append 3 = .ok (.iload_n 3, 1) := by decide +kernel
theorem dL_append_4 : decode cL_append 4 = .ok (.iload 4, 2) := by decide +kernel
theorem dL_append_6 : decode cL_append 6 = .ok (.invokevirtual 9, 3) := by decide +kernel
theorem dL_append_9 : decode cL_append 9 = .ok (.ireturn, 1) := by decide +kernel
theorem dL_append_10 : decode cL_append 10 = .ok (.astore 5, 2) := by decide +kernel
theorem dL_append_12 : decode cL_append 12 = .ok (.bipush (-3), 2) := by decide +kernel
theorem dL_append_14 : decode cL_append 14 = .ok (.ireturn, 1) := by decide +kernel
set_option maxRecDepth 20000 in
theorem ggL_click_X3_click : GoodIn wsL_click wsX3_click := goodIn_ca (goodIn_ca (goodIn_r _ [6, 7, 8, 9, 10, 11, 12, 5, 13, 14, 15, 16, 17, 18, 19, 20, 21, 22, 23] (by decide +kernel) (by decide +kernel)) (goodIn_sub (fun _ h => List.mem_cons_of_mem _ (List.mem_append_left _ (List.mem_append_right _ h))) (by decide +kernel))) (goodIn_sub (fun _ h => List.mem_cons_of_mem _ (List.mem_append_right _ h)) (by decide +kernel))
set_option maxRecDepth 20000 in
theorem gL_click_X3_click : GoodIn wsL_click (wsV RL 17 RX3 yX3_click wsX3_click) := goodIn_app (goodIn_of _ (by decide +kernel)) ggL_click_X3_click
theorem dL_click_0 : decode cL_click 0 = .ok (.aload_n 0, 1) := by decide +kernel
theorem dL_click_1 : decode cL_click 1 = .ok (.iload_n 1, 1) := by decide +kernel
theorem dL_click_2 : decode cL_click 2 = .ok (.invokevirtual 17, 3) := by decide +kernel
theorem dL_click_5 : decode cL_click 5 = .ok (.ireturn, 1) := by decide +kernel
theorem dL_click_6 : decode cL_click 6 = .ok (.astore_n 2, 1) := by decide +kernel
theorem dL_click_7 : decode cL_click 7 = .ok (.bipush (-3), 2) := by decide +kernel
theorem dL_click_9 : decode cL_click 9 = .ok (.ireturn, 1) := by decide +kernel
theorem dL_divisor_0 : decode cL_divisor 0 = .ok (.lload_n 0, 1) := by decide +kernel
theorem dL_divisor_1 : decode cL_divisor 1 = .ok (.lstore 4, 2) := by decide +kernel
theorem dL_divisor_3 : decode cL_divisor 3 = .ok (.lload_n 2, 1) := by decide +kernel
theorem dL_divisor_4 : decode cL_divisor 4 = .ok (.lstore 6, 2) := by decide +kernel
theorem dL_divisor_6 : decode cL_divisor 6 = .ok (.lload 6, 2) := by decide +kernel
theorem dL_divisor_8 : decode cL_divisor 8 = .ok (.lconst 0, 1) := by decide +kernel
theorem dL_divisor_9 : decode cL_divisor 9 = .ok (.lcmp, 1) := by decide +kernel
theorem dL_divisor_10 : decode cL_divisor 10 = .ok (.ifCond .eq 21, 3) := by decide +kernel
theorem dL_divisor_13 : decode cL_divisor 13 = .ok (.lload 4, 2) := by decide +kernel
theorem dL_divisor_15 : decode cL_divisor 15 = .ok (.lload 6, 2) := by decide +kernel
theorem dL_divisor_17 : decode cL_divisor 17 = .ok (.lrem, 1) := by decide +kernel
theorem dL_divisor_18 : decode cL_divisor 18 = .ok (.lstore 8, 2) := by decide +kernel
theorem dL_divisor_20 : decode cL_divisor 20 = .ok (.lload 6, 2) := by decide +kernel
theorem dL_divisor_22 : decode cL_divisor 22 = .ok (.lstore 4, 2) := by decide +kernel
theorem dL_divisor_24 : decode cL_divisor 24 = .ok (.lload 8, 2) := by decide +kernel
theorem dL_divisor_26 : decode cL_divisor 26 = .ok (.lstore 6, 2) := by decide +kernel
theorem dL_divisor_28 : decode cL_divisor 28 = .ok (.goto (-22), 3) := by decide +kernel
theorem dL_divisor_31 : decode cL_divisor 31 = .ok (.lload 4, 2) := by decide +kernel
theorem dL_divisor_33 : decode cL_divisor 33 = .ok (.lreturn, 1) := by decide +kernel
set_option maxRecDepth 20000 in
theorem ggL_isPart_L_divisor : GoodIn wsL_isPart wsL_divisor := goodIn_r _ [4] (by decide +kernel) (by decide +kernel)
set_option maxRecDepth 20000 in
theorem gL_isPart_L_divisor : GoodIn wsL_isPart (va_wsS RL 21 yL_divisor wsL_divisor) := goodIn_app (goodIn_of _ (by decide +kernel)) ggL_isPart_L_divisor
theorem dL_isPart_0 : decode cL_isPart 0 = .ok (.lload_n 0, 1) := by decide +kernel
theorem dL_isPart_1 : decode cL_isPart 1 = .ok (.lconst 0, 1) := by decide +kernel
theorem dL_isPart_2 : decode cL_isPart 2 = .ok (.lcmp, 1) := by decide +kernel
theorem dL_isPart_3 : decode cL_isPart 3 = .ok (.ifCond .lt 29, 3) := by decide +kernel
theorem dL_isPart_6 : decode cL_isPart 6 = .ok (.lload_n 2, 1) := by decide +kernel
theorem dL_isPart_7 : decode cL_isPart 7 = .ok (.lconst 0, 1) := by decide +kernel
theorem dL_isPart_8 : decode cL_isPart 8 = .ok (.lcmp, 1) := by decide +kernel
theorem dL_isPart_9 : decode cL_isPart 9 = .ok (.ifCond .le 23, 3) := by decide +kernel
theorem dL_isPart_12 : decode cL_isPart 12 = .ok (.lload_n 0, 1) := by decide +kernel
theorem dL_isPart_13 : decode cL_isPart 13 = .ok (.lload_n 2, 1) := by decide +kernel
theorem dL_isPart_14 : decode cL_isPart 14 = .ok (.lcmp, 1) := by decide +kernel
theorem dL_isPart_15 : decode cL_isPart 15 = .ok (.ifCond .gt 17, 3) := by decide +kernel
theorem dL_isPart_18 : decode cL_isPart 18 = .ok (.lload_n 0, 1) := by decide +kernel
theorem dL_isPart_19 : decode cL_isPart 19 = .ok (.lload_n 2, 1) := by decide +kernel
theorem dL_isPart_20 : decode cL_isPart 20 = .ok (.invokestatic 21, 3) := by decide +kernel
theorem dL_isPart_23 : decode cL_isPart 23 = .ok (.lconst 1, 1) := by decide +kernel
theorem dL_isPart_24 : decode cL_isPart 24 = .ok (.lcmp, 1) := by decide +kernel
theorem dL_isPart_25 : decode cL_isPart 25 = .ok (.ifCond .ne 7, 3) := by decide +kernel
theorem dL_isPart_28 : decode cL_isPart 28 = .ok (.iconst 1, 1) := by decide +kernel
theorem dL_isPart_29 : decode cL_isPart 29 = .ok (.goto 4, 3) := by decide +kernel
theorem dL_isPart_32 : decode cL_isPart 32 = .ok (.iconst 0, 1) := by decide +kernel
theorem dL_isPart_33 : decode cL_isPart 33 = .ok (.ireturn, 1) := by decide +kernel
set_option maxRecDepth 20000 in
theorem ggL_run_X3_length : GoodIn wsL_run wsX3_length := goodIn_ca (goodIn_r _ [6, 7, 8, 9, 5, 10, 11, 12, 13, 14, 15, 111, 112, 113, 114, 115, 116, 117, 118] (by decide +kernel) (by decide +kernel)) (goodIn_sub (fun _ h => List.mem_cons_of_mem _ (List.mem_append_right _ h)) (by decide +kernel))
set_option maxRecDepth 20000 in
theorem gL_run_X3_length : GoodIn wsL_run (wsV RL 27 RX3 yX3_length wsX3_length) := goodIn_app (goodIn_of _ (by decide +kernel)) ggL_run_X3_length
set_option maxRecDepth 20000 in
theorem ggL_run_X3_hits : GoodIn wsL_run wsX3_hits := goodIn_ca (goodIn_r _ [19, 8, 9, 5, 10, 11, 12, 13, 14, 15, 20, 21, 22, 23, 24, 25, 26, 7, 27, 28, 29, 30, 31, 32, 33, 34, 35, 36, 37, 38, 39, 40, 41, 111, 112, 113, 114, 115, 116, 117, 118] (by decide +kernel) (by decide +kernel)) (goodIn_sub (fun _ h => List.mem_cons_of_mem _ (List.mem_append_right _ h)) (by decide +kernel))
set_option maxRecDepth 20000 in
theorem gL_run_X3_hits : GoodIn wsL_run (wsV RL 31 RX3 yX3_hits wsX3_hits) := goodIn_app (goodIn_of _ (by decide +kernel)) ggL_run_X3_hits
set_option maxRecDepth 20000 in
theorem ggL_run_X3_precisionNumerator : GoodIn wsL_run wsX3_precisionNumerator := goodIn_ca (goodIn_r _ [45, 7, 46, 8, 9, 5, 10, 11, 12, 13, 14, 15, 20, 21, 22, 47, 28, 48, 49, 50, 31, 32, 33, 34, 35, 36, 37, 38, 39, 40, 41, 51, 52, 53, 54, 55, 56, 57, 58, 59, 60, 61, 62, 63, 64, 65, 66, 67, 68, 69, 70, 71, 111, 112, 113, 114, 115, 116, 117, 118] (by decide +kernel) (by decide +kernel)) (goodIn_sub (fun _ h => List.mem_cons_of_mem _ (List.mem_append_right _ h)) (by decide +kernel))
set_option maxRecDepth 20000 in
theorem gL_run_X3_precisionNumerator : GoodIn wsL_run (wsV RL 35 RX3 yX3_precisionNumerator wsX3_precisionNumerator) := goodIn_app (goodIn_of _ (by decide +kernel)) ggL_run_X3_precisionNumerator
set_option maxRecDepth 20000 in
theorem ggL_run_X3_precisionDenominator : GoodIn wsL_run wsX3_precisionDenominator := goodIn_ca (goodIn_r _ [75, 46, 7, 8, 9, 5, 10, 11, 12, 13, 14, 15, 20, 21, 22, 47, 28, 48, 49, 50, 31, 32, 33, 34, 35, 36, 37, 38, 39, 40, 41, 51, 52, 53, 54, 55, 56, 57, 58, 59, 60, 61, 62, 63, 64, 65, 66, 67, 68, 69, 70, 71, 111, 112, 113, 114, 115, 116, 117, 118] (by decide +kernel) (by decide +kernel)) (goodIn_sub (fun _ h => List.mem_cons_of_mem _ (List.mem_append_right _ h)) (by decide +kernel))
set_option maxRecDepth 20000 in
theorem gL_run_X3_precisionDenominator : GoodIn wsL_run (wsV RL 39 RX3 yX3_precisionDenominator wsX3_precisionDenominator) := goodIn_app (goodIn_of _ (by decide +kernel)) ggL_run_X3_precisionDenominator
set_option maxRecDepth 20000 in
theorem ggL_run_L_isPart : GoodIn wsL_run wsL_isPart := goodIn_r _ [79, 80, 81, 78, 82] (by decide +kernel) (by decide +kernel)
set_option maxRecDepth 20000 in
theorem gL_run_L_isPart : GoodIn wsL_run (va_wsS RL 42 yL_isPart wsL_isPart) := goodIn_app (goodIn_of _ (by decide +kernel)) ggL_run_L_isPart
set_option maxRecDepth 20000 in
theorem ggL_run_X3_reciprocalNumerator : GoodIn wsL_run wsX3_reciprocalNumerator := goodIn_ca (goodIn_r _ [86, 7, 8, 9, 5, 10, 11, 12, 13, 14, 15, 87, 28, 88, 89, 50, 90, 91, 63, 92, 65, 93, 94, 95, 96, 31, 32, 33, 34, 35, 36, 37, 38, 39, 40, 41, 51, 52, 53, 54, 55, 56, 57, 97, 27, 29, 30, 98, 99, 100, 101, 102, 66, 67, 68, 69, 70, 71, 111, 112, 113, 114, 115, 116, 117, 118] (by decide +kernel) (by decide +kernel)) (goodIn_sub (fun _ h => List.mem_cons_of_mem _ (List.mem_append_right _ h)) (by decide +kernel))
set_option maxRecDepth 20000 in
theorem gL_run_X3_reciprocalNumerator : GoodIn wsL_run (wsV RL 46 RX3 yX3_reciprocalNumerator wsX3_reciprocalNumerator) := goodIn_app (goodIn_of _ (by decide +kernel)) ggL_run_X3_reciprocalNumerator
set_option maxRecDepth 20000 in
theorem ggL_run_X3_reciprocalDenominator : GoodIn wsL_run wsX3_reciprocalDenominator := goodIn_ca (goodIn_r _ [106, 7, 8, 9, 5, 10, 11, 12, 13, 14, 15, 100, 28, 101, 102, 50, 65, 93, 94, 95, 96, 31, 32, 33, 34, 35, 36, 37, 38, 39, 40, 41, 51, 52, 53, 54, 55, 56, 57, 97, 27, 29, 30, 98, 99, 87, 88, 89, 90, 91, 63, 92, 66, 67, 68, 69, 70, 71, 111, 112, 113, 114, 115, 116, 117, 118] (by decide +kernel) (by decide +kernel)) (goodIn_sub (fun _ h => List.mem_cons_of_mem _ (List.mem_append_right _ h)) (by decide +kernel))
set_option maxRecDepth 20000 in
theorem gL_run_X3_reciprocalDenominator : GoodIn wsL_run (wsV RL 50 RX3 yX3_reciprocalDenominator wsX3_reciprocalDenominator) := goodIn_app (goodIn_of _ (by decide +kernel)) ggL_run_X3_reciprocalDenominator
set_option maxRecDepth 20000 in
theorem ggL_run_X3_at : GoodIn wsL_run wsX3_at := goodIn_ca (goodIn_r _ [110, 7, 8, 9, 5, 10, 11, 12, 13, 14, 15, 20, 21, 22, 36, 37, 38, 39, 40, 41, 111, 112, 113, 114, 115, 116, 117, 118] (by decide +kernel) (by decide +kernel)) (goodIn_sub (fun _ h => List.mem_cons_of_mem _ (List.mem_append_right _ h)) (by decide +kernel))
set_option maxRecDepth 20000 in
theorem gL_run_X3_at : GoodIn wsL_run (wsV RL 55 RX3 yX3_at wsX3_at) := goodIn_app (goodIn_of _ (by decide +kernel)) ggL_run_X3_at
theorem dL_run_0 : decode cL_run 0 = .ok (.aload_n 0, 1) := by decide +kernel
theorem dL_run_1 : decode cL_run 1 = .ok (.iload_n 1, 1) := by decide +kernel
theorem dL_run_2 : decode cL_run 2 = .ok (.iload_n 2, 1) := by decide +kernel
theorem dL_run_3 : decode cL_run 3 = .ok (.invokevirtual 27, 3) := by decide +kernel
theorem dL_run_6 : decode cL_run 6 = .ok (.istore 4, 2) := by decide +kernel
theorem dL_run_8 : decode cL_run 8 = .ok (.aload_n 0, 1) := by decide +kernel
theorem dL_run_9 : decode cL_run 9 = .ok (.iload_n 1, 1) := by decide +kernel
theorem dL_run_10 : decode cL_run 10 = .ok (.iload_n 2, 1) := by decide +kernel
theorem dL_run_11 : decode cL_run 11 = .ok (.iload_n 3, 1) := by decide +kernel
theorem dL_run_12 : decode cL_run 12 = .ok (.invokevirtual 31, 3) := by decide +kernel
theorem dL_run_15 : decode cL_run 15 = .ok (.istore 5, 2) := by decide +kernel
theorem dL_run_17 : decode cL_run 17 = .ok (.iload 4, 2) := by decide +kernel
theorem dL_run_19 : decode cL_run 19 = .ok (.ifCond .lt 55, 3) := by decide +kernel
theorem dL_run_22 : decode cL_run 22 = .ok (.iload 4, 2) := by decide +kernel
theorem dL_run_24 : decode cL_run 24 = .ok (.bipush 20, 2) := by decide +kernel
theorem dL_run_26 : decode cL_run 26 = .ok (.if_icmp .gt 48, 3) := by decide +kernel
theorem dL_run_29 : decode cL_run 29 = .ok (.iload 5, 2) := by decide +kernel
theorem dL_run_31 : decode cL_run 31 = .ok (.ifCond .lt 43, 3) := by decide +kernel
theorem dL_run_34 : decode cL_run 34 = .ok (.iload 5, 2) := by decide +kernel
theorem dL_run_36 : decode cL_run 36 = .ok (.iload 4, 2) := by decide +kernel
theorem dL_run_38 : decode cL_run 38 = .ok (.if_icmp .gt 36, 3) := by decide +kernel
theorem dL_run_41 : decode cL_run 41 = .ok (.iload 5, 2) := by decide +kernel
theorem dL_run_43 : decode cL_run 43 = .ok (.iload_n 3, 1) := by decide +kernel
theorem dL_run_44 : decode cL_run 44 = .ok (.if_icmp .gt 30, 3) := by decide +kernel
theorem dL_run_47 : decode cL_run 47 = .ok (.iload 5, 2) := by decide +kernel
theorem dL_run_49 : decode cL_run 49 = .ok (.iload_n 3, 1) := by decide +kernel
theorem dL_run_50 : decode cL_run 50 = .ok (.iconst 1, 1) := by decide +kernel
theorem dL_run_51 : decode cL_run 51 = .ok (.if_icmp .le 15, 3) := by decide +kernel
theorem dL_run_54 : decode cL_run 54 = .ok (.aload_n 0, 1) := by decide +kernel
theorem dL_run_55 : decode cL_run 55 = .ok (.iload_n 1, 1) := by decide +kernel
theorem dL_run_56 : decode cL_run 56 = .ok (.iload_n 2, 1) := by decide +kernel
theorem dL_run_57 : decode cL_run 57 = .ok (.iload_n 3, 1) := by decide +kernel
theorem dL_run_58 : decode cL_run 58 = .ok (.iconst 1, 1) := by decide +kernel
theorem dL_run_59 : decode cL_run 59 = .ok (.isub, 1) := by decide +kernel
theorem dL_run_60 : decode cL_run 60 = .ok (.invokevirtual 31, 3) := by decide +kernel
theorem dL_run_63 : decode cL_run 63 = .ok (.goto 4, 3) := by decide +kernel
theorem dL_run_66 : decode cL_run 66 = .ok (.iconst 0, 1) := by decide +kernel
theorem dL_run_67 : decode cL_run 67 = .ok (.if_icmp .lt 7, 3) := by decide +kernel
theorem dL_run_70 : decode cL_run 70 = .ok (.iconst 1, 1) := by decide +kernel
theorem dL_run_71 : decode cL_run 71 = .ok (.goto 4, 3) := by decide +kernel
theorem dL_run_74 : decode cL_run 74 = .ok (.iconst 0, 1) := by decide +kernel
theorem dL_run_75 : decode cL_run 75 = .ok (.istore 6, 2) := by decide +kernel
theorem dL_run_77 : decode cL_run 77 = .ok (.iload 6, 2) := by decide +kernel
theorem dL_run_79 : decode cL_run 79 = .ok (.ifCond .eq 45, 3) := by decide +kernel
theorem dL_run_82 : decode cL_run 82 = .ok (.aload_n 0, 1) := by decide +kernel
theorem dL_run_83 : decode cL_run 83 = .ok (.iload_n 1, 1) := by decide +kernel
theorem dL_run_84 : decode cL_run 84 = .ok (.iload_n 2, 1) := by decide +kernel
theorem dL_run_85 : decode cL_run 85 = .ok (.iload_n 3, 1) := by decide +kernel
theorem dL_run_86 : decode cL_run 86 = .ok (.invokevirtual 35, 3) := by decide +kernel
theorem dL_run_89 : decode cL_run 89 = .ok (.aload_n 0, 1) := by decide +kernel
theorem dL_run_90 : decode cL_run 90 = .ok (.iload_n 1, 1) := by decide +kernel
theorem dL_run_91 : decode cL_run 91 = .ok (.iload_n 2, 1) := by decide +kernel
theorem dL_run_92 : decode cL_run 92 = .ok (.iload_n 3, 1) := by decide +kernel
theorem dL_run_93 : decode cL_run 93 = .ok (.invokevirtual 39, 3) := by decide +kernel
theorem dL_run_96 : decode cL_run 96 = .ok (.invokestatic 42, 3) := by decide +kernel
theorem dL_run_99 : decode cL_run 99 = .ok (.ifCond .eq 25, 3) := by decide +kernel
theorem dL_run_102 : decode cL_run 102 = .ok (.aload_n 0, 1) := by decide +kernel
theorem dL_run_103 : decode cL_run 103 = .ok (.iload_n 1, 1) := by decide +kernel
theorem dL_run_104 : decode cL_run 104 = .ok (.iload_n 2, 1) := by decide +kernel
theorem dL_run_105 : decode cL_run 105 = .ok (.invokevirtual 46, 3) := by decide +kernel
theorem dL_run_108 : decode cL_run 108 = .ok (.aload_n 0, 1) := by decide +kernel
theorem dL_run_109 : decode cL_run 109 = .ok (.iload_n 1, 1) := by decide +kernel
theorem dL_run_110 : decode cL_run 110 = .ok (.iload_n 2, 1) := by decide +kernel
theorem dL_run_111 : decode cL_run 111 = .ok (.invokevirtual 50, 3) := by decide +kernel
theorem dL_run_114 : decode cL_run 114 = .ok (.invokestatic 42, 3) := by decide +kernel
theorem dL_run_117 : decode cL_run 117 = .ok (.ifCond .eq 7, 3) := by decide +kernel
theorem dL_run_120 : decode cL_run 120 = .ok (.iconst 1, 1) := by decide +kernel
theorem dL_run_121 : decode cL_run 121 = .ok (.goto 4, 3) := by decide +kernel
theorem dL_run_124 : decode cL_run 124 = .ok (.iconst 0, 1) := by decide +kernel
theorem dL_run_125 : decode cL_run 125 = .ok (.istore 6, 2) := by decide +kernel
theorem dL_run_127 : decode cL_run 127 = .ok (.iload 6, 2) := by decide +kernel
theorem dL_run_129 : decode cL_run 129 = .ok (.ifCond .eq 42, 3) := by decide +kernel
theorem dL_run_132 : decode cL_run 132 = .ok (.aload_n 0, 1) := by decide +kernel
theorem dL_run_133 : decode cL_run 133 = .ok (.iload_n 1, 1) := by decide +kernel
theorem dL_run_134 : decode cL_run 134 = .ok (.iload_n 2, 1) := by decide +kernel
theorem dL_run_135 : decode cL_run 135 = .ok (.invokevirtual 46, 3) := by decide +kernel
theorem dL_run_138 : decode cL_run 138 = .ok (.lconst 0, 1) := by decide +kernel
theorem dL_run_139 : decode cL_run 139 = .ok (.lcmp, 1) := by decide +kernel
theorem dL_run_140 : decode cL_run 140 = .ok (.ifCond .le 7, 3) := by decide +kernel
theorem dL_run_143 : decode cL_run 143 = .ok (.iconst 1, 1) := by decide +kernel
theorem dL_run_144 : decode cL_run 144 = .ok (.goto 4, 3) := by decide +kernel
theorem dL_run_147 : decode cL_run 147 = .ok (.iconst 0, 1) := by decide +kernel
theorem dL_run_148 : decode cL_run 148 = .ok (.aload_n 0, 1) := by decide +kernel
theorem dL_run_149 : decode cL_run 149 = .ok (.iload_n 1, 1) := by decide +kernel
theorem dL_run_150 : decode cL_run 150 = .ok (.iload_n 2, 1) := by decide +kernel
theorem dL_run_151 : decode cL_run 151 = .ok (.bipush 20, 2) := by decide +kernel
theorem dL_run_153 : decode cL_run 153 = .ok (.invokevirtual 31, 3) := by decide +kernel
theorem dL_run_156 : decode cL_run 156 = .ok (.ifCond .le 7, 3) := by decide +kernel
theorem dL_run_159 : decode cL_run 159 = .ok (.iconst 1, 1) := by decide +kernel
theorem dL_run_160 : decode cL_run 160 = .ok (.goto 4, 3) := by decide +kernel
theorem dL_run_163 : decode cL_run 163 = .ok (.iconst 0, 1) := by decide +kernel
theorem dL_run_164 : decode cL_run 164 = .ok (.if_icmp .ne 7, 3) := by decide +kernel
theorem dL_run_167 : decode cL_run 167 = .ok (.iconst 1, 1) := by decide +kernel
theorem dL_run_168 : decode cL_run 168 = .ok (.goto 4, 3) := by decide +kernel
theorem dL_run_171 : decode cL_run 171 = .ok (.iconst 0, 1) := by decide +kernel
theorem dL_run_172 : decode cL_run 172 = .ok (.istore 6, 2) := by decide +kernel
theorem dL_run_174 : decode cL_run 174 = .ok (.aload_n 0, 1) := by decide +kernel
theorem dL_run_175 : decode cL_run 175 = .ok (.iload_n 1, 1) := by decide +kernel
theorem dL_run_176 : decode cL_run 176 = .ok (.iload_n 2, 1) := by decide +kernel
theorem dL_run_177 : decode cL_run 177 = .ok (.bipush 20, 2) := by decide +kernel
theorem dL_run_179 : decode cL_run 179 = .ok (.invokevirtual 35, 3) := by decide +kernel
theorem dL_run_182 : decode cL_run 182 = .ok (.ldc2_w 53, 3) := by decide +kernel
theorem dL_run_185 : decode cL_run 185 = .ok (.lmul, 1) := by decide +kernel
theorem dL_run_186 : decode cL_run 186 = .ok (.aload_n 0, 1) := by decide +kernel
theorem dL_run_187 : decode cL_run 187 = .ok (.iload_n 1, 1) := by decide +kernel
theorem dL_run_188 : decode cL_run 188 = .ok (.iload_n 2, 1) := by decide +kernel
theorem dL_run_189 : decode cL_run 189 = .ok (.bipush 20, 2) := by decide +kernel
theorem dL_run_191 : decode cL_run 191 = .ok (.invokevirtual 31, 3) := by decide +kernel
theorem dL_run_194 : decode cL_run 194 = .ok (.i2l, 1) := by decide +kernel
theorem dL_run_195 : decode cL_run 195 = .ok (.aload_n 0, 1) := by decide +kernel
theorem dL_run_196 : decode cL_run 196 = .ok (.iload_n 1, 1) := by decide +kernel
theorem dL_run_197 : decode cL_run 197 = .ok (.iload_n 2, 1) := by decide +kernel
theorem dL_run_198 : decode cL_run 198 = .ok (.bipush 20, 2) := by decide +kernel
theorem dL_run_200 : decode cL_run 200 = .ok (.invokevirtual 39, 3) := by decide +kernel
theorem dL_run_203 : decode cL_run 203 = .ok (.lmul, 1) := by decide +kernel
theorem dL_run_204 : decode cL_run 204 = .ok (.lcmp, 1) := by decide +kernel
theorem dL_run_205 : decode cL_run 205 = .ok (.ifCond .ne 7, 3) := by decide +kernel
theorem dL_run_208 : decode cL_run 208 = .ok (.iconst 1, 1) := by decide +kernel
theorem dL_run_209 : decode cL_run 209 = .ok (.goto 4, 3) := by decide +kernel
theorem dL_run_212 : decode cL_run 212 = .ok (.iconst 0, 1) := by decide +kernel
theorem dL_run_213 : decode cL_run 213 = .ok (.istore 7, 2) := by decide +kernel
theorem dL_run_215 : decode cL_run 215 = .ok (.iload 6, 2) := by decide +kernel
theorem dL_run_217 : decode cL_run 217 = .ok (.ifCond .eq 42, 3) := by decide +kernel
theorem dL_run_220 : decode cL_run 220 = .ok (.iload 7, 2) := by decide +kernel
theorem dL_run_222 : decode cL_run 222 = .ok (.ifCond .eq 37, 3) := by decide +kernel
theorem dL_run_225 : decode cL_run 225 = .ok (.aload_n 0, 1) := by decide +kernel
theorem dL_run_226 : decode cL_run 226 = .ok (.iload_n 1, 1) := by decide +kernel
theorem dL_run_227 : decode cL_run 227 = .ok (.iload_n 2, 1) := by decide +kernel
theorem dL_run_228 : decode cL_run 228 = .ok (.iload_n 3, 1) := by decide +kernel
theorem dL_run_229 : decode cL_run 229 = .ok (.invokevirtual 55, 3) := by decide +kernel
theorem dL_run_232 : decode cL_run 232 = .ok (.iconst (-1), 1) := by decide +kernel
theorem dL_run_233 : decode cL_run 233 = .ok (.if_icmp .ne 7, 3) := by decide +kernel
theorem dL_run_236 : decode cL_run 236 = .ok (.iconst 1, 1) := by decide +kernel
theorem dL_run_237 : decode cL_run 237 = .ok (.goto 4, 3) := by decide +kernel
theorem dL_run_240 : decode cL_run 240 = .ok (.iconst 0, 1) := by decide +kernel
theorem dL_run_241 : decode cL_run 241 = .ok (.iload 4, 2) := by decide +kernel
theorem dL_run_243 : decode cL_run 243 = .ok (.iload_n 3, 1) := by decide +kernel
theorem dL_run_244 : decode cL_run 244 = .ok (.if_icmp .ge 7, 3) := by decide +kernel
theorem dL_run_247 : decode cL_run 247 = .ok (.iconst 1, 1) := by decide +kernel
theorem dL_run_248 : decode cL_run 248 = .ok (.goto 4, 3) := by decide +kernel
theorem dL_run_251 : decode cL_run 251 = .ok (.iconst 0, 1) := by decide +kernel
theorem dL_run_252 : decode cL_run 252 = .ok (.if_icmp .ne 7, 3) := by decide +kernel
theorem dL_run_255 : decode cL_run 255 = .ok (.iconst 1, 1) := by decide +kernel
theorem dL_run_256 : decode cL_run 256 = .ok (.goto 4, 3) := by decide +kernel
theorem dL_run_259 : decode cL_run 259 = .ok (.iconst 0, 1) := by decide +kernel
theorem dL_run_260 : decode cL_run 260 = .ok (.ireturn, 1) := by decide +kernel
set_option maxRecDepth 20000 in
theorem ggL_pool_X3_toJudge : GoodIn wsL_pool wsX3_toJudge := goodIn_ca (goodIn_r _ [5, 6, 7, 8, 4, 9, 10, 11, 12, 13, 14, 15, 16, 17, 18, 19, 20, 21, 22, 23, 24, 25, 26, 27, 28, 29, 30, 45, 46, 47, 48, 49, 50, 51, 52] (by decide +kernel) (by decide +kernel)) (goodIn_sub (fun _ h => List.mem_cons_of_mem _ (List.mem_append_right _ h)) (by decide +kernel))
set_option maxRecDepth 20000 in
theorem gL_pool_X3_toJudge : GoodIn wsL_pool (wsV RL 58 RX3 yX3_toJudge wsX3_toJudge) := goodIn_app (goodIn_of _ (by decide +kernel)) ggL_pool_X3_toJudge
set_option maxRecDepth 20000 in
theorem ggL_pool_X3_length : GoodIn wsL_pool wsX3_length := goodIn_ca (goodIn_r _ [34, 6, 35, 36, 4, 37, 10, 11, 7, 8, 9, 45, 46, 47, 48, 49, 50, 51, 52] (by decide +kernel) (by decide +kernel)) (goodIn_sub (fun _ h => List.mem_cons_of_mem _ (List.mem_append_right _ h)) (by decide +kernel))
set_option maxRecDepth 20000 in
theorem gL_pool_X3_length : GoodIn wsL_pool (wsV RL 27 RX3 yX3_length wsX3_length) := goodIn_app (goodIn_of _ (by decide +kernel)) ggL_pool_X3_length
set_option maxRecDepth 20000 in
theorem ggL_pool_X3_pool : GoodIn wsL_pool wsX3_pool := goodIn_ca (goodIn_r _ [41, 6, 7, 8, 4, 9, 10, 11, 12, 13, 14, 42, 16, 43, 44, 20, 21, 22, 23, 24, 25, 26, 27, 28, 29, 30, 45, 46, 47, 48, 49, 50, 51, 52] (by decide +kernel) (by decide +kernel)) (goodIn_sub (fun _ h => List.mem_cons_of_mem _ (List.mem_append_right _ h)) (by decide +kernel))
set_option maxRecDepth 20000 in
theorem gL_pool_X3_pool : GoodIn wsL_pool (wsV RL 61 RX3 yX3_pool wsX3_pool) := goodIn_app (goodIn_of _ (by decide +kernel)) ggL_pool_X3_pool
theorem dL_pool_0 : decode cL_pool 0 = .ok (.aload_n 0, 1) := by decide +kernel
theorem dL_pool_1 : decode cL_pool 1 = .ok (.iload_n 1, 1) := by decide +kernel
theorem dL_pool_2 : decode cL_pool 2 = .ok (.iload_n 2, 1) := by decide +kernel
theorem dL_pool_3 : decode cL_pool 3 = .ok (.invokevirtual 58, 3) := by decide +kernel
theorem dL_pool_6 : decode cL_pool 6 = .ok (.istore_n 3, 1) := by decide +kernel
theorem dL_pool_7 : decode cL_pool 7 = .ok (.iconst 0, 1) := by decide +kernel
theorem dL_pool_8 : decode cL_pool 8 = .ok (.istore 4, 2) := by decide +kernel
theorem dL_pool_10 : decode cL_pool 10 = .ok (.iconst 0, 1) := by decide +kernel
theorem dL_pool_11 : decode cL_pool 11 = .ok (.istore 5, 2) := by decide +kernel
theorem dL_pool_13 : decode cL_pool 13 = .ok (.iload 5, 2) := by decide +kernel
theorem dL_pool_15 : decode cL_pool 15 = .ok (.iconst 4, 1) := by decide +kernel
theorem dL_pool_16 : decode cL_pool 16 = .ok (.if_icmp .ge 36, 3) := by decide +kernel
theorem dL_pool_19 : decode cL_pool 19 = .ok (.iload 4, 2) := by decide +kernel
theorem dL_pool_21 : decode cL_pool 21 = .ok (.aload_n 0, 1) := by decide +kernel
theorem dL_pool_22 : decode cL_pool 22 = .ok (.iload 5, 2) := by decide +kernel
theorem dL_pool_24 : decode cL_pool 24 = .ok (.iload_n 1, 1) := by decide +kernel
theorem dL_pool_25 : decode cL_pool 25 = .ok (.invokevirtual 27, 3) := by decide +kernel
theorem dL_pool_28 : decode cL_pool 28 = .ok (.iload_n 2, 1) := by decide +kernel
theorem dL_pool_29 : decode cL_pool 29 = .ok (.if_icmp .ge 13, 3) := by decide +kernel
theorem dL_pool_32 : decode cL_pool 32 = .ok (.aload_n 0, 1) := by decide +kernel
theorem dL_pool_33 : decode cL_pool 33 = .ok (.iload 5, 2) := by decide +kernel
theorem dL_pool_35 : decode cL_pool 35 = .ok (.iload_n 1, 1) := by decide +kernel
theorem dL_pool_36 : decode cL_pool 36 = .ok (.invokevirtual 27, 3) := by decide +kernel
theorem dL_pool_39 : decode cL_pool 39 = .ok (.goto 4, 3) := by decide +kernel
theorem dL_pool_42 : decode cL_pool 42 = .ok (.iload_n 2, 1) := by decide +kernel
theorem dL_pool_43 : decode cL_pool 43 = .ok (.iadd, 1) := by decide +kernel
theorem dL_pool_44 : decode cL_pool 44 = .ok (.istore 4, 2) := by decide +kernel
theorem dL_pool_46 : decode cL_pool 46 = .ok (.iinc 5 1, 3) := by decide +kernel
theorem dL_pool_49 : decode cL_pool 49 = .ok (.goto (-36), 3) := by decide +kernel
theorem dL_pool_52 : decode cL_pool 52 = .ok (.aload_n 0, 1) := by decide +kernel
theorem dL_pool_53 : decode cL_pool 53 = .ok (.iload_n 1, 1) := by decide +kernel
theorem dL_pool_54 : decode cL_pool 54 = .ok (.iload_n 2, 1) := by decide +kernel
theorem dL_pool_55 : decode cL_pool 55 = .ok (.invokevirtual 61, 3) := by decide +kernel
theorem dL_pool_58 : decode cL_pool 58 = .ok (.istore 5, 2) := by decide +kernel
theorem dL_pool_60 : decode cL_pool 60 = .ok (.iload 5, 2) := by decide +kernel
theorem dL_pool_62 : decode cL_pool 62 = .ok (.ifCond .lt 65, 3) := by decide +kernel
theorem dL_pool_65 : decode cL_pool 65 = .ok (.iload 5, 2) := by decide +kernel
theorem dL_pool_67 : decode cL_pool 67 = .ok (.iload 4, 2) := by decide +kernel
theorem dL_pool_69 : decode cL_pool 69 = .ok (.if_icmp .gt 58, 3) := by decide +kernel
theorem dL_pool_72 : decode cL_pool 72 = .ok (.iload 5, 2) := by decide +kernel
theorem dL_pool_74 : decode cL_pool 74 = .ok (.bipush 40, 2) := by decide +kernel
theorem dL_pool_76 : decode cL_pool 76 = .ok (.if_icmp .gt 51, 3) := by decide +kernel
theorem dL_pool_79 : decode cL_pool 79 = .ok (.iload_n 3, 1) := by decide +kernel
theorem dL_pool_80 : decode cL_pool 80 = .ok (.iconst (-1), 1) := by decide +kernel
theorem dL_pool_81 : decode cL_pool 81 = .ok (.if_icmp .lt 46, 3) := by decide +kernel
theorem dL_pool_84 : decode cL_pool 84 = .ok (.iload_n 3, 1) := by decide +kernel
theorem dL_pool_85 : decode cL_pool 85 = .ok (.bipush 40, 2) := by decide +kernel
theorem dL_pool_87 : decode cL_pool 87 = .ok (.if_icmp .ge 40, 3) := by decide +kernel
theorem dL_pool_90 : decode cL_pool 90 = .ok (.iload_n 3, 1) := by decide +kernel
theorem dL_pool_91 : decode cL_pool 91 = .ok (.iconst (-1), 1) := by decide +kernel
theorem dL_pool_92 : decode cL_pool 92 = .ok (.if_icmp .eq 8, 3) := by decide +kernel
theorem dL_pool_95 : decode cL_pool 95 = .ok (.iload 5, 2) := by decide +kernel
theorem dL_pool_97 : decode cL_pool 97 = .ok (.ifCond .le 30, 3) := by decide +kernel
theorem dL_pool_100 : decode cL_pool 100 = .ok (.iload 4, 2) := by decide +kernel
theorem dL_pool_102 : decode cL_pool 102 = .ok (.ifCond .ne 7, 3) := by decide +kernel
theorem dL_pool_105 : decode cL_pool 105 = .ok (.iconst 1, 1) := by decide +kernel
theorem dL_pool_106 : decode cL_pool 106 = .ok (.goto 4, 3) := by decide +kernel
theorem dL_pool_109 : decode cL_pool 109 = .ok (.iconst 0, 1) := by decide +kernel
theorem dL_pool_110 : decode cL_pool 110 = .ok (.iload 5, 2) := by decide +kernel
theorem dL_pool_112 : decode cL_pool 112 = .ok (.ifCond .ne 7, 3) := by decide +kernel
theorem dL_pool_115 : decode cL_pool 115 = .ok (.iconst 1, 1) := by decide +kernel
theorem dL_pool_116 : decode cL_pool 116 = .ok (.goto 4, 3) := by decide +kernel
theorem dL_pool_119 : decode cL_pool 119 = .ok (.iconst 0, 1) := by decide +kernel
theorem dL_pool_120 : decode cL_pool 120 = .ok (.if_icmp .ne 7, 3) := by decide +kernel
theorem dL_pool_123 : decode cL_pool 123 = .ok (.iconst 1, 1) := by decide +kernel
theorem dL_pool_124 : decode cL_pool 124 = .ok (.goto 4, 3) := by decide +kernel
theorem dL_pool_127 : decode cL_pool 127 = .ok (.iconst 0, 1) := by decide +kernel
theorem dL_pool_128 : decode cL_pool 128 = .ok (.ireturn, 1) := by decide +kernel
set_option maxRecDepth 20000 in
theorem ggL_tests_X3_test : GoodIn wsL_tests wsX3_test := goodIn_ca (goodIn_r _ [5, 6, 7, 8, 9, 10, 11, 4, 12, 13, 14, 15, 16, 17, 18, 19, 20, 21, 22, 23, 24, 25, 26, 27, 28, 29, 30, 31, 32, 33, 34, 35, 36, 37, 38, 39, 40, 41, 42, 43, 44, 45, 46, 51, 52, 53, 54, 55, 56, 57, 58] (by decide +kernel) (by decide +kernel)) (goodIn_sub (fun _ h => List.mem_cons_of_mem _ (List.mem_append_right _ h)) (by decide +kernel))
set_option maxRecDepth 20000 in
theorem gL_tests_X3_test : GoodIn wsL_tests (wsV RL 64 RX3 yX3_test wsX3_test) := goodIn_app (goodIn_of _ (by decide +kernel)) ggL_tests_X3_test
set_option maxRecDepth 20000 in
theorem ggL_tests_X3_sum : GoodIn wsL_tests wsX3_sum := goodIn_ca (goodIn_r _ [50, 10, 11, 4, 12, 13, 14, 15, 16, 17, 18, 19, 20, 21, 22, 23, 24, 25, 26, 27, 28, 29, 30, 31, 32, 33, 34, 35, 36, 37, 38, 39, 40, 41, 42, 43, 44, 45, 46, 51, 52, 53, 54, 55, 56, 57, 58] (by decide +kernel) (by decide +kernel)) (goodIn_sub (fun _ h => List.mem_cons_of_mem _ (List.mem_append_right _ h)) (by decide +kernel))
set_option maxRecDepth 20000 in
theorem gL_tests_X3_sum : GoodIn wsL_tests (wsV RL 67 RX3 yX3_sum wsX3_sum) := goodIn_app (goodIn_of _ (by decide +kernel)) ggL_tests_X3_sum
theorem dL_tests_0 : decode cL_tests 0 = .ok (.aload_n 0, 1) := by decide +kernel
theorem dL_tests_1 : decode cL_tests 1 = .ok (.iload_n 1, 1) := by decide +kernel
theorem dL_tests_2 : decode cL_tests 2 = .ok (.iload_n 2, 1) := by decide +kernel
theorem dL_tests_3 : decode cL_tests 3 = .ok (.iload_n 3, 1) := by decide +kernel
theorem dL_tests_4 : decode cL_tests 4 = .ok (.invokevirtual 64, 3) := by decide +kernel
theorem dL_tests_7 : decode cL_tests 7 = .ok (.istore 4, 2) := by decide +kernel
theorem dL_tests_9 : decode cL_tests 9 = .ok (.aload_n 0, 1) := by decide +kernel
theorem dL_tests_10 : decode cL_tests 10 = .ok (.iload_n 1, 1) := by decide +kernel
theorem dL_tests_11 : decode cL_tests 11 = .ok (.iload_n 2, 1) := by decide +kernel
theorem dL_tests_12 : decode cL_tests 12 = .ok (.iload_n 3, 1) := by decide +kernel
theorem dL_tests_13 : decode cL_tests 13 = .ok (.invokevirtual 67, 3) := by decide +kernel
theorem dL_tests_16 : decode cL_tests 16 = .ok (.aload_n 0, 1) := by decide +kernel
theorem dL_tests_17 : decode cL_tests 17 = .ok (.iload_n 2, 1) := by decide +kernel
theorem dL_tests_18 : decode cL_tests 18 = .ok (.iload_n 1, 1) := by decide +kernel
theorem dL_tests_19 : decode cL_tests 19 = .ok (.iload_n 3, 1) := by decide +kernel
theorem dL_tests_20 : decode cL_tests 20 = .ok (.invokevirtual 67, 3) := by decide +kernel
theorem dL_tests_23 : decode cL_tests 23 = .ok (.ineg, 1) := by decide +kernel
theorem dL_tests_24 : decode cL_tests 24 = .ok (.if_icmp .ne 40, 3) := by decide +kernel
theorem dL_tests_27 : decode cL_tests 27 = .ok (.iload 4, 2) := by decide +kernel
theorem dL_tests_29 : decode cL_tests 29 = .ok (.aload_n 0, 1) := by decide +kernel
theorem dL_tests_30 : decode cL_tests 30 = .ok (.iload_n 2, 1) := by decide +kernel
