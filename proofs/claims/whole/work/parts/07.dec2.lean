theorem dX3_test_0 : decode cX3_test 0 = .ok (.iload_n 1, 1) := by decide +kernel
theorem dX3_test_1 : decode cX3_test 1 = .ok (.invokestatic 27, 3) := by decide +kernel
theorem dX3_test_4 : decode cX3_test 4 = .ok (.iload_n 2, 1) := by decide +kernel
theorem dX3_test_5 : decode cX3_test 5 = .ok (.invokestatic 27, 3) := by decide +kernel
theorem dX3_test_8 : decode cX3_test 8 = .ok (.iload_n 3, 1) := by decide +kernel
theorem dX3_test_9 : decode cX3_test 9 = .ok (.invokestatic 75, 3) := by decide +kernel
theorem dX3_test_12 : decode cX3_test 12 = .ok (.aload_n 0, 1) := by decide +kernel
theorem dX3_test_13 : decode cX3_test 13 = .ok (.iload_n 1, 1) := by decide +kernel
theorem dX3_test_14 : decode cX3_test 14 = .ok (.iload_n 2, 1) := by decide +kernel
theorem dX3_test_15 : decode cX3_test 15 = .ok (.iload_n 3, 1) := by decide +kernel
theorem dX3_test_16 : decode cX3_test 16 = .ok (.invokevirtual 150, 3) := by decide +kernel
theorem dX3_test_19 : decode cX3_test 19 = .ok (.aload_n 0, 1) := by decide +kernel
theorem dX3_test_20 : decode cX3_test 20 = .ok (.iconst 0, 1) := by decide +kernel
theorem dX3_test_21 : decode cX3_test 21 = .ok (.invokevirtual 154, 3) := by decide +kernel
theorem dX3_test_24 : decode cX3_test 24 = .ok (.invokestatic 157, 3) := by decide +kernel
theorem dX3_test_27 : decode cX3_test 27 = .ok (.istore 4, 2) := by decide +kernel
theorem dX3_test_29 : decode cX3_test 29 = .ok (.iconst 0, 1) := by decide +kernel
theorem dX3_test_30 : decode cX3_test 30 = .ok (.istore 5, 2) := by decide +kernel
theorem dX3_test_32 : decode cX3_test 32 = .ok (.iconst 0, 1) := by decide +kernel
theorem dX3_test_33 : decode cX3_test 33 = .ok (.istore 6, 2) := by decide +kernel
theorem dX3_test_35 : decode cX3_test 35 = .ok (.iload 6, 2) := by decide +kernel
theorem dX3_test_37 : decode cX3_test 37 = .ok (.sipush 256, 3) := by decide +kernel
theorem dX3_test_40 : decode cX3_test 40 = .ok (.if_icmp .ge 26, 3) := by decide +kernel
theorem dX3_test_43 : decode cX3_test 43 = .ok (.aload_n 0, 1) := by decide +kernel
theorem dX3_test_44 : decode cX3_test 44 = .ok (.iload 6, 2) := by decide +kernel
theorem dX3_test_46 : decode cX3_test 46 = .ok (.invokevirtual 154, 3) := by decide +kernel
theorem dX3_test_49 : decode cX3_test 49 = .ok (.invokestatic 157, 3) := by decide +kernel
theorem dX3_test_52 : decode cX3_test 52 = .ok (.iload 4, 2) := by decide +kernel
theorem dX3_test_54 : decode cX3_test 54 = .ok (.if_icmp .lt 6, 3) := by decide +kernel
theorem dX3_test_57 : decode cX3_test 57 = .ok (.iinc 5 1, 3) := by decide +kernel
theorem dX3_test_60 : decode cX3_test 60 = .ok (.iinc 6 1, 3) := by decide +kernel
theorem dX3_test_63 : decode cX3_test 63 = .ok (.goto (-28), 3) := by decide +kernel
theorem dX3_test_66 : decode cX3_test 66 = .ok (.iload 5, 2) := by decide +kernel
theorem dX3_test_68 : decode cX3_test 68 = .ok (.ireturn, 1) := by decide +kernel
theorem dX3_requireSystem_0 : decode cX3_requireSystem 0 = .ok (.iload_n 0, 1) := by decide +kernel
theorem dX3_requireSystem_1 : decode cX3_requireSystem 1 = .ok (.ifCond .lt 8, 3) := by decide +kernel
theorem dX3_requireSystem_4 : decode cX3_requireSystem 4 = .ok (.iload_n 0, 1) := by decide +kernel
theorem dX3_requireSystem_5 : decode cX3_requireSystem 5 = .ok (.iconst 4, 1) := by decide +kernel
theorem dX3_requireSystem_6 : decode cX3_requireSystem 6 = .ok (.if_icmp .lt 13, 3) := by decide +kernel
theorem dX3_requireSystem_9 : decode cX3_requireSystem 9 = .ok (.new 37, 3) := by decide +kernel
theorem dX3_requireSystem_12 : decode cX3_requireSystem 12 = .ok (.dup, 1) := by decide +kernel
theorem dX3_requireSystem_13 : decode cX3_requireSystem 13 = .ok (.ldc 162, 2) := by decide +kernel
theorem dX3_requireSystem_15 : decode cX3_requireSystem 15 = .ok (.invokespecial 41, 3) := by decide +kernel
theorem dX3_requireSystem_18 : decode cX3_requireSystem 18 = .ok (.athrow, 1) := by decide +kernel
theorem dX3_requireSystem_19 : decode cX3_requireSystem 19 = .ok (.return_, 1) := by decide +kernel
theorem dX3_requireQuestion_0 : decode cX3_requireQuestion 0 = .ok (.iload_n 0, 1) := by decide +kernel
theorem dX3_requireQuestion_1 : decode cX3_requireQuestion 1 = .ok (.ifCond .lt 9, 3) := by decide +kernel
theorem dX3_requireQuestion_4 : decode cX3_requireQuestion 4 = .ok (.iload_n 0, 1) := by decide +kernel
theorem dX3_requireQuestion_5 : decode cX3_requireQuestion 5 = .ok (.bipush 8, 2) := by decide +kernel
theorem dX3_requireQuestion_7 : decode cX3_requireQuestion 7 = .ok (.if_icmp .lt 13, 3) := by decide +kernel
theorem dX3_requireQuestion_10 : decode cX3_requireQuestion 10 = .ok (.new 37, 3) := by decide +kernel
theorem dX3_requireQuestion_13 : decode cX3_requireQuestion 13 = .ok (.dup, 1) := by decide +kernel
theorem dX3_requireQuestion_14 : decode cX3_requireQuestion 14 = .ok (.ldc 164, 2) := by decide +kernel
theorem dX3_requireQuestion_16 : decode cX3_requireQuestion 16 = .ok (.invokespecial 41, 3) := by decide +kernel
theorem dX3_requireQuestion_19 : decode cX3_requireQuestion 19 = .ok (.athrow, 1) := by decide +kernel
theorem dX3_requireQuestion_20 : decode cX3_requireQuestion 20 = .ok (.return_, 1) := by decide +kernel
theorem dX3_requireDocument_0 : decode cX3_requireDocument 0 = .ok (.iload_n 0, 1) := by decide +kernel
theorem dX3_requireDocument_1 : decode cX3_requireDocument 1 = .ok (.ifCond .lt 9, 3) := by decide +kernel
theorem dX3_requireDocument_4 : decode cX3_requireDocument 4 = .ok (.iload_n 0, 1) := by decide +kernel
theorem dX3_requireDocument_5 : decode cX3_requireDocument 5 = .ok (.bipush 40, 2) := by decide +kernel
theorem dX3_requireDocument_7 : decode cX3_requireDocument 7 = .ok (.if_icmp .lt 13, 3) := by decide +kernel
theorem dX3_requireDocument_10 : decode cX3_requireDocument 10 = .ok (.new 37, 3) := by decide +kernel
theorem dX3_requireDocument_13 : decode cX3_requireDocument 13 = .ok (.dup, 1) := by decide +kernel
theorem dX3_requireDocument_14 : decode cX3_requireDocument 14 = .ok (.ldc 166, 2) := by decide +kernel
theorem dX3_requireDocument_16 : decode cX3_requireDocument 16 = .ok (.invokespecial 41, 3) := by decide +kernel
theorem dX3_requireDocument_19 : decode cX3_requireDocument 19 = .ok (.athrow, 1) := by decide +kernel
theorem dX3_requireDocument_20 : decode cX3_requireDocument 20 = .ok (.return_, 1) := by decide +kernel
theorem dX3_requireOneToTwenty_0 : decode cX3_requireOneToTwenty 0 = .ok (.iload_n 0, 1) := by decide +kernel
theorem dX3_requireOneToTwenty_1 : decode cX3_requireOneToTwenty 1 = .ok (.iconst 1, 1) := by decide +kernel
theorem dX3_requireOneToTwenty_2 : decode cX3_requireOneToTwenty 2 = .ok (.if_icmp .lt 9, 3) := by decide +kernel
theorem dX3_requireOneToTwenty_5 : decode cX3_requireOneToTwenty 5 = .ok (.iload_n 0, 1) := by decide +kernel
theorem dX3_requireOneToTwenty_6 : decode cX3_requireOneToTwenty 6 = .ok (.bipush 20, 2) := by decide +kernel
theorem dX3_requireOneToTwenty_8 : decode cX3_requireOneToTwenty 8 = .ok (.if_icmp .le 13, 3) := by decide +kernel
theorem dX3_requireOneToTwenty_11 : decode cX3_requireOneToTwenty 11 = .ok (.new 37, 3) := by decide +kernel
theorem dX3_requireOneToTwenty_14 : decode cX3_requireOneToTwenty 14 = .ok (.dup, 1) := by decide +kernel
theorem dX3_requireOneToTwenty_15 : decode cX3_requireOneToTwenty 15 = .ok (.ldc 168, 2) := by decide +kernel
theorem dX3_requireOneToTwenty_17 : decode cX3_requireOneToTwenty 17 = .ok (.invokespecial 41, 3) := by decide +kernel
theorem dX3_requireOneToTwenty_20 : decode cX3_requireOneToTwenty 20 = .ok (.athrow, 1) := by decide +kernel
theorem dX3_requireOneToTwenty_21 : decode cX3_requireOneToTwenty 21 = .ok (.return_, 1) := by decide +kernel
theorem dX3_requireListed_0 : decode cX3_requireListed 0 = .ok (.iload_n 1, 1) := by decide +kernel
theorem dX3_requireListed_1 : decode cX3_requireListed 1 = .ok (.iconst 1, 1) := by decide +kernel
theorem dX3_requireListed_2 : decode cX3_requireListed 2 = .ok (.if_icmp .lt 14, 3) := by decide +kernel
theorem dX3_requireListed_5 : decode cX3_requireListed 5 = .ok (.iload_n 1, 1) := by decide +kernel
theorem dX3_requireListed_6 : decode cX3_requireListed 6 = .ok (.aload_n 0, 1) := by decide +kernel
theorem dX3_requireListed_7 : decode cX3_requireListed 7 = .ok (.getfield 19, 3) := by decide +kernel
theorem dX3_requireListed_10 : decode cX3_requireListed 10 = .ok (.getfield 131, 3) := by decide +kernel
theorem dX3_requireListed_13 : decode cX3_requireListed 13 = .ok (.if_icmp .le 13, 3) := by decide +kernel
theorem dX3_requireListed_16 : decode cX3_requireListed 16 = .ok (.new 37, 3) := by decide +kernel
theorem dX3_requireListed_19 : decode cX3_requireListed 19 = .ok (.dup, 1) := by decide +kernel
theorem dX3_requireListed_20 : decode cX3_requireListed 20 = .ok (.ldc 170, 2) := by decide +kernel
theorem dX3_requireListed_22 : decode cX3_requireListed 22 = .ok (.invokespecial 41, 3) := by decide +kernel
theorem dX3_requireListed_25 : decode cX3_requireListed 25 = .ok (.athrow, 1) := by decide +kernel
theorem dX3_requireListed_26 : decode cX3_requireListed 26 = .ok (.return_, 1) := by decide +kernel
set_option maxRecDepth 20000 in
theorem ggX3_hitsAsItStands_X1_relevantWithin : GoodIn wsX3_hitsAsItStands wsX1_relevantWithin := goodIn_r _ [5, 6, 7, 8, 3, 9, 10, 11, 12, 13, 14, 15, 16, 22, 23, 24, 20, 21] (by decide +kernel) (by decide +kernel)
set_option maxRecDepth 20000 in
theorem gX3_hitsAsItStands_X1_relevantWithin_n172 : GoodIn wsX3_hitsAsItStands (wsX1_relevantWithin) := ggX3_hitsAsItStands_X1_relevantWithin
theorem dX3_hitsAsItStands_0 : decode cX3_hitsAsItStands 0 = .ok (.aload_n 0, 1) := by decide +kernel
theorem dX3_hitsAsItStands_1 : decode cX3_hitsAsItStands 1 = .ok (.getfield 11, 3) := by decide +kernel
theorem dX3_hitsAsItStands_4 : decode cX3_hitsAsItStands 4 = .ok (.iload_n 2, 1) := by decide +kernel
theorem dX3_hitsAsItStands_5 : decode cX3_hitsAsItStands 5 = .ok (.aaload, 1) := by decide +kernel
theorem dX3_hitsAsItStands_6 : decode cX3_hitsAsItStands 6 = .ok (.astore 4, 2) := by decide +kernel
theorem dX3_hitsAsItStands_8 : decode cX3_hitsAsItStands 8 = .ok (.aload 4, 2) := by decide +kernel
theorem dX3_hitsAsItStands_10 : decode cX3_hitsAsItStands 10 = .ok (.aload 4, 2) := by decide +kernel
theorem dX3_hitsAsItStands_12 : decode cX3_hitsAsItStands 12 = .ok (.getfield 44, 3) := by decide +kernel
theorem dX3_hitsAsItStands_15 : decode cX3_hitsAsItStands 15 = .ok (.iload_n 1, 1) := by decide +kernel
theorem dX3_hitsAsItStands_16 : decode cX3_hitsAsItStands 16 = .ok (.aaload, 1) := by decide +kernel
theorem dX3_hitsAsItStands_17 : decode cX3_hitsAsItStands 17 = .ok (.iconst 1, 1) := by decide +kernel
theorem dX3_hitsAsItStands_18 : decode cX3_hitsAsItStands 18 = .ok (.iload_n 3, 1) := by decide +kernel
theorem dX3_hitsAsItStands_19 : decode cX3_hitsAsItStands 19 = .ok (.invokevirtual 172, 3) := by decide +kernel
theorem dX3_hitsAsItStands_22 : decode cX3_hitsAsItStands 22 = .ok (.ireturn, 1) := by decide +kernel
set_option maxRecDepth 20000 in
theorem ggX3_systemHitParts_X1_meanHitParts : GoodIn wsX3_systemHitParts wsX1_meanHitParts := goodIn_r _ [5, 6, 7, 8, 9, 3, 10, 11, 12, 13, 14, 15, 16, 17, 18, 19, 20, 21, 22, 23, 24, 25, 26, 27, 28, 29, 30, 31, 32, 36, 37, 38, 39, 40] (by decide +kernel) (by decide +kernel)
set_option maxRecDepth 20000 in
theorem gX3_systemHitParts_X1_meanHitParts_n96 : GoodIn wsX3_systemHitParts (wsX1_meanHitParts) := ggX3_systemHitParts_X1_meanHitParts
theorem dX3_systemHitParts_0 : decode cX3_systemHitParts 0 = .ok (.lconst 0, 1) := by decide +kernel
theorem dX3_systemHitParts_1 : decode cX3_systemHitParts 1 = .ok (.lstore_n 3, 1) := by decide +kernel
theorem dX3_systemHitParts_2 : decode cX3_systemHitParts 2 = .ok (.iconst 0, 1) := by decide +kernel
theorem dX3_systemHitParts_3 : decode cX3_systemHitParts 3 = .ok (.istore 5, 2) := by decide +kernel
theorem dX3_systemHitParts_5 : decode cX3_systemHitParts 5 = .ok (.iload 5, 2) := by decide +kernel
theorem dX3_systemHitParts_7 : decode cX3_systemHitParts 7 = .ok (.bipush 8, 2) := by decide +kernel
theorem dX3_systemHitParts_9 : decode cX3_systemHitParts 9 = .ok (.if_icmp .ge 24, 3) := by decide +kernel
theorem dX3_systemHitParts_12 : decode cX3_systemHitParts 12 = .ok (.lload_n 3, 1) := by decide +kernel
theorem dX3_systemHitParts_13 : decode cX3_systemHitParts 13 = .ok (.aload_n 0, 1) := by decide +kernel
theorem dX3_systemHitParts_14 : decode cX3_systemHitParts 14 = .ok (.getfield 11, 3) := by decide +kernel
theorem dX3_systemHitParts_17 : decode cX3_systemHitParts 17 = .ok (.iload 5, 2) := by decide +kernel
theorem dX3_systemHitParts_19 : decode cX3_systemHitParts 19 = .ok (.aaload, 1) := by decide +kernel
theorem dX3_systemHitParts_20 : decode cX3_systemHitParts 20 = .ok (.iload_n 1, 1) := by decide +kernel
theorem dX3_systemHitParts_21 : decode cX3_systemHitParts 21 = .ok (.iload_n 2, 1) := by decide +kernel
theorem dX3_systemHitParts_22 : decode cX3_systemHitParts 22 = .ok (.invokevirtual 96, 3) := by decide +kernel
theorem dX3_systemHitParts_25 : decode cX3_systemHitParts 25 = .ok (.ladd, 1) := by decide +kernel
theorem dX3_systemHitParts_26 : decode cX3_systemHitParts 26 = .ok (.lstore_n 3, 1) := by decide +kernel
theorem dX3_systemHitParts_27 : decode cX3_systemHitParts 27 = .ok (.iinc 5 1, 3) := by decide +kernel
theorem dX3_systemHitParts_30 : decode cX3_systemHitParts 30 = .ok (.goto (-25), 3) := by decide +kernel
theorem dX3_systemHitParts_33 : decode cX3_systemHitParts 33 = .ok (.lload_n 3, 1) := by decide +kernel
theorem dX3_systemHitParts_34 : decode cX3_systemHitParts 34 = .ok (.lreturn, 1) := by decide +kernel
set_option maxRecDepth 20000 in
theorem ggX3_systemWhole_X3_filledRuns : GoodIn wsX3_systemWhole wsX3_filledRuns := goodIn_r _ [6, 7, 8, 9, 10, 11, 12, 13, 14, 15] (by decide +kernel) (by decide +kernel)
set_option maxRecDepth 20000 in
theorem gX3_systemWhole_X3_filledRuns : GoodIn wsX3_systemWhole (wsV RX3 119 RX3 yX3_filledRuns wsX3_filledRuns) := goodIn_app (goodIn_of _ (by decide +kernel)) ggX3_systemWhole_X3_filledRuns
theorem dX3_systemWhole_0 : decode cX3_systemWhole 0 = .ok (.aload_n 0, 1) := by decide +kernel
theorem dX3_systemWhole_1 : decode cX3_systemWhole 1 = .ok (.iload_n 1, 1) := by decide +kernel
theorem dX3_systemWhole_2 : decode cX3_systemWhole 2 = .ok (.invokevirtual 119, 3) := by decide +kernel
theorem dX3_systemWhole_5 : decode cX3_systemWhole 5 = .ok (.istore_n 3, 1) := by decide +kernel
theorem dX3_systemWhole_6 : decode cX3_systemWhole 6 = .ok (.iload_n 3, 1) := by decide +kernel
theorem dX3_systemWhole_7 : decode cX3_systemWhole 7 = .ok (.ifCond .ne 7, 3) := by decide +kernel
theorem dX3_systemWhole_10 : decode cX3_systemWhole 10 = .ok (.lconst 1, 1) := by decide +kernel
theorem dX3_systemWhole_11 : decode cX3_systemWhole 11 = .ok (.goto 12, 3) := by decide +kernel
theorem dX3_systemWhole_14 : decode cX3_systemWhole 14 = .ok (.ldc2_w 100, 3) := by decide +kernel
theorem dX3_systemWhole_17 : decode cX3_systemWhole 17 = .ok (.iload_n 2, 1) := by decide +kernel
theorem dX3_systemWhole_18 : decode cX3_systemWhole 18 = .ok (.i2l, 1) := by decide +kernel
theorem dX3_systemWhole_19 : decode cX3_systemWhole 19 = .ok (.lmul, 1) := by decide +kernel
theorem dX3_systemWhole_20 : decode cX3_systemWhole 20 = .ok (.iload_n 3, 1) := by decide +kernel
theorem dX3_systemWhole_21 : decode cX3_systemWhole 21 = .ok (.i2l, 1) := by decide +kernel
theorem dX3_systemWhole_22 : decode cX3_systemWhole 22 = .ok (.lmul, 1) := by decide +kernel
theorem dX3_systemWhole_23 : decode cX3_systemWhole 23 = .ok (.lreturn, 1) := by decide +kernel
theorem dX3_filledRuns_0 : decode cX3_filledRuns 0 = .ok (.iconst 0, 1) := by decide +kernel
theorem dX3_filledRuns_1 : decode cX3_filledRuns 1 = .ok (.istore_n 2, 1) := by decide +kernel
theorem dX3_filledRuns_2 : decode cX3_filledRuns 2 = .ok (.iconst 0, 1) := by decide +kernel
theorem dX3_filledRuns_3 : decode cX3_filledRuns 3 = .ok (.istore_n 3, 1) := by decide +kernel
theorem dX3_filledRuns_4 : decode cX3_filledRuns 4 = .ok (.iload_n 3, 1) := by decide +kernel
theorem dX3_filledRuns_5 : decode cX3_filledRuns 5 = .ok (.bipush 8, 2) := by decide +kernel
theorem dX3_filledRuns_7 : decode cX3_filledRuns 7 = .ok (.if_icmp .ge 29, 3) := by decide +kernel
theorem dX3_filledRuns_10 : decode cX3_filledRuns 10 = .ok (.aload_n 0, 1) := by decide +kernel
theorem dX3_filledRuns_11 : decode cX3_filledRuns 11 = .ok (.getfield 11, 3) := by decide +kernel
theorem dX3_filledRuns_14 : decode cX3_filledRuns 14 = .ok (.iload_n 3, 1) := by decide +kernel
theorem dX3_filledRuns_15 : decode cX3_filledRuns 15 = .ok (.aaload, 1) := by decide +kernel
theorem dX3_filledRuns_16 : decode cX3_filledRuns 16 = .ok (.getfield 44, 3) := by decide +kernel
theorem dX3_filledRuns_19 : decode cX3_filledRuns 19 = .ok (.iload_n 1, 1) := by decide +kernel
theorem dX3_filledRuns_20 : decode cX3_filledRuns 20 = .ok (.aaload, 1) := by decide +kernel
theorem dX3_filledRuns_21 : decode cX3_filledRuns 21 = .ok (.getfield 48, 3) := by decide +kernel
theorem dX3_filledRuns_24 : decode cX3_filledRuns 24 = .ok (.ifCond .le 6, 3) := by decide +kernel
theorem dX3_filledRuns_27 : decode cX3_filledRuns 27 = .ok (.iinc 2 1, 3) := by decide +kernel
theorem dX3_filledRuns_30 : decode cX3_filledRuns 30 = .ok (.iinc 3 1, 3) := by decide +kernel
theorem dX3_filledRuns_33 : decode cX3_filledRuns 33 = .ok (.goto (-29), 3) := by decide +kernel
theorem dX3_filledRuns_36 : decode cX3_filledRuns 36 = .ok (.iload_n 2, 1) := by decide +kernel
theorem dX3_filledRuns_37 : decode cX3_filledRuns 37 = .ok (.ireturn, 1) := by decide +kernel
set_option maxRecDepth 20000 in
theorem ggX3_noteDifferences_X3_hitsAsItStands : GoodIn wsX3_noteDifferences wsX3_hitsAsItStands := goodIn_r _ [6, 7, 8, 9, 10, 11, 12, 13, 14, 15, 16, 17, 18, 19, 20, 21, 22, 23, 24, 25, 26, 27, 28, 29, 30] (by decide +kernel) (by decide +kernel)
set_option maxRecDepth 20000 in
theorem gX3_noteDifferences_X3_hitsAsItStands : GoodIn wsX3_noteDifferences (wsV RX3 92 RX3 yX3_hitsAsItStands wsX3_hitsAsItStands) := goodIn_app (goodIn_of _ (by decide +kernel)) ggX3_noteDifferences_X3_hitsAsItStands
theorem dX3_noteDifferences_0 : decode cX3_noteDifferences 0 = .ok (.iconst 0, 1) := by decide +kernel
theorem dX3_noteDifferences_1 : decode cX3_noteDifferences 1 = .ok (.istore 4, 2) := by decide +kernel
theorem dX3_noteDifferences_3 : decode cX3_noteDifferences 3 = .ok (.iload 4, 2) := by decide +kernel
theorem dX3_noteDifferences_5 : decode cX3_noteDifferences 5 = .ok (.bipush 8, 2) := by decide +kernel
theorem dX3_noteDifferences_7 : decode cX3_noteDifferences 7 = .ok (.if_icmp .ge 33, 3) := by decide +kernel
theorem dX3_noteDifferences_10 : decode cX3_noteDifferences 10 = .ok (.aload_n 0, 1) := by decide +kernel
theorem dX3_noteDifferences_11 : decode cX3_noteDifferences 11 = .ok (.getfield 23, 3) := by decide +kernel
theorem dX3_noteDifferences_14 : decode cX3_noteDifferences 14 = .ok (.iload 4, 2) := by decide +kernel
theorem dX3_noteDifferences_16 : decode cX3_noteDifferences 16 = .ok (.aload_n 0, 1) := by decide +kernel
theorem dX3_noteDifferences_17 : decode cX3_noteDifferences 17 = .ok (.iload_n 1, 1) := by decide +kernel
theorem dX3_noteDifferences_18 : decode cX3_noteDifferences 18 = .ok (.iload 4, 2) := by decide +kernel
theorem dX3_noteDifferences_20 : decode cX3_noteDifferences 20 = .ok (.iload_n 3, 1) := by decide +kernel
theorem dX3_noteDifferences_21 : decode cX3_noteDifferences 21 = .ok (.invokevirtual 92, 3) := by decide +kernel
theorem dX3_noteDifferences_24 : decode cX3_noteDifferences 24 = .ok (.aload_n 0, 1) := by decide +kernel
theorem dX3_noteDifferences_25 : decode cX3_noteDifferences 25 = .ok (.iload_n 2, 1) := by decide +kernel
theorem dX3_noteDifferences_26 : decode cX3_noteDifferences 26 = .ok (.iload 4, 2) := by decide +kernel
theorem dX3_noteDifferences_28 : decode cX3_noteDifferences 28 = .ok (.iload_n 3, 1) := by decide +kernel
theorem dX3_noteDifferences_29 : decode cX3_noteDifferences 29 = .ok (.invokevirtual 92, 3) := by decide +kernel
theorem dX3_noteDifferences_32 : decode cX3_noteDifferences 32 = .ok (.isub, 1) := by decide +kernel
theorem dX3_noteDifferences_33 : decode cX3_noteDifferences 33 = .ok (.iastore, 1) := by decide +kernel
theorem dX3_noteDifferences_34 : decode cX3_noteDifferences 34 = .ok (.iinc 4 1, 3) := by decide +kernel
theorem dX3_noteDifferences_37 : decode cX3_noteDifferences 37 = .ok (.goto (-34), 3) := by decide +kernel
theorem dX3_noteDifferences_40 : decode cX3_noteDifferences 40 = .ok (.return_, 1) := by decide +kernel
theorem dX3_sumWithExchange_0 : decode cX3_sumWithExchange 0 = .ok (.iconst 0, 1) := by decide +kernel
theorem dX3_sumWithExchange_1 : decode cX3_sumWithExchange 1 = .ok (.istore_n 2, 1) := by decide +kernel
theorem dX3_sumWithExchange_2 : decode cX3_sumWithExchange 2 = .ok (.iconst 0, 1) := by decide +kernel
theorem dX3_sumWithExchange_3 : decode cX3_sumWithExchange 3 = .ok (.istore_n 3, 1) := by decide +kernel
theorem dX3_sumWithExchange_4 : decode cX3_sumWithExchange 4 = .ok (.iload_n 3, 1) := by decide +kernel
theorem dX3_sumWithExchange_5 : decode cX3_sumWithExchange 5 = .ok (.bipush 8, 2) := by decide +kernel
theorem dX3_sumWithExchange_7 : decode cX3_sumWithExchange 7 = .ok (.if_icmp .ge 49, 3) := by decide +kernel
theorem dX3_sumWithExchange_10 : decode cX3_sumWithExchange 10 = .ok (.iload_n 1, 1) := by decide +kernel
theorem dX3_sumWithExchange_11 : decode cX3_sumWithExchange 11 = .ok (.iload_n 3, 1) := by decide +kernel
theorem dX3_sumWithExchange_12 : decode cX3_sumWithExchange 12 = .ok (.ishr, 1) := by decide +kernel
theorem dX3_sumWithExchange_13 : decode cX3_sumWithExchange 13 = .ok (.iconst 1, 1) := by decide +kernel
theorem dX3_sumWithExchange_14 : decode cX3_sumWithExchange 14 = .ok (.iand, 1) := by decide +kernel
theorem dX3_sumWithExchange_15 : decode cX3_sumWithExchange 15 = .ok (.iconst 1, 1) := by decide +kernel
theorem dX3_sumWithExchange_16 : decode cX3_sumWithExchange 16 = .ok (.if_icmp .ne 7, 3) := by decide +kernel
theorem dX3_sumWithExchange_19 : decode cX3_sumWithExchange 19 = .ok (.iconst 1, 1) := by decide +kernel
theorem dX3_sumWithExchange_20 : decode cX3_sumWithExchange 20 = .ok (.goto 4, 3) := by decide +kernel
theorem dX3_sumWithExchange_23 : decode cX3_sumWithExchange 23 = .ok (.iconst 0, 1) := by decide +kernel
theorem dX3_sumWithExchange_24 : decode cX3_sumWithExchange 24 = .ok (.istore 4, 2) := by decide +kernel
theorem dX3_sumWithExchange_26 : decode cX3_sumWithExchange 26 = .ok (.iload_n 2, 1) := by decide +kernel
theorem dX3_sumWithExchange_27 : decode cX3_sumWithExchange 27 = .ok (.iload 4, 2) := by decide +kernel
theorem dX3_sumWithExchange_29 : decode cX3_sumWithExchange 29 = .ok (.ifCond .eq 13, 3) := by decide +kernel
theorem dX3_sumWithExchange_32 : decode cX3_sumWithExchange 32 = .ok (.aload_n 0, 1) := by decide +kernel
theorem dX3_sumWithExchange_33 : decode cX3_sumWithExchange 33 = .ok (.getfield 23, 3) := by decide +kernel
theorem dX3_sumWithExchange_36 : decode cX3_sumWithExchange 36 = .ok (.iload_n 3, 1) := by decide +kernel
theorem dX3_sumWithExchange_37 : decode cX3_sumWithExchange 37 = .ok (.iaload, 1) := by decide +kernel
theorem dX3_sumWithExchange_38 : decode cX3_sumWithExchange 38 = .ok (.ineg, 1) := by decide +kernel
theorem dX3_sumWithExchange_39 : decode cX3_sumWithExchange 39 = .ok (.goto 9, 3) := by decide +kernel
theorem dX3_sumWithExchange_42 : decode cX3_sumWithExchange 42 = .ok (.aload_n 0, 1) := by decide +kernel
theorem dX3_sumWithExchange_43 : decode cX3_sumWithExchange 43 = .ok (.getfield 23, 3) := by decide +kernel
theorem dX3_sumWithExchange_46 : decode cX3_sumWithExchange 46 = .ok (.iload_n 3, 1) := by decide +kernel
theorem dX3_sumWithExchange_47 : decode cX3_sumWithExchange 47 = .ok (.iaload, 1) := by decide +kernel
theorem dX3_sumWithExchange_48 : decode cX3_sumWithExchange 48 = .ok (.iadd, 1) := by decide +kernel
theorem dX3_sumWithExchange_49 : decode cX3_sumWithExchange 49 = .ok (.istore_n 2, 1) := by decide +kernel
theorem dX3_sumWithExchange_50 : decode cX3_sumWithExchange 50 = .ok (.iinc 3 1, 3) := by decide +kernel
theorem dX3_sumWithExchange_53 : decode cX3_sumWithExchange 53 = .ok (.goto (-49), 3) := by decide +kernel
theorem dX3_sumWithExchange_56 : decode cX3_sumWithExchange 56 = .ok (.iload_n 2, 1) := by decide +kernel
theorem dX3_sumWithExchange_57 : decode cX3_sumWithExchange 57 = .ok (.ireturn, 1) := by decide +kernel
set_option maxRecDepth 20000 in
theorem ggX3_reduced_X3_greatestDivisor : GoodIn wsX3_reduced wsX3_greatestDivisor := goodIn_r _ [4] (by decide +kernel) (by decide +kernel)
set_option maxRecDepth 20000 in
theorem gX3_reduced_X3_greatestDivisor : GoodIn wsX3_reduced (va_wsS RX3 176 yX3_greatestDivisor wsX3_greatestDivisor) := goodIn_app (goodIn_of _ (by decide +kernel)) ggX3_reduced_X3_greatestDivisor
theorem dX3_reduced_0 : decode cX3_reduced 0 = .ok (.lload_n 0, 1) := by decide +kernel
theorem dX3_reduced_1 : decode cX3_reduced 1 = .ok (.lload_n 2, 1) := by decide +kernel
theorem dX3_reduced_2 : decode cX3_reduced 2 = .ok (.invokestatic 176, 3) := by decide +kernel
theorem dX3_reduced_5 : decode cX3_reduced 5 = .ok (.lstore 4, 2) := by decide +kernel
theorem dX3_reduced_7 : decode cX3_reduced 7 = .ok (.lload 4, 2) := by decide +kernel
theorem dX3_reduced_9 : decode cX3_reduced 9 = .ok (.lconst 0, 1) := by decide +kernel
theorem dX3_reduced_10 : decode cX3_reduced 10 = .ok (.lcmp, 1) := by decide +kernel
theorem dX3_reduced_11 : decode cX3_reduced 11 = .ok (.ifCond .ne 7, 3) := by decide +kernel
theorem dX3_reduced_14 : decode cX3_reduced 14 = .ok (.lload_n 0, 1) := by decide +kernel
theorem dX3_reduced_15 : decode cX3_reduced 15 = .ok (.goto 7, 3) := by decide +kernel
theorem dX3_reduced_18 : decode cX3_reduced 18 = .ok (.lload_n 0, 1) := by decide +kernel
theorem dX3_reduced_19 : decode cX3_reduced 19 = .ok (.lload 4, 2) := by decide +kernel
theorem dX3_reduced_21 : decode cX3_reduced 21 = .ok (.ldiv, 1) := by decide +kernel
theorem dX3_reduced_22 : decode cX3_reduced 22 = .ok (.lreturn, 1) := by decide +kernel
theorem dX3_greatestDivisor_0 : decode cX3_greatestDivisor 0 = .ok (.lload_n 0, 1) := by decide +kernel
theorem dX3_greatestDivisor_1 : decode cX3_greatestDivisor 1 = .ok (.lstore 4, 2) := by decide +kernel
theorem dX3_greatestDivisor_3 : decode cX3_greatestDivisor 3 = .ok (.lload_n 2, 1) := by decide +kernel
theorem dX3_greatestDivisor_4 : decode cX3_greatestDivisor 4 = .ok (.lstore 6, 2) := by decide +kernel
theorem dX3_greatestDivisor_6 : decode cX3_greatestDivisor 6 = .ok (.iconst 0, 1) := by decide +kernel
theorem dX3_greatestDivisor_7 : decode cX3_greatestDivisor 7 = .ok (.istore 8, 2) := by decide +kernel
theorem dX3_greatestDivisor_9 : decode cX3_greatestDivisor 9 = .ok (.iload 8, 2) := by decide +kernel
theorem dX3_greatestDivisor_11 : decode cX3_greatestDivisor 11 = .ok (.sipush 200, 3) := by decide +kernel
theorem dX3_greatestDivisor_14 : decode cX3_greatestDivisor 14 = .ok (.if_icmp .ge 31, 3) := by decide +kernel
theorem dX3_greatestDivisor_17 : decode cX3_greatestDivisor 17 = .ok (.lload 6, 2) := by decide +kernel
theorem dX3_greatestDivisor_19 : decode cX3_greatestDivisor 19 = .ok (.lconst 0, 1) := by decide +kernel
theorem dX3_greatestDivisor_20 : decode cX3_greatestDivisor 20 = .ok (.lcmp, 1) := by decide +kernel
theorem dX3_greatestDivisor_21 : decode cX3_greatestDivisor 21 = .ok (.ifCond .eq 24, 3) := by decide +kernel
theorem dX3_greatestDivisor_24 : decode cX3_greatestDivisor 24 = .ok (.lload 4, 2) := by decide +kernel
theorem dX3_greatestDivisor_26 : decode cX3_greatestDivisor 26 = .ok (.lload 6, 2) := by decide +kernel
theorem dX3_greatestDivisor_28 : decode cX3_greatestDivisor 28 = .ok (.lrem, 1) := by decide +kernel
theorem dX3_greatestDivisor_29 : decode cX3_greatestDivisor 29 = .ok (.lstore 9, 2) := by decide +kernel
theorem dX3_greatestDivisor_31 : decode cX3_greatestDivisor 31 = .ok (.lload 6, 2) := by decide +kernel
theorem dX3_greatestDivisor_33 : decode cX3_greatestDivisor 33 = .ok (.lstore 4, 2) := by decide +kernel
theorem dX3_greatestDivisor_35 : decode cX3_greatestDivisor 35 = .ok (.lload 9, 2) := by decide +kernel
theorem dX3_greatestDivisor_37 : decode cX3_greatestDivisor 37 = .ok (.lstore 6, 2) := by decide +kernel
theorem dX3_greatestDivisor_39 : decode cX3_greatestDivisor 39 = .ok (.iinc 8 1, 3) := by decide +kernel
theorem dX3_greatestDivisor_42 : decode cX3_greatestDivisor 42 = .ok (.goto (-33), 3) := by decide +kernel
theorem dX3_greatestDivisor_45 : decode cX3_greatestDivisor 45 = .ok (.lload 4, 2) := by decide +kernel
theorem dX3_greatestDivisor_47 : decode cX3_greatestDivisor 47 = .ok (.lreturn, 1) := by decide +kernel
theorem dX3_subsets_0 : decode cX3_subsets 0 = .ok (.lconst 1, 1) := by decide +kernel
theorem dX3_subsets_1 : decode cX3_subsets 1 = .ok (.lstore_n 2, 1) := by decide +kernel
theorem dX3_subsets_2 : decode cX3_subsets 2 = .ok (.iconst 1, 1) := by decide +kernel
theorem dX3_subsets_3 : decode cX3_subsets 3 = .ok (.istore 4, 2) := by decide +kernel
theorem dX3_subsets_5 : decode cX3_subsets 5 = .ok (.iload 4, 2) := by decide +kernel
theorem dX3_subsets_7 : decode cX3_subsets 7 = .ok (.iload_n 1, 1) := by decide +kernel
theorem dX3_subsets_8 : decode cX3_subsets 8 = .ok (.if_icmp .gt 23, 3) := by decide +kernel
theorem dX3_subsets_11 : decode cX3_subsets 11 = .ok (.lload_n 2, 1) := by decide +kernel
theorem dX3_subsets_12 : decode cX3_subsets 12 = .ok (.iload_n 0, 1) := by decide +kernel
theorem dX3_subsets_13 : decode cX3_subsets 13 = .ok (.iload_n 1, 1) := by decide +kernel
theorem dX3_subsets_14 : decode cX3_subsets 14 = .ok (.isub, 1) := by decide +kernel
theorem dX3_subsets_15 : decode cX3_subsets 15 = .ok (.iload 4, 2) := by decide +kernel
theorem dX3_subsets_17 : decode cX3_subsets 17 = .ok (.iadd, 1) := by decide +kernel
theorem dX3_subsets_18 : decode cX3_subsets 18 = .ok (.i2l, 1) := by decide +kernel
theorem dX3_subsets_19 : decode cX3_subsets 19 = .ok (.lmul, 1) := by decide +kernel
theorem dX3_subsets_20 : decode cX3_subsets 20 = .ok (.iload 4, 2) := by decide +kernel
theorem dX3_subsets_22 : decode cX3_subsets 22 = .ok (.i2l, 1) := by decide +kernel
theorem dX3_subsets_23 : decode cX3_subsets 23 = .ok (.ldiv, 1) := by decide +kernel
theorem dX3_subsets_24 : decode cX3_subsets 24 = .ok (.lstore_n 2, 1) := by decide +kernel
theorem dX3_subsets_25 : decode cX3_subsets 25 = .ok (.iinc 4 1, 3) := by decide +kernel
theorem dX3_subsets_28 : decode cX3_subsets 28 = .ok (.goto (-23), 3) := by decide +kernel
theorem dX3_subsets_31 : decode cX3_subsets 31 = .ok (.lload_n 2, 1) := by decide +kernel
theorem dX3_subsets_32 : decode cX3_subsets 32 = .ok (.lreturn, 1) := by decide +kernel
theorem dX4_init_0 : decode cX4_init 0 = .ok (.aload_n 0, 1) := by decide +kernel
theorem dX4_init_1 : decode cX4_init 1 = .ok (.invokespecial 1, 3) := by decide +kernel
theorem dX4_init_4 : decode cX4_init 4 = .ok (.aload_n 0, 1) := by decide +kernel
theorem dX4_init_5 : decode cX4_init 5 = .ok (.bipush 32, 2) := by decide +kernel
theorem dX4_init_7 : decode cX4_init 7 = .ok (.newarray .int, 2) := by decide +kernel
theorem dX4_init_9 : decode cX4_init 9 = .ok (.putfield 7, 3) := by decide +kernel
theorem dX4_init_12 : decode cX4_init 12 = .ok (.aload_n 0, 1) := by decide +kernel
theorem dX4_init_13 : decode cX4_init 13 = .ok (.sipush 640, 3) := by decide +kernel
theorem dX4_init_16 : decode cX4_init 16 = .ok (.newarray .int, 2) := by decide +kernel
theorem dX4_init_18 : decode cX4_init 18 = .ok (.putfield 13, 3) := by decide +kernel
theorem dX4_init_21 : decode cX4_init 21 = .ok (.aload_n 0, 1) := by decide +kernel
theorem dX4_init_22 : decode cX4_init 22 = .ok (.sipush 320, 3) := by decide +kernel
theorem dX4_init_25 : decode cX4_init 25 = .ok (.newarray .int, 2) := by decide +kernel
theorem dX4_init_27 : decode cX4_init 27 = .ok (.putfield 16, 3) := by decide +kernel
theorem dX4_init_30 : decode cX4_init 30 = .ok (.aload_n 0, 1) := by decide +kernel
theorem dX4_init_31 : decode cX4_init 31 = .ok (.bipush 20, 2) := by decide +kernel
theorem dX4_init_33 : decode cX4_init 33 = .ok (.newarray .int, 2) := by decide +kernel
theorem dX4_init_35 : decode cX4_init 35 = .ok (.putfield 19, 3) := by decide +kernel
theorem dX4_init_38 : decode cX4_init 38 = .ok (.aload_n 0, 1) := by decide +kernel
theorem dX4_init_39 : decode cX4_init 39 = .ok (.bipush 20, 2) := by decide +kernel
theorem dX4_init_41 : decode cX4_init 41 = .ok (.newarray .int, 2) := by decide +kernel
theorem dX4_init_43 : decode cX4_init 43 = .ok (.putfield 22, 3) := by decide +kernel
theorem dX4_init_46 : decode cX4_init 46 = .ok (.aload_n 0, 1) := by decide +kernel
theorem dX4_init_47 : decode cX4_init 47 = .ok (.bipush 20, 2) := by decide +kernel
theorem dX4_init_49 : decode cX4_init 49 = .ok (.newarray .int, 2) := by decide +kernel
theorem dX4_init_51 : decode cX4_init 51 = .ok (.putfield 25, 3) := by decide +kernel
theorem dX4_init_54 : decode cX4_init 54 = .ok (.return_, 1) := by decide +kernel
theorem dX4_thrown_0 : decode cX4_thrown 0 = .ok (.aload_n 0, 1) := by decide +kernel
theorem dX4_thrown_1 : decode cX4_thrown 1 = .ok (.getfield 28, 3) := by decide +kernel
theorem dX4_thrown_4 : decode cX4_thrown 4 = .ok (.ireturn, 1) := by decide +kernel
theorem dX4_fails_0 : decode cX4_fails 0 = .ok (.aload_n 0, 1) := by decide +kernel
theorem dX4_fails_1 : decode cX4_fails 1 = .ok (.iload_n 1, 1) := by decide +kernel
theorem dX4_fails_2 : decode cX4_fails 2 = .ok (.putfield 28, 3) := by decide +kernel
theorem dX4_fails_5 : decode cX4_fails 5 = .ok (.iconst 0, 1) := by decide +kernel
theorem dX4_fails_6 : decode cX4_fails 6 = .ok (.ireturn, 1) := by decide +kernel
theorem dX4_in_0 : decode cX4_in 0 = .ok (.iload_n 0, 1) := by decide +kernel
theorem dX4_in_1 : decode cX4_in 1 = .ok (.iload_n 1, 1) := by decide +kernel
theorem dX4_in_2 : decode cX4_in 2 = .ok (.if_icmp .lt 12, 3) := by decide +kernel
theorem dX4_in_5 : decode cX4_in 5 = .ok (.iload_n 0, 1) := by decide +kernel
theorem dX4_in_6 : decode cX4_in 6 = .ok (.iload_n 2, 1) := by decide +kernel
theorem dX4_in_7 : decode cX4_in 7 = .ok (.if_icmp .gt 7, 3) := by decide +kernel
theorem dX4_in_10 : decode cX4_in 10 = .ok (.iconst 1, 1) := by decide +kernel
theorem dX4_in_11 : decode cX4_in 11 = .ok (.goto 4, 3) := by decide +kernel
theorem dX4_in_14 : decode cX4_in 14 = .ok (.iconst 0, 1) := by decide +kernel
theorem dX4_in_15 : decode cX4_in 15 = .ok (.ireturn, 1) := by decide +kernel
set_option maxRecDepth 20000 in
theorem ggX4_isRun_X4_in : GoodIn wsX4_isRun wsX4_in := goodIn_r _ [5] (by decide +kernel) (by decide +kernel)
set_option maxRecDepth 20000 in
theorem gX4_isRun_X4_in : GoodIn wsX4_isRun (va_wsS RX4 32 yX4_in wsX4_in) := goodIn_app (goodIn_of _ (by decide +kernel)) ggX4_isRun_X4_in
theorem dX4_isRun_0 : decode cX4_isRun 0 = .ok (.aload_n 0, 1) := by decide +kernel
theorem dX4_isRun_1 : decode cX4_isRun 1 = .ok (.iload_n 1, 1) := by decide +kernel
theorem dX4_isRun_2 : decode cX4_isRun 2 = .ok (.iconst 0, 1) := by decide +kernel
theorem dX4_isRun_3 : decode cX4_isRun 3 = .ok (.iconst 3, 1) := by decide +kernel
theorem dX4_isRun_4 : decode cX4_isRun 4 = .ok (.invokestatic 32, 3) := by decide +kernel
theorem dX4_isRun_7 : decode cX4_isRun 7 = .ok (.ifCond .eq 17, 3) := by decide +kernel
theorem dX4_isRun_10 : decode cX4_isRun 10 = .ok (.iload_n 2, 1) := by decide +kernel
theorem dX4_isRun_11 : decode cX4_isRun 11 = .ok (.iconst 0, 1) := by decide +kernel
theorem dX4_isRun_12 : decode cX4_isRun 12 = .ok (.bipush 7, 2) := by decide +kernel
theorem dX4_isRun_14 : decode cX4_isRun 14 = .ok (.invokestatic 32, 3) := by decide +kernel
theorem dX4_isRun_17 : decode cX4_isRun 17 = .ok (.ifCond .eq 7, 3) := by decide +kernel
theorem dX4_isRun_20 : decode cX4_isRun 20 = .ok (.iconst 0, 1) := by decide +kernel
theorem dX4_isRun_21 : decode cX4_isRun 21 = .ok (.goto 4, 3) := by decide +kernel
theorem dX4_isRun_24 : decode cX4_isRun 24 = .ok (.iconst 1, 1) := by decide +kernel
theorem dX4_isRun_25 : decode cX4_isRun 25 = .ok (.putfield 28, 3) := by decide +kernel
theorem dX4_isRun_28 : decode cX4_isRun 28 = .ok (.aload_n 0, 1) := by decide +kernel
theorem dX4_isRun_29 : decode cX4_isRun 29 = .ok (.getfield 28, 3) := by decide +kernel
theorem dX4_isRun_32 : decode cX4_isRun 32 = .ok (.ifCond .ne 7, 3) := by decide +kernel
theorem dX4_isRun_35 : decode cX4_isRun 35 = .ok (.iconst 1, 1) := by decide +kernel
theorem dX4_isRun_36 : decode cX4_isRun 36 = .ok (.goto 4, 3) := by decide +kernel
theorem dX4_isRun_39 : decode cX4_isRun 39 = .ok (.iconst 0, 1) := by decide +kernel
theorem dX4_isRun_40 : decode cX4_isRun 40 = .ok (.ireturn, 1) := by decide +kernel
set_option maxRecDepth 20000 in
theorem ggX4_isDeep_X4_isRun : GoodIn wsX4_isDeep wsX4_isRun := goodIn_r _ [6, 1, 7, 8, 5, 9, 10, 11, 12, 13, 14, 15, 16, 17, 18, 19] (by decide +kernel) (by decide +kernel)
set_option maxRecDepth 20000 in
theorem gX4_isDeep_X4_isRun : GoodIn wsX4_isDeep (wsV RX4 36 RX4 yX4_isRun wsX4_isRun) := goodIn_app (goodIn_of _ (by decide +kernel)) ggX4_isDeep_X4_isRun
set_option maxRecDepth 20000 in
theorem ggX4_isDeep_X4_in : GoodIn wsX4_isDeep wsX4_in := goodIn_r _ [9] (by decide +kernel) (by decide +kernel)
set_option maxRecDepth 20000 in
theorem gX4_isDeep_X4_in : GoodIn wsX4_isDeep (va_wsS RX4 32 yX4_in wsX4_in) := goodIn_app (goodIn_of _ (by decide +kernel)) ggX4_isDeep_X4_in
theorem dX4_isDeep_0 : decode cX4_isDeep 0 = .ok (.aload_n 0, 1) := by decide +kernel
theorem dX4_isDeep_1 : decode cX4_isDeep 1 = .ok (.iload_n 1, 1) := by decide +kernel
theorem dX4_isDeep_2 : decode cX4_isDeep 2 = .ok (.iload_n 2, 1) := by decide +kernel
theorem dX4_isDeep_3 : decode cX4_isDeep 3 = .ok (.invokevirtual 36, 3) := by decide +kernel
theorem dX4_isDeep_6 : decode cX4_isDeep 6 = .ok (.ifCond .eq 22, 3) := by decide +kernel
theorem dX4_isDeep_9 : decode cX4_isDeep 9 = .ok (.aload_n 0, 1) := by decide +kernel
theorem dX4_isDeep_10 : decode cX4_isDeep 10 = .ok (.iload_n 3, 1) := by decide +kernel
theorem dX4_isDeep_11 : decode cX4_isDeep 11 = .ok (.iconst 1, 1) := by decide +kernel
theorem dX4_isDeep_12 : decode cX4_isDeep 12 = .ok (.bipush 20, 2) := by decide +kernel
theorem dX4_isDeep_14 : decode cX4_isDeep 14 = .ok (.invokestatic 32, 3) := by decide +kernel
theorem dX4_isDeep_17 : decode cX4_isDeep 17 = .ok (.ifCond .eq 7, 3) := by decide +kernel
theorem dX4_isDeep_20 : decode cX4_isDeep 20 = .ok (.iconst 0, 1) := by decide +kernel
theorem dX4_isDeep_21 : decode cX4_isDeep 21 = .ok (.goto 4, 3) := by decide +kernel
theorem dX4_isDeep_24 : decode cX4_isDeep 24 = .ok (.iconst 1, 1) := by decide +kernel
theorem dX4_isDeep_25 : decode cX4_isDeep 25 = .ok (.putfield 28, 3) := by decide +kernel
theorem dX4_isDeep_28 : decode cX4_isDeep 28 = .ok (.aload_n 0, 1) := by decide +kernel
theorem dX4_isDeep_29 : decode cX4_isDeep 29 = .ok (.getfield 28, 3) := by decide +kernel
theorem dX4_isDeep_32 : decode cX4_isDeep 32 = .ok (.ifCond .ne 7, 3) := by decide +kernel
theorem dX4_isDeep_35 : decode cX4_isDeep 35 = .ok (.iconst 1, 1) := by decide +kernel
theorem dX4_isDeep_36 : decode cX4_isDeep 36 = .ok (.goto 4, 3) := by decide +kernel
theorem dX4_isDeep_39 : decode cX4_isDeep 39 = .ok (.iconst 0, 1) := by decide +kernel
theorem dX4_isDeep_40 : decode cX4_isDeep 40 = .ok (.ireturn, 1) := by decide +kernel
theorem dX4_placeOf_0 : decode cX4_placeOf 0 = .ok (.iconst 0, 1) := by decide +kernel
theorem dX4_placeOf_1 : decode cX4_placeOf 1 = .ok (.istore_n 3, 1) := by decide +kernel
theorem dX4_placeOf_2 : decode cX4_placeOf 2 = .ok (.iload_n 3, 1) := by decide +kernel
theorem dX4_placeOf_3 : decode cX4_placeOf 3 = .ok (.aload_n 0, 1) := by decide +kernel
theorem dX4_placeOf_4 : decode cX4_placeOf 4 = .ok (.getfield 7, 3) := by decide +kernel
theorem dX4_placeOf_7 : decode cX4_placeOf 7 = .ok (.iload_n 1, 1) := by decide +kernel
theorem dX4_placeOf_8 : decode cX4_placeOf 8 = .ok (.iaload, 1) := by decide +kernel
theorem dX4_placeOf_9 : decode cX4_placeOf 9 = .ok (.if_icmp .ge 27, 3) := by decide +kernel
theorem dX4_placeOf_12 : decode cX4_placeOf 12 = .ok (.aload_n 0, 1) := by decide +kernel
theorem dX4_placeOf_13 : decode cX4_placeOf 13 = .ok (.getfield 13, 3) := by decide +kernel
theorem dX4_placeOf_16 : decode cX4_placeOf 16 = .ok (.bipush 20, 2) := by decide +kernel
theorem dX4_placeOf_18 : decode cX4_placeOf 18 = .ok (.iload_n 1, 1) := by decide +kernel
theorem dX4_placeOf_19 : decode cX4_placeOf 19 = .ok (.imul, 1) := by decide +kernel
theorem dX4_placeOf_20 : decode cX4_placeOf 20 = .ok (.iload_n 3, 1) := by decide +kernel
theorem dX4_placeOf_21 : decode cX4_placeOf 21 = .ok (.iadd, 1) := by decide +kernel
theorem dX4_placeOf_22 : decode cX4_placeOf 22 = .ok (.iaload, 1) := by decide +kernel
theorem dX4_placeOf_23 : decode cX4_placeOf 23 = .ok (.bipush 64, 2) := by decide +kernel
theorem dX4_placeOf_25 : decode cX4_placeOf 25 = .ok (.irem, 1) := by decide +kernel
theorem dX4_placeOf_26 : decode cX4_placeOf 26 = .ok (.iload_n 2, 1) := by decide +kernel
theorem dX4_placeOf_27 : decode cX4_placeOf 27 = .ok (.if_icmp .eq 9, 3) := by decide +kernel
theorem dX4_placeOf_30 : decode cX4_placeOf 30 = .ok (.iinc 3 1, 3) := by decide +kernel
theorem dX4_placeOf_33 : decode cX4_placeOf 33 = .ok (.goto (-31), 3) := by decide +kernel
theorem dX4_placeOf_36 : decode cX4_placeOf 36 = .ok (.iload_n 3, 1) := by decide +kernel
theorem dX4_placeOf_37 : decode cX4_placeOf 37 = .ok (.ireturn, 1) := by decide +kernel
set_option maxRecDepth 20000 in
theorem ggX4_append_X4_isRun : GoodIn wsX4_append wsX4_isRun := goodIn_r _ [7, 8, 9, 10, 6, 11, 20, 21, 22, 23, 24, 25, 26, 27, 28, 29] (by decide +kernel) (by decide +kernel)
set_option maxRecDepth 20000 in
theorem gX4_append_X4_isRun : GoodIn wsX4_append (wsV RX4 36 RX4 yX4_isRun wsX4_isRun) := goodIn_app (goodIn_of _ (by decide +kernel)) ggX4_append_X4_isRun
set_option maxRecDepth 20000 in
theorem ggX4_append_X4_in : GoodIn wsX4_append wsX4_in := goodIn_r _ [11] (by decide +kernel) (by decide +kernel)
set_option maxRecDepth 20000 in
theorem gX4_append_X4_in : GoodIn wsX4_append (va_wsS RX4 32 yX4_in wsX4_in) := goodIn_app (goodIn_of _ (by decide +kernel)) ggX4_append_X4_in
set_option maxRecDepth 20000 in
theorem ggX4_append_X4_fails : GoodIn wsX4_append wsX4_fails := goodIn_r _ [15, 8, 20, 21, 22, 23, 24, 25, 26, 27, 28, 29] (by decide +kernel) (by decide +kernel)
set_option maxRecDepth 20000 in
theorem gX4_append_X4_fails : GoodIn wsX4_append (wsV RX4 40 RX4 yX4_fails wsX4_fails) := goodIn_app (goodIn_of _ (by decide +kernel)) ggX4_append_X4_fails
set_option maxRecDepth 20000 in
theorem ggX4_append_X4_placeOf : GoodIn wsX4_append wsX4_placeOf := goodIn_r _ [19, 1, 2, 20, 21, 22, 23, 24, 25, 26, 27, 28, 29] (by decide +kernel) (by decide +kernel)
set_option maxRecDepth 20000 in
theorem gX4_append_X4_placeOf : GoodIn wsX4_append (wsV RX4 44 RX4 yX4_placeOf wsX4_placeOf) := goodIn_app (goodIn_of _ (by decide +kernel)) ggX4_append_X4_placeOf
theorem dX4_append_0 : decode cX4_append 0 = .ok (.aload_n 0, 1) := by decide +kernel
theorem dX4_append_1 : decode cX4_append 1 = .ok (.iload_n 1, 1) := by decide +kernel
theorem dX4_append_2 : decode cX4_append 2 = .ok (.iload_n 2, 1) := by decide +kernel
theorem dX4_append_3 : decode cX4_append 3 = .ok (.invokevirtual 36, 3) := by decide +kernel
theorem dX4_append_6 : decode cX4_append 6 = .ok (.ifCond .ne 5, 3) := by decide +kernel
theorem dX4_append_9 : decode cX4_append 9 = .ok (.iconst 0, 1) := by decide +kernel
theorem dX4_append_10 : decode cX4_append 10 = .ok (.ireturn, 1) := by decide +kernel
theorem dX4_append_11 : decode cX4_append 11 = .ok (.iload_n 3, 1) := by decide +kernel
theorem dX4_append_12 : decode cX4_append 12 = .ok (.iconst 0, 1) := by decide +kernel
theorem dX4_append_13 : decode cX4_append 13 = .ok (.bipush 39, 2) := by decide +kernel
theorem dX4_append_15 : decode cX4_append 15 = .ok (.invokestatic 32, 3) := by decide +kernel
theorem dX4_append_18 : decode cX4_append 18 = .ok (.ifCond .eq 15, 3) := by decide +kernel
theorem dX4_append_21 : decode cX4_append 21 = .ok (.iload 4, 2) := by decide +kernel
theorem dX4_append_23 : decode cX4_append 23 = .ok (.iconst 0, 1) := by decide +kernel
theorem dX4_append_24 : decode cX4_append 24 = .ok (.sipush 1000, 3) := by decide +kernel
theorem dX4_append_27 : decode cX4_append 27 = .ok (.invokestatic 32, 3) := by decide +kernel
theorem dX4_append_30 : decode cX4_append 30 = .ok (.ifCond .ne 9, 3) := by decide +kernel
theorem dX4_append_33 : decode cX4_append 33 = .ok (.aload_n 0, 1) := by decide +kernel
theorem dX4_append_34 : decode cX4_append 34 = .ok (.iconst 1, 1) := by decide +kernel
theorem dX4_append_35 : decode cX4_append 35 = .ok (.invokevirtual 40, 3) := by decide +kernel
theorem dX4_append_38 : decode cX4_append 38 = .ok (.ireturn, 1) := by decide +kernel
theorem dX4_append_39 : decode cX4_append 39 = .ok (.bipush 8, 2) := by decide +kernel
theorem dX4_append_41 : decode cX4_append 41 = .ok (.iload_n 1, 1) := by decide +kernel
theorem dX4_append_42 : decode cX4_append 42 = .ok (.imul, 1) := by decide +kernel
theorem dX4_append_43 : decode cX4_append 43 = .ok (.iload_n 2, 1) := by decide +kernel
theorem dX4_append_44 : decode cX4_append 44 = .ok (.iadd, 1) := by decide +kernel
theorem dX4_append_45 : decode cX4_append 45 = .ok (.istore 5, 2) := by decide +kernel
theorem dX4_append_47 : decode cX4_append 47 = .ok (.aload_n 0, 1) := by decide +kernel
theorem dX4_append_48 : decode cX4_append 48 = .ok (.getfield 7, 3) := by decide +kernel
theorem dX4_append_51 : decode cX4_append 51 = .ok (.iload 5, 2) := by decide +kernel
theorem dX4_append_53 : decode cX4_append 53 = .ok (.iaload, 1) := by decide +kernel
theorem dX4_append_54 : decode cX4_append 54 = .ok (.istore 6, 2) := by decide +kernel
theorem dX4_append_56 : decode cX4_append 56 = .ok (.iload 6, 2) := by decide +kernel
theorem dX4_append_58 : decode cX4_append 58 = .ok (.bipush 20, 2) := by decide +kernel
theorem dX4_append_60 : decode cX4_append 60 = .ok (.if_icmp .eq 43, 3) := by decide +kernel
theorem dX4_append_63 : decode cX4_append 63 = .ok (.aload_n 0, 1) := by decide +kernel
theorem dX4_append_64 : decode cX4_append 64 = .ok (.iload 5, 2) := by decide +kernel
theorem dX4_append_66 : decode cX4_append 66 = .ok (.iload_n 3, 1) := by decide +kernel
theorem dX4_append_67 : decode cX4_append 67 = .ok (.invokevirtual 44, 3) := by decide +kernel
theorem dX4_append_70 : decode cX4_append 70 = .ok (.iload 6, 2) := by decide +kernel
theorem dX4_append_72 : decode cX4_append 72 = .ok (.if_icmp .lt 31, 3) := by decide +kernel
theorem dX4_append_75 : decode cX4_append 75 = .ok (.iload 6, 2) := by decide +kernel
theorem dX4_append_77 : decode cX4_append 77 = .ok (.ifCond .le 32, 3) := by decide +kernel
theorem dX4_append_80 : decode cX4_append 80 = .ok (.aload_n 0, 1) := by decide +kernel
theorem dX4_append_81 : decode cX4_append 81 = .ok (.getfield 13, 3) := by decide +kernel
theorem dX4_append_84 : decode cX4_append 84 = .ok (.bipush 20, 2) := by decide +kernel
theorem dX4_append_86 : decode cX4_append 86 = .ok (.iload 5, 2) := by decide +kernel
theorem dX4_append_88 : decode cX4_append 88 = .ok (.imul, 1) := by decide +kernel
theorem dX4_append_89 : decode cX4_append 89 = .ok (.iload 6, 2) := by decide +kernel
theorem dX4_append_91 : decode cX4_append 91 = .ok (.iadd, 1) := by decide +kernel
theorem dX4_append_92 : decode cX4_append 92 = .ok (.iconst 1, 1) := by decide +kernel
theorem dX4_append_93 : decode cX4_append 93 = .ok (.isub, 1) := by decide +kernel
theorem dX4_append_94 : decode cX4_append 94 = .ok (.iaload, 1) := by decide +kernel
theorem dX4_append_95 : decode cX4_append 95 = .ok (.bipush 64, 2) := by decide +kernel
theorem dX4_append_97 : decode cX4_append 97 = .ok (.idiv, 1) := by decide +kernel
theorem dX4_append_98 : decode cX4_append 98 = .ok (.iload 4, 2) := by decide +kernel
theorem dX4_append_100 : decode cX4_append 100 = .ok (.if_icmp .ge 9, 3) := by decide +kernel
theorem dX4_append_103 : decode cX4_append 103 = .ok (.aload_n 0, 1) := by decide +kernel
theorem dX4_append_104 : decode cX4_append 104 = .ok (.iconst 2, 1) := by decide +kernel
theorem dX4_append_105 : decode cX4_append 105 = .ok (.invokevirtual 40, 3) := by decide +kernel
theorem dX4_append_108 : decode cX4_append 108 = .ok (.ireturn, 1) := by decide +kernel
theorem dX4_append_109 : decode cX4_append 109 = .ok (.aload_n 0, 1) := by decide +kernel
theorem dX4_append_110 : decode cX4_append 110 = .ok (.getfield 13, 3) := by decide +kernel
theorem dX4_append_113 : decode cX4_append 113 = .ok (.bipush 20, 2) := by decide +kernel
theorem dX4_append_115 : decode cX4_append 115 = .ok (.iload 5, 2) := by decide +kernel
theorem dX4_append_117 : decode cX4_append 117 = .ok (.imul, 1) := by decide +kernel
theorem dX4_append_118 : decode cX4_append 118 = .ok (.iload 6, 2) := by decide +kernel
theorem dX4_append_120 : decode cX4_append 120 = .ok (.iadd, 1) := by decide +kernel
theorem dX4_append_121 : decode cX4_append 121 = .ok (.iload_n 3, 1) := by decide +kernel
theorem dX4_append_122 : decode cX4_append 122 = .ok (.bipush 64, 2) := by decide +kernel
theorem dX4_append_124 : decode cX4_append 124 = .ok (.iload 4, 2) := by decide +kernel
theorem dX4_append_126 : decode cX4_append 126 = .ok (.imul, 1) := by decide +kernel
theorem dX4_append_127 : decode cX4_append 127 = .ok (.iadd, 1) := by decide +kernel
theorem dX4_append_128 : decode cX4_append 128 = .ok (.iastore, 1) := by decide +kernel
theorem dX4_append_129 : decode cX4_append 129 = .ok (.aload_n 0, 1) := by decide +kernel
theorem dX4_append_130 : decode cX4_append 130 = .ok (.getfield 7, 3) := by decide +kernel
theorem dX4_append_133 : decode cX4_append 133 = .ok (.iload 5, 2) := by decide +kernel
theorem dX4_append_135 : decode cX4_append 135 = .ok (.dup2, 1) := by decide +kernel
theorem dX4_append_136 : decode cX4_append 136 = .ok (.iaload, 1) := by decide +kernel
theorem dX4_append_137 : decode cX4_append 137 = .ok (.iconst 1, 1) := by decide +kernel
theorem dX4_append_138 : decode cX4_append 138 = .ok (.iadd, 1) := by decide +kernel
theorem dX4_append_139 : decode cX4_append 139 = .ok (.iastore, 1) := by decide +kernel
theorem dX4_append_140 : decode cX4_append 140 = .ok (.iload 6, 2) := by decide +kernel
theorem dX4_append_142 : decode cX4_append 142 = .ok (.iconst 1, 1) := by decide +kernel
theorem dX4_append_143 : decode cX4_append 143 = .ok (.iadd, 1) := by decide +kernel
theorem dX4_append_144 : decode cX4_append 144 = .ok (.ireturn, 1) := by decide +kernel
set_option maxRecDepth 20000 in
theorem ggX4_empty_X4_isRun : GoodIn wsX4_empty wsX4_isRun := goodIn_r _ [6, 7, 8, 9, 5, 10, 11, 12, 13, 14, 15, 16, 17, 18, 19, 20] (by decide +kernel) (by decide +kernel)
set_option maxRecDepth 20000 in
theorem gX4_empty_X4_isRun : GoodIn wsX4_empty (wsV RX4 36 RX4 yX4_isRun wsX4_isRun) := goodIn_app (goodIn_of _ (by decide +kernel)) ggX4_empty_X4_isRun
theorem dX4_empty_0 : decode cX4_empty 0 = .ok (.aload_n 0, 1) := by decide +kernel
theorem dX4_empty_1 : decode cX4_empty 1 = .ok (.iload_n 1, 1) := by decide +kernel
theorem dX4_empty_2 : decode cX4_empty 2 = .ok (.iload_n 2, 1) := by decide +kernel
theorem dX4_empty_3 : decode cX4_empty 3 = .ok (.invokevirtual 36, 3) := by decide +kernel
theorem dX4_empty_6 : decode cX4_empty 6 = .ok (.ifCond .ne 5, 3) := by decide +kernel
theorem dX4_empty_9 : decode cX4_empty 9 = .ok (.iconst 0, 1) := by decide +kernel
theorem dX4_empty_10 : decode cX4_empty 10 = .ok (.ireturn, 1) := by decide +kernel
theorem dX4_empty_11 : decode cX4_empty 11 = .ok (.aload_n 0, 1) := by decide +kernel
theorem dX4_empty_12 : decode cX4_empty 12 = .ok (.getfield 7, 3) := by decide +kernel
theorem dX4_empty_15 : decode cX4_empty 15 = .ok (.bipush 8, 2) := by decide +kernel
theorem dX4_empty_17 : decode cX4_empty 17 = .ok (.iload_n 1, 1) := by decide +kernel
theorem dX4_empty_18 : decode cX4_empty 18 = .ok (.imul, 1) := by decide +kernel
theorem dX4_empty_19 : decode cX4_empty 19 = .ok (.iload_n 2, 1) := by decide +kernel
theorem dX4_empty_20 : decode cX4_empty 20 = .ok (.iadd, 1) := by decide +kernel
theorem dX4_empty_21 : decode cX4_empty 21 = .ok (.iaload, 1) := by decide +kernel
theorem dX4_empty_22 : decode cX4_empty 22 = .ok (.istore_n 3, 1) := by decide +kernel
theorem dX4_empty_23 : decode cX4_empty 23 = .ok (.aload_n 0, 1) := by decide +kernel
theorem dX4_empty_24 : decode cX4_empty 24 = .ok (.getfield 7, 3) := by decide +kernel
theorem dX4_empty_27 : decode cX4_empty 27 = .ok (.bipush 8, 2) := by decide +kernel
theorem dX4_empty_29 : decode cX4_empty 29 = .ok (.iload_n 1, 1) := by decide +kernel
theorem dX4_empty_30 : decode cX4_empty 30 = .ok (.imul, 1) := by decide +kernel
theorem dX4_empty_31 : decode cX4_empty 31 = .ok (.iload_n 2, 1) := by decide +kernel
theorem dX4_empty_32 : decode cX4_empty 32 = .ok (.iadd, 1) := by decide +kernel
theorem dX4_empty_33 : decode cX4_empty 33 = .ok (.iconst 0, 1) := by decide +kernel
theorem dX4_empty_34 : decode cX4_empty 34 = .ok (.iastore, 1) := by decide +kernel
theorem dX4_empty_35 : decode cX4_empty 35 = .ok (.iload_n 3, 1) := by decide +kernel
theorem dX4_empty_36 : decode cX4_empty 36 = .ok (.ireturn, 1) := by decide +kernel
set_option maxRecDepth 20000 in
theorem ggX4_length_X4_isRun : GoodIn wsX4_length wsX4_isRun := goodIn_r _ [6, 7, 8, 9, 5, 10, 11, 12, 13, 14, 15, 16, 17, 18, 19, 20] (by decide +kernel) (by decide +kernel)
set_option maxRecDepth 20000 in
theorem gX4_length_X4_isRun : GoodIn wsX4_length (wsV RX4 36 RX4 yX4_isRun wsX4_isRun) := goodIn_app (goodIn_of _ (by decide +kernel)) ggX4_length_X4_isRun
theorem dX4_length_0 : decode cX4_length 0 = .ok (.aload_n 0, 1) := by decide +kernel
theorem dX4_length_1 : decode cX4_length 1 = .ok (.iload_n 1, 1) := by decide +kernel
theorem dX4_length_2 : decode cX4_length 2 = .ok (.iload_n 2, 1) := by decide +kernel
theorem dX4_length_3 : decode cX4_length 3 = .ok (.invokevirtual 36, 3) := by decide +kernel
theorem dX4_length_6 : decode cX4_length 6 = .ok (.ifCond .eq 17, 3) := by decide +kernel
theorem dX4_length_9 : decode cX4_length 9 = .ok (.aload_n 0, 1) := by decide +kernel
theorem dX4_length_10 : decode cX4_length 10 = .ok (.getfield 7, 3) := by decide +kernel
theorem dX4_length_13 : decode cX4_length 13 = .ok (.bipush 8, 2) := by decide +kernel
theorem dX4_length_15 : decode cX4_length 15 = .ok (.iload_n 1, 1) := by decide +kernel
theorem dX4_length_16 : decode cX4_length 16 = .ok (.imul, 1) := by decide +kernel
theorem dX4_length_17 : decode cX4_length 17 = .ok (.iload_n 2, 1) := by decide +kernel
theorem dX4_length_18 : decode cX4_length 18 = .ok (.iadd, 1) := by decide +kernel
theorem dX4_length_19 : decode cX4_length 19 = .ok (.iaload, 1) := by decide +kernel
theorem dX4_length_20 : decode cX4_length 20 = .ok (.goto 4, 3) := by decide +kernel
theorem dX4_length_23 : decode cX4_length 23 = .ok (.iconst 0, 1) := by decide +kernel
theorem dX4_length_24 : decode cX4_length 24 = .ok (.ireturn, 1) := by decide +kernel
set_option maxRecDepth 20000 in
theorem ggX4_at_X4_isDeep : GoodIn wsX4_at wsX4_isDeep := goodIn_r _ [7, 8, 9, 10, 11, 6, 12, 13, 14, 15, 16, 17, 18, 19, 20, 21, 22, 23, 24, 25] (by decide +kernel) (by decide +kernel)
set_option maxRecDepth 20000 in
theorem gX4_at_X4_isDeep : GoodIn wsX4_at (wsV RX4 48 RX4 yX4_isDeep wsX4_isDeep) := goodIn_app (goodIn_of _ (by decide +kernel)) ggX4_at_X4_isDeep
theorem dX4_at_0 : decode cX4_at 0 = .ok (.aload_n 0, 1) := by decide +kernel
theorem dX4_at_1 : decode cX4_at 1 = .ok (.iload_n 1, 1) := by decide +kernel
theorem dX4_at_2 : decode cX4_at 2 = .ok (.iload_n 2, 1) := by decide +kernel
theorem dX4_at_3 : decode cX4_at 3 = .ok (.iload_n 3, 1) := by decide +kernel
theorem dX4_at_4 : decode cX4_at 4 = .ok (.invokevirtual 48, 3) := by decide +kernel
theorem dX4_at_7 : decode cX4_at 7 = .ok (.ifCond .ne 5, 3) := by decide +kernel
theorem dX4_at_10 : decode cX4_at 10 = .ok (.iconst 0, 1) := by decide +kernel
theorem dX4_at_11 : decode cX4_at 11 = .ok (.ireturn, 1) := by decide +kernel
theorem dX4_at_12 : decode cX4_at 12 = .ok (.bipush 8, 2) := by decide +kernel
theorem dX4_at_14 : decode cX4_at 14 = .ok (.iload_n 1, 1) := by decide +kernel
theorem dX4_at_15 : decode cX4_at 15 = .ok (.imul, 1) := by decide +kernel
theorem dX4_at_16 : decode cX4_at 16 = .ok (.iload_n 2, 1) := by decide +kernel
theorem dX4_at_17 : decode cX4_at 17 = .ok (.iadd, 1) := by decide +kernel
theorem dX4_at_18 : decode cX4_at 18 = .ok (.istore 4, 2) := by decide +kernel
theorem dX4_at_20 : decode cX4_at 20 = .ok (.iload_n 3, 1) := by decide +kernel
theorem dX4_at_21 : decode cX4_at 21 = .ok (.aload_n 0, 1) := by decide +kernel
theorem dX4_at_22 : decode cX4_at 22 = .ok (.getfield 7, 3) := by decide +kernel
theorem dX4_at_25 : decode cX4_at 25 = .ok (.iload 4, 2) := by decide +kernel
theorem dX4_at_27 : decode cX4_at 27 = .ok (.iaload, 1) := by decide +kernel
theorem dX4_at_28 : decode cX4_at 28 = .ok (.if_icmp .le 7, 3) := by decide +kernel
theorem dX4_at_31 : decode cX4_at 31 = .ok (.iconst (-1), 1) := by decide +kernel
theorem dX4_at_32 : decode cX4_at 32 = .ok (.goto 20, 3) := by decide +kernel
theorem dX4_at_35 : decode cX4_at 35 = .ok (.aload_n 0, 1) := by decide +kernel
theorem dX4_at_36 : decode cX4_at 36 = .ok (.getfield 13, 3) := by decide +kernel
theorem dX4_at_39 : decode cX4_at 39 = .ok (.bipush 20, 2) := by decide +kernel
theorem dX4_at_41 : decode cX4_at 41 = .ok (.iload 4, 2) := by decide +kernel
theorem dX4_at_43 : decode cX4_at 43 = .ok (.imul, 1) := by decide +kernel
theorem dX4_at_44 : decode cX4_at 44 = .ok (.iload_n 3, 1) := by decide +kernel
theorem dX4_at_45 : decode cX4_at 45 = .ok (.iadd, 1) := by decide +kernel
theorem dX4_at_46 : decode cX4_at 46 = .ok (.iconst 1, 1) := by decide +kernel
theorem dX4_at_47 : decode cX4_at 47 = .ok (.isub, 1) := by decide +kernel
theorem dX4_at_48 : decode cX4_at 48 = .ok (.iaload, 1) := by decide +kernel
theorem dX4_at_49 : decode cX4_at 49 = .ok (.bipush 64, 2) := by decide +kernel
theorem dX4_at_51 : decode cX4_at 51 = .ok (.irem, 1) := by decide +kernel
theorem dX4_at_52 : decode cX4_at 52 = .ok (.ireturn, 1) := by decide +kernel
set_option maxRecDepth 20000 in
theorem ggX4_judge_X4_in : GoodIn wsX4_judge wsX4_in := goodIn_r _ [6] (by decide +kernel) (by decide +kernel)
set_option maxRecDepth 20000 in
theorem gX4_judge_X4_in : GoodIn wsX4_judge (va_wsS RX4 32 yX4_in wsX4_in) := goodIn_app (goodIn_of _ (by decide +kernel)) ggX4_judge_X4_in
theorem dX4_judge_0 : decode cX4_judge 0 = .ok (.aload_n 0, 1) := by decide +kernel
theorem dX4_judge_1 : decode cX4_judge 1 = .ok (.iload_n 1, 1) := by decide +kernel
theorem dX4_judge_2 : decode cX4_judge 2 = .ok (.iconst 0, 1) := by decide +kernel
theorem dX4_judge_3 : decode cX4_judge 3 = .ok (.bipush 7, 2) := by decide +kernel
theorem dX4_judge_5 : decode cX4_judge 5 = .ok (.invokestatic 32, 3) := by decide +kernel
theorem dX4_judge_8 : decode cX4_judge 8 = .ok (.ifCond .eq 26, 3) := by decide +kernel
theorem dX4_judge_11 : decode cX4_judge 11 = .ok (.iload_n 2, 1) := by decide +kernel
theorem dX4_judge_12 : decode cX4_judge 12 = .ok (.iconst 0, 1) := by decide +kernel
theorem dX4_judge_13 : decode cX4_judge 13 = .ok (.bipush 39, 2) := by decide +kernel
theorem dX4_judge_15 : decode cX4_judge 15 = .ok (.invokestatic 32, 3) := by decide +kernel
theorem dX4_judge_18 : decode cX4_judge 18 = .ok (.ifCond .eq 16, 3) := by decide +kernel
theorem dX4_judge_21 : decode cX4_judge 21 = .ok (.iload_n 3, 1) := by decide +kernel
theorem dX4_judge_22 : decode cX4_judge 22 = .ok (.iconst 0, 1) := by decide +kernel
theorem dX4_judge_23 : decode cX4_judge 23 = .ok (.iconst 2, 1) := by decide +kernel
theorem dX4_judge_24 : decode cX4_judge 24 = .ok (.invokestatic 32, 3) := by decide +kernel
theorem dX4_judge_27 : decode cX4_judge 27 = .ok (.ifCond .eq 7, 3) := by decide +kernel
theorem dX4_judge_30 : decode cX4_judge 30 = .ok (.iconst 0, 1) := by decide +kernel
theorem dX4_judge_31 : decode cX4_judge 31 = .ok (.goto 4, 3) := by decide +kernel
theorem dX4_judge_34 : decode cX4_judge 34 = .ok (.iconst 1, 1) := by decide +kernel
theorem dX4_judge_35 : decode cX4_judge 35 = .ok (.putfield 28, 3) := by decide +kernel
theorem dX4_judge_38 : decode cX4_judge 38 = .ok (.aload_n 0, 1) := by decide +kernel
theorem dX4_judge_39 : decode cX4_judge 39 = .ok (.getfield 28, 3) := by decide +kernel
theorem dX4_judge_42 : decode cX4_judge 42 = .ok (.ifCond .le 5, 3) := by decide +kernel
theorem dX4_judge_45 : decode cX4_judge 45 = .ok (.iconst 0, 1) := by decide +kernel
theorem dX4_judge_46 : decode cX4_judge 46 = .ok (.ireturn, 1) := by decide +kernel
theorem dX4_judge_47 : decode cX4_judge 47 = .ok (.aload_n 0, 1) := by decide +kernel
theorem dX4_judge_48 : decode cX4_judge 48 = .ok (.getfield 16, 3) := by decide +kernel
theorem dX4_judge_51 : decode cX4_judge 51 = .ok (.bipush 40, 2) := by decide +kernel
theorem dX4_judge_53 : decode cX4_judge 53 = .ok (.iload_n 1, 1) := by decide +kernel
theorem dX4_judge_54 : decode cX4_judge 54 = .ok (.imul, 1) := by decide +kernel
theorem dX4_judge_55 : decode cX4_judge 55 = .ok (.iload_n 2, 1) := by decide +kernel
theorem dX4_judge_56 : decode cX4_judge 56 = .ok (.iadd, 1) := by decide +kernel
theorem dX4_judge_57 : decode cX4_judge 57 = .ok (.iaload, 1) := by decide +kernel
theorem dX4_judge_58 : decode cX4_judge 58 = .ok (.istore 4, 2) := by decide +kernel
theorem dX4_judge_60 : decode cX4_judge 60 = .ok (.aload_n 0, 1) := by decide +kernel
theorem dX4_judge_61 : decode cX4_judge 61 = .ok (.getfield 16, 3) := by decide +kernel
theorem dX4_judge_64 : decode cX4_judge 64 = .ok (.bipush 40, 2) := by decide +kernel
theorem dX4_judge_66 : decode cX4_judge 66 = .ok (.iload_n 1, 1) := by decide +kernel
theorem dX4_judge_67 : decode cX4_judge 67 = .ok (.imul, 1) := by decide +kernel
theorem dX4_judge_68 : decode cX4_judge 68 = .ok (.iload_n 2, 1) := by decide +kernel
theorem dX4_judge_69 : decode cX4_judge 69 = .ok (.iadd, 1) := by decide +kernel
theorem dX4_judge_70 : decode cX4_judge 70 = .ok (.iload_n 3, 1) := by decide +kernel
theorem dX4_judge_71 : decode cX4_judge 71 = .ok (.iastore, 1) := by decide +kernel
theorem dX4_judge_72 : decode cX4_judge 72 = .ok (.iload 4, 2) := by decide +kernel
theorem dX4_judge_74 : decode cX4_judge 74 = .ok (.ireturn, 1) := by decide +kernel
set_option maxRecDepth 20000 in
theorem ggX4_isPooled_X4_placeOf : GoodIn wsX4_isPooled wsX4_placeOf := goodIn_r _ [6, 1, 7, 8, 9, 10, 11, 12, 13, 14, 15, 16, 17] (by decide +kernel) (by decide +kernel)
set_option maxRecDepth 20000 in
theorem gX4_isPooled_X4_placeOf : GoodIn wsX4_isPooled (wsV RX4 44 RX4 yX4_placeOf wsX4_placeOf) := goodIn_app (goodIn_of _ (by decide +kernel)) ggX4_isPooled_X4_placeOf
theorem dX4_isPooled_0 : decode cX4_isPooled 0 = .ok (.iconst 0, 1) := by decide +kernel
theorem dX4_isPooled_1 : decode cX4_isPooled 1 = .ok (.istore 4, 2) := by decide +kernel
theorem dX4_isPooled_3 : decode cX4_isPooled 3 = .ok (.iconst 0, 1) := by decide +kernel
theorem dX4_isPooled_4 : decode cX4_isPooled 4 = .ok (.istore 5, 2) := by decide +kernel
theorem dX4_isPooled_6 : decode cX4_isPooled 6 = .ok (.iload 5, 2) := by decide +kernel
theorem dX4_isPooled_8 : decode cX4_isPooled 8 = .ok (.iconst 4, 1) := by decide +kernel
theorem dX4_isPooled_9 : decode cX4_isPooled 9 = .ok (.if_icmp .ge 57, 3) := by decide +kernel
theorem dX4_isPooled_12 : decode cX4_isPooled 12 = .ok (.bipush 8, 2) := by decide +kernel
theorem dX4_isPooled_14 : decode cX4_isPooled 14 = .ok (.iload 5, 2) := by decide +kernel
theorem dX4_isPooled_16 : decode cX4_isPooled 16 = .ok (.imul, 1) := by decide +kernel
theorem dX4_isPooled_17 : decode cX4_isPooled 17 = .ok (.iload_n 1, 1) := by decide +kernel
theorem dX4_isPooled_18 : decode cX4_isPooled 18 = .ok (.iadd, 1) := by decide +kernel
theorem dX4_isPooled_19 : decode cX4_isPooled 19 = .ok (.istore 6, 2) := by decide +kernel
theorem dX4_isPooled_21 : decode cX4_isPooled 21 = .ok (.aload_n 0, 1) := by decide +kernel
theorem dX4_isPooled_22 : decode cX4_isPooled 22 = .ok (.iload 6, 2) := by decide +kernel
theorem dX4_isPooled_24 : decode cX4_isPooled 24 = .ok (.iload_n 2, 1) := by decide +kernel
theorem dX4_isPooled_25 : decode cX4_isPooled 25 = .ok (.invokevirtual 44, 3) := by decide +kernel
theorem dX4_isPooled_28 : decode cX4_isPooled 28 = .ok (.istore 7, 2) := by decide +kernel
theorem dX4_isPooled_30 : decode cX4_isPooled 30 = .ok (.iload 4, 2) := by decide +kernel
theorem dX4_isPooled_32 : decode cX4_isPooled 32 = .ok (.ifCond .ne 21, 3) := by decide +kernel
theorem dX4_isPooled_35 : decode cX4_isPooled 35 = .ok (.iload 7, 2) := by decide +kernel
theorem dX4_isPooled_37 : decode cX4_isPooled 37 = .ok (.aload_n 0, 1) := by decide +kernel
theorem dX4_isPooled_38 : decode cX4_isPooled 38 = .ok (.getfield 7, 3) := by decide +kernel
