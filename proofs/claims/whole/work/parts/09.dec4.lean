theorem dX4_best_0 : decode cX4_best 0 = .ok (.aload_n 0, 1) := by decide +kernel
theorem dX4_best_1 : decode cX4_best 1 = .ok (.iload_n 1, 1) := by decide +kernel
theorem dX4_best_2 : decode cX4_best 2 = .ok (.iconst 1, 1) := by decide +kernel
theorem dX4_best_3 : decode cX4_best 3 = .ok (.bipush 20, 2) := by decide +kernel
theorem dX4_best_5 : decode cX4_best 5 = .ok (.invokestatic 32, 3) := by decide +kernel
theorem dX4_best_8 : decode cX4_best 8 = .ok (.ifCond .eq 7, 3) := by decide +kernel
theorem dX4_best_11 : decode cX4_best 11 = .ok (.iconst 0, 1) := by decide +kernel
theorem dX4_best_12 : decode cX4_best 12 = .ok (.goto 4, 3) := by decide +kernel
theorem dX4_best_15 : decode cX4_best 15 = .ok (.iconst 1, 1) := by decide +kernel
theorem dX4_best_16 : decode cX4_best 16 = .ok (.putfield 28, 3) := by decide +kernel
theorem dX4_best_19 : decode cX4_best 19 = .ok (.iconst 0, 1) := by decide +kernel
theorem dX4_best_20 : decode cX4_best 20 = .ok (.istore_n 2, 1) := by decide +kernel
theorem dX4_best_21 : decode cX4_best 21 = .ok (.iconst 1, 1) := by decide +kernel
theorem dX4_best_22 : decode cX4_best 22 = .ok (.istore_n 3, 1) := by decide +kernel
theorem dX4_best_23 : decode cX4_best 23 = .ok (.iload_n 3, 1) := by decide +kernel
theorem dX4_best_24 : decode cX4_best 24 = .ok (.iconst 4, 1) := by decide +kernel
theorem dX4_best_25 : decode cX4_best 25 = .ok (.if_icmp .ge 84, 3) := by decide +kernel
theorem dX4_best_28 : decode cX4_best 28 = .ok (.aload_n 0, 1) := by decide +kernel
theorem dX4_best_29 : decode cX4_best 29 = .ok (.getfield 28, 3) := by decide +kernel
theorem dX4_best_32 : decode cX4_best 32 = .ok (.ifCond .ne 77, 3) := by decide +kernel
theorem dX4_best_35 : decode cX4_best 35 = .ok (.aload_n 0, 1) := by decide +kernel
theorem dX4_best_36 : decode cX4_best 36 = .ok (.iload_n 3, 1) := by decide +kernel
theorem dX4_best_37 : decode cX4_best 37 = .ok (.iload_n 1, 1) := by decide +kernel
theorem dX4_best_38 : decode cX4_best 38 = .ok (.invokevirtual 92, 3) := by decide +kernel
theorem dX4_best_41 : decode cX4_best 41 = .ok (.aload_n 0, 1) := by decide +kernel
theorem dX4_best_42 : decode cX4_best 42 = .ok (.iload_n 2, 1) := by decide +kernel
theorem dX4_best_43 : decode cX4_best 43 = .ok (.invokevirtual 89, 3) := by decide +kernel
theorem dX4_best_46 : decode cX4_best 46 = .ok (.ifCond .ne 7, 3) := by decide +kernel
theorem dX4_best_49 : decode cX4_best 49 = .ok (.iconst 1, 1) := by decide +kernel
theorem dX4_best_50 : decode cX4_best 50 = .ok (.goto 8, 3) := by decide +kernel
theorem dX4_best_53 : decode cX4_best 53 = .ok (.aload_n 0, 1) := by decide +kernel
theorem dX4_best_54 : decode cX4_best 54 = .ok (.iload_n 2, 1) := by decide +kernel
theorem dX4_best_55 : decode cX4_best 55 = .ok (.invokevirtual 89, 3) := by decide +kernel
theorem dX4_best_58 : decode cX4_best 58 = .ok (.i2l, 1) := by decide +kernel
theorem dX4_best_59 : decode cX4_best 59 = .ok (.lmul, 1) := by decide +kernel
theorem dX4_best_60 : decode cX4_best 60 = .ok (.lstore 4, 2) := by decide +kernel
theorem dX4_best_62 : decode cX4_best 62 = .ok (.aload_n 0, 1) := by decide +kernel
theorem dX4_best_63 : decode cX4_best 63 = .ok (.iload_n 2, 1) := by decide +kernel
theorem dX4_best_64 : decode cX4_best 64 = .ok (.iload_n 1, 1) := by decide +kernel
theorem dX4_best_65 : decode cX4_best 65 = .ok (.invokevirtual 92, 3) := by decide +kernel
theorem dX4_best_68 : decode cX4_best 68 = .ok (.aload_n 0, 1) := by decide +kernel
theorem dX4_best_69 : decode cX4_best 69 = .ok (.iload_n 3, 1) := by decide +kernel
theorem dX4_best_70 : decode cX4_best 70 = .ok (.invokevirtual 89, 3) := by decide +kernel
theorem dX4_best_73 : decode cX4_best 73 = .ok (.ifCond .ne 7, 3) := by decide +kernel
theorem dX4_best_76 : decode cX4_best 76 = .ok (.iconst 1, 1) := by decide +kernel
theorem dX4_best_77 : decode cX4_best 77 = .ok (.goto 8, 3) := by decide +kernel
theorem dX4_best_80 : decode cX4_best 80 = .ok (.aload_n 0, 1) := by decide +kernel
theorem dX4_best_81 : decode cX4_best 81 = .ok (.iload_n 3, 1) := by decide +kernel
theorem dX4_best_82 : decode cX4_best 82 = .ok (.invokevirtual 89, 3) := by decide +kernel
theorem dX4_best_85 : decode cX4_best 85 = .ok (.i2l, 1) := by decide +kernel
theorem dX4_best_86 : decode cX4_best 86 = .ok (.lmul, 1) := by decide +kernel
theorem dX4_best_87 : decode cX4_best 87 = .ok (.lstore 6, 2) := by decide +kernel
theorem dX4_best_89 : decode cX4_best 89 = .ok (.lload 4, 2) := by decide +kernel
theorem dX4_best_91 : decode cX4_best 91 = .ok (.lload 6, 2) := by decide +kernel
theorem dX4_best_93 : decode cX4_best 93 = .ok (.lcmp, 1) := by decide +kernel
theorem dX4_best_94 : decode cX4_best 94 = .ok (.ifCond .le 7, 3) := by decide +kernel
theorem dX4_best_97 : decode cX4_best 97 = .ok (.iload_n 3, 1) := by decide +kernel
theorem dX4_best_98 : decode cX4_best 98 = .ok (.goto 4, 3) := by decide +kernel
theorem dX4_best_101 : decode cX4_best 101 = .ok (.iload_n 2, 1) := by decide +kernel
theorem dX4_best_102 : decode cX4_best 102 = .ok (.istore_n 2, 1) := by decide +kernel
theorem dX4_best_103 : decode cX4_best 103 = .ok (.iinc 3 1, 3) := by decide +kernel
theorem dX4_best_106 : decode cX4_best 106 = .ok (.goto (-83), 3) := by decide +kernel
theorem dX4_best_109 : decode cX4_best 109 = .ok (.aload_n 0, 1) := by decide +kernel
theorem dX4_best_110 : decode cX4_best 110 = .ok (.getfield 28, 3) := by decide +kernel
theorem dX4_best_113 : decode cX4_best 113 = .ok (.ifCond .ne 7, 3) := by decide +kernel
theorem dX4_best_116 : decode cX4_best 116 = .ok (.iload_n 2, 1) := by decide +kernel
theorem dX4_best_117 : decode cX4_best 117 = .ok (.goto 4, 3) := by decide +kernel
theorem dX4_best_120 : decode cX4_best 120 = .ok (.iconst 0, 1) := by decide +kernel
theorem dX4_best_121 : decode cX4_best 121 = .ok (.ireturn, 1) := by decide +kernel
theorem dX4_isListed_0 : decode cX4_isListed 0 = .ok (.iconst 0, 1) := by decide +kernel
theorem dX4_isListed_1 : decode cX4_isListed 1 = .ok (.istore_n 2, 1) := by decide +kernel
theorem dX4_isListed_2 : decode cX4_isListed 2 = .ok (.iconst 0, 1) := by decide +kernel
theorem dX4_isListed_3 : decode cX4_isListed 3 = .ok (.istore_n 3, 1) := by decide +kernel
theorem dX4_isListed_4 : decode cX4_isListed 4 = .ok (.iload_n 3, 1) := by decide +kernel
theorem dX4_isListed_5 : decode cX4_isListed 5 = .ok (.aload_n 0, 1) := by decide +kernel
theorem dX4_isListed_6 : decode cX4_isListed 6 = .ok (.getfield 98, 3) := by decide +kernel
theorem dX4_isListed_9 : decode cX4_isListed 9 = .ok (.if_icmp .ge 29, 3) := by decide +kernel
theorem dX4_isListed_12 : decode cX4_isListed 12 = .ok (.iload_n 2, 1) := by decide +kernel
theorem dX4_isListed_13 : decode cX4_isListed 13 = .ok (.ifCond .ne 13, 3) := by decide +kernel
theorem dX4_isListed_16 : decode cX4_isListed 16 = .ok (.aload_n 0, 1) := by decide +kernel
theorem dX4_isListed_17 : decode cX4_isListed 17 = .ok (.getfield 19, 3) := by decide +kernel
theorem dX4_isListed_20 : decode cX4_isListed 20 = .ok (.iload_n 3, 1) := by decide +kernel
theorem dX4_isListed_21 : decode cX4_isListed 21 = .ok (.iaload, 1) := by decide +kernel
theorem dX4_isListed_22 : decode cX4_isListed 22 = .ok (.iload_n 1, 1) := by decide +kernel
theorem dX4_isListed_23 : decode cX4_isListed 23 = .ok (.if_icmp .ne 7, 3) := by decide +kernel
theorem dX4_isListed_26 : decode cX4_isListed 26 = .ok (.iconst 1, 1) := by decide +kernel
theorem dX4_isListed_27 : decode cX4_isListed 27 = .ok (.goto 4, 3) := by decide +kernel
theorem dX4_isListed_30 : decode cX4_isListed 30 = .ok (.iconst 0, 1) := by decide +kernel
theorem dX4_isListed_31 : decode cX4_isListed 31 = .ok (.istore_n 2, 1) := by decide +kernel
theorem dX4_isListed_32 : decode cX4_isListed 32 = .ok (.iinc 3 1, 3) := by decide +kernel
theorem dX4_isListed_35 : decode cX4_isListed 35 = .ok (.goto (-31), 3) := by decide +kernel
theorem dX4_isListed_38 : decode cX4_isListed 38 = .ok (.iload_n 2, 1) := by decide +kernel
theorem dX4_isListed_39 : decode cX4_isListed 39 = .ok (.ireturn, 1) := by decide +kernel
set_option maxRecDepth 20000 in
theorem ggX4_gives_X4_isListed : GoodIn wsX4_gives wsX4_isListed := goodIn_r _ [11, 4, 3, 12, 13, 14, 15, 16, 17, 18, 19, 20, 21] (by decide +kernel) (by decide +kernel)
set_option maxRecDepth 20000 in
theorem gX4_gives_X4_isListed : GoodIn wsX4_gives (wsV RX4 101 RX4 yX4_isListed wsX4_isListed) := goodIn_app (goodIn_of _ (by decide +kernel)) ggX4_gives_X4_isListed
theorem dX4_gives_0 : decode cX4_gives 0 = .ok (.bipush 8, 2) := by decide +kernel
theorem dX4_gives_2 : decode cX4_gives 2 = .ok (.iload_n 1, 1) := by decide +kernel
theorem dX4_gives_3 : decode cX4_gives 3 = .ok (.imul, 1) := by decide +kernel
theorem dX4_gives_4 : decode cX4_gives 4 = .ok (.iload_n 2, 1) := by decide +kernel
theorem dX4_gives_5 : decode cX4_gives 5 = .ok (.iadd, 1) := by decide +kernel
theorem dX4_gives_6 : decode cX4_gives 6 = .ok (.istore_n 3, 1) := by decide +kernel
theorem dX4_gives_7 : decode cX4_gives 7 = .ok (.iconst 0, 1) := by decide +kernel
theorem dX4_gives_8 : decode cX4_gives 8 = .ok (.istore 4, 2) := by decide +kernel
theorem dX4_gives_10 : decode cX4_gives 10 = .ok (.iload 4, 2) := by decide +kernel
theorem dX4_gives_12 : decode cX4_gives 12 = .ok (.aload_n 0, 1) := by decide +kernel
theorem dX4_gives_13 : decode cX4_gives 13 = .ok (.getfield 7, 3) := by decide +kernel
theorem dX4_gives_16 : decode cX4_gives 16 = .ok (.iload_n 3, 1) := by decide +kernel
theorem dX4_gives_17 : decode cX4_gives 17 = .ok (.iaload, 1) := by decide +kernel
theorem dX4_gives_18 : decode cX4_gives 18 = .ok (.if_icmp .ge 31, 3) := by decide +kernel
theorem dX4_gives_21 : decode cX4_gives 21 = .ok (.aload_n 0, 1) := by decide +kernel
theorem dX4_gives_22 : decode cX4_gives 22 = .ok (.aload_n 0, 1) := by decide +kernel
theorem dX4_gives_23 : decode cX4_gives 23 = .ok (.getfield 13, 3) := by decide +kernel
theorem dX4_gives_26 : decode cX4_gives 26 = .ok (.bipush 20, 2) := by decide +kernel
theorem dX4_gives_28 : decode cX4_gives 28 = .ok (.iload_n 3, 1) := by decide +kernel
theorem dX4_gives_29 : decode cX4_gives 29 = .ok (.imul, 1) := by decide +kernel
theorem dX4_gives_30 : decode cX4_gives 30 = .ok (.iload 4, 2) := by decide +kernel
theorem dX4_gives_32 : decode cX4_gives 32 = .ok (.iadd, 1) := by decide +kernel
theorem dX4_gives_33 : decode cX4_gives 33 = .ok (.iaload, 1) := by decide +kernel
theorem dX4_gives_34 : decode cX4_gives 34 = .ok (.bipush 64, 2) := by decide +kernel
theorem dX4_gives_36 : decode cX4_gives 36 = .ok (.irem, 1) := by decide +kernel
theorem dX4_gives_37 : decode cX4_gives 37 = .ok (.invokevirtual 101, 3) := by decide +kernel
theorem dX4_gives_40 : decode cX4_gives 40 = .ok (.ifCond .eq 9, 3) := by decide +kernel
theorem dX4_gives_43 : decode cX4_gives 43 = .ok (.iinc 4 1, 3) := by decide +kernel
theorem dX4_gives_46 : decode cX4_gives 46 = .ok (.goto (-36), 3) := by decide +kernel
theorem dX4_gives_49 : decode cX4_gives 49 = .ok (.iload 4, 2) := by decide +kernel
theorem dX4_gives_51 : decode cX4_gives 51 = .ok (.aload_n 0, 1) := by decide +kernel
theorem dX4_gives_52 : decode cX4_gives 52 = .ok (.getfield 7, 3) := by decide +kernel
theorem dX4_gives_55 : decode cX4_gives 55 = .ok (.iload_n 3, 1) := by decide +kernel
theorem dX4_gives_56 : decode cX4_gives 56 = .ok (.iaload, 1) := by decide +kernel
theorem dX4_gives_57 : decode cX4_gives 57 = .ok (.if_icmp .ne 5, 3) := by decide +kernel
theorem dX4_gives_60 : decode cX4_gives 60 = .ok (.iconst 0, 1) := by decide +kernel
theorem dX4_gives_61 : decode cX4_gives 61 = .ok (.ireturn, 1) := by decide +kernel
theorem dX4_gives_62 : decode cX4_gives 62 = .ok (.aload_n 0, 1) := by decide +kernel
theorem dX4_gives_63 : decode cX4_gives 63 = .ok (.getfield 19, 3) := by decide +kernel
theorem dX4_gives_66 : decode cX4_gives 66 = .ok (.aload_n 0, 1) := by decide +kernel
theorem dX4_gives_67 : decode cX4_gives 67 = .ok (.getfield 98, 3) := by decide +kernel
theorem dX4_gives_70 : decode cX4_gives 70 = .ok (.aload_n 0, 1) := by decide +kernel
theorem dX4_gives_71 : decode cX4_gives 71 = .ok (.getfield 13, 3) := by decide +kernel
theorem dX4_gives_74 : decode cX4_gives 74 = .ok (.bipush 20, 2) := by decide +kernel
theorem dX4_gives_76 : decode cX4_gives 76 = .ok (.iload_n 3, 1) := by decide +kernel
theorem dX4_gives_77 : decode cX4_gives 77 = .ok (.imul, 1) := by decide +kernel
theorem dX4_gives_78 : decode cX4_gives 78 = .ok (.iload 4, 2) := by decide +kernel
theorem dX4_gives_80 : decode cX4_gives 80 = .ok (.iadd, 1) := by decide +kernel
theorem dX4_gives_81 : decode cX4_gives 81 = .ok (.iaload, 1) := by decide +kernel
theorem dX4_gives_82 : decode cX4_gives 82 = .ok (.bipush 64, 2) := by decide +kernel
theorem dX4_gives_84 : decode cX4_gives 84 = .ok (.irem, 1) := by decide +kernel
theorem dX4_gives_85 : decode cX4_gives 85 = .ok (.iastore, 1) := by decide +kernel
theorem dX4_gives_86 : decode cX4_gives 86 = .ok (.aload_n 0, 1) := by decide +kernel
theorem dX4_gives_87 : decode cX4_gives 87 = .ok (.getfield 22, 3) := by decide +kernel
theorem dX4_gives_90 : decode cX4_gives 90 = .ok (.aload_n 0, 1) := by decide +kernel
theorem dX4_gives_91 : decode cX4_gives 91 = .ok (.getfield 98, 3) := by decide +kernel
theorem dX4_gives_94 : decode cX4_gives 94 = .ok (.iload_n 1, 1) := by decide +kernel
theorem dX4_gives_95 : decode cX4_gives 95 = .ok (.iastore, 1) := by decide +kernel
theorem dX4_gives_96 : decode cX4_gives 96 = .ok (.aload_n 0, 1) := by decide +kernel
theorem dX4_gives_97 : decode cX4_gives 97 = .ok (.getfield 25, 3) := by decide +kernel
theorem dX4_gives_100 : decode cX4_gives 100 = .ok (.aload_n 0, 1) := by decide +kernel
theorem dX4_gives_101 : decode cX4_gives 101 = .ok (.getfield 98, 3) := by decide +kernel
theorem dX4_gives_104 : decode cX4_gives 104 = .ok (.iconst 0, 1) := by decide +kernel
theorem dX4_gives_105 : decode cX4_gives 105 = .ok (.iastore, 1) := by decide +kernel
theorem dX4_gives_106 : decode cX4_gives 106 = .ok (.aload_n 0, 1) := by decide +kernel
theorem dX4_gives_107 : decode cX4_gives 107 = .ok (.dup, 1) := by decide +kernel
theorem dX4_gives_108 : decode cX4_gives 108 = .ok (.getfield 98, 3) := by decide +kernel
theorem dX4_gives_111 : decode cX4_gives 111 = .ok (.iconst 1, 1) := by decide +kernel
theorem dX4_gives_112 : decode cX4_gives 112 = .ok (.iadd, 1) := by decide +kernel
theorem dX4_gives_113 : decode cX4_gives 113 = .ok (.putfield 98, 3) := by decide +kernel
theorem dX4_gives_116 : decode cX4_gives 116 = .ok (.iconst 1, 1) := by decide +kernel
theorem dX4_gives_117 : decode cX4_gives 117 = .ok (.ireturn, 1) := by decide +kernel
set_option maxRecDepth 20000 in
theorem ggX4_cross_X4_in : GoodIn wsX4_cross wsX4_in := goodIn_r _ [6] (by decide +kernel) (by decide +kernel)
set_option maxRecDepth 20000 in
theorem gX4_cross_X4_in : GoodIn wsX4_cross (va_wsS RX4 32 yX4_in wsX4_in) := goodIn_app (goodIn_of _ (by decide +kernel)) ggX4_cross_X4_in
set_option maxRecDepth 20000 in
theorem ggX4_cross_X4_gives : GoodIn wsX4_cross wsX4_gives := goodIn_r _ [10, 11, 12, 13, 2, 14, 15, 16, 17, 18, 5, 19, 20, 21, 22, 23, 24, 25, 26, 27, 28, 29] (by decide +kernel) (by decide +kernel)
set_option maxRecDepth 20000 in
theorem gX4_cross_X4_gives : GoodIn wsX4_cross (wsV RX4 105 RX4 yX4_gives wsX4_gives) := goodIn_app (goodIn_of _ (by decide +kernel)) ggX4_cross_X4_gives
theorem dX4_cross_0 : decode cX4_cross 0 = .ok (.aload_n 0, 1) := by decide +kernel
theorem dX4_cross_1 : decode cX4_cross 1 = .ok (.iload_n 1, 1) := by decide +kernel
theorem dX4_cross_2 : decode cX4_cross 2 = .ok (.iconst 0, 1) := by decide +kernel
theorem dX4_cross_3 : decode cX4_cross 3 = .ok (.iconst 3, 1) := by decide +kernel
theorem dX4_cross_4 : decode cX4_cross 4 = .ok (.invokestatic 32, 3) := by decide +kernel
theorem dX4_cross_7 : decode cX4_cross 7 = .ok (.ifCond .eq 42, 3) := by decide +kernel
theorem dX4_cross_10 : decode cX4_cross 10 = .ok (.iload_n 2, 1) := by decide +kernel
theorem dX4_cross_11 : decode cX4_cross 11 = .ok (.iconst 0, 1) := by decide +kernel
theorem dX4_cross_12 : decode cX4_cross 12 = .ok (.iconst 3, 1) := by decide +kernel
theorem dX4_cross_13 : decode cX4_cross 13 = .ok (.invokestatic 32, 3) := by decide +kernel
theorem dX4_cross_16 : decode cX4_cross 16 = .ok (.ifCond .eq 33, 3) := by decide +kernel
theorem dX4_cross_19 : decode cX4_cross 19 = .ok (.iload_n 3, 1) := by decide +kernel
theorem dX4_cross_20 : decode cX4_cross 20 = .ok (.iconst 0, 1) := by decide +kernel
theorem dX4_cross_21 : decode cX4_cross 21 = .ok (.bipush 7, 2) := by decide +kernel
theorem dX4_cross_23 : decode cX4_cross 23 = .ok (.invokestatic 32, 3) := by decide +kernel
theorem dX4_cross_26 : decode cX4_cross 26 = .ok (.ifCond .eq 23, 3) := by decide +kernel
theorem dX4_cross_29 : decode cX4_cross 29 = .ok (.iload 4, 2) := by decide +kernel
theorem dX4_cross_31 : decode cX4_cross 31 = .ok (.iconst 1, 1) := by decide +kernel
theorem dX4_cross_32 : decode cX4_cross 32 = .ok (.bipush 20, 2) := by decide +kernel
theorem dX4_cross_34 : decode cX4_cross 34 = .ok (.invokestatic 32, 3) := by decide +kernel
theorem dX4_cross_37 : decode cX4_cross 37 = .ok (.ifCond .eq 12, 3) := by decide +kernel
theorem dX4_cross_40 : decode cX4_cross 40 = .ok (.iload_n 1, 1) := by decide +kernel
theorem dX4_cross_41 : decode cX4_cross 41 = .ok (.iload_n 2, 1) := by decide +kernel
theorem dX4_cross_42 : decode cX4_cross 42 = .ok (.if_icmp .eq 7, 3) := by decide +kernel
theorem dX4_cross_45 : decode cX4_cross 45 = .ok (.iconst 0, 1) := by decide +kernel
theorem dX4_cross_46 : decode cX4_cross 46 = .ok (.goto 4, 3) := by decide +kernel
theorem dX4_cross_49 : decode cX4_cross 49 = .ok (.iconst 1, 1) := by decide +kernel
theorem dX4_cross_50 : decode cX4_cross 50 = .ok (.putfield 28, 3) := by decide +kernel
theorem dX4_cross_53 : decode cX4_cross 53 = .ok (.aload_n 0, 1) := by decide +kernel
theorem dX4_cross_54 : decode cX4_cross 54 = .ok (.getfield 28, 3) := by decide +kernel
theorem dX4_cross_57 : decode cX4_cross 57 = .ok (.ifCond .le 5, 3) := by decide +kernel
theorem dX4_cross_60 : decode cX4_cross 60 = .ok (.iconst 0, 1) := by decide +kernel
theorem dX4_cross_61 : decode cX4_cross 61 = .ok (.ireturn, 1) := by decide +kernel
theorem dX4_cross_62 : decode cX4_cross 62 = .ok (.aload_n 0, 1) := by decide +kernel
theorem dX4_cross_63 : decode cX4_cross 63 = .ok (.iconst 0, 1) := by decide +kernel
theorem dX4_cross_64 : decode cX4_cross 64 = .ok (.putfield 98, 3) := by decide +kernel
theorem dX4_cross_67 : decode cX4_cross 67 = .ok (.iconst 0, 1) := by decide +kernel
theorem dX4_cross_68 : decode cX4_cross 68 = .ok (.istore 5, 2) := by decide +kernel
theorem dX4_cross_70 : decode cX4_cross 70 = .ok (.iload_n 1, 1) := by decide +kernel
theorem dX4_cross_71 : decode cX4_cross 71 = .ok (.istore 6, 2) := by decide +kernel
theorem dX4_cross_73 : decode cX4_cross 73 = .ok (.aload_n 0, 1) := by decide +kernel
theorem dX4_cross_74 : decode cX4_cross 74 = .ok (.getfield 98, 3) := by decide +kernel
theorem dX4_cross_77 : decode cX4_cross 77 = .ok (.iload 4, 2) := by decide +kernel
theorem dX4_cross_79 : decode cX4_cross 79 = .ok (.if_icmp .ge 45, 3) := by decide +kernel
theorem dX4_cross_82 : decode cX4_cross 82 = .ok (.iload 5, 2) := by decide +kernel
theorem dX4_cross_84 : decode cX4_cross 84 = .ok (.iconst 2, 1) := by decide +kernel
theorem dX4_cross_85 : decode cX4_cross 85 = .ok (.if_icmp .ge 39, 3) := by decide +kernel
theorem dX4_cross_88 : decode cX4_cross 88 = .ok (.aload_n 0, 1) := by decide +kernel
theorem dX4_cross_89 : decode cX4_cross 89 = .ok (.iload 6, 2) := by decide +kernel
theorem dX4_cross_91 : decode cX4_cross 91 = .ok (.iload_n 3, 1) := by decide +kernel
theorem dX4_cross_92 : decode cX4_cross 92 = .ok (.invokevirtual 105, 3) := by decide +kernel
theorem dX4_cross_95 : decode cX4_cross 95 = .ok (.ifCond .eq 7, 3) := by decide +kernel
theorem dX4_cross_98 : decode cX4_cross 98 = .ok (.iconst 0, 1) := by decide +kernel
theorem dX4_cross_99 : decode cX4_cross 99 = .ok (.goto 7, 3) := by decide +kernel
theorem dX4_cross_102 : decode cX4_cross 102 = .ok (.iload 5, 2) := by decide +kernel
theorem dX4_cross_104 : decode cX4_cross 104 = .ok (.iconst 1, 1) := by decide +kernel
theorem dX4_cross_105 : decode cX4_cross 105 = .ok (.iadd, 1) := by decide +kernel
theorem dX4_cross_106 : decode cX4_cross 106 = .ok (.istore 5, 2) := by decide +kernel
theorem dX4_cross_108 : decode cX4_cross 108 = .ok (.iload 6, 2) := by decide +kernel
theorem dX4_cross_110 : decode cX4_cross 110 = .ok (.iload_n 1, 1) := by decide +kernel
theorem dX4_cross_111 : decode cX4_cross 111 = .ok (.if_icmp .ne 7, 3) := by decide +kernel
theorem dX4_cross_114 : decode cX4_cross 114 = .ok (.iload_n 2, 1) := by decide +kernel
theorem dX4_cross_115 : decode cX4_cross 115 = .ok (.goto 4, 3) := by decide +kernel
theorem dX4_cross_118 : decode cX4_cross 118 = .ok (.iload_n 1, 1) := by decide +kernel
theorem dX4_cross_119 : decode cX4_cross 119 = .ok (.istore 6, 2) := by decide +kernel
theorem dX4_cross_121 : decode cX4_cross 121 = .ok (.goto (-48), 3) := by decide +kernel
theorem dX4_cross_124 : decode cX4_cross 124 = .ok (.aload_n 0, 1) := by decide +kernel
theorem dX4_cross_125 : decode cX4_cross 125 = .ok (.getfield 98, 3) := by decide +kernel
theorem dX4_cross_128 : decode cX4_cross 128 = .ok (.ireturn, 1) := by decide +kernel
set_option maxRecDepth 20000 in
theorem ggX4_isRank_X4_in : GoodIn wsX4_isRank wsX4_in := goodIn_r _ [6] (by decide +kernel) (by decide +kernel)
set_option maxRecDepth 20000 in
theorem gX4_isRank_X4_in : GoodIn wsX4_isRank (va_wsS RX4 32 yX4_in wsX4_in) := goodIn_app (goodIn_of _ (by decide +kernel)) ggX4_isRank_X4_in
theorem dX4_isRank_0 : decode cX4_isRank 0 = .ok (.aload_n 0, 1) := by decide +kernel
theorem dX4_isRank_1 : decode cX4_isRank 1 = .ok (.iload_n 1, 1) := by decide +kernel
theorem dX4_isRank_2 : decode cX4_isRank 2 = .ok (.iconst 1, 1) := by decide +kernel
theorem dX4_isRank_3 : decode cX4_isRank 3 = .ok (.aload_n 0, 1) := by decide +kernel
theorem dX4_isRank_4 : decode cX4_isRank 4 = .ok (.getfield 98, 3) := by decide +kernel
theorem dX4_isRank_7 : decode cX4_isRank 7 = .ok (.invokestatic 32, 3) := by decide +kernel
theorem dX4_isRank_10 : decode cX4_isRank 10 = .ok (.ifCond .eq 7, 3) := by decide +kernel
theorem dX4_isRank_13 : decode cX4_isRank 13 = .ok (.iconst 0, 1) := by decide +kernel
theorem dX4_isRank_14 : decode cX4_isRank 14 = .ok (.goto 4, 3) := by decide +kernel
theorem dX4_isRank_17 : decode cX4_isRank 17 = .ok (.iconst 1, 1) := by decide +kernel
theorem dX4_isRank_18 : decode cX4_isRank 18 = .ok (.putfield 28, 3) := by decide +kernel
theorem dX4_isRank_21 : decode cX4_isRank 21 = .ok (.aload_n 0, 1) := by decide +kernel
theorem dX4_isRank_22 : decode cX4_isRank 22 = .ok (.getfield 28, 3) := by decide +kernel
theorem dX4_isRank_25 : decode cX4_isRank 25 = .ok (.ifCond .ne 7, 3) := by decide +kernel
theorem dX4_isRank_28 : decode cX4_isRank 28 = .ok (.iconst 1, 1) := by decide +kernel
theorem dX4_isRank_29 : decode cX4_isRank 29 = .ok (.goto 4, 3) := by decide +kernel
theorem dX4_isRank_32 : decode cX4_isRank 32 = .ok (.iconst 0, 1) := by decide +kernel
theorem dX4_isRank_33 : decode cX4_isRank 33 = .ok (.ireturn, 1) := by decide +kernel
set_option maxRecDepth 20000 in
theorem ggX4_crossed_X4_isRank : GoodIn wsX4_crossed wsX4_isRank := goodIn_r _ [6, 7, 8, 9, 10, 5, 11, 12, 13, 14, 15, 16, 17, 18, 19, 20, 21] (by decide +kernel) (by decide +kernel)
set_option maxRecDepth 20000 in
theorem gX4_crossed_X4_isRank : GoodIn wsX4_crossed (wsV RX4 108 RX4 yX4_isRank wsX4_isRank) := goodIn_app (goodIn_of _ (by decide +kernel)) ggX4_crossed_X4_isRank
theorem dX4_crossed_0 : decode cX4_crossed 0 = .ok (.aload_n 0, 1) := by decide +kernel
theorem dX4_crossed_1 : decode cX4_crossed 1 = .ok (.iload_n 1, 1) := by decide +kernel
theorem dX4_crossed_2 : decode cX4_crossed 2 = .ok (.invokevirtual 108, 3) := by decide +kernel
theorem dX4_crossed_5 : decode cX4_crossed 5 = .ok (.ifCond .eq 14, 3) := by decide +kernel
theorem dX4_crossed_8 : decode cX4_crossed 8 = .ok (.aload_n 0, 1) := by decide +kernel
theorem dX4_crossed_9 : decode cX4_crossed 9 = .ok (.getfield 19, 3) := by decide +kernel
theorem dX4_crossed_12 : decode cX4_crossed 12 = .ok (.iload_n 1, 1) := by decide +kernel
theorem dX4_crossed_13 : decode cX4_crossed 13 = .ok (.iconst 1, 1) := by decide +kernel
theorem dX4_crossed_14 : decode cX4_crossed 14 = .ok (.isub, 1) := by decide +kernel
theorem dX4_crossed_15 : decode cX4_crossed 15 = .ok (.iaload, 1) := by decide +kernel
theorem dX4_crossed_16 : decode cX4_crossed 16 = .ok (.goto 4, 3) := by decide +kernel
theorem dX4_crossed_19 : decode cX4_crossed 19 = .ok (.iconst 0, 1) := by decide +kernel
theorem dX4_crossed_20 : decode cX4_crossed 20 = .ok (.ireturn, 1) := by decide +kernel
set_option maxRecDepth 20000 in
theorem ggX4_click_X4_isRank : GoodIn wsX4_click wsX4_isRank := goodIn_r _ [7, 8, 9, 10, 11, 6, 12, 17, 18, 19, 20, 21, 22, 23, 24, 25, 26] (by decide +kernel) (by decide +kernel)
set_option maxRecDepth 20000 in
theorem gX4_click_X4_isRank : GoodIn wsX4_click (wsV RX4 108 RX4 yX4_isRank wsX4_isRank) := goodIn_app (goodIn_of _ (by decide +kernel)) ggX4_click_X4_isRank
set_option maxRecDepth 20000 in
theorem ggX4_click_X4_fails : GoodIn wsX4_click wsX4_fails := goodIn_r _ [16, 9, 17, 18, 19, 20, 21, 22, 23, 24, 25, 26] (by decide +kernel) (by decide +kernel)
set_option maxRecDepth 20000 in
theorem gX4_click_X4_fails : GoodIn wsX4_click (wsV RX4 40 RX4 yX4_fails wsX4_fails) := goodIn_app (goodIn_of _ (by decide +kernel)) ggX4_click_X4_fails
theorem dX4_click_0 : decode cX4_click 0 = .ok (.aload_n 0, 1) := by decide +kernel
theorem dX4_click_1 : decode cX4_click 1 = .ok (.iload_n 1, 1) := by decide +kernel
theorem dX4_click_2 : decode cX4_click 2 = .ok (.invokevirtual 108, 3) := by decide +kernel
theorem dX4_click_5 : decode cX4_click 5 = .ok (.ifCond .ne 5, 3) := by decide +kernel
theorem dX4_click_8 : decode cX4_click 8 = .ok (.iconst 0, 1) := by decide +kernel
theorem dX4_click_9 : decode cX4_click 9 = .ok (.ireturn, 1) := by decide +kernel
theorem dX4_click_10 : decode cX4_click 10 = .ok (.aload_n 0, 1) := by decide +kernel
theorem dX4_click_11 : decode cX4_click 11 = .ok (.getfield 25, 3) := by decide +kernel
theorem dX4_click_14 : decode cX4_click 14 = .ok (.iload_n 1, 1) := by decide +kernel
theorem dX4_click_15 : decode cX4_click 15 = .ok (.iconst 1, 1) := by decide +kernel
theorem dX4_click_16 : decode cX4_click 16 = .ok (.isub, 1) := by decide +kernel
theorem dX4_click_17 : decode cX4_click 17 = .ok (.iaload, 1) := by decide +kernel
theorem dX4_click_18 : decode cX4_click 18 = .ok (.iconst 1, 1) := by decide +kernel
theorem dX4_click_19 : decode cX4_click 19 = .ok (.if_icmp .ne 9, 3) := by decide +kernel
theorem dX4_click_22 : decode cX4_click 22 = .ok (.aload_n 0, 1) := by decide +kernel
theorem dX4_click_23 : decode cX4_click 23 = .ok (.iconst 2, 1) := by decide +kernel
theorem dX4_click_24 : decode cX4_click 24 = .ok (.invokevirtual 40, 3) := by decide +kernel
theorem dX4_click_27 : decode cX4_click 27 = .ok (.ireturn, 1) := by decide +kernel
theorem dX4_click_28 : decode cX4_click 28 = .ok (.aload_n 0, 1) := by decide +kernel
theorem dX4_click_29 : decode cX4_click 29 = .ok (.getfield 25, 3) := by decide +kernel
theorem dX4_click_32 : decode cX4_click 32 = .ok (.iload_n 1, 1) := by decide +kernel
theorem dX4_click_33 : decode cX4_click 33 = .ok (.iconst 1, 1) := by decide +kernel
theorem dX4_click_34 : decode cX4_click 34 = .ok (.isub, 1) := by decide +kernel
theorem dX4_click_35 : decode cX4_click 35 = .ok (.iconst 1, 1) := by decide +kernel
theorem dX4_click_36 : decode cX4_click 36 = .ok (.iastore, 1) := by decide +kernel
theorem dX4_click_37 : decode cX4_click 37 = .ok (.aload_n 0, 1) := by decide +kernel
theorem dX4_click_38 : decode cX4_click 38 = .ok (.getfield 22, 3) := by decide +kernel
theorem dX4_click_41 : decode cX4_click 41 = .ok (.iload_n 1, 1) := by decide +kernel
theorem dX4_click_42 : decode cX4_click 42 = .ok (.iconst 1, 1) := by decide +kernel
theorem dX4_click_43 : decode cX4_click 43 = .ok (.isub, 1) := by decide +kernel
theorem dX4_click_44 : decode cX4_click 44 = .ok (.iaload, 1) := by decide +kernel
theorem dX4_click_45 : decode cX4_click 45 = .ok (.ireturn, 1) := by decide +kernel
set_option maxRecDepth 20000 in
theorem ggX4_credit_X4_in : GoodIn wsX4_credit wsX4_in := goodIn_r _ [8] (by decide +kernel) (by decide +kernel)
set_option maxRecDepth 20000 in
theorem gX4_credit_X4_in : GoodIn wsX4_credit (va_wsS RX4 32 yX4_in wsX4_in) := goodIn_app (goodIn_of _ (by decide +kernel)) ggX4_credit_X4_in
theorem dX4_credit_0 : decode cX4_credit 0 = .ok (.aload_n 0, 1) := by decide +kernel
theorem dX4_credit_1 : decode cX4_credit 1 = .ok (.iload_n 1, 1) := by decide +kernel
theorem dX4_credit_2 : decode cX4_credit 2 = .ok (.iconst 0, 1) := by decide +kernel
theorem dX4_credit_3 : decode cX4_credit 3 = .ok (.iconst 3, 1) := by decide +kernel
theorem dX4_credit_4 : decode cX4_credit 4 = .ok (.invokestatic 32, 3) := by decide +kernel
theorem dX4_credit_7 : decode cX4_credit 7 = .ok (.ifCond .eq 7, 3) := by decide +kernel
theorem dX4_credit_10 : decode cX4_credit 10 = .ok (.iconst 0, 1) := by decide +kernel
theorem dX4_credit_11 : decode cX4_credit 11 = .ok (.goto 4, 3) := by decide +kernel
theorem dX4_credit_14 : decode cX4_credit 14 = .ok (.iconst 1, 1) := by decide +kernel
theorem dX4_credit_15 : decode cX4_credit 15 = .ok (.putfield 28, 3) := by decide +kernel
theorem dX4_credit_18 : decode cX4_credit 18 = .ok (.iconst 0, 1) := by decide +kernel
theorem dX4_credit_19 : decode cX4_credit 19 = .ok (.istore_n 2, 1) := by decide +kernel
theorem dX4_credit_20 : decode cX4_credit 20 = .ok (.iconst 0, 1) := by decide +kernel
theorem dX4_credit_21 : decode cX4_credit 21 = .ok (.istore_n 3, 1) := by decide +kernel
theorem dX4_credit_22 : decode cX4_credit 22 = .ok (.iload_n 3, 1) := by decide +kernel
theorem dX4_credit_23 : decode cX4_credit 23 = .ok (.aload_n 0, 1) := by decide +kernel
theorem dX4_credit_24 : decode cX4_credit 24 = .ok (.getfield 98, 3) := by decide +kernel
theorem dX4_credit_27 : decode cX4_credit 27 = .ok (.if_icmp .ge 44, 3) := by decide +kernel
theorem dX4_credit_30 : decode cX4_credit 30 = .ok (.aload_n 0, 1) := by decide +kernel
theorem dX4_credit_31 : decode cX4_credit 31 = .ok (.getfield 28, 3) := by decide +kernel
theorem dX4_credit_34 : decode cX4_credit 34 = .ok (.ifCond .ne 37, 3) := by decide +kernel
theorem dX4_credit_37 : decode cX4_credit 37 = .ok (.iload_n 2, 1) := by decide +kernel
theorem dX4_credit_38 : decode cX4_credit 38 = .ok (.aload_n 0, 1) := by decide +kernel
theorem dX4_credit_39 : decode cX4_credit 39 = .ok (.getfield 25, 3) := by decide +kernel
theorem dX4_credit_42 : decode cX4_credit 42 = .ok (.iload_n 3, 1) := by decide +kernel
theorem dX4_credit_43 : decode cX4_credit 43 = .ok (.iaload, 1) := by decide +kernel
theorem dX4_credit_44 : decode cX4_credit 44 = .ok (.iconst 1, 1) := by decide +kernel
theorem dX4_credit_45 : decode cX4_credit 45 = .ok (.if_icmp .ne 17, 3) := by decide +kernel
theorem dX4_credit_48 : decode cX4_credit 48 = .ok (.aload_n 0, 1) := by decide +kernel
theorem dX4_credit_49 : decode cX4_credit 49 = .ok (.getfield 22, 3) := by decide +kernel
theorem dX4_credit_52 : decode cX4_credit 52 = .ok (.iload_n 3, 1) := by decide +kernel
theorem dX4_credit_53 : decode cX4_credit 53 = .ok (.iaload, 1) := by decide +kernel
theorem dX4_credit_54 : decode cX4_credit 54 = .ok (.iload_n 1, 1) := by decide +kernel
theorem dX4_credit_55 : decode cX4_credit 55 = .ok (.if_icmp .ne 7, 3) := by decide +kernel
theorem dX4_credit_58 : decode cX4_credit 58 = .ok (.iconst 1, 1) := by decide +kernel
theorem dX4_credit_59 : decode cX4_credit 59 = .ok (.goto 4, 3) := by decide +kernel
theorem dX4_credit_62 : decode cX4_credit 62 = .ok (.iconst 0, 1) := by decide +kernel
theorem dX4_credit_63 : decode cX4_credit 63 = .ok (.iadd, 1) := by decide +kernel
theorem dX4_credit_64 : decode cX4_credit 64 = .ok (.istore_n 2, 1) := by decide +kernel
theorem dX4_credit_65 : decode cX4_credit 65 = .ok (.iinc 3 1, 3) := by decide +kernel
theorem dX4_credit_68 : decode cX4_credit 68 = .ok (.goto (-46), 3) := by decide +kernel
theorem dX4_credit_71 : decode cX4_credit 71 = .ok (.iload_n 2, 1) := by decide +kernel
theorem dX4_credit_72 : decode cX4_credit 72 = .ok (.ireturn, 1) := by decide +kernel
set_option maxRecDepth 20000 in
theorem ggX4_isTest_X4_in : GoodIn wsX4_isTest wsX4_in := goodIn_r _ [5] (by decide +kernel) (by decide +kernel)
set_option maxRecDepth 20000 in
theorem gX4_isTest_X4_in : GoodIn wsX4_isTest (va_wsS RX4 32 yX4_in wsX4_in) := goodIn_app (goodIn_of _ (by decide +kernel)) ggX4_isTest_X4_in
theorem dX4_isTest_0 : decode cX4_isTest 0 = .ok (.aload_n 0, 1) := by decide +kernel
theorem dX4_isTest_1 : decode cX4_isTest 1 = .ok (.iload_n 1, 1) := by decide +kernel
theorem dX4_isTest_2 : decode cX4_isTest 2 = .ok (.iconst 0, 1) := by decide +kernel
theorem dX4_isTest_3 : decode cX4_isTest 3 = .ok (.iconst 3, 1) := by decide +kernel
theorem dX4_isTest_4 : decode cX4_isTest 4 = .ok (.invokestatic 32, 3) := by decide +kernel
theorem dX4_isTest_7 : decode cX4_isTest 7 = .ok (.ifCond .eq 26, 3) := by decide +kernel
theorem dX4_isTest_10 : decode cX4_isTest 10 = .ok (.iload_n 2, 1) := by decide +kernel
theorem dX4_isTest_11 : decode cX4_isTest 11 = .ok (.iconst 0, 1) := by decide +kernel
theorem dX4_isTest_12 : decode cX4_isTest 12 = .ok (.iconst 3, 1) := by decide +kernel
theorem dX4_isTest_13 : decode cX4_isTest 13 = .ok (.invokestatic 32, 3) := by decide +kernel
theorem dX4_isTest_16 : decode cX4_isTest 16 = .ok (.ifCond .eq 17, 3) := by decide +kernel
theorem dX4_isTest_19 : decode cX4_isTest 19 = .ok (.iload_n 3, 1) := by decide +kernel
theorem dX4_isTest_20 : decode cX4_isTest 20 = .ok (.iconst 1, 1) := by decide +kernel
theorem dX4_isTest_21 : decode cX4_isTest 21 = .ok (.bipush 20, 2) := by decide +kernel
theorem dX4_isTest_23 : decode cX4_isTest 23 = .ok (.invokestatic 32, 3) := by decide +kernel
theorem dX4_isTest_26 : decode cX4_isTest 26 = .ok (.ifCond .eq 7, 3) := by decide +kernel
theorem dX4_isTest_29 : decode cX4_isTest 29 = .ok (.iconst 0, 1) := by decide +kernel
theorem dX4_isTest_30 : decode cX4_isTest 30 = .ok (.goto 4, 3) := by decide +kernel
theorem dX4_isTest_33 : decode cX4_isTest 33 = .ok (.iconst 1, 1) := by decide +kernel
theorem dX4_isTest_34 : decode cX4_isTest 34 = .ok (.putfield 28, 3) := by decide +kernel
theorem dX4_isTest_37 : decode cX4_isTest 37 = .ok (.aload_n 0, 1) := by decide +kernel
theorem dX4_isTest_38 : decode cX4_isTest 38 = .ok (.getfield 28, 3) := by decide +kernel
theorem dX4_isTest_41 : decode cX4_isTest 41 = .ok (.ifCond .ne 7, 3) := by decide +kernel
theorem dX4_isTest_44 : decode cX4_isTest 44 = .ok (.iconst 1, 1) := by decide +kernel
theorem dX4_isTest_45 : decode cX4_isTest 45 = .ok (.goto 4, 3) := by decide +kernel
theorem dX4_isTest_48 : decode cX4_isTest 48 = .ok (.iconst 0, 1) := by decide +kernel
theorem dX4_isTest_49 : decode cX4_isTest 49 = .ok (.ireturn, 1) := by decide +kernel
set_option maxRecDepth 20000 in
theorem ggX4_sumWith_X4_relevantAmong : GoodIn wsX4_sumWith wsX4_relevantAmong := goodIn_r _ [5, 6, 7, 8, 9, 10, 11, 12, 13, 14, 15, 16, 17, 18] (by decide +kernel) (by decide +kernel)
set_option maxRecDepth 20000 in
theorem gX4_sumWith_X4_relevantAmong : GoodIn wsX4_sumWith (wsV RX4 60 RX4 yX4_relevantAmong wsX4_relevantAmong) := goodIn_app (goodIn_of _ (by decide +kernel)) ggX4_sumWith_X4_relevantAmong
theorem dX4_sumWith_0 : decode cX4_sumWith 0 = .ok (.iconst 0, 1) := by decide +kernel
theorem dX4_sumWith_1 : decode cX4_sumWith 1 = .ok (.istore 5, 2) := by decide +kernel
theorem dX4_sumWith_3 : decode cX4_sumWith 3 = .ok (.iconst 0, 1) := by decide +kernel
theorem dX4_sumWith_4 : decode cX4_sumWith 4 = .ok (.istore 6, 2) := by decide +kernel
theorem dX4_sumWith_6 : decode cX4_sumWith 6 = .ok (.iload 6, 2) := by decide +kernel
theorem dX4_sumWith_8 : decode cX4_sumWith 8 = .ok (.bipush 8, 2) := by decide +kernel
theorem dX4_sumWith_10 : decode cX4_sumWith 10 = .ok (.if_icmp .ge 62, 3) := by decide +kernel
theorem dX4_sumWith_13 : decode cX4_sumWith 13 = .ok (.aload_n 0, 1) := by decide +kernel
theorem dX4_sumWith_14 : decode cX4_sumWith 14 = .ok (.bipush 8, 2) := by decide +kernel
theorem dX4_sumWith_16 : decode cX4_sumWith 16 = .ok (.iload_n 1, 1) := by decide +kernel
theorem dX4_sumWith_17 : decode cX4_sumWith 17 = .ok (.imul, 1) := by decide +kernel
theorem dX4_sumWith_18 : decode cX4_sumWith 18 = .ok (.iload 6, 2) := by decide +kernel
theorem dX4_sumWith_20 : decode cX4_sumWith 20 = .ok (.iadd, 1) := by decide +kernel
theorem dX4_sumWith_21 : decode cX4_sumWith 21 = .ok (.iconst 0, 1) := by decide +kernel
theorem dX4_sumWith_22 : decode cX4_sumWith 22 = .ok (.iload_n 3, 1) := by decide +kernel
theorem dX4_sumWith_23 : decode cX4_sumWith 23 = .ok (.invokevirtual 60, 3) := by decide +kernel
theorem dX4_sumWith_26 : decode cX4_sumWith 26 = .ok (.aload_n 0, 1) := by decide +kernel
theorem dX4_sumWith_27 : decode cX4_sumWith 27 = .ok (.bipush 8, 2) := by decide +kernel
theorem dX4_sumWith_29 : decode cX4_sumWith 29 = .ok (.iload_n 2, 1) := by decide +kernel
theorem dX4_sumWith_30 : decode cX4_sumWith 30 = .ok (.imul, 1) := by decide +kernel
theorem dX4_sumWith_31 : decode cX4_sumWith 31 = .ok (.iload 6, 2) := by decide +kernel
theorem dX4_sumWith_33 : decode cX4_sumWith 33 = .ok (.iadd, 1) := by decide +kernel
theorem dX4_sumWith_34 : decode cX4_sumWith 34 = .ok (.iconst 0, 1) := by decide +kernel
theorem dX4_sumWith_35 : decode cX4_sumWith 35 = .ok (.iload_n 3, 1) := by decide +kernel
theorem dX4_sumWith_36 : decode cX4_sumWith 36 = .ok (.invokevirtual 60, 3) := by decide +kernel
theorem dX4_sumWith_39 : decode cX4_sumWith 39 = .ok (.isub, 1) := by decide +kernel
theorem dX4_sumWith_40 : decode cX4_sumWith 40 = .ok (.istore 7, 2) := by decide +kernel
theorem dX4_sumWith_42 : decode cX4_sumWith 42 = .ok (.iload 5, 2) := by decide +kernel
theorem dX4_sumWith_44 : decode cX4_sumWith 44 = .ok (.iload 4, 2) := by decide +kernel
theorem dX4_sumWith_46 : decode cX4_sumWith 46 = .ok (.iload 6, 2) := by decide +kernel
theorem dX4_sumWith_48 : decode cX4_sumWith 48 = .ok (.ishr, 1) := by decide +kernel
theorem dX4_sumWith_49 : decode cX4_sumWith 49 = .ok (.iconst 1, 1) := by decide +kernel
theorem dX4_sumWith_50 : decode cX4_sumWith 50 = .ok (.iand, 1) := by decide +kernel
theorem dX4_sumWith_51 : decode cX4_sumWith 51 = .ok (.iconst 1, 1) := by decide +kernel
theorem dX4_sumWith_52 : decode cX4_sumWith 52 = .ok (.if_icmp .ne 9, 3) := by decide +kernel
theorem dX4_sumWith_55 : decode cX4_sumWith 55 = .ok (.iload 7, 2) := by decide +kernel
theorem dX4_sumWith_57 : decode cX4_sumWith 57 = .ok (.ineg, 1) := by decide +kernel
theorem dX4_sumWith_58 : decode cX4_sumWith 58 = .ok (.goto 5, 3) := by decide +kernel
theorem dX4_sumWith_61 : decode cX4_sumWith 61 = .ok (.iload 7, 2) := by decide +kernel
theorem dX4_sumWith_63 : decode cX4_sumWith 63 = .ok (.iadd, 1) := by decide +kernel
theorem dX4_sumWith_64 : decode cX4_sumWith 64 = .ok (.istore 5, 2) := by decide +kernel
theorem dX4_sumWith_66 : decode cX4_sumWith 66 = .ok (.iinc 6 1, 3) := by decide +kernel
theorem dX4_sumWith_69 : decode cX4_sumWith 69 = .ok (.goto (-63), 3) := by decide +kernel
theorem dX4_sumWith_72 : decode cX4_sumWith 72 = .ok (.iload 5, 2) := by decide +kernel
theorem dX4_sumWith_74 : decode cX4_sumWith 74 = .ok (.ireturn, 1) := by decide +kernel
set_option maxRecDepth 20000 in
theorem ggX4_sum_X4_isTest : GoodIn wsX4_sum wsX4_isTest := goodIn_r _ [5, 6, 7, 8, 4, 9, 21, 22, 23, 24, 25, 26, 27, 28, 29, 30] (by decide +kernel) (by decide +kernel)
set_option maxRecDepth 20000 in
theorem gX4_sum_X4_isTest : GoodIn wsX4_sum (wsV RX4 111 RX4 yX4_isTest wsX4_isTest) := goodIn_app (goodIn_of _ (by decide +kernel)) ggX4_sum_X4_isTest
set_option maxRecDepth 20000 in
theorem ggX4_sum_X4_sumWith : GoodIn wsX4_sum wsX4_sumWith := goodIn_r _ [13, 14, 15, 16, 4, 17, 18, 19, 20, 21, 22, 23, 24, 25, 26, 27, 28, 29, 30] (by decide +kernel) (by decide +kernel)
set_option maxRecDepth 20000 in
theorem gX4_sum_X4_sumWith : GoodIn wsX4_sum (wsV RX4 114 RX4 yX4_sumWith wsX4_sumWith) := goodIn_app (goodIn_of _ (by decide +kernel)) ggX4_sum_X4_sumWith
theorem dX4_sum_0 : decode cX4_sum 0 = .ok (.aload_n 0, 1) := by decide +kernel
theorem dX4_sum_1 : decode cX4_sum 1 = .ok (.iload_n 1, 1) := by decide +kernel
theorem dX4_sum_2 : decode cX4_sum 2 = .ok (.iload_n 2, 1) := by decide +kernel
theorem dX4_sum_3 : decode cX4_sum 3 = .ok (.iload_n 3, 1) := by decide +kernel
theorem dX4_sum_4 : decode cX4_sum 4 = .ok (.invokevirtual 111, 3) := by decide +kernel
theorem dX4_sum_7 : decode cX4_sum 7 = .ok (.ifCond .eq 14, 3) := by decide +kernel
theorem dX4_sum_10 : decode cX4_sum 10 = .ok (.aload_n 0, 1) := by decide +kernel
theorem dX4_sum_11 : decode cX4_sum 11 = .ok (.iload_n 1, 1) := by decide +kernel
theorem dX4_sum_12 : decode cX4_sum 12 = .ok (.iload_n 2, 1) := by decide +kernel
theorem dX4_sum_13 : decode cX4_sum 13 = .ok (.iload_n 3, 1) := by decide +kernel
theorem dX4_sum_14 : decode cX4_sum 14 = .ok (.iconst 0, 1) := by decide +kernel
theorem dX4_sum_15 : decode cX4_sum 15 = .ok (.invokevirtual 114, 3) := by decide +kernel
theorem dX4_sum_18 : decode cX4_sum 18 = .ok (.goto 4, 3) := by decide +kernel
theorem dX4_sum_21 : decode cX4_sum 21 = .ok (.iconst 0, 1) := by decide +kernel
theorem dX4_sum_22 : decode cX4_sum 22 = .ok (.ireturn, 1) := by decide +kernel
set_option maxRecDepth 20000 in
theorem ggX4_test_X4_isTest : GoodIn wsX4_test wsX4_isTest := goodIn_r _ [5, 6, 7, 8, 4, 9, 21, 22, 23, 24, 25, 26, 27, 28, 29, 30] (by decide +kernel) (by decide +kernel)
set_option maxRecDepth 20000 in
theorem gX4_test_X4_isTest : GoodIn wsX4_test (wsV RX4 111 RX4 yX4_isTest wsX4_isTest) := goodIn_app (goodIn_of _ (by decide +kernel)) ggX4_test_X4_isTest
set_option maxRecDepth 20000 in
theorem ggX4_test_X4_sumWith : GoodIn wsX4_test wsX4_sumWith := goodIn_r _ [13, 14, 15, 16, 4, 17, 18, 19, 20, 21, 22, 23, 24, 25, 26, 27, 28, 29, 30] (by decide +kernel) (by decide +kernel)
set_option maxRecDepth 20000 in
theorem gX4_test_X4_sumWith : GoodIn wsX4_test (wsV RX4 114 RX4 yX4_sumWith wsX4_sumWith) := goodIn_app (goodIn_of _ (by decide +kernel)) ggX4_test_X4_sumWith
theorem dX4_test_0 : decode cX4_test 0 = .ok (.aload_n 0, 1) := by decide +kernel
theorem dX4_test_1 : decode cX4_test 1 = .ok (.iload_n 1, 1) := by decide +kernel
theorem dX4_test_2 : decode cX4_test 2 = .ok (.iload_n 2, 1) := by decide +kernel
theorem dX4_test_3 : decode cX4_test 3 = .ok (.iload_n 3, 1) := by decide +kernel
theorem dX4_test_4 : decode cX4_test 4 = .ok (.invokevirtual 111, 3) := by decide +kernel
theorem dX4_test_7 : decode cX4_test 7 = .ok (.ifCond .ne 5, 3) := by decide +kernel
theorem dX4_test_10 : decode cX4_test 10 = .ok (.iconst 0, 1) := by decide +kernel
theorem dX4_test_11 : decode cX4_test 11 = .ok (.ireturn, 1) := by decide +kernel
theorem dX4_test_12 : decode cX4_test 12 = .ok (.aload_n 0, 1) := by decide +kernel
theorem dX4_test_13 : decode cX4_test 13 = .ok (.iload_n 1, 1) := by decide +kernel
theorem dX4_test_14 : decode cX4_test 14 = .ok (.iload_n 2, 1) := by decide +kernel
theorem dX4_test_15 : decode cX4_test 15 = .ok (.iload_n 3, 1) := by decide +kernel
theorem dX4_test_16 : decode cX4_test 16 = .ok (.iconst 0, 1) := by decide +kernel
theorem dX4_test_17 : decode cX4_test 17 = .ok (.invokevirtual 114, 3) := by decide +kernel
theorem dX4_test_20 : decode cX4_test 20 = .ok (.istore 4, 2) := by decide +kernel
theorem dX4_test_22 : decode cX4_test 22 = .ok (.iload 4, 2) := by decide +kernel
theorem dX4_test_24 : decode cX4_test 24 = .ok (.ifCond .ge 9, 3) := by decide +kernel
theorem dX4_test_27 : decode cX4_test 27 = .ok (.iload 4, 2) := by decide +kernel
theorem dX4_test_29 : decode cX4_test 29 = .ok (.ineg, 1) := by decide +kernel
theorem dX4_test_30 : decode cX4_test 30 = .ok (.goto 5, 3) := by decide +kernel
theorem dX4_test_33 : decode cX4_test 33 = .ok (.iload 4, 2) := by decide +kernel
theorem dX4_test_35 : decode cX4_test 35 = .ok (.istore 5, 2) := by decide +kernel
theorem dX4_test_37 : decode cX4_test 37 = .ok (.iconst 0, 1) := by decide +kernel
theorem dX4_test_38 : decode cX4_test 38 = .ok (.istore 6, 2) := by decide +kernel
theorem dX4_test_40 : decode cX4_test 40 = .ok (.iconst 0, 1) := by decide +kernel
theorem dX4_test_41 : decode cX4_test 41 = .ok (.istore 7, 2) := by decide +kernel
theorem dX4_test_43 : decode cX4_test 43 = .ok (.iload 7, 2) := by decide +kernel
theorem dX4_test_45 : decode cX4_test 45 = .ok (.sipush 256, 3) := by decide +kernel
theorem dX4_test_48 : decode cX4_test 48 = .ok (.if_icmp .ge 45, 3) := by decide +kernel
theorem dX4_test_51 : decode cX4_test 51 = .ok (.aload_n 0, 1) := by decide +kernel
theorem dX4_test_52 : decode cX4_test 52 = .ok (.iload_n 1, 1) := by decide +kernel
theorem dX4_test_53 : decode cX4_test 53 = .ok (.iload_n 2, 1) := by decide +kernel
theorem dX4_test_54 : decode cX4_test 54 = .ok (.iload_n 3, 1) := by decide +kernel
theorem dX4_test_55 : decode cX4_test 55 = .ok (.iload 7, 2) := by decide +kernel
theorem dX4_test_57 : decode cX4_test 57 = .ok (.invokevirtual 114, 3) := by decide +kernel
theorem dX4_test_60 : decode cX4_test 60 = .ok (.istore 8, 2) := by decide +kernel
theorem dX4_test_62 : decode cX4_test 62 = .ok (.iload 6, 2) := by decide +kernel
theorem dX4_test_64 : decode cX4_test 64 = .ok (.iload 8, 2) := by decide +kernel
theorem dX4_test_66 : decode cX4_test 66 = .ok (.iload 5, 2) := by decide +kernel
theorem dX4_test_68 : decode cX4_test 68 = .ok (.if_icmp .ge 11, 3) := by decide +kernel
theorem dX4_test_71 : decode cX4_test 71 = .ok (.iload 8, 2) := by decide +kernel
theorem dX4_test_73 : decode cX4_test 73 = .ok (.ineg, 1) := by decide +kernel
theorem dX4_test_74 : decode cX4_test 74 = .ok (.iload 5, 2) := by decide +kernel
theorem dX4_test_76 : decode cX4_test 76 = .ok (.if_icmp .lt 7, 3) := by decide +kernel
theorem dX4_test_79 : decode cX4_test 79 = .ok (.iconst 1, 1) := by decide +kernel
theorem dX4_test_80 : decode cX4_test 80 = .ok (.goto 4, 3) := by decide +kernel
theorem dX4_test_83 : decode cX4_test 83 = .ok (.iconst 0, 1) := by decide +kernel
theorem dX4_test_84 : decode cX4_test 84 = .ok (.iadd, 1) := by decide +kernel
theorem dX4_test_85 : decode cX4_test 85 = .ok (.istore 6, 2) := by decide +kernel
theorem dX4_test_87 : decode cX4_test 87 = .ok (.iinc 7 1, 3) := by decide +kernel
theorem dX4_test_90 : decode cX4_test 90 = .ok (.goto (-47), 3) := by decide +kernel
theorem dX4_test_93 : decode cX4_test 93 = .ok (.iload 6, 2) := by decide +kernel
theorem dX4_test_95 : decode cX4_test 95 = .ok (.ireturn, 1) := by decide +kernel
theorem dJ9_abs_0f7a4_0 : decode cJ9_abs_0f7a4 0 = .ok (.iload_n 0, 1) := by decide +kernel
theorem dJ9_abs_0f7a4_1 : decode cJ9_abs_0f7a4 1 = .ok (.ifCond .ge 8, 3) := by decide +kernel
theorem dJ9_abs_0f7a4_4 : decode cJ9_abs_0f7a4 4 = .ok (.iload_n 0, 1) := by decide +kernel
theorem dJ9_abs_0f7a4_5 : decode cJ9_abs_0f7a4 5 = .ok (.ineg, 1) := by decide +kernel
theorem dJ9_abs_0f7a4_6 : decode cJ9_abs_0f7a4 6 = .ok (.goto 4, 3) := by decide +kernel
theorem dJ9_abs_0f7a4_9 : decode cJ9_abs_0f7a4 9 = .ok (.iload_n 0, 1) := by decide +kernel
theorem dJ9_abs_0f7a4_10 : decode cJ9_abs_0f7a4 10 = .ok (.ireturn, 1) := by decide +kernel
theorem dJ9_max_7cf53_0 : decode cJ9_max_7cf53 0 = .ok (.iload_n 0, 1) := by decide +kernel
theorem dJ9_max_7cf53_1 : decode cJ9_max_7cf53 1 = .ok (.iload_n 1, 1) := by decide +kernel
theorem dJ9_max_7cf53_2 : decode cJ9_max_7cf53 2 = .ok (.if_icmp .lt 7, 3) := by decide +kernel
theorem dJ9_max_7cf53_5 : decode cJ9_max_7cf53 5 = .ok (.iload_n 0, 1) := by decide +kernel
theorem dJ9_max_7cf53_6 : decode cJ9_max_7cf53 6 = .ok (.goto 4, 3) := by decide +kernel
theorem dJ9_max_7cf53_9 : decode cJ9_max_7cf53 9 = .ok (.iload_n 1, 1) := by decide +kernel
theorem dJ9_max_7cf53_10 : decode cJ9_max_7cf53 10 = .ok (.ireturn, 1) := by decide +kernel
theorem dJ9_min_7cf53_0 : decode cJ9_min_7cf53 0 = .ok (.iload_n 0, 1) := by decide +kernel
theorem dJ9_min_7cf53_1 : decode cJ9_min_7cf53 1 = .ok (.iload_n 1, 1) := by decide +kernel
theorem dJ9_min_7cf53_2 : decode cJ9_min_7cf53 2 = .ok (.if_icmp .gt 7, 3) := by decide +kernel
theorem dJ9_min_7cf53_5 : decode cJ9_min_7cf53 5 = .ok (.iload_n 0, 1) := by decide +kernel
theorem dJ9_min_7cf53_6 : decode cJ9_min_7cf53 6 = .ok (.goto 4, 3) := by decide +kernel
theorem dJ9_min_7cf53_9 : decode cJ9_min_7cf53 9 = .ok (.iload_n 1, 1) := by decide +kernel
theorem dJ9_min_7cf53_10 : decode cJ9_min_7cf53 10 = .ok (.ireturn, 1) := by decide +kernel
set_option maxRecDepth 20000 in
theorem ggL_append_X3_append : GoodIn wsL_append wsX3_append := goodIn_ca (goodIn_ca (goodIn_r _ [7, 8, 9, 10, 11, 12, 13, 14, 6, 15, 16, 17, 18, 19, 20, 21, 22, 23, 24, 25, 26, 27, 28, 29, 30, 31, 32, 33, 34, 35, 36, 37, 38, 39, 40, 41, 42] (by decide +kernel) (by decide +kernel)) (goodIn_sub (fun _ h => List.mem_cons_of_mem _ (List.mem_append_left _ (List.mem_append_right _ h))) (by decide +kernel))) (goodIn_sub (fun _ h => List.mem_cons_of_mem _ (List.mem_append_right _ h)) (by decide +kernel))
set_option maxRecDepth 20000 in
theorem gL_append_X3_append : GoodIn wsL_append (wsV RL 7 RX3 yX3_append wsX3_append) := goodIn_app (goodIn_of _ (by decide +kernel)) ggL_append_X3_append
theorem dL_append_0 : decode cL_append 0 = .ok (.aload 5, 2) := by decide +kernel
theorem dL_append_2 : decode cL_append 2 = .ok (.iconst 0, 1) := by decide +kernel
theorem dL_append_3 : decode cL_append 3 = .ok (.aload_n 0, 1) := by decide +kernel
theorem dL_append_4 : decode cL_append 4 = .ok (.iload_n 1, 1) := by decide +kernel
theorem dL_append_5 : decode cL_append 5 = .ok (.iload_n 2, 1) := by decide +kernel
theorem dL_append_6 : decode cL_append 6 = .ok (.iload_n 3, 1) := by decide +kernel
theorem dL_append_7 : decode cL_append 7 = .ok (.iload 4, 2) := by decide +kernel
theorem dL_append_9 : decode cL_append 9 = .ok (.invokevirtual 7, 3) := by decide +kernel
theorem dL_append_12 : decode cL_append 12 = .ok (.i2l, 1) := by decide +kernel
theorem dL_append_13 : decode cL_append 13 = .ok (.lastore, 1) := by decide +kernel
theorem dL_append_14 : decode cL_append 14 = .ok (.goto 11, 3) := by decide +kernel
theorem dL_append_17 : decode cL_append 17 = .ok (.astore 6, 2) := by decide +kernel
theorem dL_append_19 : decode cL_append 19 = .ok (.iconst 1, 1) := by decide +kernel
theorem dL_append_20 : decode cL_append 20 = .ok (.ireturn, 1) := by decide +kernel
theorem dL_append_21 : decode cL_append 21 = .ok (.astore 6, 2) := by decide +kernel
theorem dL_append_23 : decode cL_append 23 = .ok (.iconst 2, 1) := by decide +kernel
theorem dL_append_24 : decode cL_append 24 = .ok (.ireturn, 1) := by decide +kernel
theorem dL_append_25 : decode cL_append 25 = .ok (.iconst 0, 1) := by decide +kernel
theorem dL_append_26 : decode cL_append 26 = .ok (.ireturn, 1) := by decide +kernel
set_option maxRecDepth 20000 in
theorem ggL_empty_X3_empty : GoodIn wsL_empty wsX3_empty := goodIn_ca (goodIn_r _ [6, 7, 8, 9, 5, 10, 11, 12, 13, 14, 15, 16, 17, 18, 19, 20, 21, 22, 23] (by decide +kernel) (by decide +kernel)) (goodIn_sub (fun _ h => List.mem_cons_of_mem _ (List.mem_append_right _ h)) (by decide +kernel))
set_option maxRecDepth 20000 in
theorem gL_empty_X3_empty : GoodIn wsL_empty (wsV RL 17 RX3 yX3_empty wsX3_empty) := goodIn_app (goodIn_of _ (by decide +kernel)) ggL_empty_X3_empty
theorem dL_empty_0 : decode cL_empty 0 = .ok (.aload_n 3, 1) := by decide +kernel
theorem dL_empty_1 : decode cL_empty 1 = .ok (.iconst 0, 1) := by decide +kernel
theorem dL_empty_2 : decode cL_empty 2 = .ok (.aload_n 0, 1) := by decide +kernel
theorem dL_empty_3 : decode cL_empty 3 = .ok (.iload_n 1, 1) := by decide +kernel
theorem dL_empty_4 : decode cL_empty 4 = .ok (.iload_n 2, 1) := by decide +kernel
theorem dL_empty_5 : decode cL_empty 5 = .ok (.invokevirtual 17, 3) := by decide +kernel
theorem dL_empty_8 : decode cL_empty 8 = .ok (.i2l, 1) := by decide +kernel
theorem dL_empty_9 : decode cL_empty 9 = .ok (.lastore, 1) := by decide +kernel
theorem dL_empty_10 : decode cL_empty 10 = .ok (.goto 7, 3) := by decide +kernel
theorem dL_empty_13 : decode cL_empty 13 = .ok (.astore 4, 2) := by decide +kernel
theorem dL_empty_15 : decode cL_empty 15 = .ok (.iconst 1, 1) := by decide +kernel
theorem dL_empty_16 : decode cL_empty 16 = .ok (.ireturn, 1) := by decide +kernel
theorem dL_empty_17 : decode cL_empty 17 = .ok (.iconst 0, 1) := by decide +kernel
theorem dL_empty_18 : decode cL_empty 18 = .ok (.ireturn, 1) := by decide +kernel
set_option maxRecDepth 20000 in
theorem ggL_length_X3_length : GoodIn wsL_length wsX3_length := goodIn_ca (goodIn_r _ [6, 7, 8, 9, 5, 10, 11, 12, 13, 14, 15, 16, 17, 18, 19, 20, 21, 22, 23] (by decide +kernel) (by decide +kernel)) (goodIn_sub (fun _ h => List.mem_cons_of_mem _ (List.mem_append_right _ h)) (by decide +kernel))
set_option maxRecDepth 20000 in
theorem gL_length_X3_length : GoodIn wsL_length (wsV RL 21 RX3 yX3_length wsX3_length) := goodIn_app (goodIn_of _ (by decide +kernel)) ggL_length_X3_length
theorem dL_length_0 : decode cL_length 0 = .ok (.aload_n 3, 1) := by decide +kernel
theorem dL_length_1 : decode cL_length 1 = .ok (.iconst 0, 1) := by decide +kernel
theorem dL_length_2 : decode cL_length 2 = .ok (.aload_n 0, 1) := by decide +kernel
theorem dL_length_3 : decode cL_length 3 = .ok (.iload_n 1, 1) := by decide +kernel
theorem dL_length_4 : decode cL_length 4 = .ok (.iload_n 2, 1) := by decide +kernel
theorem dL_length_5 : decode cL_length 5 = .ok (.invokevirtual 21, 3) := by decide +kernel
theorem dL_length_8 : decode cL_length 8 = .ok (.i2l, 1) := by decide +kernel
theorem dL_length_9 : decode cL_length 9 = .ok (.lastore, 1) := by decide +kernel
theorem dL_length_10 : decode cL_length 10 = .ok (.goto 7, 3) := by decide +kernel
theorem dL_length_13 : decode cL_length 13 = .ok (.astore 4, 2) := by decide +kernel
theorem dL_length_15 : decode cL_length 15 = .ok (.iconst 1, 1) := by decide +kernel
theorem dL_length_16 : decode cL_length 16 = .ok (.ireturn, 1) := by decide +kernel
theorem dL_length_17 : decode cL_length 17 = .ok (.iconst 0, 1) := by decide +kernel
theorem dL_length_18 : decode cL_length 18 = .ok (.ireturn, 1) := by decide +kernel
set_option maxRecDepth 20000 in
theorem ggL_at_X3_at : GoodIn wsL_at wsX3_at := goodIn_ca (goodIn_r _ [6, 7, 8, 9, 5, 10, 11, 12, 13, 14, 15, 16, 17, 18, 19, 20, 21, 22, 23, 24, 25, 26, 27, 28, 29, 30, 31, 32] (by decide +kernel) (by decide +kernel)) (goodIn_sub (fun _ h => List.mem_cons_of_mem _ (List.mem_append_right _ h)) (by decide +kernel))
set_option maxRecDepth 20000 in
theorem gL_at_X3_at : GoodIn wsL_at (wsV RL 24 RX3 yX3_at wsX3_at) := goodIn_app (goodIn_of _ (by decide +kernel)) ggL_at_X3_at
theorem dL_at_0 : decode cL_at 0 = .ok (.aload 4, 2) := by decide +kernel
theorem dL_at_2 : decode cL_at 2 = .ok (.iconst 0, 1) := by decide +kernel
theorem dL_at_3 : decode cL_at 3 = .ok (.aload_n 0, 1) := by decide +kernel
theorem dL_at_4 : decode cL_at 4 = .ok (.iload_n 1, 1) := by decide +kernel
theorem dL_at_5 : decode cL_at 5 = .ok (.iload_n 2, 1) := by decide +kernel
theorem dL_at_6 : decode cL_at 6 = .ok (.iload_n 3, 1) := by decide +kernel
theorem dL_at_7 : decode cL_at 7 = .ok (.invokevirtual 24, 3) := by decide +kernel
theorem dL_at_10 : decode cL_at 10 = .ok (.i2l, 1) := by decide +kernel
theorem dL_at_11 : decode cL_at 11 = .ok (.lastore, 1) := by decide +kernel
theorem dL_at_12 : decode cL_at 12 = .ok (.goto 7, 3) := by decide +kernel
theorem dL_at_15 : decode cL_at 15 = .ok (.astore 5, 2) := by decide +kernel
theorem dL_at_17 : decode cL_at 17 = .ok (.iconst 1, 1) := by decide +kernel
theorem dL_at_18 : decode cL_at 18 = .ok (.ireturn, 1) := by decide +kernel
theorem dL_at_19 : decode cL_at 19 = .ok (.iconst 0, 1) := by decide +kernel
theorem dL_at_20 : decode cL_at 20 = .ok (.ireturn, 1) := by decide +kernel
set_option maxRecDepth 20000 in
theorem ggL_judge_X3_judge : GoodIn wsL_judge wsX3_judge := goodIn_ca (goodIn_r _ [6, 7, 8, 9, 10, 11, 5, 12, 13, 14, 15, 16, 17, 18, 19, 20] (by decide +kernel) (by decide +kernel)) (goodIn_sub (fun _ h => List.mem_cons_of_mem _ (List.mem_append_right _ h)) (by decide +kernel))
set_option maxRecDepth 20000 in
theorem gL_judge_X3_judge : GoodIn wsL_judge (wsV RL 28 RX3 yX3_judge wsX3_judge) := goodIn_app (goodIn_of _ (by decide +kernel)) ggL_judge_X3_judge
theorem dL_judge_0 : decode cL_judge 0 = .ok (.aload 4, 2) := by decide +kernel
theorem dL_judge_2 : decode cL_judge 2 = .ok (.iconst 0, 1) := by decide +kernel
theorem dL_judge_3 : decode cL_judge 3 = .ok (.aload_n 0, 1) := by decide +kernel
theorem dL_judge_4 : decode cL_judge 4 = .ok (.iload_n 1, 1) := by decide +kernel
theorem dL_judge_5 : decode cL_judge 5 = .ok (.iload_n 2, 1) := by decide +kernel
theorem dL_judge_6 : decode cL_judge 6 = .ok (.iload_n 3, 1) := by decide +kernel
theorem dL_judge_7 : decode cL_judge 7 = .ok (.invokevirtual 28, 3) := by decide +kernel
theorem dL_judge_10 : decode cL_judge 10 = .ok (.i2l, 1) := by decide +kernel
theorem dL_judge_11 : decode cL_judge 11 = .ok (.lastore, 1) := by decide +kernel
theorem dL_judge_12 : decode cL_judge 12 = .ok (.goto 7, 3) := by decide +kernel
theorem dL_judge_15 : decode cL_judge 15 = .ok (.astore 5, 2) := by decide +kernel
theorem dL_judge_17 : decode cL_judge 17 = .ok (.iconst 1, 1) := by decide +kernel
theorem dL_judge_18 : decode cL_judge 18 = .ok (.ireturn, 1) := by decide +kernel
theorem dL_judge_19 : decode cL_judge 19 = .ok (.iconst 0, 1) := by decide +kernel
theorem dL_judge_20 : decode cL_judge 20 = .ok (.ireturn, 1) := by decide +kernel
set_option maxRecDepth 20000 in
theorem ggL_pool_X3_pool : GoodIn wsL_pool wsX3_pool := goodIn_ca (goodIn_r _ [6, 7, 8, 9, 5, 10, 11, 12, 13, 14, 15, 16, 17, 18, 19, 20, 21, 22, 23, 24, 25, 26, 27, 28, 29, 30, 31, 32, 33, 34, 35, 36, 37, 38] (by decide +kernel) (by decide +kernel)) (goodIn_sub (fun _ h => List.mem_cons_of_mem _ (List.mem_append_right _ h)) (by decide +kernel))
set_option maxRecDepth 20000 in
theorem gL_pool_X3_pool : GoodIn wsL_pool (wsV RL 31 RX3 yX3_pool wsX3_pool) := goodIn_app (goodIn_of _ (by decide +kernel)) ggL_pool_X3_pool
theorem dL_pool_0 : decode cL_pool 0 = .ok (.aload_n 3, 1) := by decide +kernel
theorem dL_pool_1 : decode cL_pool 1 = .ok (.iconst 0, 1) := by decide +kernel
theorem dL_pool_2 : decode cL_pool 2 = .ok (.aload_n 0, 1) := by decide +kernel
theorem dL_pool_3 : decode cL_pool 3 = .ok (.iload_n 1, 1) := by decide +kernel
theorem dL_pool_4 : decode cL_pool 4 = .ok (.iload_n 2, 1) := by decide +kernel
theorem dL_pool_5 : decode cL_pool 5 = .ok (.invokevirtual 31, 3) := by decide +kernel
theorem dL_pool_8 : decode cL_pool 8 = .ok (.i2l, 1) := by decide +kernel
theorem dL_pool_9 : decode cL_pool 9 = .ok (.lastore, 1) := by decide +kernel
theorem dL_pool_10 : decode cL_pool 10 = .ok (.goto 7, 3) := by decide +kernel
theorem dL_pool_13 : decode cL_pool 13 = .ok (.astore 4, 2) := by decide +kernel
theorem dL_pool_15 : decode cL_pool 15 = .ok (.iconst 1, 1) := by decide +kernel
theorem dL_pool_16 : decode cL_pool 16 = .ok (.ireturn, 1) := by decide +kernel
theorem dL_pool_17 : decode cL_pool 17 = .ok (.iconst 0, 1) := by decide +kernel
theorem dL_pool_18 : decode cL_pool 18 = .ok (.ireturn, 1) := by decide +kernel
set_option maxRecDepth 20000 in
theorem ggL_toJudge_X3_toJudge : GoodIn wsL_toJudge wsX3_toJudge := goodIn_ca (goodIn_r _ [6, 7, 8, 9, 5, 10, 11, 12, 13, 14, 15, 16, 17, 18, 19, 20, 21, 22, 23, 24, 25, 26, 27, 28, 29, 30, 31, 32, 33, 34, 35, 36, 37, 38, 39] (by decide +kernel) (by decide +kernel)) (goodIn_sub (fun _ h => List.mem_cons_of_mem _ (List.mem_append_right _ h)) (by decide +kernel))
set_option maxRecDepth 20000 in
theorem gL_toJudge_X3_toJudge : GoodIn wsL_toJudge (wsV RL 34 RX3 yX3_toJudge wsX3_toJudge) := goodIn_app (goodIn_of _ (by decide +kernel)) ggL_toJudge_X3_toJudge
theorem dL_toJudge_0 : decode cL_toJudge 0 = .ok (.aload_n 3, 1) := by decide +kernel
theorem dL_toJudge_1 : decode cL_toJudge 1 = .ok (.iconst 0, 1) := by decide +kernel
theorem dL_toJudge_2 : decode cL_toJudge 2 = .ok (.aload_n 0, 1) := by decide +kernel
theorem dL_toJudge_3 : decode cL_toJudge 3 = .ok (.iload_n 1, 1) := by decide +kernel
theorem dL_toJudge_4 : decode cL_toJudge 4 = .ok (.iload_n 2, 1) := by decide +kernel
theorem dL_toJudge_5 : decode cL_toJudge 5 = .ok (.invokevirtual 34, 3) := by decide +kernel
theorem dL_toJudge_8 : decode cL_toJudge 8 = .ok (.i2l, 1) := by decide +kernel
theorem dL_toJudge_9 : decode cL_toJudge 9 = .ok (.lastore, 1) := by decide +kernel
theorem dL_toJudge_10 : decode cL_toJudge 10 = .ok (.goto 7, 3) := by decide +kernel
theorem dL_toJudge_13 : decode cL_toJudge 13 = .ok (.astore 4, 2) := by decide +kernel
theorem dL_toJudge_15 : decode cL_toJudge 15 = .ok (.iconst 1, 1) := by decide +kernel
theorem dL_toJudge_16 : decode cL_toJudge 16 = .ok (.ireturn, 1) := by decide +kernel
theorem dL_toJudge_17 : decode cL_toJudge 17 = .ok (.iconst 0, 1) := by decide +kernel
theorem dL_toJudge_18 : decode cL_toJudge 18 = .ok (.ireturn, 1) := by decide +kernel
set_option maxRecDepth 20000 in
theorem ggL_hits_X3_hits : GoodIn wsL_hits wsX3_hits := goodIn_ca (goodIn_r _ [6, 7, 8, 5, 9, 10, 11, 12, 13, 14, 15, 16, 17, 18, 19, 20, 21, 22, 23, 24, 25, 26, 27, 28, 29, 30, 31, 32, 33, 34, 35, 36, 37, 38, 39, 40, 41, 42, 43, 44, 45] (by decide +kernel) (by decide +kernel)) (goodIn_sub (fun _ h => List.mem_cons_of_mem _ (List.mem_append_right _ h)) (by decide +kernel))
set_option maxRecDepth 20000 in
theorem gL_hits_X3_hits : GoodIn wsL_hits (wsV RL 37 RX3 yX3_hits wsX3_hits) := goodIn_app (goodIn_of _ (by decide +kernel)) ggL_hits_X3_hits
theorem dL_hits_0 : decode cL_hits 0 = .ok (.aload 4, 2) := by decide +kernel
theorem dL_hits_2 : decode cL_hits 2 = .ok (.iconst 0, 1) := by decide +kernel
theorem dL_hits_3 : decode cL_hits 3 = .ok (.aload_n 0, 1) := by decide +kernel
theorem dL_hits_4 : decode cL_hits 4 = .ok (.iload_n 1, 1) := by decide +kernel
theorem dL_hits_5 : decode cL_hits 5 = .ok (.iload_n 2, 1) := by decide +kernel
theorem dL_hits_6 : decode cL_hits 6 = .ok (.iload_n 3, 1) := by decide +kernel
