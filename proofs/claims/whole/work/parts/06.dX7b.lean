theorem dX7_unseen_35 : decode cX7_unseen 35 = .ok (.imul, 1) := by decide +kernel
theorem dX7_unseen_36 : decode cX7_unseen 36 = .ok (.iload 7, 2) := by decide +kernel
theorem dX7_unseen_38 : decode cX7_unseen 38 = .ok (.iadd, 1) := by decide +kernel
theorem dX7_unseen_39 : decode cX7_unseen 39 = .ok (.iaload, 1) := by decide +kernel
theorem dX7_unseen_40 : decode cX7_unseen 40 = .ok (.i2l, 1) := by decide +kernel
theorem dX7_unseen_41 : decode cX7_unseen 41 = .ok (.ladd, 1) := by decide +kernel
theorem dX7_unseen_42 : decode cX7_unseen 42 = .ok (.lstore 5, 2) := by decide +kernel
theorem dX7_unseen_44 : decode cX7_unseen 44 = .ok (.iinc 7 1, 3) := by decide +kernel
theorem dX7_unseen_47 : decode cX7_unseen 47 = .ok (.goto (-27), 3) := by decide +kernel
theorem dX7_unseen_50 : decode cX7_unseen 50 = .ok (.aload_n 0, 1) := by decide +kernel
theorem dX7_unseen_51 : decode cX7_unseen 51 = .ok (.iload 4, 2) := by decide +kernel
theorem dX7_unseen_53 : decode cX7_unseen 53 = .ok (.iload_n 1, 1) := by decide +kernel
theorem dX7_unseen_54 : decode cX7_unseen 54 = .ok (.invokevirtual 123, 3) := by decide +kernel
theorem dX7_unseen_57 : decode cX7_unseen 57 = .ok (.ifCond .eq 13, 3) := by decide +kernel
theorem dX7_unseen_60 : decode cX7_unseen 60 = .ok (.aload_n 0, 1) := by decide +kernel
theorem dX7_unseen_61 : decode cX7_unseen 61 = .ok (.iload 4, 2) := by decide +kernel
theorem dX7_unseen_63 : decode cX7_unseen 63 = .ok (.iload_n 1, 1) := by decide +kernel
theorem dX7_unseen_64 : decode cX7_unseen 64 = .ok (.invokevirtual 127, 3) := by decide +kernel
theorem dX7_unseen_67 : decode cX7_unseen 67 = .ok (.goto 18, 3) := by decide +kernel
theorem dX7_unseen_70 : decode cX7_unseen 70 = .ok (.bipush 100, 2) := by decide +kernel
theorem dX7_unseen_72 : decode cX7_unseen 72 = .ok (.aload_n 0, 1) := by decide +kernel
theorem dX7_unseen_73 : decode cX7_unseen 73 = .ok (.getfield 7, 3) := by decide +kernel
theorem dX7_unseen_76 : decode cX7_unseen 76 = .ok (.aload_n 0, 1) := by decide +kernel
theorem dX7_unseen_77 : decode cX7_unseen 77 = .ok (.getfield 21, 3) := by decide +kernel
theorem dX7_unseen_80 : decode cX7_unseen 80 = .ok (.iload 4, 2) := by decide +kernel
theorem dX7_unseen_82 : decode cX7_unseen 82 = .ok (.iaload, 1) := by decide +kernel
theorem dX7_unseen_83 : decode cX7_unseen 83 = .ok (.iaload, 1) := by decide +kernel
theorem dX7_unseen_84 : decode cX7_unseen 84 = .ok (.imul, 1) := by decide +kernel
theorem dX7_unseen_85 : decode cX7_unseen 85 = .ok (.istore 7, 2) := by decide +kernel
theorem dX7_unseen_87 : decode cX7_unseen 87 = .ok (.lload_n 2, 1) := by decide +kernel
theorem dX7_unseen_88 : decode cX7_unseen 88 = .ok (.aload_n 0, 1) := by decide +kernel
theorem dX7_unseen_89 : decode cX7_unseen 89 = .ok (.getfield 18, 3) := by decide +kernel
theorem dX7_unseen_92 : decode cX7_unseen 92 = .ok (.iload 4, 2) := by decide +kernel
theorem dX7_unseen_94 : decode cX7_unseen 94 = .ok (.iaload, 1) := by decide +kernel
theorem dX7_unseen_95 : decode cX7_unseen 95 = .ok (.iload_n 1, 1) := by decide +kernel
theorem dX7_unseen_96 : decode cX7_unseen 96 = .ok (.if_icmp .ne 21, 3) := by decide +kernel
theorem dX7_unseen_99 : decode cX7_unseen 99 = .ok (.lload 5, 2) := by decide +kernel
theorem dX7_unseen_101 : decode cX7_unseen 101 = .ok (.aload_n 0, 1) := by decide +kernel
theorem dX7_unseen_102 : decode cX7_unseen 102 = .ok (.iload 4, 2) := by decide +kernel
theorem dX7_unseen_104 : decode cX7_unseen 104 = .ok (.iload_n 1, 1) := by decide +kernel
theorem dX7_unseen_105 : decode cX7_unseen 105 = .ok (.invokevirtual 120, 3) := by decide +kernel
theorem dX7_unseen_108 : decode cX7_unseen 108 = .ok (.i2l, 1) := by decide +kernel
theorem dX7_unseen_109 : decode cX7_unseen 109 = .ok (.lsub, 1) := by decide +kernel
theorem dX7_unseen_110 : decode cX7_unseen 110 = .ok (.iload 7, 2) := by decide +kernel
theorem dX7_unseen_112 : decode cX7_unseen 112 = .ok (.i2l, 1) := by decide +kernel
theorem dX7_unseen_113 : decode cX7_unseen 113 = .ok (.lmul, 1) := by decide +kernel
theorem dX7_unseen_114 : decode cX7_unseen 114 = .ok (.goto 4, 3) := by decide +kernel
theorem dX7_unseen_117 : decode cX7_unseen 117 = .ok (.lconst 0, 1) := by decide +kernel
theorem dX7_unseen_118 : decode cX7_unseen 118 = .ok (.ladd, 1) := by decide +kernel
theorem dX7_unseen_119 : decode cX7_unseen 119 = .ok (.lstore_n 2, 1) := by decide +kernel
theorem dX7_unseen_120 : decode cX7_unseen 120 = .ok (.iinc 4 1, 3) := by decide +kernel
theorem dX7_unseen_123 : decode cX7_unseen 123 = .ok (.goto (-118), 3) := by decide +kernel
theorem dX7_unseen_126 : decode cX7_unseen 126 = .ok (.lload_n 2, 1) := by decide +kernel
theorem dX7_unseen_127 : decode cX7_unseen 127 = .ok (.lreturn, 1) := by decide +kernel
set_option maxRecDepth 20000 in
theorem ggX7_count_X7_kind : GoodIn wsX7_count wsX7_kind := goodIn_r _ [8, 9, 10, 11, 12, 13, 7, 14, 15, 16, 17, 18, 19, 20, 21, 22, 23, 24, 25, 26, 27, 28, 43, 44, 45, 46, 47, 48, 49, 50, 51, 52, 53, 54, 55, 56, 57, 58, 59, 60, 61, 62, 63, 64, 65, 66, 67, 68, 69, 70] (by decide +kernel) (by decide +kernel)
set_option maxRecDepth 20000 in
theorem gX7_count_X7_kind : GoodIn wsX7_count (wsV RX7 130 RX7 yX7_kind wsX7_kind) := goodIn_app (goodIn_of _ (by decide +kernel)) ggX7_count_X7_kind
set_option maxRecDepth 20000 in
theorem ggX7_count_X7_totalOf : GoodIn wsX7_count wsX7_totalOf := goodIn_r _ [32, 1, 9, 24, 25, 26, 7, 27, 28, 11, 12, 13, 14, 15, 16, 17, 18, 19, 20, 21, 22, 23, 33, 34, 35, 36, 10, 37, 38, 39, 43, 44, 45, 46, 47, 48, 49, 50, 51, 52, 53, 54, 55, 56, 57, 58, 59, 60, 61, 62, 63, 64, 65, 66, 67, 68, 69, 70] (by decide +kernel) (by decide +kernel)
set_option maxRecDepth 20000 in
theorem gX7_count_X7_totalOf : GoodIn wsX7_count (wsV RX7 192 RX7 yX7_totalOf wsX7_totalOf) := goodIn_app (goodIn_of _ (by decide +kernel)) ggX7_count_X7_totalOf
set_option maxRecDepth 20000 in
theorem ggX7_count_X7_in : GoodIn wsX7_count wsX7_in := goodIn_r _ [42] (by decide +kernel) (by decide +kernel)
set_option maxRecDepth 20000 in
theorem gX7_count_X7_in : GoodIn wsX7_count (va_wsS RX7 83 yX7_in wsX7_in) := goodIn_app (goodIn_of _ (by decide +kernel)) ggX7_count_X7_in
theorem dX7_count_0 : decode cX7_count 0 = .ok (.iconst 0, 1) := by decide +kernel
theorem dX7_count_1 : decode cX7_count 1 = .ok (.istore_n 2, 1) := by decide +kernel
theorem dX7_count_2 : decode cX7_count 2 = .ok (.iconst 0, 1) := by decide +kernel
theorem dX7_count_3 : decode cX7_count 3 = .ok (.istore_n 3, 1) := by decide +kernel
theorem dX7_count_4 : decode cX7_count 4 = .ok (.iload_n 3, 1) := by decide +kernel
theorem dX7_count_5 : decode cX7_count 5 = .ok (.aload_n 0, 1) := by decide +kernel
theorem dX7_count_6 : decode cX7_count 6 = .ok (.getfield 87, 3) := by decide +kernel
theorem dX7_count_9 : decode cX7_count 9 = .ok (.if_icmp .ge 35, 3) := by decide +kernel
theorem dX7_count_12 : decode cX7_count 12 = .ok (.iload_n 2, 1) := by decide +kernel
theorem dX7_count_13 : decode cX7_count 13 = .ok (.iload_n 1, 1) := by decide +kernel
theorem dX7_count_14 : decode cX7_count 14 = .ok (.ifCond .le 21, 3) := by decide +kernel
theorem dX7_count_17 : decode cX7_count 17 = .ok (.iload_n 1, 1) := by decide +kernel
theorem dX7_count_18 : decode cX7_count 18 = .ok (.iconst 4, 1) := by decide +kernel
theorem dX7_count_19 : decode cX7_count 19 = .ok (.if_icmp .ge 16, 3) := by decide +kernel
theorem dX7_count_22 : decode cX7_count 22 = .ok (.aload_n 0, 1) := by decide +kernel
theorem dX7_count_23 : decode cX7_count 23 = .ok (.iload_n 3, 1) := by decide +kernel
theorem dX7_count_24 : decode cX7_count 24 = .ok (.invokevirtual 130, 3) := by decide +kernel
theorem dX7_count_27 : decode cX7_count 27 = .ok (.iload_n 1, 1) := by decide +kernel
theorem dX7_count_28 : decode cX7_count 28 = .ok (.if_icmp .ne 7, 3) := by decide +kernel
theorem dX7_count_31 : decode cX7_count 31 = .ok (.iconst 1, 1) := by decide +kernel
theorem dX7_count_32 : decode cX7_count 32 = .ok (.goto 4, 3) := by decide +kernel
theorem dX7_count_35 : decode cX7_count 35 = .ok (.iconst 0, 1) := by decide +kernel
theorem dX7_count_36 : decode cX7_count 36 = .ok (.iadd, 1) := by decide +kernel
theorem dX7_count_37 : decode cX7_count 37 = .ok (.istore_n 2, 1) := by decide +kernel
theorem dX7_count_38 : decode cX7_count 38 = .ok (.iinc 3 1, 3) := by decide +kernel
theorem dX7_count_41 : decode cX7_count 41 = .ok (.goto (-37), 3) := by decide +kernel
theorem dX7_count_44 : decode cX7_count 44 = .ok (.iconst 0, 1) := by decide +kernel
theorem dX7_count_45 : decode cX7_count 45 = .ok (.istore_n 3, 1) := by decide +kernel
theorem dX7_count_46 : decode cX7_count 46 = .ok (.iload_n 3, 1) := by decide +kernel
theorem dX7_count_47 : decode cX7_count 47 = .ok (.bipush 8, 2) := by decide +kernel
theorem dX7_count_49 : decode cX7_count 49 = .ok (.if_icmp .ge 51, 3) := by decide +kernel
theorem dX7_count_52 : decode cX7_count 52 = .ok (.iload_n 2, 1) := by decide +kernel
theorem dX7_count_53 : decode cX7_count 53 = .ok (.iload_n 1, 1) := by decide +kernel
theorem dX7_count_54 : decode cX7_count 54 = .ok (.iconst 4, 1) := by decide +kernel
theorem dX7_count_55 : decode cX7_count 55 = .ok (.if_icmp .ne 16, 3) := by decide +kernel
theorem dX7_count_58 : decode cX7_count 58 = .ok (.aload_n 0, 1) := by decide +kernel
theorem dX7_count_59 : decode cX7_count 59 = .ok (.iload_n 3, 1) := by decide +kernel
theorem dX7_count_60 : decode cX7_count 60 = .ok (.iload_n 3, 1) := by decide +kernel
theorem dX7_count_61 : decode cX7_count 61 = .ok (.bipush (-4), 2) := by decide +kernel
theorem dX7_count_63 : decode cX7_count 63 = .ok (.invokevirtual 192, 3) := by decide +kernel
theorem dX7_count_66 : decode cX7_count 66 = .ok (.lconst 0, 1) := by decide +kernel
theorem dX7_count_67 : decode cX7_count 67 = .ok (.lcmp, 1) := by decide +kernel
theorem dX7_count_68 : decode cX7_count 68 = .ok (.ifCond .gt 19, 3) := by decide +kernel
theorem dX7_count_71 : decode cX7_count 71 = .ok (.iload_n 1, 1) := by decide +kernel
theorem dX7_count_72 : decode cX7_count 72 = .ok (.iconst 5, 1) := by decide +kernel
theorem dX7_count_73 : decode cX7_count 73 = .ok (.if_icmp .ne 18, 3) := by decide +kernel
theorem dX7_count_76 : decode cX7_count 76 = .ok (.aload_n 0, 1) := by decide +kernel
theorem dX7_count_77 : decode cX7_count 77 = .ok (.getfield 52, 3) := by decide +kernel
theorem dX7_count_80 : decode cX7_count 80 = .ok (.iload_n 3, 1) := by decide +kernel
theorem dX7_count_81 : decode cX7_count 81 = .ok (.laload, 1) := by decide +kernel
theorem dX7_count_82 : decode cX7_count 82 = .ok (.lconst 0, 1) := by decide +kernel
theorem dX7_count_83 : decode cX7_count 83 = .ok (.lcmp, 1) := by decide +kernel
theorem dX7_count_84 : decode cX7_count 84 = .ok (.ifCond .lt 7, 3) := by decide +kernel
theorem dX7_count_87 : decode cX7_count 87 = .ok (.iconst 1, 1) := by decide +kernel
theorem dX7_count_88 : decode cX7_count 88 = .ok (.goto 4, 3) := by decide +kernel
theorem dX7_count_91 : decode cX7_count 91 = .ok (.iconst 0, 1) := by decide +kernel
theorem dX7_count_92 : decode cX7_count 92 = .ok (.iadd, 1) := by decide +kernel
theorem dX7_count_93 : decode cX7_count 93 = .ok (.istore_n 2, 1) := by decide +kernel
theorem dX7_count_94 : decode cX7_count 94 = .ok (.iinc 3 1, 3) := by decide +kernel
theorem dX7_count_97 : decode cX7_count 97 = .ok (.goto (-51), 3) := by decide +kernel
theorem dX7_count_100 : decode cX7_count 100 = .ok (.iload_n 1, 1) := by decide +kernel
theorem dX7_count_101 : decode cX7_count 101 = .ok (.i2l, 1) := by decide +kernel
theorem dX7_count_102 : decode cX7_count 102 = .ok (.lconst 0, 1) := by decide +kernel
theorem dX7_count_103 : decode cX7_count 103 = .ok (.ldc2_w 90, 3) := by decide +kernel
theorem dX7_count_106 : decode cX7_count 106 = .ok (.invokestatic 83, 3) := by decide +kernel
theorem dX7_count_109 : decode cX7_count 109 = .ok (.ifCond .ne 7, 3) := by decide +kernel
theorem dX7_count_112 : decode cX7_count 112 = .ok (.iconst (-1), 1) := by decide +kernel
theorem dX7_count_113 : decode cX7_count 113 = .ok (.goto 15, 3) := by decide +kernel
theorem dX7_count_116 : decode cX7_count 116 = .ok (.iload_n 1, 1) := by decide +kernel
theorem dX7_count_117 : decode cX7_count 117 = .ok (.ifCond .ne 10, 3) := by decide +kernel
theorem dX7_count_120 : decode cX7_count 120 = .ok (.aload_n 0, 1) := by decide +kernel
theorem dX7_count_121 : decode cX7_count 121 = .ok (.getfield 87, 3) := by decide +kernel
theorem dX7_count_124 : decode cX7_count 124 = .ok (.goto 4, 3) := by decide +kernel
theorem dX7_count_127 : decode cX7_count 127 = .ok (.iload_n 2, 1) := by decide +kernel
theorem dX7_count_128 : decode cX7_count 128 = .ok (.ireturn, 1) := by decide +kernel
set_option maxRecDepth 20000 in
theorem ggX7_total_X7_isYear : GoodIn wsX7_total wsX7_isYear := goodIn_r _ [5, 6, 7, 8, 4, 9] (by decide +kernel) (by decide +kernel)
set_option maxRecDepth 20000 in
theorem gX7_total_X7_isYear : GoodIn wsX7_total (va_wsS RX7 101 yX7_isYear wsX7_isYear) := goodIn_app (goodIn_of _ (by decide +kernel)) ggX7_total_X7_isYear
set_option maxRecDepth 20000 in
theorem ggX7_total_X7_in : GoodIn wsX7_total wsX7_in := goodIn_r _ [9] (by decide +kernel) (by decide +kernel)
set_option maxRecDepth 20000 in
theorem gX7_total_X7_in : GoodIn wsX7_total (va_wsS RX7 83 yX7_in wsX7_in) := goodIn_app (goodIn_of _ (by decide +kernel)) ggX7_total_X7_in
set_option maxRecDepth 20000 in
theorem ggX7_total_X7_totalOf : GoodIn wsX7_total wsX7_totalOf := goodIn_r _ [13, 14, 15, 16, 17, 18, 4, 19, 20, 21, 22, 23, 24, 25, 26, 27, 28, 29, 30, 31, 32, 33, 34, 35, 36, 37, 38, 39, 40, 41, 46, 47, 48, 49, 50, 51, 52, 53, 54, 55, 56, 57, 58, 59, 60, 61, 62, 63, 64, 65, 66, 67, 68, 69, 70, 71, 72, 73] (by decide +kernel) (by decide +kernel)
set_option maxRecDepth 20000 in
theorem gX7_total_X7_totalOf : GoodIn wsX7_total (wsV RX7 192 RX7 yX7_totalOf wsX7_totalOf) := goodIn_app (goodIn_of _ (by decide +kernel)) ggX7_total_X7_totalOf
set_option maxRecDepth 20000 in
theorem ggX7_total_X7_unseen : GoodIn wsX7_total wsX7_unseen := goodIn_r _ [45, 14, 33, 40, 41, 15, 16, 17, 18, 4, 19, 20, 21, 22, 23, 24, 25, 26, 27, 28, 29, 30, 31, 32, 34, 35, 36, 37, 38, 39, 46, 47, 48, 49, 50, 51, 52, 53, 54, 55, 56, 57, 58, 59, 60, 61, 62, 63, 64, 65, 66, 67, 68, 69, 70, 71, 72, 73] (by decide +kernel) (by decide +kernel)
set_option maxRecDepth 20000 in
theorem gX7_total_X7_unseen : GoodIn wsX7_total (wsV RX7 202 RX7 yX7_unseen wsX7_unseen) := goodIn_app (goodIn_of _ (by decide +kernel)) ggX7_total_X7_unseen
theorem dX7_total_0 : decode cX7_total 0 = .ok (.iload_n 1, 1) := by decide +kernel
theorem dX7_total_1 : decode cX7_total 1 = .ok (.invokestatic 101, 3) := by decide +kernel
theorem dX7_total_4 : decode cX7_total 4 = .ok (.ifCond .eq 13, 3) := by decide +kernel
theorem dX7_total_7 : decode cX7_total 7 = .ok (.iload_n 2, 1) := by decide +kernel
theorem dX7_total_8 : decode cX7_total 8 = .ok (.i2l, 1) := by decide +kernel
theorem dX7_total_9 : decode cX7_total 9 = .ok (.lconst 0, 1) := by decide +kernel
theorem dX7_total_10 : decode cX7_total 10 = .ok (.lconst 1, 1) := by decide +kernel
theorem dX7_total_11 : decode cX7_total 11 = .ok (.invokestatic 83, 3) := by decide +kernel
theorem dX7_total_14 : decode cX7_total 14 = .ok (.ifCond .ne 7, 3) := by decide +kernel
theorem dX7_total_17 : decode cX7_total 17 = .ok (.ldc2_w 79, 3) := by decide +kernel
theorem dX7_total_20 : decode cX7_total 20 = .ok (.lreturn, 1) := by decide +kernel
theorem dX7_total_21 : decode cX7_total 21 = .ok (.iload_n 2, 1) := by decide +kernel
theorem dX7_total_22 : decode cX7_total 22 = .ok (.ifCond .ne 14, 3) := by decide +kernel
theorem dX7_total_25 : decode cX7_total 25 = .ok (.aload_n 0, 1) := by decide +kernel
theorem dX7_total_26 : decode cX7_total 26 = .ok (.iload_n 1, 1) := by decide +kernel
theorem dX7_total_27 : decode cX7_total 27 = .ok (.iload_n 1, 1) := by decide +kernel
theorem dX7_total_28 : decode cX7_total 28 = .ok (.bipush (-4), 2) := by decide +kernel
theorem dX7_total_30 : decode cX7_total 30 = .ok (.invokevirtual 192, 3) := by decide +kernel
theorem dX7_total_33 : decode cX7_total 33 = .ok (.goto 8, 3) := by decide +kernel
theorem dX7_total_36 : decode cX7_total 36 = .ok (.aload_n 0, 1) := by decide +kernel
theorem dX7_total_37 : decode cX7_total 37 = .ok (.iload_n 1, 1) := by decide +kernel
theorem dX7_total_38 : decode cX7_total 38 = .ok (.invokevirtual 202, 3) := by decide +kernel
theorem dX7_total_41 : decode cX7_total 41 = .ok (.lreturn, 1) := by decide +kernel
set_option maxRecDepth 20000 in
theorem ggX7_isTop_X7_in : GoodIn wsX7_isTop wsX7_in := goodIn_r _ [5] (by decide +kernel) (by decide +kernel)
set_option maxRecDepth 20000 in
theorem gX7_isTop_X7_in : GoodIn wsX7_isTop (va_wsS RX7 83 yX7_in wsX7_in) := goodIn_app (goodIn_of _ (by decide +kernel)) ggX7_isTop_X7_in
theorem dX7_isTop_0 : decode cX7_isTop 0 = .ok (.iload_n 0, 1) := by decide +kernel
theorem dX7_isTop_1 : decode cX7_isTop 1 = .ok (.i2l, 1) := by decide +kernel
theorem dX7_isTop_2 : decode cX7_isTop 2 = .ok (.lconst 1, 1) := by decide +kernel
theorem dX7_isTop_3 : decode cX7_isTop 3 = .ok (.ldc2_w 206, 3) := by decide +kernel
theorem dX7_isTop_6 : decode cX7_isTop 6 = .ok (.invokestatic 83, 3) := by decide +kernel
theorem dX7_isTop_9 : decode cX7_isTop 9 = .ok (.ireturn, 1) := by decide +kernel
set_option maxRecDepth 20000 in
theorem ggX7_share_X7_isYear : GoodIn wsX7_share wsX7_isYear := goodIn_r _ [9, 10, 11, 12, 8, 13] (by decide +kernel) (by decide +kernel)
set_option maxRecDepth 20000 in
theorem gX7_share_X7_isYear : GoodIn wsX7_share (va_wsS RX7 101 yX7_isYear wsX7_isYear) := goodIn_app (goodIn_of _ (by decide +kernel)) ggX7_share_X7_isYear
set_option maxRecDepth 20000 in
theorem ggX7_share_X7_isTop : GoodIn wsX7_share wsX7_isTop := goodIn_r _ [16, 17, 11, 12, 8, 13] (by decide +kernel) (by decide +kernel)
set_option maxRecDepth 20000 in
theorem gX7_share_X7_isTop : GoodIn wsX7_share (va_wsS RX7 208 yX7_isTop wsX7_isTop) := goodIn_app (goodIn_of _ (by decide +kernel)) ggX7_share_X7_isTop
set_option maxRecDepth 20000 in
theorem ggX7_share_X7_in : GoodIn wsX7_share wsX7_in := goodIn_r _ [13] (by decide +kernel) (by decide +kernel)
set_option maxRecDepth 20000 in
theorem gX7_share_X7_in : GoodIn wsX7_share (va_wsS RX7 83 yX7_in wsX7_in) := goodIn_app (goodIn_of _ (by decide +kernel)) ggX7_share_X7_in
set_option maxRecDepth 20000 in
theorem ggX7_share_X7_totalOf : GoodIn wsX7_share wsX7_totalOf := goodIn_r _ [21, 22, 23, 24, 25, 26, 8, 27, 28, 29, 30, 31, 32, 33, 34, 35, 36, 37, 38, 39, 40, 41, 42, 43, 44, 45, 46, 47, 48, 49, 55, 56, 57, 58, 59, 60, 61, 62, 63, 64, 65, 66, 67, 68, 69, 70, 71, 72, 73, 74, 75, 76, 77, 78, 79, 80, 81, 82] (by decide +kernel) (by decide +kernel)
set_option maxRecDepth 20000 in
theorem gX7_share_X7_totalOf : GoodIn wsX7_share (wsV RX7 192 RX7 yX7_totalOf wsX7_totalOf) := goodIn_app (goodIn_of _ (by decide +kernel)) ggX7_share_X7_totalOf
set_option maxRecDepth 20000 in
theorem ggX7_share_X7_topOf : GoodIn wsX7_share wsX7_topOf := goodIn_r _ [53, 54, 22, 23, 3, 24, 25, 26, 8, 27, 28, 29, 30, 31, 32, 33, 34, 35, 36, 37, 38, 39, 40, 41, 42, 43, 44, 45, 46, 47, 48, 49, 55, 56, 57, 58, 59, 60, 61, 62, 63, 64, 65, 66, 67, 68, 69, 70, 71, 72, 73, 74, 75, 76, 77, 78, 79, 80, 81, 82] (by decide +kernel) (by decide +kernel)
set_option maxRecDepth 20000 in
theorem gX7_share_X7_topOf : GoodIn wsX7_share (wsV RX7 196 RX7 yX7_topOf wsX7_topOf) := goodIn_app (goodIn_of _ (by decide +kernel)) ggX7_share_X7_topOf
theorem dX7_share_0 : decode cX7_share 0 = .ok (.iload_n 1, 1) := by decide +kernel
theorem dX7_share_1 : decode cX7_share 1 = .ok (.invokestatic 101, 3) := by decide +kernel
theorem dX7_share_4 : decode cX7_share 4 = .ok (.ifCond .eq 22, 3) := by decide +kernel
theorem dX7_share_7 : decode cX7_share 7 = .ok (.iload_n 2, 1) := by decide +kernel
theorem dX7_share_8 : decode cX7_share 8 = .ok (.invokestatic 208, 3) := by decide +kernel
theorem dX7_share_11 : decode cX7_share 11 = .ok (.ifCond .eq 15, 3) := by decide +kernel
theorem dX7_share_14 : decode cX7_share 14 = .ok (.iload_n 3, 1) := by decide +kernel
theorem dX7_share_15 : decode cX7_share 15 = .ok (.i2l, 1) := by decide +kernel
theorem dX7_share_16 : decode cX7_share 16 = .ok (.lconst 0, 1) := by decide +kernel
theorem dX7_share_17 : decode cX7_share 17 = .ok (.ldc2_w 211, 3) := by decide +kernel
theorem dX7_share_20 : decode cX7_share 20 = .ok (.invokestatic 83, 3) := by decide +kernel
theorem dX7_share_23 : decode cX7_share 23 = .ok (.ifCond .ne 7, 3) := by decide +kernel
theorem dX7_share_26 : decode cX7_share 26 = .ok (.ldc2_w 79, 3) := by decide +kernel
theorem dX7_share_29 : decode cX7_share 29 = .ok (.lreturn, 1) := by decide +kernel
theorem dX7_share_30 : decode cX7_share 30 = .ok (.ldc2_w 190, 3) := by decide +kernel
theorem dX7_share_33 : decode cX7_share 33 = .ok (.aload_n 0, 1) := by decide +kernel
theorem dX7_share_34 : decode cX7_share 34 = .ok (.iload_n 1, 1) := by decide +kernel
theorem dX7_share_35 : decode cX7_share 35 = .ok (.iload_n 1, 1) := by decide +kernel
theorem dX7_share_36 : decode cX7_share 36 = .ok (.bipush (-4), 2) := by decide +kernel
theorem dX7_share_38 : decode cX7_share 38 = .ok (.invokevirtual 192, 3) := by decide +kernel
theorem dX7_share_41 : decode cX7_share 41 = .ok (.lmul, 1) := by decide +kernel
theorem dX7_share_42 : decode cX7_share 42 = .ok (.lstore 4, 2) := by decide +kernel
theorem dX7_share_44 : decode cX7_share 44 = .ok (.lload 4, 2) := by decide +kernel
theorem dX7_share_46 : decode cX7_share 46 = .ok (.lconst 0, 1) := by decide +kernel
theorem dX7_share_47 : decode cX7_share 47 = .ok (.lcmp, 1) := by decide +kernel
theorem dX7_share_48 : decode cX7_share 48 = .ok (.ifCond .ne 7, 3) := by decide +kernel
theorem dX7_share_51 : decode cX7_share 51 = .ok (.ldc2_w 213, 3) := by decide +kernel
theorem dX7_share_54 : decode cX7_share 54 = .ok (.lreturn, 1) := by decide +kernel
theorem dX7_share_55 : decode cX7_share 55 = .ok (.aload_n 0, 1) := by decide +kernel
theorem dX7_share_56 : decode cX7_share 56 = .ok (.iload_n 1, 1) := by decide +kernel
theorem dX7_share_57 : decode cX7_share 57 = .ok (.iload_n 1, 1) := by decide +kernel
theorem dX7_share_58 : decode cX7_share 58 = .ok (.iload_n 2, 1) := by decide +kernel
theorem dX7_share_59 : decode cX7_share 59 = .ok (.bipush (-4), 2) := by decide +kernel
theorem dX7_share_61 : decode cX7_share 61 = .ok (.invokevirtual 196, 3) := by decide +kernel
theorem dX7_share_64 : decode cX7_share 64 = .ok (.lstore 6, 2) := by decide +kernel
theorem dX7_share_66 : decode cX7_share 66 = .ok (.lload 6, 2) := by decide +kernel
theorem dX7_share_68 : decode cX7_share 68 = .ok (.lstore 8, 2) := by decide +kernel
theorem dX7_share_70 : decode cX7_share 70 = .ok (.lload 4, 2) := by decide +kernel
theorem dX7_share_72 : decode cX7_share 72 = .ok (.lstore 10, 2) := by decide +kernel
theorem dX7_share_74 : decode cX7_share 74 = .ok (.lload 10, 2) := by decide +kernel
theorem dX7_share_76 : decode cX7_share 76 = .ok (.lconst 0, 1) := by decide +kernel
theorem dX7_share_77 : decode cX7_share 77 = .ok (.lcmp, 1) := by decide +kernel
theorem dX7_share_78 : decode cX7_share 78 = .ok (.ifCond .eq 21, 3) := by decide +kernel
theorem dX7_share_81 : decode cX7_share 81 = .ok (.lload 8, 2) := by decide +kernel
theorem dX7_share_83 : decode cX7_share 83 = .ok (.lload 10, 2) := by decide +kernel
theorem dX7_share_85 : decode cX7_share 85 = .ok (.lrem, 1) := by decide +kernel
theorem dX7_share_86 : decode cX7_share 86 = .ok (.lstore 12, 2) := by decide +kernel
theorem dX7_share_88 : decode cX7_share 88 = .ok (.lload 10, 2) := by decide +kernel
theorem dX7_share_90 : decode cX7_share 90 = .ok (.lstore 8, 2) := by decide +kernel
theorem dX7_share_92 : decode cX7_share 92 = .ok (.lload 12, 2) := by decide +kernel
theorem dX7_share_94 : decode cX7_share 94 = .ok (.lstore 10, 2) := by decide +kernel
theorem dX7_share_96 : decode cX7_share 96 = .ok (.goto (-22), 3) := by decide +kernel
theorem dX7_share_99 : decode cX7_share 99 = .ok (.iload_n 3, 1) := by decide +kernel
theorem dX7_share_100 : decode cX7_share 100 = .ok (.ifCond .ne 11, 3) := by decide +kernel
theorem dX7_share_103 : decode cX7_share 103 = .ok (.lload 6, 2) := by decide +kernel
theorem dX7_share_105 : decode cX7_share 105 = .ok (.lload 8, 2) := by decide +kernel
theorem dX7_share_107 : decode cX7_share 107 = .ok (.ldiv, 1) := by decide +kernel
theorem dX7_share_108 : decode cX7_share 108 = .ok (.goto 25, 3) := by decide +kernel
theorem dX7_share_111 : decode cX7_share 111 = .ok (.iload_n 3, 1) := by decide +kernel
theorem dX7_share_112 : decode cX7_share 112 = .ok (.iconst 1, 1) := by decide +kernel
theorem dX7_share_113 : decode cX7_share 113 = .ok (.if_icmp .ne 11, 3) := by decide +kernel
theorem dX7_share_116 : decode cX7_share 116 = .ok (.lload 4, 2) := by decide +kernel
theorem dX7_share_118 : decode cX7_share 118 = .ok (.lload 8, 2) := by decide +kernel
theorem dX7_share_120 : decode cX7_share 120 = .ok (.ldiv, 1) := by decide +kernel
theorem dX7_share_121 : decode cX7_share 121 = .ok (.goto 12, 3) := by decide +kernel
theorem dX7_share_124 : decode cX7_share 124 = .ok (.lload 6, 2) := by decide +kernel
theorem dX7_share_126 : decode cX7_share 126 = .ok (.ldc2_w 200, 3) := by decide +kernel
theorem dX7_share_129 : decode cX7_share 129 = .ok (.lmul, 1) := by decide +kernel
theorem dX7_share_130 : decode cX7_share 130 = .ok (.lload 4, 2) := by decide +kernel
theorem dX7_share_132 : decode cX7_share 132 = .ok (.ldiv, 1) := by decide +kernel
theorem dX7_share_133 : decode cX7_share 133 = .ok (.lreturn, 1) := by decide +kernel
set_option maxRecDepth 20000 in
theorem ggX7_maker_X7_isYear : GoodIn wsX7_maker wsX7_isYear := goodIn_r _ [6, 7, 8, 9, 5, 10] (by decide +kernel) (by decide +kernel)
set_option maxRecDepth 20000 in
theorem gX7_maker_X7_isYear : GoodIn wsX7_maker (va_wsS RX7 101 yX7_isYear wsX7_isYear) := goodIn_app (goodIn_of _ (by decide +kernel)) ggX7_maker_X7_isYear
set_option maxRecDepth 20000 in
theorem ggX7_maker_X7_isTop : GoodIn wsX7_maker wsX7_isTop := goodIn_r _ [13, 14, 8, 9, 5, 10] (by decide +kernel) (by decide +kernel)
set_option maxRecDepth 20000 in
theorem gX7_maker_X7_isTop : GoodIn wsX7_maker (va_wsS RX7 208 yX7_isTop wsX7_isTop) := goodIn_app (goodIn_of _ (by decide +kernel)) ggX7_maker_X7_isTop
set_option maxRecDepth 20000 in
theorem ggX7_maker_X7_in : GoodIn wsX7_maker wsX7_in := goodIn_r _ [10] (by decide +kernel) (by decide +kernel)
set_option maxRecDepth 20000 in
theorem gX7_maker_X7_in : GoodIn wsX7_maker (va_wsS RX7 83 yX7_in wsX7_in) := goodIn_app (goodIn_of _ (by decide +kernel)) ggX7_maker_X7_in
set_option maxRecDepth 20000 in
theorem ggX7_maker_X7_totalOf : GoodIn wsX7_maker wsX7_totalOf := goodIn_r _ [18, 1, 2, 19, 20, 21, 5, 22, 23, 24, 25, 26, 27, 28, 29, 30, 31, 32, 33, 34, 35, 36, 37, 38, 39, 40, 41, 42, 43, 44, 56, 57, 58, 59, 60, 61, 62, 63, 64, 65, 66, 67, 68, 69, 70, 71, 72, 73, 74, 75, 76, 77, 78, 79, 80, 81, 82, 83] (by decide +kernel) (by decide +kernel)
set_option maxRecDepth 20000 in
theorem gX7_maker_X7_totalOf : GoodIn wsX7_maker (wsV RX7 192 RX7 yX7_totalOf wsX7_totalOf) := goodIn_app (goodIn_of _ (by decide +kernel)) ggX7_maker_X7_totalOf
set_option maxRecDepth 20000 in
theorem ggX7_maker_X7_partsOf : GoodIn wsX7_maker wsX7_partsOf := goodIn_r _ [48, 49, 50, 15, 16, 17, 5, 18, 1, 2, 19, 20, 21, 22, 23, 24, 25, 26, 27, 28, 29, 30, 31, 32, 33, 34, 35, 36, 37, 38, 39, 40, 41, 42, 43, 44, 51, 52, 53, 54, 55, 56, 57, 58, 59, 60, 61, 62, 63, 64, 65, 66, 67, 68, 69, 70, 71, 72, 73, 74, 75, 76, 77, 78, 79, 80, 81, 82, 83] (by decide +kernel) (by decide +kernel)
set_option maxRecDepth 20000 in
theorem gX7_maker_X7_partsOf : GoodIn wsX7_maker (wsV RX7 215 RX7 yX7_partsOf wsX7_partsOf) := goodIn_app (goodIn_of _ (by decide +kernel)) ggX7_maker_X7_partsOf
set_option maxRecDepth 20000 in
theorem ggX7_maker_X7_isBooked : GoodIn wsX7_maker wsX7_isBooked := goodIn_r _ [22, 23, 24, 25, 26, 5, 27, 28, 29, 30, 31, 32, 33, 34, 35, 36, 56, 57, 58, 59, 60, 61, 62, 63, 64, 65, 66, 67, 68, 69, 70, 71, 72, 73, 74, 75, 76, 77, 78, 79, 80, 81, 82, 83] (by decide +kernel) (by decide +kernel)
set_option maxRecDepth 20000 in
theorem gX7_maker_X7_isBooked : GoodIn wsX7_maker (wsV RX7 123 RX7 yX7_isBooked wsX7_isBooked) := goodIn_app (goodIn_of _ (by decide +kernel)) ggX7_maker_X7_isBooked
theorem dX7_maker_0 : decode cX7_maker 0 = .ok (.iload_n 1, 1) := by decide +kernel
theorem dX7_maker_1 : decode cX7_maker 1 = .ok (.invokestatic 101, 3) := by decide +kernel
theorem dX7_maker_4 : decode cX7_maker 4 = .ok (.ifCond .eq 20, 3) := by decide +kernel
theorem dX7_maker_7 : decode cX7_maker 7 = .ok (.iload_n 2, 1) := by decide +kernel
theorem dX7_maker_8 : decode cX7_maker 8 = .ok (.invokestatic 208, 3) := by decide +kernel
theorem dX7_maker_11 : decode cX7_maker 11 = .ok (.ifCond .eq 13, 3) := by decide +kernel
theorem dX7_maker_14 : decode cX7_maker 14 = .ok (.iload_n 3, 1) := by decide +kernel
theorem dX7_maker_15 : decode cX7_maker 15 = .ok (.i2l, 1) := by decide +kernel
theorem dX7_maker_16 : decode cX7_maker 16 = .ok (.lconst 0, 1) := by decide +kernel
theorem dX7_maker_17 : decode cX7_maker 17 = .ok (.lconst 1, 1) := by decide +kernel
theorem dX7_maker_18 : decode cX7_maker 18 = .ok (.invokestatic 83, 3) := by decide +kernel
theorem dX7_maker_21 : decode cX7_maker 21 = .ok (.ifCond .ne 5, 3) := by decide +kernel
theorem dX7_maker_24 : decode cX7_maker 24 = .ok (.iconst (-1), 1) := by decide +kernel
theorem dX7_maker_25 : decode cX7_maker 25 = .ok (.ireturn, 1) := by decide +kernel
theorem dX7_maker_26 : decode cX7_maker 26 = .ok (.aload_n 0, 1) := by decide +kernel
theorem dX7_maker_27 : decode cX7_maker 27 = .ok (.iload_n 1, 1) := by decide +kernel
theorem dX7_maker_28 : decode cX7_maker 28 = .ok (.iload_n 1, 1) := by decide +kernel
theorem dX7_maker_29 : decode cX7_maker 29 = .ok (.bipush (-4), 2) := by decide +kernel
theorem dX7_maker_31 : decode cX7_maker 31 = .ok (.invokevirtual 192, 3) := by decide +kernel
theorem dX7_maker_34 : decode cX7_maker 34 = .ok (.lconst 0, 1) := by decide +kernel
theorem dX7_maker_35 : decode cX7_maker 35 = .ok (.lcmp, 1) := by decide +kernel
theorem dX7_maker_36 : decode cX7_maker 36 = .ok (.ifCond .ne 6, 3) := by decide +kernel
theorem dX7_maker_39 : decode cX7_maker 39 = .ok (.bipush (-4), 2) := by decide +kernel
theorem dX7_maker_41 : decode cX7_maker 41 = .ok (.ireturn, 1) := by decide +kernel
theorem dX7_maker_42 : decode cX7_maker 42 = .ok (.aload_n 0, 1) := by decide +kernel
theorem dX7_maker_43 : decode cX7_maker 43 = .ok (.iload_n 1, 1) := by decide +kernel
theorem dX7_maker_44 : decode cX7_maker 44 = .ok (.iload_n 1, 1) := by decide +kernel
theorem dX7_maker_45 : decode cX7_maker 45 = .ok (.iload_n 2, 1) := by decide +kernel
theorem dX7_maker_46 : decode cX7_maker 46 = .ok (.bipush (-4), 2) := by decide +kernel
theorem dX7_maker_48 : decode cX7_maker 48 = .ok (.invokevirtual 215, 3) := by decide +kernel
theorem dX7_maker_51 : decode cX7_maker 51 = .ok (.istore 4, 2) := by decide +kernel
theorem dX7_maker_53 : decode cX7_maker 53 = .ok (.bipush (-4), 2) := by decide +kernel
theorem dX7_maker_55 : decode cX7_maker 55 = .ok (.istore 5, 2) := by decide +kernel
theorem dX7_maker_57 : decode cX7_maker 57 = .ok (.iconst (-1), 1) := by decide +kernel
theorem dX7_maker_58 : decode cX7_maker 58 = .ok (.istore 6, 2) := by decide +kernel
theorem dX7_maker_60 : decode cX7_maker 60 = .ok (.iconst 0, 1) := by decide +kernel
theorem dX7_maker_61 : decode cX7_maker 61 = .ok (.istore 7, 2) := by decide +kernel
theorem dX7_maker_63 : decode cX7_maker 63 = .ok (.iload 7, 2) := by decide +kernel
theorem dX7_maker_65 : decode cX7_maker 65 = .ok (.aload_n 0, 1) := by decide +kernel
theorem dX7_maker_66 : decode cX7_maker 66 = .ok (.getfield 87, 3) := by decide +kernel
theorem dX7_maker_69 : decode cX7_maker 69 = .ok (.if_icmp .ge 91, 3) := by decide +kernel
theorem dX7_maker_72 : decode cX7_maker 72 = .ok (.aload_n 0, 1) := by decide +kernel
theorem dX7_maker_73 : decode cX7_maker 73 = .ok (.getfield 18, 3) := by decide +kernel
theorem dX7_maker_76 : decode cX7_maker 76 = .ok (.iload 7, 2) := by decide +kernel
theorem dX7_maker_78 : decode cX7_maker 78 = .ok (.iaload, 1) := by decide +kernel
theorem dX7_maker_79 : decode cX7_maker 79 = .ok (.iload_n 1, 1) := by decide +kernel
theorem dX7_maker_80 : decode cX7_maker 80 = .ok (.if_icmp .ne 74, 3) := by decide +kernel
theorem dX7_maker_83 : decode cX7_maker 83 = .ok (.aload_n 0, 1) := by decide +kernel
theorem dX7_maker_84 : decode cX7_maker 84 = .ok (.iload 7, 2) := by decide +kernel
theorem dX7_maker_86 : decode cX7_maker 86 = .ok (.iload_n 1, 1) := by decide +kernel
theorem dX7_maker_87 : decode cX7_maker 87 = .ok (.invokevirtual 123, 3) := by decide +kernel
theorem dX7_maker_90 : decode cX7_maker 90 = .ok (.ifCond .eq 64, 3) := by decide +kernel
theorem dX7_maker_93 : decode cX7_maker 93 = .ok (.aload_n 0, 1) := by decide +kernel
theorem dX7_maker_94 : decode cX7_maker 94 = .ok (.iload_n 1, 1) := by decide +kernel
theorem dX7_maker_95 : decode cX7_maker 95 = .ok (.iload_n 1, 1) := by decide +kernel
theorem dX7_maker_96 : decode cX7_maker 96 = .ok (.iload_n 2, 1) := by decide +kernel
theorem dX7_maker_97 : decode cX7_maker 97 = .ok (.iload 7, 2) := by decide +kernel
theorem dX7_maker_99 : decode cX7_maker 99 = .ok (.invokevirtual 215, 3) := by decide +kernel
theorem dX7_maker_102 : decode cX7_maker 102 = .ok (.iload 4, 2) := by decide +kernel
theorem dX7_maker_104 : decode cX7_maker 104 = .ok (.isub, 1) := by decide +kernel
theorem dX7_maker_105 : decode cX7_maker 105 = .ok (.istore 8, 2) := by decide +kernel
theorem dX7_maker_107 : decode cX7_maker 107 = .ok (.iload 8, 2) := by decide +kernel
theorem dX7_maker_109 : decode cX7_maker 109 = .ok (.ifCond .ge 9, 3) := by decide +kernel
theorem dX7_maker_112 : decode cX7_maker 112 = .ok (.iload 8, 2) := by decide +kernel
theorem dX7_maker_114 : decode cX7_maker 114 = .ok (.ineg, 1) := by decide +kernel
theorem dX7_maker_115 : decode cX7_maker 115 = .ok (.goto 5, 3) := by decide +kernel
theorem dX7_maker_118 : decode cX7_maker 118 = .ok (.iload 8, 2) := by decide +kernel
theorem dX7_maker_120 : decode cX7_maker 120 = .ok (.istore 8, 2) := by decide +kernel
theorem dX7_maker_122 : decode cX7_maker 122 = .ok (.iload 8, 2) := by decide +kernel
theorem dX7_maker_124 : decode cX7_maker 124 = .ok (.iload 6, 2) := by decide +kernel
theorem dX7_maker_126 : decode cX7_maker 126 = .ok (.if_icmp .le 8, 3) := by decide +kernel
theorem dX7_maker_129 : decode cX7_maker 129 = .ok (.iload 7, 2) := by decide +kernel
theorem dX7_maker_131 : decode cX7_maker 131 = .ok (.goto 5, 3) := by decide +kernel
theorem dX7_maker_134 : decode cX7_maker 134 = .ok (.iload 5, 2) := by decide +kernel
theorem dX7_maker_136 : decode cX7_maker 136 = .ok (.istore 5, 2) := by decide +kernel
theorem dX7_maker_138 : decode cX7_maker 138 = .ok (.iload 8, 2) := by decide +kernel
theorem dX7_maker_140 : decode cX7_maker 140 = .ok (.iload 6, 2) := by decide +kernel
theorem dX7_maker_142 : decode cX7_maker 142 = .ok (.if_icmp .le 8, 3) := by decide +kernel
theorem dX7_maker_145 : decode cX7_maker 145 = .ok (.iload 8, 2) := by decide +kernel
theorem dX7_maker_147 : decode cX7_maker 147 = .ok (.goto 5, 3) := by decide +kernel
theorem dX7_maker_150 : decode cX7_maker 150 = .ok (.iload 6, 2) := by decide +kernel
theorem dX7_maker_152 : decode cX7_maker 152 = .ok (.istore 6, 2) := by decide +kernel
theorem dX7_maker_154 : decode cX7_maker 154 = .ok (.iinc 7 1, 3) := by decide +kernel
theorem dX7_maker_157 : decode cX7_maker 157 = .ok (.goto (-94), 3) := by decide +kernel
theorem dX7_maker_160 : decode cX7_maker 160 = .ok (.iload_n 3, 1) := by decide +kernel
theorem dX7_maker_161 : decode cX7_maker 161 = .ok (.ifCond .ne 8, 3) := by decide +kernel
theorem dX7_maker_164 : decode cX7_maker 164 = .ok (.iload 5, 2) := by decide +kernel
theorem dX7_maker_166 : decode cX7_maker 166 = .ok (.goto 12, 3) := by decide +kernel
theorem dX7_maker_169 : decode cX7_maker 169 = .ok (.aload_n 0, 1) := by decide +kernel
theorem dX7_maker_170 : decode cX7_maker 170 = .ok (.iload_n 1, 1) := by decide +kernel
theorem dX7_maker_171 : decode cX7_maker 171 = .ok (.iload_n 1, 1) := by decide +kernel
theorem dX7_maker_172 : decode cX7_maker 172 = .ok (.iload_n 2, 1) := by decide +kernel
theorem dX7_maker_173 : decode cX7_maker 173 = .ok (.iload 5, 2) := by decide +kernel
theorem dX7_maker_175 : decode cX7_maker 175 = .ok (.invokevirtual 215, 3) := by decide +kernel
theorem dX7_maker_178 : decode cX7_maker 178 = .ok (.ireturn, 1) := by decide +kernel
set_option maxRecDepth 20000 in
theorem ggX7_span_X7_isYear : GoodIn wsX7_span wsX7_isYear := goodIn_r _ [6, 7, 8, 9, 5, 10] (by decide +kernel) (by decide +kernel)
set_option maxRecDepth 20000 in
theorem gX7_span_X7_isYear : GoodIn wsX7_span (va_wsS RX7 101 yX7_isYear wsX7_isYear) := goodIn_app (goodIn_of _ (by decide +kernel)) ggX7_span_X7_isYear
set_option maxRecDepth 20000 in
theorem ggX7_span_X7_isTop : GoodIn wsX7_span wsX7_isTop := goodIn_r _ [13, 14, 8, 9, 5, 10] (by decide +kernel) (by decide +kernel)
set_option maxRecDepth 20000 in
theorem gX7_span_X7_isTop : GoodIn wsX7_span (va_wsS RX7 208 yX7_isTop wsX7_isTop) := goodIn_app (goodIn_of _ (by decide +kernel)) ggX7_span_X7_isTop
set_option maxRecDepth 20000 in
theorem ggX7_span_X7_in : GoodIn wsX7_span wsX7_in := goodIn_r _ [10] (by decide +kernel) (by decide +kernel)
set_option maxRecDepth 20000 in
theorem gX7_span_X7_in : GoodIn wsX7_span (va_wsS RX7 83 yX7_in wsX7_in) := goodIn_app (goodIn_of _ (by decide +kernel)) ggX7_span_X7_in
set_option maxRecDepth 20000 in
theorem ggX7_span_X7_totalOf : GoodIn wsX7_span wsX7_totalOf := goodIn_r _ [18, 1, 2, 19, 20, 21, 5, 22, 23, 24, 25, 26, 27, 28, 29, 30, 31, 32, 33, 34, 35, 36, 37, 38, 39, 40, 41, 42, 43, 44, 56, 57, 58, 59, 60, 61, 62, 63, 64, 65, 66, 67, 68, 69, 70, 71, 72, 73, 74, 75, 76, 77, 78, 79, 80, 81, 82, 83] (by decide +kernel) (by decide +kernel)
set_option maxRecDepth 20000 in
theorem gX7_span_X7_totalOf : GoodIn wsX7_span (wsV RX7 192 RX7 yX7_totalOf wsX7_totalOf) := goodIn_app (goodIn_of _ (by decide +kernel)) ggX7_span_X7_totalOf
set_option maxRecDepth 20000 in
theorem ggX7_span_X7_partsOf : GoodIn wsX7_span wsX7_partsOf := goodIn_r _ [48, 49, 50, 15, 16, 17, 5, 18, 1, 2, 19, 20, 21, 22, 23, 24, 25, 26, 27, 28, 29, 30, 31, 32, 33, 34, 35, 36, 37, 38, 39, 40, 41, 42, 43, 44, 51, 52, 53, 54, 55, 56, 57, 58, 59, 60, 61, 62, 63, 64, 65, 66, 67, 68, 69, 70, 71, 72, 73, 74, 75, 76, 77, 78, 79, 80, 81, 82, 83] (by decide +kernel) (by decide +kernel)
set_option maxRecDepth 20000 in
theorem gX7_span_X7_partsOf : GoodIn wsX7_span (wsV RX7 215 RX7 yX7_partsOf wsX7_partsOf) := goodIn_app (goodIn_of _ (by decide +kernel)) ggX7_span_X7_partsOf
set_option maxRecDepth 20000 in
theorem ggX7_span_X7_isBooked : GoodIn wsX7_span wsX7_isBooked := goodIn_r _ [22, 23, 24, 25, 26, 5, 27, 28, 29, 30, 31, 32, 33, 34, 35, 36, 56, 57, 58, 59, 60, 61, 62, 63, 64, 65, 66, 67, 68, 69, 70, 71, 72, 73, 74, 75, 76, 77, 78, 79, 80, 81, 82, 83] (by decide +kernel) (by decide +kernel)
set_option maxRecDepth 20000 in
theorem gX7_span_X7_isBooked : GoodIn wsX7_span (wsV RX7 123 RX7 yX7_isBooked wsX7_isBooked) := goodIn_app (goodIn_of _ (by decide +kernel)) ggX7_span_X7_isBooked
theorem dX7_span_0 : decode cX7_span 0 = .ok (.iload_n 1, 1) := by decide +kernel
theorem dX7_span_1 : decode cX7_span 1 = .ok (.invokestatic 101, 3) := by decide +kernel
theorem dX7_span_4 : decode cX7_span 4 = .ok (.ifCond .eq 20, 3) := by decide +kernel
theorem dX7_span_7 : decode cX7_span 7 = .ok (.iload_n 2, 1) := by decide +kernel
theorem dX7_span_8 : decode cX7_span 8 = .ok (.invokestatic 208, 3) := by decide +kernel
theorem dX7_span_11 : decode cX7_span 11 = .ok (.ifCond .eq 13, 3) := by decide +kernel
theorem dX7_span_14 : decode cX7_span 14 = .ok (.iload_n 3, 1) := by decide +kernel
theorem dX7_span_15 : decode cX7_span 15 = .ok (.i2l, 1) := by decide +kernel
theorem dX7_span_16 : decode cX7_span 16 = .ok (.lconst 0, 1) := by decide +kernel
theorem dX7_span_17 : decode cX7_span 17 = .ok (.lconst 1, 1) := by decide +kernel
theorem dX7_span_18 : decode cX7_span 18 = .ok (.invokestatic 83, 3) := by decide +kernel
theorem dX7_span_21 : decode cX7_span 21 = .ok (.ifCond .ne 5, 3) := by decide +kernel
theorem dX7_span_24 : decode cX7_span 24 = .ok (.iconst (-1), 1) := by decide +kernel
theorem dX7_span_25 : decode cX7_span 25 = .ok (.ireturn, 1) := by decide +kernel
theorem dX7_span_26 : decode cX7_span 26 = .ok (.aload_n 0, 1) := by decide +kernel
theorem dX7_span_27 : decode cX7_span 27 = .ok (.iload_n 1, 1) := by decide +kernel
theorem dX7_span_28 : decode cX7_span 28 = .ok (.iload_n 1, 1) := by decide +kernel
theorem dX7_span_29 : decode cX7_span 29 = .ok (.bipush (-4), 2) := by decide +kernel
theorem dX7_span_31 : decode cX7_span 31 = .ok (.invokevirtual 192, 3) := by decide +kernel
theorem dX7_span_34 : decode cX7_span 34 = .ok (.lconst 0, 1) := by decide +kernel
theorem dX7_span_35 : decode cX7_span 35 = .ok (.lcmp, 1) := by decide +kernel
theorem dX7_span_36 : decode cX7_span 36 = .ok (.ifCond .ne 6, 3) := by decide +kernel
theorem dX7_span_39 : decode cX7_span 39 = .ok (.bipush (-4), 2) := by decide +kernel
theorem dX7_span_41 : decode cX7_span 41 = .ok (.ireturn, 1) := by decide +kernel
theorem dX7_span_42 : decode cX7_span 42 = .ok (.aload_n 0, 1) := by decide +kernel
theorem dX7_span_43 : decode cX7_span 43 = .ok (.iload_n 1, 1) := by decide +kernel
theorem dX7_span_44 : decode cX7_span 44 = .ok (.iload_n 1, 1) := by decide +kernel
theorem dX7_span_45 : decode cX7_span 45 = .ok (.iload_n 2, 1) := by decide +kernel
theorem dX7_span_46 : decode cX7_span 46 = .ok (.bipush (-4), 2) := by decide +kernel
theorem dX7_span_48 : decode cX7_span 48 = .ok (.invokevirtual 215, 3) := by decide +kernel
theorem dX7_span_51 : decode cX7_span 51 = .ok (.istore 4, 2) := by decide +kernel
theorem dX7_span_53 : decode cX7_span 53 = .ok (.iconst 0, 1) := by decide +kernel
theorem dX7_span_54 : decode cX7_span 54 = .ok (.istore 5, 2) := by decide +kernel
theorem dX7_span_56 : decode cX7_span 56 = .ok (.iload 5, 2) := by decide +kernel
theorem dX7_span_58 : decode cX7_span 58 = .ok (.aload_n 0, 1) := by decide +kernel
theorem dX7_span_59 : decode cX7_span 59 = .ok (.getfield 87, 3) := by decide +kernel
theorem dX7_span_62 : decode cX7_span 62 = .ok (.if_icmp .ge 71, 3) := by decide +kernel
theorem dX7_span_65 : decode cX7_span 65 = .ok (.aload_n 0, 1) := by decide +kernel
theorem dX7_span_66 : decode cX7_span 66 = .ok (.getfield 18, 3) := by decide +kernel
theorem dX7_span_69 : decode cX7_span 69 = .ok (.iload 5, 2) := by decide +kernel
theorem dX7_span_71 : decode cX7_span 71 = .ok (.iaload, 1) := by decide +kernel
theorem dX7_span_72 : decode cX7_span 72 = .ok (.iload_n 1, 1) := by decide +kernel
theorem dX7_span_73 : decode cX7_span 73 = .ok (.if_icmp .ne 54, 3) := by decide +kernel
theorem dX7_span_76 : decode cX7_span 76 = .ok (.aload_n 0, 1) := by decide +kernel
theorem dX7_span_77 : decode cX7_span 77 = .ok (.iload 5, 2) := by decide +kernel
theorem dX7_span_79 : decode cX7_span 79 = .ok (.iload_n 1, 1) := by decide +kernel
theorem dX7_span_80 : decode cX7_span 80 = .ok (.invokevirtual 123, 3) := by decide +kernel
theorem dX7_span_83 : decode cX7_span 83 = .ok (.ifCond .eq 44, 3) := by decide +kernel
theorem dX7_span_86 : decode cX7_span 86 = .ok (.aload_n 0, 1) := by decide +kernel
theorem dX7_span_87 : decode cX7_span 87 = .ok (.iload_n 1, 1) := by decide +kernel
theorem dX7_span_88 : decode cX7_span 88 = .ok (.iload_n 1, 1) := by decide +kernel
theorem dX7_span_89 : decode cX7_span 89 = .ok (.iload_n 2, 1) := by decide +kernel
theorem dX7_span_90 : decode cX7_span 90 = .ok (.iload 5, 2) := by decide +kernel
theorem dX7_span_92 : decode cX7_span 92 = .ok (.invokevirtual 215, 3) := by decide +kernel
theorem dX7_span_95 : decode cX7_span 95 = .ok (.istore 6, 2) := by decide +kernel
theorem dX7_span_97 : decode cX7_span 97 = .ok (.iload_n 3, 1) := by decide +kernel
theorem dX7_span_98 : decode cX7_span 98 = .ok (.ifCond .ne 13, 3) := by decide +kernel
theorem dX7_span_101 : decode cX7_span 101 = .ok (.iload 6, 2) := by decide +kernel
theorem dX7_span_103 : decode cX7_span 103 = .ok (.iload 4, 2) := by decide +kernel
theorem dX7_span_105 : decode cX7_span 105 = .ok (.if_icmp .ge 18, 3) := by decide +kernel
theorem dX7_span_108 : decode cX7_span 108 = .ok (.goto 10, 3) := by decide +kernel
theorem dX7_span_111 : decode cX7_span 111 = .ok (.iload 6, 2) := by decide +kernel
theorem dX7_span_113 : decode cX7_span 113 = .ok (.iload 4, 2) := by decide +kernel
theorem dX7_span_115 : decode cX7_span 115 = .ok (.if_icmp .le 8, 3) := by decide +kernel
theorem dX7_span_118 : decode cX7_span 118 = .ok (.iload 6, 2) := by decide +kernel
theorem dX7_span_120 : decode cX7_span 120 = .ok (.goto 5, 3) := by decide +kernel
theorem dX7_span_123 : decode cX7_span 123 = .ok (.iload 4, 2) := by decide +kernel
theorem dX7_span_125 : decode cX7_span 125 = .ok (.istore 4, 2) := by decide +kernel
theorem dX7_span_127 : decode cX7_span 127 = .ok (.iinc 5 1, 3) := by decide +kernel
theorem dX7_span_130 : decode cX7_span 130 = .ok (.goto (-74), 3) := by decide +kernel
theorem dX7_span_133 : decode cX7_span 133 = .ok (.iload 4, 2) := by decide +kernel
theorem dX7_span_135 : decode cX7_span 135 = .ok (.ireturn, 1) := by decide +kernel
set_option maxRecDepth 20000 in
theorem ggX7_smooth_X7_isYear : GoodIn wsX7_smooth wsX7_isYear := goodIn_r _ [7, 8, 9, 10, 6, 11] (by decide +kernel) (by decide +kernel)
set_option maxRecDepth 20000 in
theorem gX7_smooth_X7_isYear : GoodIn wsX7_smooth (va_wsS RX7 101 yX7_isYear wsX7_isYear) := goodIn_app (goodIn_of _ (by decide +kernel)) ggX7_smooth_X7_isYear
set_option maxRecDepth 20000 in
theorem ggX7_smooth_X7_isTop : GoodIn wsX7_smooth wsX7_isTop := goodIn_r _ [14, 15, 9, 10, 6, 11] (by decide +kernel) (by decide +kernel)
set_option maxRecDepth 20000 in
theorem gX7_smooth_X7_isTop : GoodIn wsX7_smooth (va_wsS RX7 208 yX7_isTop wsX7_isTop) := goodIn_app (goodIn_of _ (by decide +kernel)) ggX7_smooth_X7_isTop
set_option maxRecDepth 20000 in
theorem ggX7_smooth_X7_in : GoodIn wsX7_smooth wsX7_in := goodIn_r _ [11] (by decide +kernel) (by decide +kernel)
set_option maxRecDepth 20000 in
theorem gX7_smooth_X7_in : GoodIn wsX7_smooth (va_wsS RX7 83 yX7_in wsX7_in) := goodIn_app (goodIn_of _ (by decide +kernel)) ggX7_smooth_X7_in
set_option maxRecDepth 20000 in
theorem ggX7_smooth_X7_topOf : GoodIn wsX7_smooth wsX7_topOf := goodIn_r _ [19, 20, 21, 22, 2, 23, 24, 25, 6, 26, 27, 28, 29, 30, 31, 32, 33, 34, 35, 36, 37, 38, 39, 40, 41, 42, 43, 44, 45, 46, 47, 48, 53, 54, 55, 56, 57, 58, 59, 60, 61, 62, 63, 64, 65, 66, 67, 68, 69, 70, 71, 72, 73, 74, 75, 76, 77, 78, 79, 80] (by decide +kernel) (by decide +kernel)
set_option maxRecDepth 20000 in
theorem gX7_smooth_X7_topOf : GoodIn wsX7_smooth (wsV RX7 196 RX7 yX7_topOf wsX7_topOf) := goodIn_app (goodIn_of _ (by decide +kernel)) ggX7_smooth_X7_topOf
set_option maxRecDepth 20000 in
theorem ggX7_smooth_X7_totalOf : GoodIn wsX7_smooth wsX7_totalOf := goodIn_r _ [52, 21, 22, 23, 24, 25, 6, 26, 27, 28, 29, 30, 31, 32, 33, 34, 35, 36, 37, 38, 39, 40, 41, 42, 43, 44, 45, 46, 47, 48, 53, 54, 55, 56, 57, 58, 59, 60, 61, 62, 63, 64, 65, 66, 67, 68, 69, 70, 71, 72, 73, 74, 75, 76, 77, 78, 79, 80] (by decide +kernel) (by decide +kernel)
set_option maxRecDepth 20000 in
theorem gX7_smooth_X7_totalOf : GoodIn wsX7_smooth (wsV RX7 192 RX7 yX7_totalOf wsX7_totalOf) := goodIn_app (goodIn_of _ (by decide +kernel)) ggX7_smooth_X7_totalOf
theorem dX7_smooth_0 : decode cX7_smooth 0 = .ok (.iload_n 1, 1) := by decide +kernel
theorem dX7_smooth_1 : decode cX7_smooth 1 = .ok (.invokestatic 101, 3) := by decide +kernel
theorem dX7_smooth_4 : decode cX7_smooth 4 = .ok (.ifCond .eq 22, 3) := by decide +kernel
theorem dX7_smooth_7 : decode cX7_smooth 7 = .ok (.iload_n 2, 1) := by decide +kernel
theorem dX7_smooth_8 : decode cX7_smooth 8 = .ok (.invokestatic 208, 3) := by decide +kernel
theorem dX7_smooth_11 : decode cX7_smooth 11 = .ok (.ifCond .eq 15, 3) := by decide +kernel
theorem dX7_smooth_14 : decode cX7_smooth 14 = .ok (.iload_n 3, 1) := by decide +kernel
theorem dX7_smooth_15 : decode cX7_smooth 15 = .ok (.i2l, 1) := by decide +kernel
theorem dX7_smooth_16 : decode cX7_smooth 16 = .ok (.lconst 0, 1) := by decide +kernel
theorem dX7_smooth_17 : decode cX7_smooth 17 = .ok (.ldc2_w 114, 3) := by decide +kernel
theorem dX7_smooth_20 : decode cX7_smooth 20 = .ok (.invokestatic 83, 3) := by decide +kernel
theorem dX7_smooth_23 : decode cX7_smooth 23 = .ok (.ifCond .ne 5, 3) := by decide +kernel
theorem dX7_smooth_26 : decode cX7_smooth 26 = .ok (.iconst (-1), 1) := by decide +kernel
theorem dX7_smooth_27 : decode cX7_smooth 27 = .ok (.ireturn, 1) := by decide +kernel
theorem dX7_smooth_28 : decode cX7_smooth 28 = .ok (.lconst 0, 1) := by decide +kernel
theorem dX7_smooth_29 : decode cX7_smooth 29 = .ok (.lstore 4, 2) := by decide +kernel
theorem dX7_smooth_31 : decode cX7_smooth 31 = .ok (.lconst 0, 1) := by decide +kernel
theorem dX7_smooth_32 : decode cX7_smooth 32 = .ok (.lstore 6, 2) := by decide +kernel
theorem dX7_smooth_34 : decode cX7_smooth 34 = .ok (.iconst 0, 1) := by decide +kernel
theorem dX7_smooth_35 : decode cX7_smooth 35 = .ok (.istore 8, 2) := by decide +kernel
theorem dX7_smooth_37 : decode cX7_smooth 37 = .ok (.iload 8, 2) := by decide +kernel
theorem dX7_smooth_39 : decode cX7_smooth 39 = .ok (.bipush 8, 2) := by decide +kernel
theorem dX7_smooth_41 : decode cX7_smooth 41 = .ok (.if_icmp .ge 77, 3) := by decide +kernel
theorem dX7_smooth_44 : decode cX7_smooth 44 = .ok (.iload 8, 2) := by decide +kernel
theorem dX7_smooth_46 : decode cX7_smooth 46 = .ok (.iload_n 1, 1) := by decide +kernel
theorem dX7_smooth_47 : decode cX7_smooth 47 = .ok (.isub, 1) := by decide +kernel
theorem dX7_smooth_48 : decode cX7_smooth 48 = .ok (.i2l, 1) := by decide +kernel
theorem dX7_smooth_49 : decode cX7_smooth 49 = .ok (.iload_n 3, 1) := by decide +kernel
theorem dX7_smooth_50 : decode cX7_smooth 50 = .ok (.ineg, 1) := by decide +kernel
theorem dX7_smooth_51 : decode cX7_smooth 51 = .ok (.i2l, 1) := by decide +kernel
theorem dX7_smooth_52 : decode cX7_smooth 52 = .ok (.iload_n 3, 1) := by decide +kernel
theorem dX7_smooth_53 : decode cX7_smooth 53 = .ok (.i2l, 1) := by decide +kernel
theorem dX7_smooth_54 : decode cX7_smooth 54 = .ok (.invokestatic 83, 3) := by decide +kernel
theorem dX7_smooth_57 : decode cX7_smooth 57 = .ok (.istore 9, 2) := by decide +kernel
theorem dX7_smooth_59 : decode cX7_smooth 59 = .ok (.lload 4, 2) := by decide +kernel
theorem dX7_smooth_61 : decode cX7_smooth 61 = .ok (.iload 9, 2) := by decide +kernel
theorem dX7_smooth_63 : decode cX7_smooth 63 = .ok (.ifCond .eq 17, 3) := by decide +kernel
theorem dX7_smooth_66 : decode cX7_smooth 66 = .ok (.aload_n 0, 1) := by decide +kernel
theorem dX7_smooth_67 : decode cX7_smooth 67 = .ok (.iload 8, 2) := by decide +kernel
theorem dX7_smooth_69 : decode cX7_smooth 69 = .ok (.iload 8, 2) := by decide +kernel
theorem dX7_smooth_71 : decode cX7_smooth 71 = .ok (.iload_n 2, 1) := by decide +kernel
theorem dX7_smooth_72 : decode cX7_smooth 72 = .ok (.bipush (-4), 2) := by decide +kernel
theorem dX7_smooth_74 : decode cX7_smooth 74 = .ok (.invokevirtual 196, 3) := by decide +kernel
theorem dX7_smooth_77 : decode cX7_smooth 77 = .ok (.goto 4, 3) := by decide +kernel
theorem dX7_smooth_80 : decode cX7_smooth 80 = .ok (.lconst 0, 1) := by decide +kernel
theorem dX7_smooth_81 : decode cX7_smooth 81 = .ok (.ladd, 1) := by decide +kernel
theorem dX7_smooth_82 : decode cX7_smooth 82 = .ok (.lstore 4, 2) := by decide +kernel
theorem dX7_smooth_84 : decode cX7_smooth 84 = .ok (.lload 6, 2) := by decide +kernel
theorem dX7_smooth_86 : decode cX7_smooth 86 = .ok (.iload 9, 2) := by decide +kernel
theorem dX7_smooth_88 : decode cX7_smooth 88 = .ok (.ifCond .eq 20, 3) := by decide +kernel
theorem dX7_smooth_91 : decode cX7_smooth 91 = .ok (.ldc2_w 190, 3) := by decide +kernel
theorem dX7_smooth_94 : decode cX7_smooth 94 = .ok (.aload_n 0, 1) := by decide +kernel
theorem dX7_smooth_95 : decode cX7_smooth 95 = .ok (.iload 8, 2) := by decide +kernel
theorem dX7_smooth_97 : decode cX7_smooth 97 = .ok (.iload 8, 2) := by decide +kernel
theorem dX7_smooth_99 : decode cX7_smooth 99 = .ok (.bipush (-4), 2) := by decide +kernel
theorem dX7_smooth_101 : decode cX7_smooth 101 = .ok (.invokevirtual 192, 3) := by decide +kernel
theorem dX7_smooth_104 : decode cX7_smooth 104 = .ok (.lmul, 1) := by decide +kernel
theorem dX7_smooth_105 : decode cX7_smooth 105 = .ok (.goto 4, 3) := by decide +kernel
theorem dX7_smooth_108 : decode cX7_smooth 108 = .ok (.lconst 0, 1) := by decide +kernel
theorem dX7_smooth_109 : decode cX7_smooth 109 = .ok (.ladd, 1) := by decide +kernel
theorem dX7_smooth_110 : decode cX7_smooth 110 = .ok (.lstore 6, 2) := by decide +kernel
theorem dX7_smooth_112 : decode cX7_smooth 112 = .ok (.iinc 8 1, 3) := by decide +kernel
theorem dX7_smooth_115 : decode cX7_smooth 115 = .ok (.goto (-78), 3) := by decide +kernel
theorem dX7_smooth_118 : decode cX7_smooth 118 = .ok (.lload 6, 2) := by decide +kernel
theorem dX7_smooth_120 : decode cX7_smooth 120 = .ok (.lconst 0, 1) := by decide +kernel
theorem dX7_smooth_121 : decode cX7_smooth 121 = .ok (.lcmp, 1) := by decide +kernel
theorem dX7_smooth_122 : decode cX7_smooth 122 = .ok (.ifCond .ne 8, 3) := by decide +kernel
theorem dX7_smooth_125 : decode cX7_smooth 125 = .ok (.bipush (-4), 2) := by decide +kernel
theorem dX7_smooth_127 : decode cX7_smooth 127 = .ok (.goto 13, 3) := by decide +kernel
theorem dX7_smooth_130 : decode cX7_smooth 130 = .ok (.lload 4, 2) := by decide +kernel
theorem dX7_smooth_132 : decode cX7_smooth 132 = .ok (.ldc2_w 200, 3) := by decide +kernel
theorem dX7_smooth_135 : decode cX7_smooth 135 = .ok (.lmul, 1) := by decide +kernel
theorem dX7_smooth_136 : decode cX7_smooth 136 = .ok (.lload 6, 2) := by decide +kernel
theorem dX7_smooth_138 : decode cX7_smooth 138 = .ok (.ldiv, 1) := by decide +kernel
theorem dX7_smooth_139 : decode cX7_smooth 139 = .ok (.l2i, 1) := by decide +kernel
theorem dX7_smooth_140 : decode cX7_smooth 140 = .ok (.ireturn, 1) := by decide +kernel
set_option maxRecDepth 20000 in
theorem ggX7_jump_X7_isTop : GoodIn wsX7_jump wsX7_isTop := goodIn_r _ [4, 5, 6, 7, 3, 8] (by decide +kernel) (by decide +kernel)
set_option maxRecDepth 20000 in
theorem gX7_jump_X7_isTop : GoodIn wsX7_jump (va_wsS RX7 208 yX7_isTop wsX7_isTop) := goodIn_app (goodIn_of _ (by decide +kernel)) ggX7_jump_X7_isTop
set_option maxRecDepth 20000 in
theorem ggX7_jump_X7_in : GoodIn wsX7_jump wsX7_in := goodIn_r _ [8] (by decide +kernel) (by decide +kernel)
set_option maxRecDepth 20000 in
theorem gX7_jump_X7_in : GoodIn wsX7_jump (va_wsS RX7 83 yX7_in wsX7_in) := goodIn_app (goodIn_of _ (by decide +kernel)) ggX7_jump_X7_in
set_option maxRecDepth 20000 in
theorem ggX7_jump_X7_totalOf : GoodIn wsX7_jump wsX7_totalOf := goodIn_r _ [12, 13, 14, 15, 16, 17, 3, 18, 19, 20, 21, 22, 23, 24, 25, 26, 27, 28, 29, 30, 31, 32, 33, 34, 35, 36, 37, 38, 39, 40, 52, 53, 54, 55, 56, 57, 58, 59, 60, 61, 62, 63, 64, 65, 66, 67, 68, 69, 70, 71, 72, 73, 74, 75, 76, 77, 78, 79] (by decide +kernel) (by decide +kernel)
set_option maxRecDepth 20000 in
theorem gX7_jump_X7_totalOf : GoodIn wsX7_jump (wsV RX7 192 RX7 yX7_totalOf wsX7_totalOf) := goodIn_app (goodIn_of _ (by decide +kernel)) ggX7_jump_X7_totalOf
set_option maxRecDepth 20000 in
theorem ggX7_jump_X7_partsOf : GoodIn wsX7_jump wsX7_partsOf := goodIn_r _ [44, 45, 46, 9, 10, 11, 3, 12, 13, 14, 15, 16, 17, 18, 19, 20, 21, 22, 23, 24, 25, 26, 27, 28, 29, 30, 31, 32, 33, 34, 35, 36, 37, 38, 39, 40, 47, 48, 49, 50, 51, 52, 53, 54, 55, 56, 57, 58, 59, 60, 61, 62, 63, 64, 65, 66, 67, 68, 69, 70, 71, 72, 73, 74, 75, 76, 77, 78, 79] (by decide +kernel) (by decide +kernel)
set_option maxRecDepth 20000 in
theorem gX7_jump_X7_partsOf : GoodIn wsX7_jump (wsV RX7 215 RX7 yX7_partsOf wsX7_partsOf) := goodIn_app (goodIn_of _ (by decide +kernel)) ggX7_jump_X7_partsOf
theorem dX7_jump_0 : decode cX7_jump 0 = .ok (.iload_n 1, 1) := by decide +kernel
theorem dX7_jump_1 : decode cX7_jump 1 = .ok (.invokestatic 208, 3) := by decide +kernel
theorem dX7_jump_4 : decode cX7_jump 4 = .ok (.ifCond .eq 13, 3) := by decide +kernel
theorem dX7_jump_7 : decode cX7_jump 7 = .ok (.iload_n 2, 1) := by decide +kernel
theorem dX7_jump_8 : decode cX7_jump 8 = .ok (.i2l, 1) := by decide +kernel
theorem dX7_jump_9 : decode cX7_jump 9 = .ok (.lconst 0, 1) := by decide +kernel
theorem dX7_jump_10 : decode cX7_jump 10 = .ok (.lconst 1, 1) := by decide +kernel
theorem dX7_jump_11 : decode cX7_jump 11 = .ok (.invokestatic 83, 3) := by decide +kernel
theorem dX7_jump_14 : decode cX7_jump 14 = .ok (.ifCond .ne 5, 3) := by decide +kernel
theorem dX7_jump_17 : decode cX7_jump 17 = .ok (.iconst (-1), 1) := by decide +kernel
theorem dX7_jump_18 : decode cX7_jump 18 = .ok (.ireturn, 1) := by decide +kernel
theorem dX7_jump_19 : decode cX7_jump 19 = .ok (.bipush (-4), 2) := by decide +kernel
theorem dX7_jump_21 : decode cX7_jump 21 = .ok (.istore_n 3, 1) := by decide +kernel
theorem dX7_jump_22 : decode cX7_jump 22 = .ok (.iconst (-1), 1) := by decide +kernel
theorem dX7_jump_23 : decode cX7_jump 23 = .ok (.istore 4, 2) := by decide +kernel
theorem dX7_jump_25 : decode cX7_jump 25 = .ok (.iconst 0, 1) := by decide +kernel
theorem dX7_jump_26 : decode cX7_jump 26 = .ok (.istore 5, 2) := by decide +kernel
theorem dX7_jump_28 : decode cX7_jump 28 = .ok (.iload 5, 2) := by decide +kernel
theorem dX7_jump_30 : decode cX7_jump 30 = .ok (.bipush 7, 2) := by decide +kernel
theorem dX7_jump_32 : decode cX7_jump 32 = .ok (.if_icmp .ge 117, 3) := by decide +kernel
theorem dX7_jump_35 : decode cX7_jump 35 = .ok (.aload_n 0, 1) := by decide +kernel
theorem dX7_jump_36 : decode cX7_jump 36 = .ok (.iload 5, 2) := by decide +kernel
theorem dX7_jump_38 : decode cX7_jump 38 = .ok (.iload 5, 2) := by decide +kernel
theorem dX7_jump_40 : decode cX7_jump 40 = .ok (.bipush (-4), 2) := by decide +kernel
theorem dX7_jump_42 : decode cX7_jump 42 = .ok (.invokevirtual 192, 3) := by decide +kernel
theorem dX7_jump_45 : decode cX7_jump 45 = .ok (.lconst 0, 1) := by decide +kernel
theorem dX7_jump_46 : decode cX7_jump 46 = .ok (.lcmp, 1) := by decide +kernel
theorem dX7_jump_47 : decode cX7_jump 47 = .ok (.ifCond .le 96, 3) := by decide +kernel
theorem dX7_jump_50 : decode cX7_jump 50 = .ok (.aload_n 0, 1) := by decide +kernel
theorem dX7_jump_51 : decode cX7_jump 51 = .ok (.iload 5, 2) := by decide +kernel
theorem dX7_jump_53 : decode cX7_jump 53 = .ok (.iconst 1, 1) := by decide +kernel
theorem dX7_jump_54 : decode cX7_jump 54 = .ok (.iadd, 1) := by decide +kernel
theorem dX7_jump_55 : decode cX7_jump 55 = .ok (.iload 5, 2) := by decide +kernel
theorem dX7_jump_57 : decode cX7_jump 57 = .ok (.iconst 1, 1) := by decide +kernel
theorem dX7_jump_58 : decode cX7_jump 58 = .ok (.iadd, 1) := by decide +kernel
theorem dX7_jump_59 : decode cX7_jump 59 = .ok (.bipush (-4), 2) := by decide +kernel
theorem dX7_jump_61 : decode cX7_jump 61 = .ok (.invokevirtual 192, 3) := by decide +kernel
theorem dX7_jump_64 : decode cX7_jump 64 = .ok (.lconst 0, 1) := by decide +kernel
theorem dX7_jump_65 : decode cX7_jump 65 = .ok (.lcmp, 1) := by decide +kernel
theorem dX7_jump_66 : decode cX7_jump 66 = .ok (.ifCond .le 77, 3) := by decide +kernel
theorem dX7_jump_69 : decode cX7_jump 69 = .ok (.aload_n 0, 1) := by decide +kernel
theorem dX7_jump_70 : decode cX7_jump 70 = .ok (.iload 5, 2) := by decide +kernel
theorem dX7_jump_72 : decode cX7_jump 72 = .ok (.iconst 1, 1) := by decide +kernel
theorem dX7_jump_73 : decode cX7_jump 73 = .ok (.iadd, 1) := by decide +kernel
theorem dX7_jump_74 : decode cX7_jump 74 = .ok (.iload 5, 2) := by decide +kernel
theorem dX7_jump_76 : decode cX7_jump 76 = .ok (.iconst 1, 1) := by decide +kernel
theorem dX7_jump_77 : decode cX7_jump 77 = .ok (.iadd, 1) := by decide +kernel
theorem dX7_jump_78 : decode cX7_jump 78 = .ok (.iload_n 1, 1) := by decide +kernel
theorem dX7_jump_79 : decode cX7_jump 79 = .ok (.bipush (-4), 2) := by decide +kernel
theorem dX7_jump_81 : decode cX7_jump 81 = .ok (.invokevirtual 215, 3) := by decide +kernel
theorem dX7_jump_84 : decode cX7_jump 84 = .ok (.aload_n 0, 1) := by decide +kernel
theorem dX7_jump_85 : decode cX7_jump 85 = .ok (.iload 5, 2) := by decide +kernel
theorem dX7_jump_87 : decode cX7_jump 87 = .ok (.iload 5, 2) := by decide +kernel
theorem dX7_jump_89 : decode cX7_jump 89 = .ok (.iload_n 1, 1) := by decide +kernel
theorem dX7_jump_90 : decode cX7_jump 90 = .ok (.bipush (-4), 2) := by decide +kernel
theorem dX7_jump_92 : decode cX7_jump 92 = .ok (.invokevirtual 215, 3) := by decide +kernel
theorem dX7_jump_95 : decode cX7_jump 95 = .ok (.isub, 1) := by decide +kernel
theorem dX7_jump_96 : decode cX7_jump 96 = .ok (.istore 6, 2) := by decide +kernel
theorem dX7_jump_98 : decode cX7_jump 98 = .ok (.iload 6, 2) := by decide +kernel
theorem dX7_jump_100 : decode cX7_jump 100 = .ok (.ifCond .ge 9, 3) := by decide +kernel
theorem dX7_jump_103 : decode cX7_jump 103 = .ok (.iload 6, 2) := by decide +kernel
theorem dX7_jump_105 : decode cX7_jump 105 = .ok (.ineg, 1) := by decide +kernel
theorem dX7_jump_106 : decode cX7_jump 106 = .ok (.goto 5, 3) := by decide +kernel
theorem dX7_jump_109 : decode cX7_jump 109 = .ok (.iload 6, 2) := by decide +kernel
theorem dX7_jump_111 : decode cX7_jump 111 = .ok (.istore 6, 2) := by decide +kernel
theorem dX7_jump_113 : decode cX7_jump 113 = .ok (.iload 6, 2) := by decide +kernel
theorem dX7_jump_115 : decode cX7_jump 115 = .ok (.iload 4, 2) := by decide +kernel
theorem dX7_jump_117 : decode cX7_jump 117 = .ok (.if_icmp .le 8, 3) := by decide +kernel
theorem dX7_jump_120 : decode cX7_jump 120 = .ok (.iload 5, 2) := by decide +kernel
theorem dX7_jump_122 : decode cX7_jump 122 = .ok (.goto 4, 3) := by decide +kernel
theorem dX7_jump_125 : decode cX7_jump 125 = .ok (.iload_n 3, 1) := by decide +kernel
theorem dX7_jump_126 : decode cX7_jump 126 = .ok (.istore_n 3, 1) := by decide +kernel
theorem dX7_jump_127 : decode cX7_jump 127 = .ok (.iload 6, 2) := by decide +kernel
theorem dX7_jump_129 : decode cX7_jump 129 = .ok (.iload 4, 2) := by decide +kernel
theorem dX7_jump_131 : decode cX7_jump 131 = .ok (.if_icmp .le 8, 3) := by decide +kernel
theorem dX7_jump_134 : decode cX7_jump 134 = .ok (.iload 6, 2) := by decide +kernel
theorem dX7_jump_136 : decode cX7_jump 136 = .ok (.goto 5, 3) := by decide +kernel
theorem dX7_jump_139 : decode cX7_jump 139 = .ok (.iload 4, 2) := by decide +kernel
theorem dX7_jump_141 : decode cX7_jump 141 = .ok (.istore 4, 2) := by decide +kernel
theorem dX7_jump_143 : decode cX7_jump 143 = .ok (.iinc 5 1, 3) := by decide +kernel
theorem dX7_jump_146 : decode cX7_jump 146 = .ok (.goto (-118), 3) := by decide +kernel
theorem dX7_jump_149 : decode cX7_jump 149 = .ok (.iload_n 3, 1) := by decide +kernel
theorem dX7_jump_150 : decode cX7_jump 150 = .ok (.ifCond .lt 7, 3) := by decide +kernel
theorem dX7_jump_153 : decode cX7_jump 153 = .ok (.iload_n 2, 1) := by decide +kernel
theorem dX7_jump_154 : decode cX7_jump 154 = .ok (.ifCond .ne 7, 3) := by decide +kernel
theorem dX7_jump_157 : decode cX7_jump 157 = .ok (.iload_n 3, 1) := by decide +kernel
theorem dX7_jump_158 : decode cX7_jump 158 = .ok (.goto 5, 3) := by decide +kernel
theorem dX7_jump_161 : decode cX7_jump 161 = .ok (.iload 4, 2) := by decide +kernel
theorem dX7_jump_163 : decode cX7_jump 163 = .ok (.ireturn, 1) := by decide +kernel
set_option maxRecDepth 20000 in
theorem ggX7_alone_X7_isYear : GoodIn wsX7_alone wsX7_isYear := goodIn_r _ [5, 6, 7, 8, 4, 9] (by decide +kernel) (by decide +kernel)
set_option maxRecDepth 20000 in
theorem gX7_alone_X7_isYear : GoodIn wsX7_alone (va_wsS RX7 101 yX7_isYear wsX7_isYear) := goodIn_app (goodIn_of _ (by decide +kernel)) ggX7_alone_X7_isYear
set_option maxRecDepth 20000 in
theorem ggX7_alone_X7_isTop : GoodIn wsX7_alone wsX7_isTop := goodIn_r _ [12, 13, 7, 8, 4, 9] (by decide +kernel) (by decide +kernel)
set_option maxRecDepth 20000 in
theorem gX7_alone_X7_isTop : GoodIn wsX7_alone (va_wsS RX7 208 yX7_isTop wsX7_isTop) := goodIn_app (goodIn_of _ (by decide +kernel)) ggX7_alone_X7_isTop
set_option maxRecDepth 20000 in
theorem ggX7_alone_X7_partsOf : GoodIn wsX7_alone wsX7_partsOf := goodIn_r _ [17, 18, 19, 20, 21, 22, 4, 23, 24, 25, 26, 27, 28, 29, 30, 31, 32, 33, 34, 35, 36, 37, 38, 39, 40, 41, 42, 43, 44, 45, 46, 47, 48, 49, 50, 51, 52, 53, 54, 55, 56, 57, 58, 59, 60, 61, 62, 63, 64, 65, 66, 67, 68, 69, 70, 71, 72, 73, 74, 75, 76, 77, 78, 79, 80, 81, 82, 83, 84] (by decide +kernel) (by decide +kernel)
set_option maxRecDepth 20000 in
theorem gX7_alone_X7_partsOf : GoodIn wsX7_alone (wsV RX7 215 RX7 yX7_partsOf wsX7_partsOf) := goodIn_app (goodIn_of _ (by decide +kernel)) ggX7_alone_X7_partsOf
theorem dX7_alone_0 : decode cX7_alone 0 = .ok (.iload_n 1, 1) := by decide +kernel
theorem dX7_alone_1 : decode cX7_alone 1 = .ok (.invokestatic 101, 3) := by decide +kernel
theorem dX7_alone_4 : decode cX7_alone 4 = .ok (.ifCond .eq 17, 3) := by decide +kernel
theorem dX7_alone_7 : decode cX7_alone 7 = .ok (.iload_n 2, 1) := by decide +kernel
theorem dX7_alone_8 : decode cX7_alone 8 = .ok (.invokestatic 101, 3) := by decide +kernel
theorem dX7_alone_11 : decode cX7_alone 11 = .ok (.ifCond .eq 10, 3) := by decide +kernel
theorem dX7_alone_14 : decode cX7_alone 14 = .ok (.iload_n 3, 1) := by decide +kernel
theorem dX7_alone_15 : decode cX7_alone 15 = .ok (.invokestatic 208, 3) := by decide +kernel
theorem dX7_alone_18 : decode cX7_alone 18 = .ok (.ifCond .ne 7, 3) := by decide +kernel
theorem dX7_alone_21 : decode cX7_alone 21 = .ok (.ldc2_w 219, 3) := by decide +kernel
theorem dX7_alone_24 : decode cX7_alone 24 = .ok (.lreturn, 1) := by decide +kernel
theorem dX7_alone_25 : decode cX7_alone 25 = .ok (.aload_n 0, 1) := by decide +kernel
theorem dX7_alone_26 : decode cX7_alone 26 = .ok (.iload_n 1, 1) := by decide +kernel
theorem dX7_alone_27 : decode cX7_alone 27 = .ok (.iload_n 2, 1) := by decide +kernel
theorem dX7_alone_28 : decode cX7_alone 28 = .ok (.iload_n 3, 1) := by decide +kernel
theorem dX7_alone_29 : decode cX7_alone 29 = .ok (.bipush (-4), 2) := by decide +kernel
theorem dX7_alone_31 : decode cX7_alone 31 = .ok (.invokevirtual 215, 3) := by decide +kernel
theorem dX7_alone_34 : decode cX7_alone 34 = .ok (.aload_n 0, 1) := by decide +kernel
theorem dX7_alone_35 : decode cX7_alone 35 = .ok (.iload_n 1, 1) := by decide +kernel
theorem dX7_alone_36 : decode cX7_alone 36 = .ok (.iload_n 1, 1) := by decide +kernel
theorem dX7_alone_37 : decode cX7_alone 37 = .ok (.iload_n 3, 1) := by decide +kernel
theorem dX7_alone_38 : decode cX7_alone 38 = .ok (.bipush (-4), 2) := by decide +kernel
theorem dX7_alone_40 : decode cX7_alone 40 = .ok (.invokevirtual 215, 3) := by decide +kernel
theorem dX7_alone_43 : decode cX7_alone 43 = .ok (.isub, 1) := by decide +kernel
theorem dX7_alone_44 : decode cX7_alone 44 = .ok (.i2l, 1) := by decide +kernel
theorem dX7_alone_45 : decode cX7_alone 45 = .ok (.lreturn, 1) := by decide +kernel
set_option maxRecDepth 20000 in
theorem ggX7_bounds_X7_isYear : GoodIn wsX7_bounds wsX7_isYear := goodIn_r _ [6, 7, 8, 9, 5, 10] (by decide +kernel) (by decide +kernel)
set_option maxRecDepth 20000 in
theorem gX7_bounds_X7_isYear : GoodIn wsX7_bounds (va_wsS RX7 101 yX7_isYear wsX7_isYear) := goodIn_app (goodIn_of _ (by decide +kernel)) ggX7_bounds_X7_isYear
set_option maxRecDepth 20000 in
theorem ggX7_bounds_X7_isTop : GoodIn wsX7_bounds wsX7_isTop := goodIn_r _ [13, 14, 8, 9, 5, 10] (by decide +kernel) (by decide +kernel)
set_option maxRecDepth 20000 in
theorem gX7_bounds_X7_isTop : GoodIn wsX7_bounds (va_wsS RX7 208 yX7_isTop wsX7_isTop) := goodIn_app (goodIn_of _ (by decide +kernel)) ggX7_bounds_X7_isTop
set_option maxRecDepth 20000 in
theorem ggX7_bounds_X7_in : GoodIn wsX7_bounds wsX7_in := goodIn_r _ [10] (by decide +kernel) (by decide +kernel)
set_option maxRecDepth 20000 in
theorem gX7_bounds_X7_in : GoodIn wsX7_bounds (va_wsS RX7 83 yX7_in wsX7_in) := goodIn_app (goodIn_of _ (by decide +kernel)) ggX7_bounds_X7_in
set_option maxRecDepth 20000 in
theorem ggX7_bounds_X7_unseen : GoodIn wsX7_bounds wsX7_unseen := goodIn_r _ [18, 19, 20, 21, 22, 23, 24, 25, 26, 5, 27, 28, 29, 30, 31, 32, 33, 34, 35, 36, 37, 38, 39, 40, 41, 42, 43, 44, 45, 46, 56, 57, 58, 59, 60, 61, 62, 63, 64, 65, 66, 67, 68, 69, 70, 71, 72, 73, 74, 75, 76, 77, 78, 79, 80, 81, 82, 83] (by decide +kernel) (by decide +kernel)
set_option maxRecDepth 20000 in
theorem gX7_bounds_X7_unseen : GoodIn wsX7_bounds (wsV RX7 202 RX7 yX7_unseen wsX7_unseen) := goodIn_app (goodIn_of _ (by decide +kernel)) ggX7_bounds_X7_unseen
set_option maxRecDepth 20000 in
theorem ggX7_bounds_X7_totalOf : GoodIn wsX7_bounds wsX7_totalOf := goodIn_r _ [50, 19, 23, 24, 25, 26, 5, 27, 28, 29, 30, 31, 32, 33, 34, 35, 36, 37, 38, 39, 40, 20, 41, 42, 43, 44, 45, 46, 21, 22, 56, 57, 58, 59, 60, 61, 62, 63, 64, 65, 66, 67, 68, 69, 70, 71, 72, 73, 74, 75, 76, 77, 78, 79, 80, 81, 82, 83] (by decide +kernel) (by decide +kernel)
set_option maxRecDepth 20000 in
theorem gX7_bounds_X7_totalOf : GoodIn wsX7_bounds (wsV RX7 192 RX7 yX7_totalOf wsX7_totalOf) := goodIn_app (goodIn_of _ (by decide +kernel)) ggX7_bounds_X7_totalOf
set_option maxRecDepth 20000 in
theorem ggX7_bounds_X7_topOf : GoodIn wsX7_bounds wsX7_topOf := goodIn_r _ [54, 55, 19, 23, 1, 24, 25, 26, 5, 27, 28, 29, 30, 31, 32, 33, 34, 35, 36, 37, 38, 39, 40, 20, 41, 42, 43, 44, 45, 46, 21, 22, 56, 57, 58, 59, 60, 61, 62, 63, 64, 65, 66, 67, 68, 69, 70, 71, 72, 73, 74, 75, 76, 77, 78, 79, 80, 81, 82, 83] (by decide +kernel) (by decide +kernel)
set_option maxRecDepth 20000 in
theorem gX7_bounds_X7_topOf : GoodIn wsX7_bounds (wsV RX7 196 RX7 yX7_topOf wsX7_topOf) := goodIn_app (goodIn_of _ (by decide +kernel)) ggX7_bounds_X7_topOf
theorem dX7_bounds_0 : decode cX7_bounds 0 = .ok (.iload_n 1, 1) := by decide +kernel
theorem dX7_bounds_1 : decode cX7_bounds 1 = .ok (.invokestatic 101, 3) := by decide +kernel
theorem dX7_bounds_4 : decode cX7_bounds 4 = .ok (.ifCond .eq 20, 3) := by decide +kernel
theorem dX7_bounds_7 : decode cX7_bounds 7 = .ok (.iload_n 2, 1) := by decide +kernel
theorem dX7_bounds_8 : decode cX7_bounds 8 = .ok (.invokestatic 208, 3) := by decide +kernel
theorem dX7_bounds_11 : decode cX7_bounds 11 = .ok (.ifCond .eq 13, 3) := by decide +kernel
theorem dX7_bounds_14 : decode cX7_bounds 14 = .ok (.iload_n 3, 1) := by decide +kernel
theorem dX7_bounds_15 : decode cX7_bounds 15 = .ok (.i2l, 1) := by decide +kernel
theorem dX7_bounds_16 : decode cX7_bounds 16 = .ok (.lconst 0, 1) := by decide +kernel
theorem dX7_bounds_17 : decode cX7_bounds 17 = .ok (.lconst 1, 1) := by decide +kernel
theorem dX7_bounds_18 : decode cX7_bounds 18 = .ok (.invokestatic 83, 3) := by decide +kernel
theorem dX7_bounds_21 : decode cX7_bounds 21 = .ok (.ifCond .ne 5, 3) := by decide +kernel
theorem dX7_bounds_24 : decode cX7_bounds 24 = .ok (.iconst (-1), 1) := by decide +kernel
theorem dX7_bounds_25 : decode cX7_bounds 25 = .ok (.ireturn, 1) := by decide +kernel
theorem dX7_bounds_26 : decode cX7_bounds 26 = .ok (.aload_n 0, 1) := by decide +kernel
theorem dX7_bounds_27 : decode cX7_bounds 27 = .ok (.iload_n 1, 1) := by decide +kernel
theorem dX7_bounds_28 : decode cX7_bounds 28 = .ok (.invokevirtual 202, 3) := by decide +kernel
theorem dX7_bounds_31 : decode cX7_bounds 31 = .ok (.lstore 4, 2) := by decide +kernel
theorem dX7_bounds_33 : decode cX7_bounds 33 = .ok (.ldc2_w 190, 3) := by decide +kernel
theorem dX7_bounds_36 : decode cX7_bounds 36 = .ok (.aload_n 0, 1) := by decide +kernel
theorem dX7_bounds_37 : decode cX7_bounds 37 = .ok (.iload_n 1, 1) := by decide +kernel
theorem dX7_bounds_38 : decode cX7_bounds 38 = .ok (.iload_n 1, 1) := by decide +kernel
theorem dX7_bounds_39 : decode cX7_bounds 39 = .ok (.bipush (-4), 2) := by decide +kernel
theorem dX7_bounds_41 : decode cX7_bounds 41 = .ok (.invokevirtual 192, 3) := by decide +kernel
theorem dX7_bounds_44 : decode cX7_bounds 44 = .ok (.lload 4, 2) := by decide +kernel
theorem dX7_bounds_46 : decode cX7_bounds 46 = .ok (.ladd, 1) := by decide +kernel
theorem dX7_bounds_47 : decode cX7_bounds 47 = .ok (.lmul, 1) := by decide +kernel
theorem dX7_bounds_48 : decode cX7_bounds 48 = .ok (.lstore 6, 2) := by decide +kernel
theorem dX7_bounds_50 : decode cX7_bounds 50 = .ok (.lload 6, 2) := by decide +kernel
theorem dX7_bounds_52 : decode cX7_bounds 52 = .ok (.lconst 0, 1) := by decide +kernel
theorem dX7_bounds_53 : decode cX7_bounds 53 = .ok (.lcmp, 1) := by decide +kernel
theorem dX7_bounds_54 : decode cX7_bounds 54 = .ok (.ifCond .ne 6, 3) := by decide +kernel
theorem dX7_bounds_57 : decode cX7_bounds 57 = .ok (.bipush (-4), 2) := by decide +kernel
theorem dX7_bounds_59 : decode cX7_bounds 59 = .ok (.ireturn, 1) := by decide +kernel
theorem dX7_bounds_60 : decode cX7_bounds 60 = .ok (.aload_n 0, 1) := by decide +kernel
theorem dX7_bounds_61 : decode cX7_bounds 61 = .ok (.iload_n 1, 1) := by decide +kernel
theorem dX7_bounds_62 : decode cX7_bounds 62 = .ok (.iload_n 1, 1) := by decide +kernel
theorem dX7_bounds_63 : decode cX7_bounds 63 = .ok (.iload_n 2, 1) := by decide +kernel
theorem dX7_bounds_64 : decode cX7_bounds 64 = .ok (.bipush (-4), 2) := by decide +kernel
theorem dX7_bounds_66 : decode cX7_bounds 66 = .ok (.invokevirtual 196, 3) := by decide +kernel
theorem dX7_bounds_69 : decode cX7_bounds 69 = .ok (.iload_n 3, 1) := by decide +kernel
theorem dX7_bounds_70 : decode cX7_bounds 70 = .ok (.ifCond .ne 7, 3) := by decide +kernel
theorem dX7_bounds_73 : decode cX7_bounds 73 = .ok (.lconst 0, 1) := by decide +kernel
theorem dX7_bounds_74 : decode cX7_bounds 74 = .ok (.goto 9, 3) := by decide +kernel
theorem dX7_bounds_77 : decode cX7_bounds 77 = .ok (.ldc2_w 190, 3) := by decide +kernel
theorem dX7_bounds_80 : decode cX7_bounds 80 = .ok (.lload 4, 2) := by decide +kernel
theorem dX7_bounds_82 : decode cX7_bounds 82 = .ok (.lmul, 1) := by decide +kernel
theorem dX7_bounds_83 : decode cX7_bounds 83 = .ok (.ladd, 1) := by decide +kernel
theorem dX7_bounds_84 : decode cX7_bounds 84 = .ok (.lstore 8, 2) := by decide +kernel
theorem dX7_bounds_86 : decode cX7_bounds 86 = .ok (.lload 8, 2) := by decide +kernel
theorem dX7_bounds_88 : decode cX7_bounds 88 = .ok (.ldc2_w 200, 3) := by decide +kernel
theorem dX7_bounds_91 : decode cX7_bounds 91 = .ok (.lmul, 1) := by decide +kernel
theorem dX7_bounds_92 : decode cX7_bounds 92 = .ok (.lload 6, 2) := by decide +kernel
theorem dX7_bounds_94 : decode cX7_bounds 94 = .ok (.ldiv, 1) := by decide +kernel
theorem dX7_bounds_95 : decode cX7_bounds 95 = .ok (.l2i, 1) := by decide +kernel
theorem dX7_bounds_96 : decode cX7_bounds 96 = .ok (.ireturn, 1) := by decide +kernel
set_option maxRecDepth 20000 in
theorem ggX7_heap_X7_in : GoodIn wsX7_heap wsX7_in := goodIn_r _ [11] (by decide +kernel) (by decide +kernel)
set_option maxRecDepth 20000 in
theorem gX7_heap_X7_in : GoodIn wsX7_heap (va_wsS RX7 83 yX7_in wsX7_in) := goodIn_app (goodIn_of _ (by decide +kernel)) ggX7_heap_X7_in
set_option maxRecDepth 20000 in
theorem ggX7_heap_X7_sworn : GoodIn wsX7_heap wsX7_sworn := goodIn_r _ [15, 4, 5, 16, 17, 18, 10, 19, 20, 21, 22, 23, 24, 25, 26, 27, 28, 29, 30, 31, 32, 33, 34, 35, 36, 37, 38, 39, 40, 41, 42, 43, 44, 45, 46, 47, 48, 49, 50] (by decide +kernel) (by decide +kernel)
set_option maxRecDepth 20000 in
theorem gX7_heap_X7_sworn : GoodIn wsX7_heap (wsV RX7 120 RX7 yX7_sworn wsX7_sworn) := goodIn_app (goodIn_of _ (by decide +kernel)) ggX7_heap_X7_sworn
theorem dX7_heap_0 : decode cX7_heap 0 = .ok (.iload_n 1, 1) := by decide +kernel
theorem dX7_heap_1 : decode cX7_heap 1 = .ok (.i2l, 1) := by decide +kernel
theorem dX7_heap_2 : decode cX7_heap 2 = .ok (.lconst 1, 1) := by decide +kernel
theorem dX7_heap_3 : decode cX7_heap 3 = .ok (.ldc2_w 146, 3) := by decide +kernel
theorem dX7_heap_6 : decode cX7_heap 6 = .ok (.invokestatic 83, 3) := by decide +kernel
theorem dX7_heap_9 : decode cX7_heap 9 = .ok (.ifCond .eq 27, 3) := by decide +kernel
theorem dX7_heap_12 : decode cX7_heap 12 = .ok (.iload_n 2, 1) := by decide +kernel
theorem dX7_heap_13 : decode cX7_heap 13 = .ok (.i2l, 1) := by decide +kernel
theorem dX7_heap_14 : decode cX7_heap 14 = .ok (.lconst 1, 1) := by decide +kernel
theorem dX7_heap_15 : decode cX7_heap 15 = .ok (.ldc2_w 142, 3) := by decide +kernel
theorem dX7_heap_18 : decode cX7_heap 18 = .ok (.invokestatic 83, 3) := by decide +kernel
theorem dX7_heap_21 : decode cX7_heap 21 = .ok (.ifCond .eq 15, 3) := by decide +kernel
theorem dX7_heap_24 : decode cX7_heap 24 = .ok (.iload_n 3, 1) := by decide +kernel
theorem dX7_heap_25 : decode cX7_heap 25 = .ok (.i2l, 1) := by decide +kernel
theorem dX7_heap_26 : decode cX7_heap 26 = .ok (.lconst 0, 1) := by decide +kernel
theorem dX7_heap_27 : decode cX7_heap 27 = .ok (.ldc2_w 114, 3) := by decide +kernel
theorem dX7_heap_30 : decode cX7_heap 30 = .ok (.invokestatic 83, 3) := by decide +kernel
theorem dX7_heap_33 : decode cX7_heap 33 = .ok (.ifCond .ne 5, 3) := by decide +kernel
theorem dX7_heap_36 : decode cX7_heap 36 = .ok (.iconst (-1), 1) := by decide +kernel
theorem dX7_heap_37 : decode cX7_heap 37 = .ok (.ireturn, 1) := by decide +kernel
theorem dX7_heap_38 : decode cX7_heap 38 = .ok (.iconst 0, 1) := by decide +kernel
theorem dX7_heap_39 : decode cX7_heap 39 = .ok (.istore 4, 2) := by decide +kernel
theorem dX7_heap_41 : decode cX7_heap 41 = .ok (.iconst 0, 1) := by decide +kernel
theorem dX7_heap_42 : decode cX7_heap 42 = .ok (.istore 5, 2) := by decide +kernel
theorem dX7_heap_44 : decode cX7_heap 44 = .ok (.iconst 0, 1) := by decide +kernel
theorem dX7_heap_45 : decode cX7_heap 45 = .ok (.istore 6, 2) := by decide +kernel
theorem dX7_heap_47 : decode cX7_heap 47 = .ok (.iconst 0, 1) := by decide +kernel
theorem dX7_heap_48 : decode cX7_heap 48 = .ok (.istore 7, 2) := by decide +kernel
theorem dX7_heap_50 : decode cX7_heap 50 = .ok (.iload 7, 2) := by decide +kernel
theorem dX7_heap_52 : decode cX7_heap 52 = .ok (.bipush 8, 2) := by decide +kernel
theorem dX7_heap_54 : decode cX7_heap 54 = .ok (.if_icmp .ge 177, 3) := by decide +kernel
theorem dX7_heap_57 : decode cX7_heap 57 = .ok (.iload_n 1, 1) := by decide +kernel
theorem dX7_heap_58 : decode cX7_heap 58 = .ok (.iload 7, 2) := by decide +kernel
theorem dX7_heap_60 : decode cX7_heap 60 = .ok (.ishr, 1) := by decide +kernel
theorem dX7_heap_61 : decode cX7_heap 61 = .ok (.iconst 1, 1) := by decide +kernel
theorem dX7_heap_62 : decode cX7_heap 62 = .ok (.iand, 1) := by decide +kernel
theorem dX7_heap_63 : decode cX7_heap 63 = .ok (.iconst 1, 1) := by decide +kernel
theorem dX7_heap_64 : decode cX7_heap 64 = .ok (.if_icmp .ne 17, 3) := by decide +kernel
theorem dX7_heap_67 : decode cX7_heap 67 = .ok (.aload_n 0, 1) := by decide +kernel
theorem dX7_heap_68 : decode cX7_heap 68 = .ok (.getfield 33, 3) := by decide +kernel
theorem dX7_heap_71 : decode cX7_heap 71 = .ok (.iload 7, 2) := by decide +kernel
theorem dX7_heap_73 : decode cX7_heap 73 = .ok (.iaload, 1) := by decide +kernel
theorem dX7_heap_74 : decode cX7_heap 74 = .ok (.ifCond .le 7, 3) := by decide +kernel
theorem dX7_heap_77 : decode cX7_heap 77 = .ok (.iconst 1, 1) := by decide +kernel
theorem dX7_heap_78 : decode cX7_heap 78 = .ok (.goto 4, 3) := by decide +kernel
theorem dX7_heap_81 : decode cX7_heap 81 = .ok (.iconst 0, 1) := by decide +kernel
theorem dX7_heap_82 : decode cX7_heap 82 = .ok (.istore 8, 2) := by decide +kernel
theorem dX7_heap_84 : decode cX7_heap 84 = .ok (.iload 8, 2) := by decide +kernel
theorem dX7_heap_86 : decode cX7_heap 86 = .ok (.ifCond .eq 25, 3) := by decide +kernel
theorem dX7_heap_89 : decode cX7_heap 89 = .ok (.aload_n 0, 1) := by decide +kernel
theorem dX7_heap_90 : decode cX7_heap 90 = .ok (.getfield 36, 3) := by decide +kernel
theorem dX7_heap_93 : decode cX7_heap 93 = .ok (.iload 7, 2) := by decide +kernel
theorem dX7_heap_95 : decode cX7_heap 95 = .ok (.iaload, 1) := by decide +kernel
theorem dX7_heap_96 : decode cX7_heap 96 = .ok (.iload 6, 2) := by decide +kernel
theorem dX7_heap_98 : decode cX7_heap 98 = .ok (.if_icmp .le 13, 3) := by decide +kernel
theorem dX7_heap_101 : decode cX7_heap 101 = .ok (.aload_n 0, 1) := by decide +kernel
theorem dX7_heap_102 : decode cX7_heap 102 = .ok (.getfield 36, 3) := by decide +kernel
theorem dX7_heap_105 : decode cX7_heap 105 = .ok (.iload 7, 2) := by decide +kernel
theorem dX7_heap_107 : decode cX7_heap 107 = .ok (.iaload, 1) := by decide +kernel
theorem dX7_heap_108 : decode cX7_heap 108 = .ok (.goto 5, 3) := by decide +kernel
theorem dX7_heap_111 : decode cX7_heap 111 = .ok (.iload 6, 2) := by decide +kernel
theorem dX7_heap_113 : decode cX7_heap 113 = .ok (.istore 6, 2) := by decide +kernel
theorem dX7_heap_115 : decode cX7_heap 115 = .ok (.iconst 0, 1) := by decide +kernel
theorem dX7_heap_116 : decode cX7_heap 116 = .ok (.istore 9, 2) := by decide +kernel
theorem dX7_heap_118 : decode cX7_heap 118 = .ok (.iload 9, 2) := by decide +kernel
theorem dX7_heap_120 : decode cX7_heap 120 = .ok (.aload_n 0, 1) := by decide +kernel
theorem dX7_heap_121 : decode cX7_heap 121 = .ok (.getfield 87, 3) := by decide +kernel
theorem dX7_heap_124 : decode cX7_heap 124 = .ok (.if_icmp .ge 101, 3) := by decide +kernel
theorem dX7_heap_127 : decode cX7_heap 127 = .ok (.iload 8, 2) := by decide +kernel
theorem dX7_heap_129 : decode cX7_heap 129 = .ok (.ifCond .eq 96, 3) := by decide +kernel
theorem dX7_heap_132 : decode cX7_heap 132 = .ok (.aload_n 0, 1) := by decide +kernel
theorem dX7_heap_133 : decode cX7_heap 133 = .ok (.iload 9, 2) := by decide +kernel
theorem dX7_heap_135 : decode cX7_heap 135 = .ok (.iload 7, 2) := by decide +kernel
theorem dX7_heap_137 : decode cX7_heap 137 = .ok (.invokevirtual 120, 3) := by decide +kernel
theorem dX7_heap_140 : decode cX7_heap 140 = .ok (.aload_n 0, 1) := by decide +kernel
theorem dX7_heap_141 : decode cX7_heap 141 = .ok (.getfield 33, 3) := by decide +kernel
theorem dX7_heap_144 : decode cX7_heap 144 = .ok (.iload 7, 2) := by decide +kernel
theorem dX7_heap_146 : decode cX7_heap 146 = .ok (.iaload, 1) := by decide +kernel
theorem dX7_heap_147 : decode cX7_heap 147 = .ok (.isub, 1) := by decide +kernel
theorem dX7_heap_148 : decode cX7_heap 148 = .ok (.istore 10, 2) := by decide +kernel
theorem dX7_heap_150 : decode cX7_heap 150 = .ok (.iload 4, 2) := by decide +kernel
theorem dX7_heap_152 : decode cX7_heap 152 = .ok (.aload_n 0, 1) := by decide +kernel
theorem dX7_heap_153 : decode cX7_heap 153 = .ok (.getfield 18, 3) := by decide +kernel
theorem dX7_heap_156 : decode cX7_heap 156 = .ok (.iload 9, 2) := by decide +kernel
theorem dX7_heap_158 : decode cX7_heap 158 = .ok (.iaload, 1) := by decide +kernel
theorem dX7_heap_159 : decode cX7_heap 159 = .ok (.iload 7, 2) := by decide +kernel
theorem dX7_heap_161 : decode cX7_heap 161 = .ok (.if_icmp .ne 20, 3) := by decide +kernel
theorem dX7_heap_164 : decode cX7_heap 164 = .ok (.iload 10, 2) := by decide +kernel
theorem dX7_heap_166 : decode cX7_heap 166 = .ok (.i2l, 1) := by decide +kernel
theorem dX7_heap_167 : decode cX7_heap 167 = .ok (.iload_n 2, 1) := by decide +kernel
theorem dX7_heap_168 : decode cX7_heap 168 = .ok (.ineg, 1) := by decide +kernel
theorem dX7_heap_169 : decode cX7_heap 169 = .ok (.i2l, 1) := by decide +kernel
theorem dX7_heap_170 : decode cX7_heap 170 = .ok (.lconst 0, 1) := by decide +kernel
theorem dX7_heap_171 : decode cX7_heap 171 = .ok (.invokestatic 83, 3) := by decide +kernel
theorem dX7_heap_174 : decode cX7_heap 174 = .ok (.ifCond .eq 7, 3) := by decide +kernel
theorem dX7_heap_177 : decode cX7_heap 177 = .ok (.iconst 1, 1) := by decide +kernel
theorem dX7_heap_178 : decode cX7_heap 178 = .ok (.goto 4, 3) := by decide +kernel
theorem dX7_heap_181 : decode cX7_heap 181 = .ok (.iconst 0, 1) := by decide +kernel
theorem dX7_heap_182 : decode cX7_heap 182 = .ok (.iadd, 1) := by decide +kernel
theorem dX7_heap_183 : decode cX7_heap 183 = .ok (.istore 4, 2) := by decide +kernel
theorem dX7_heap_185 : decode cX7_heap 185 = .ok (.iload 5, 2) := by decide +kernel
theorem dX7_heap_187 : decode cX7_heap 187 = .ok (.aload_n 0, 1) := by decide +kernel
theorem dX7_heap_188 : decode cX7_heap 188 = .ok (.getfield 18, 3) := by decide +kernel
theorem dX7_heap_191 : decode cX7_heap 191 = .ok (.iload 9, 2) := by decide +kernel
theorem dX7_heap_193 : decode cX7_heap 193 = .ok (.iaload, 1) := by decide +kernel
theorem dX7_heap_194 : decode cX7_heap 194 = .ok (.iload 7, 2) := by decide +kernel
theorem dX7_heap_196 : decode cX7_heap 196 = .ok (.if_icmp .ne 19, 3) := by decide +kernel
theorem dX7_heap_199 : decode cX7_heap 199 = .ok (.iload 10, 2) := by decide +kernel
theorem dX7_heap_201 : decode cX7_heap 201 = .ok (.i2l, 1) := by decide +kernel
theorem dX7_heap_202 : decode cX7_heap 202 = .ok (.lconst 1, 1) := by decide +kernel
theorem dX7_heap_203 : decode cX7_heap 203 = .ok (.iload_n 2, 1) := by decide +kernel
theorem dX7_heap_204 : decode cX7_heap 204 = .ok (.i2l, 1) := by decide +kernel
theorem dX7_heap_205 : decode cX7_heap 205 = .ok (.invokestatic 83, 3) := by decide +kernel
theorem dX7_heap_208 : decode cX7_heap 208 = .ok (.ifCond .eq 7, 3) := by decide +kernel
theorem dX7_heap_211 : decode cX7_heap 211 = .ok (.iconst 1, 1) := by decide +kernel
theorem dX7_heap_212 : decode cX7_heap 212 = .ok (.goto 4, 3) := by decide +kernel
theorem dX7_heap_215 : decode cX7_heap 215 = .ok (.iconst 0, 1) := by decide +kernel
theorem dX7_heap_216 : decode cX7_heap 216 = .ok (.iadd, 1) := by decide +kernel
theorem dX7_heap_217 : decode cX7_heap 217 = .ok (.istore 5, 2) := by decide +kernel
theorem dX7_heap_219 : decode cX7_heap 219 = .ok (.iinc 9 1, 3) := by decide +kernel
theorem dX7_heap_222 : decode cX7_heap 222 = .ok (.goto (-104), 3) := by decide +kernel
theorem dX7_heap_225 : decode cX7_heap 225 = .ok (.iinc 7 1, 3) := by decide +kernel
theorem dX7_heap_228 : decode cX7_heap 228 = .ok (.goto (-178), 3) := by decide +kernel
theorem dX7_heap_231 : decode cX7_heap 231 = .ok (.iload 4, 2) := by decide +kernel
theorem dX7_heap_233 : decode cX7_heap 233 = .ok (.iload 5, 2) := by decide +kernel
theorem dX7_heap_235 : decode cX7_heap 235 = .ok (.if_icmp .le 11, 3) := by decide +kernel
theorem dX7_heap_238 : decode cX7_heap 238 = .ok (.iload 4, 2) := by decide +kernel
theorem dX7_heap_240 : decode cX7_heap 240 = .ok (.iload 5, 2) := by decide +kernel
theorem dX7_heap_242 : decode cX7_heap 242 = .ok (.isub, 1) := by decide +kernel
theorem dX7_heap_243 : decode cX7_heap 243 = .ok (.goto 4, 3) := by decide +kernel
theorem dX7_heap_246 : decode cX7_heap 246 = .ok (.iconst 0, 1) := by decide +kernel
theorem dX7_heap_247 : decode cX7_heap 247 = .ok (.istore 7, 2) := by decide +kernel
theorem dX7_heap_249 : decode cX7_heap 249 = .ok (.iload_n 3, 1) := by decide +kernel
theorem dX7_heap_250 : decode cX7_heap 250 = .ok (.ifCond .ne 8, 3) := by decide +kernel
theorem dX7_heap_253 : decode cX7_heap 253 = .ok (.iload 7, 2) := by decide +kernel
theorem dX7_heap_255 : decode cX7_heap 255 = .ok (.goto 28, 3) := by decide +kernel
theorem dX7_heap_258 : decode cX7_heap 258 = .ok (.iload_n 3, 1) := by decide +kernel
theorem dX7_heap_259 : decode cX7_heap 259 = .ok (.iconst 1, 1) := by decide +kernel
theorem dX7_heap_260 : decode cX7_heap 260 = .ok (.if_icmp .ne 11, 3) := by decide +kernel
theorem dX7_heap_263 : decode cX7_heap 263 = .ok (.iload 7, 2) := by decide +kernel
theorem dX7_heap_265 : decode cX7_heap 265 = .ok (.iload 6, 2) := by decide +kernel
theorem dX7_heap_267 : decode cX7_heap 267 = .ok (.imul, 1) := by decide +kernel
theorem dX7_heap_268 : decode cX7_heap 268 = .ok (.goto 15, 3) := by decide +kernel
theorem dX7_heap_271 : decode cX7_heap 271 = .ok (.iload_n 3, 1) := by decide +kernel
theorem dX7_heap_272 : decode cX7_heap 272 = .ok (.iconst 2, 1) := by decide +kernel
theorem dX7_heap_273 : decode cX7_heap 273 = .ok (.if_icmp .ne 8, 3) := by decide +kernel
theorem dX7_heap_276 : decode cX7_heap 276 = .ok (.iload 4, 2) := by decide +kernel
theorem dX7_heap_278 : decode cX7_heap 278 = .ok (.goto 5, 3) := by decide +kernel
theorem dX7_heap_281 : decode cX7_heap 281 = .ok (.iload 5, 2) := by decide +kernel
theorem dX7_heap_283 : decode cX7_heap 283 = .ok (.ireturn, 1) := by decide +kernel
set_option maxRecDepth 20000 in
theorem ggX7_beside_X7_isYear : GoodIn wsX7_beside wsX7_isYear := goodIn_r _ [7, 8, 9, 10, 6, 11] (by decide +kernel) (by decide +kernel)
set_option maxRecDepth 20000 in
theorem gX7_beside_X7_isYear : GoodIn wsX7_beside (va_wsS RX7 101 yX7_isYear wsX7_isYear) := goodIn_app (goodIn_of _ (by decide +kernel)) ggX7_beside_X7_isYear
set_option maxRecDepth 20000 in
theorem ggX7_beside_X7_in : GoodIn wsX7_beside wsX7_in := goodIn_r _ [11] (by decide +kernel) (by decide +kernel)
set_option maxRecDepth 20000 in
theorem gX7_beside_X7_in : GoodIn wsX7_beside (va_wsS RX7 83 yX7_in wsX7_in) := goodIn_app (goodIn_of _ (by decide +kernel)) ggX7_beside_X7_in
theorem dX7_beside_0 : decode cX7_beside 0 = .ok (.iload_n 1, 1) := by decide +kernel
theorem dX7_beside_1 : decode cX7_beside 1 = .ok (.invokestatic 101, 3) := by decide +kernel
theorem dX7_beside_4 : decode cX7_beside 4 = .ok (.ifCond .eq 25, 3) := by decide +kernel
theorem dX7_beside_7 : decode cX7_beside 7 = .ok (.lload 4, 2) := by decide +kernel
theorem dX7_beside_9 : decode cX7_beside 9 = .ok (.lconst 0, 1) := by decide +kernel
theorem dX7_beside_10 : decode cX7_beside 10 = .ok (.ldc2_w 221, 3) := by decide +kernel
theorem dX7_beside_13 : decode cX7_beside 13 = .ok (.invokestatic 83, 3) := by decide +kernel
theorem dX7_beside_16 : decode cX7_beside 16 = .ok (.ifCond .eq 13, 3) := by decide +kernel
theorem dX7_beside_19 : decode cX7_beside 19 = .ok (.lload_n 2, 1) := by decide +kernel
theorem dX7_beside_20 : decode cX7_beside 20 = .ok (.lconst 0, 1) := by decide +kernel
theorem dX7_beside_21 : decode cX7_beside 21 = .ok (.lload 4, 2) := by decide +kernel
theorem dX7_beside_23 : decode cX7_beside 23 = .ok (.invokestatic 83, 3) := by decide +kernel
theorem dX7_beside_26 : decode cX7_beside 26 = .ok (.ifCond .ne 5, 3) := by decide +kernel
theorem dX7_beside_29 : decode cX7_beside 29 = .ok (.iconst (-1), 1) := by decide +kernel
theorem dX7_beside_30 : decode cX7_beside 30 = .ok (.ireturn, 1) := by decide +kernel
theorem dX7_beside_31 : decode cX7_beside 31 = .ok (.aload_n 0, 1) := by decide +kernel
theorem dX7_beside_32 : decode cX7_beside 32 = .ok (.getfield 48, 3) := by decide +kernel
theorem dX7_beside_35 : decode cX7_beside 35 = .ok (.iload_n 1, 1) := by decide +kernel
theorem dX7_beside_36 : decode cX7_beside 36 = .ok (.lload_n 2, 1) := by decide +kernel
theorem dX7_beside_37 : decode cX7_beside 37 = .ok (.lastore, 1) := by decide +kernel
theorem dX7_beside_38 : decode cX7_beside 38 = .ok (.aload_n 0, 1) := by decide +kernel
theorem dX7_beside_39 : decode cX7_beside 39 = .ok (.getfield 52, 3) := by decide +kernel
theorem dX7_beside_42 : decode cX7_beside 42 = .ok (.iload_n 1, 1) := by decide +kernel
theorem dX7_beside_43 : decode cX7_beside 43 = .ok (.lload 4, 2) := by decide +kernel
theorem dX7_beside_45 : decode cX7_beside 45 = .ok (.lastore, 1) := by decide +kernel
theorem dX7_beside_46 : decode cX7_beside 46 = .ok (.iconst 1, 1) := by decide +kernel
theorem dX7_beside_47 : decode cX7_beside 47 = .ok (.ireturn, 1) := by decide +kernel
set_option maxRecDepth 20000 in
theorem ggX7_fights_X7_totalOf : GoodIn wsX7_fights wsX7_totalOf := goodIn_r _ [7, 8, 9, 10, 11, 12, 6, 13, 14, 15, 16, 17, 18, 19, 20, 21, 22, 23, 24, 25, 26, 27, 28, 29, 30, 31, 32, 33, 34, 35, 40, 41, 42, 43, 44, 45, 46, 47, 48, 49, 50, 51, 52, 53, 54, 55, 56, 57, 58, 59, 60, 61, 62, 63, 64, 65, 66, 67] (by decide +kernel) (by decide +kernel)
set_option maxRecDepth 20000 in
theorem gX7_fights_X7_totalOf : GoodIn wsX7_fights (wsV RX7 192 RX7 yX7_totalOf wsX7_totalOf) := goodIn_app (goodIn_of _ (by decide +kernel)) ggX7_fights_X7_totalOf
set_option maxRecDepth 20000 in
theorem ggX7_fights_X7_unseen : GoodIn wsX7_fights wsX7_unseen := goodIn_r _ [39, 8, 27, 34, 35, 9, 10, 11, 12, 6, 13, 14, 15, 16, 17, 18, 19, 20, 21, 22, 23, 24, 25, 26, 28, 29, 30, 31, 32, 33, 40, 41, 42, 43, 44, 45, 46, 47, 48, 49, 50, 51, 52, 53, 54, 55, 56, 57, 58, 59, 60, 61, 62, 63, 64, 65, 66, 67] (by decide +kernel) (by decide +kernel)
set_option maxRecDepth 20000 in
theorem gX7_fights_X7_unseen : GoodIn wsX7_fights (wsV RX7 202 RX7 yX7_unseen wsX7_unseen) := goodIn_app (goodIn_of _ (by decide +kernel)) ggX7_fights_X7_unseen
theorem dX7_fights_0 : decode cX7_fights 0 = .ok (.iconst 0, 1) := by decide +kernel
theorem dX7_fights_1 : decode cX7_fights 1 = .ok (.istore_n 1, 1) := by decide +kernel
theorem dX7_fights_2 : decode cX7_fights 2 = .ok (.iconst 0, 1) := by decide +kernel
theorem dX7_fights_3 : decode cX7_fights 3 = .ok (.istore_n 2, 1) := by decide +kernel
theorem dX7_fights_4 : decode cX7_fights 4 = .ok (.iload_n 2, 1) := by decide +kernel
theorem dX7_fights_5 : decode cX7_fights 5 = .ok (.bipush 8, 2) := by decide +kernel
theorem dX7_fights_7 : decode cX7_fights 7 = .ok (.if_icmp .ge 71, 3) := by decide +kernel
theorem dX7_fights_10 : decode cX7_fights 10 = .ok (.aload_n 0, 1) := by decide +kernel
theorem dX7_fights_11 : decode cX7_fights 11 = .ok (.iload_n 2, 1) := by decide +kernel
theorem dX7_fights_12 : decode cX7_fights 12 = .ok (.iload_n 2, 1) := by decide +kernel
theorem dX7_fights_13 : decode cX7_fights 13 = .ok (.bipush (-4), 2) := by decide +kernel
theorem dX7_fights_15 : decode cX7_fights 15 = .ok (.invokevirtual 192, 3) := by decide +kernel
theorem dX7_fights_18 : decode cX7_fights 18 = .ok (.lstore_n 3, 1) := by decide +kernel
theorem dX7_fights_19 : decode cX7_fights 19 = .ok (.lload_n 3, 1) := by decide +kernel
theorem dX7_fights_20 : decode cX7_fights 20 = .ok (.aload_n 0, 1) := by decide +kernel
theorem dX7_fights_21 : decode cX7_fights 21 = .ok (.iload_n 2, 1) := by decide +kernel
theorem dX7_fights_22 : decode cX7_fights 22 = .ok (.invokevirtual 202, 3) := by decide +kernel
theorem dX7_fights_25 : decode cX7_fights 25 = .ok (.ladd, 1) := by decide +kernel
theorem dX7_fights_26 : decode cX7_fights 26 = .ok (.lstore 5, 2) := by decide +kernel
theorem dX7_fights_28 : decode cX7_fights 28 = .ok (.iload_n 1, 1) := by decide +kernel
theorem dX7_fights_29 : decode cX7_fights 29 = .ok (.aload_n 0, 1) := by decide +kernel
theorem dX7_fights_30 : decode cX7_fights 30 = .ok (.getfield 52, 3) := by decide +kernel
theorem dX7_fights_33 : decode cX7_fights 33 = .ok (.iload_n 2, 1) := by decide +kernel
theorem dX7_fights_34 : decode cX7_fights 34 = .ok (.laload, 1) := by decide +kernel
theorem dX7_fights_35 : decode cX7_fights 35 = .ok (.lconst 0, 1) := by decide +kernel
theorem dX7_fights_36 : decode cX7_fights 36 = .ok (.lcmp, 1) := by decide +kernel
theorem dX7_fights_37 : decode cX7_fights 37 = .ok (.ifCond .lt 32, 3) := by decide +kernel
theorem dX7_fights_40 : decode cX7_fights 40 = .ok (.aload_n 0, 1) := by decide +kernel
theorem dX7_fights_41 : decode cX7_fights 41 = .ok (.getfield 52, 3) := by decide +kernel
theorem dX7_fights_44 : decode cX7_fights 44 = .ok (.iload_n 2, 1) := by decide +kernel
theorem dX7_fights_45 : decode cX7_fights 45 = .ok (.laload, 1) := by decide +kernel
theorem dX7_fights_46 : decode cX7_fights 46 = .ok (.lload_n 3, 1) := by decide +kernel
theorem dX7_fights_47 : decode cX7_fights 47 = .ok (.lcmp, 1) := by decide +kernel
theorem dX7_fights_48 : decode cX7_fights 48 = .ok (.ifCond .lt 15, 3) := by decide +kernel
theorem dX7_fights_51 : decode cX7_fights 51 = .ok (.aload_n 0, 1) := by decide +kernel
theorem dX7_fights_52 : decode cX7_fights 52 = .ok (.getfield 48, 3) := by decide +kernel
theorem dX7_fights_55 : decode cX7_fights 55 = .ok (.iload_n 2, 1) := by decide +kernel
theorem dX7_fights_56 : decode cX7_fights 56 = .ok (.laload, 1) := by decide +kernel
theorem dX7_fights_57 : decode cX7_fights 57 = .ok (.lload 5, 2) := by decide +kernel
theorem dX7_fights_59 : decode cX7_fights 59 = .ok (.lcmp, 1) := by decide +kernel
theorem dX7_fights_60 : decode cX7_fights 60 = .ok (.ifCond .le 9, 3) := by decide +kernel
theorem dX7_fights_63 : decode cX7_fights 63 = .ok (.iconst 1, 1) := by decide +kernel
theorem dX7_fights_64 : decode cX7_fights 64 = .ok (.iload_n 2, 1) := by decide +kernel
theorem dX7_fights_65 : decode cX7_fights 65 = .ok (.ishl, 1) := by decide +kernel
theorem dX7_fights_66 : decode cX7_fights 66 = .ok (.goto 4, 3) := by decide +kernel
theorem dX7_fights_69 : decode cX7_fights 69 = .ok (.iconst 0, 1) := by decide +kernel
theorem dX7_fights_70 : decode cX7_fights 70 = .ok (.ior, 1) := by decide +kernel
theorem dX7_fights_71 : decode cX7_fights 71 = .ok (.istore_n 1, 1) := by decide +kernel
theorem dX7_fights_72 : decode cX7_fights 72 = .ok (.iinc 2 1, 3) := by decide +kernel
theorem dX7_fights_75 : decode cX7_fights 75 = .ok (.goto (-71), 3) := by decide +kernel
theorem dX7_fights_78 : decode cX7_fights 78 = .ok (.iload_n 1, 1) := by decide +kernel
theorem dX7_fights_79 : decode cX7_fights 79 = .ok (.ireturn, 1) := by decide +kernel
set_option maxRecDepth 20000 in
theorem ggX7_fall_X7_isYear : GoodIn wsX7_fall wsX7_isYear := goodIn_r _ [7, 8, 9, 10, 6, 11] (by decide +kernel) (by decide +kernel)
set_option maxRecDepth 20000 in
theorem gX7_fall_X7_isYear : GoodIn wsX7_fall (va_wsS RX7 101 yX7_isYear wsX7_isYear) := goodIn_app (goodIn_of _ (by decide +kernel)) ggX7_fall_X7_isYear
set_option maxRecDepth 20000 in
theorem ggX7_fall_X7_in : GoodIn wsX7_fall wsX7_in := goodIn_r _ [11] (by decide +kernel) (by decide +kernel)
set_option maxRecDepth 20000 in
theorem gX7_fall_X7_in : GoodIn wsX7_fall (va_wsS RX7 83 yX7_in wsX7_in) := goodIn_app (goodIn_of _ (by decide +kernel)) ggX7_fall_X7_in
set_option maxRecDepth 20000 in
theorem ggX7_fall_X7_totalOf : GoodIn wsX7_fall wsX7_totalOf := goodIn_r _ [15, 16, 17, 18, 19, 20, 6, 21, 22, 23, 24, 25, 26, 27, 28, 29, 30, 31, 32, 33, 34, 35, 36, 37, 38, 39, 40, 41, 42, 43, 44, 45, 46, 47, 48, 49, 50, 51, 52, 53, 54, 55, 56, 57, 58, 59, 60, 61, 62, 63, 64, 65, 66, 67, 68, 69, 70, 71] (by decide +kernel) (by decide +kernel)
set_option maxRecDepth 20000 in
theorem gX7_fall_X7_totalOf : GoodIn wsX7_fall (wsV RX7 192 RX7 yX7_totalOf wsX7_totalOf) := goodIn_app (goodIn_of _ (by decide +kernel)) ggX7_fall_X7_totalOf
theorem dX7_fall_0 : decode cX7_fall 0 = .ok (.iload_n 1, 1) := by decide +kernel
theorem dX7_fall_1 : decode cX7_fall 1 = .ok (.invokestatic 101, 3) := by decide +kernel
theorem dX7_fall_4 : decode cX7_fall 4 = .ok (.ifCond .eq 27, 3) := by decide +kernel
theorem dX7_fall_7 : decode cX7_fall 7 = .ok (.iload_n 2, 1) := by decide +kernel
theorem dX7_fall_8 : decode cX7_fall 8 = .ok (.invokestatic 101, 3) := by decide +kernel
theorem dX7_fall_11 : decode cX7_fall 11 = .ok (.ifCond .eq 20, 3) := by decide +kernel
theorem dX7_fall_14 : decode cX7_fall 14 = .ok (.iload_n 1, 1) := by decide +kernel
theorem dX7_fall_15 : decode cX7_fall 15 = .ok (.iload_n 2, 1) := by decide +kernel
theorem dX7_fall_16 : decode cX7_fall 16 = .ok (.if_icmp .eq 15, 3) := by decide +kernel
theorem dX7_fall_19 : decode cX7_fall 19 = .ok (.iload_n 3, 1) := by decide +kernel
theorem dX7_fall_20 : decode cX7_fall 20 = .ok (.i2l, 1) := by decide +kernel
theorem dX7_fall_21 : decode cX7_fall 21 = .ok (.lconst 0, 1) := by decide +kernel
theorem dX7_fall_22 : decode cX7_fall 22 = .ok (.ldc2_w 211, 3) := by decide +kernel
theorem dX7_fall_25 : decode cX7_fall 25 = .ok (.invokestatic 83, 3) := by decide +kernel
theorem dX7_fall_28 : decode cX7_fall 28 = .ok (.ifCond .ne 7, 3) := by decide +kernel
theorem dX7_fall_31 : decode cX7_fall 31 = .ok (.ldc2_w 219, 3) := by decide +kernel
theorem dX7_fall_34 : decode cX7_fall 34 = .ok (.lreturn, 1) := by decide +kernel
theorem dX7_fall_35 : decode cX7_fall 35 = .ok (.aload_n 0, 1) := by decide +kernel
theorem dX7_fall_36 : decode cX7_fall 36 = .ok (.iload_n 1, 1) := by decide +kernel
theorem dX7_fall_37 : decode cX7_fall 37 = .ok (.iload_n 1, 1) := by decide +kernel
theorem dX7_fall_38 : decode cX7_fall 38 = .ok (.bipush (-4), 2) := by decide +kernel
theorem dX7_fall_40 : decode cX7_fall 40 = .ok (.invokevirtual 192, 3) := by decide +kernel
theorem dX7_fall_43 : decode cX7_fall 43 = .ok (.lstore 4, 2) := by decide +kernel
theorem dX7_fall_45 : decode cX7_fall 45 = .ok (.aload_n 0, 1) := by decide +kernel
theorem dX7_fall_46 : decode cX7_fall 46 = .ok (.iload_n 1, 1) := by decide +kernel
theorem dX7_fall_47 : decode cX7_fall 47 = .ok (.iload_n 2, 1) := by decide +kernel
theorem dX7_fall_48 : decode cX7_fall 48 = .ok (.bipush (-4), 2) := by decide +kernel
theorem dX7_fall_50 : decode cX7_fall 50 = .ok (.invokevirtual 192, 3) := by decide +kernel
theorem dX7_fall_53 : decode cX7_fall 53 = .ok (.lstore 6, 2) := by decide +kernel
theorem dX7_fall_55 : decode cX7_fall 55 = .ok (.lload 6, 2) := by decide +kernel
theorem dX7_fall_57 : decode cX7_fall 57 = .ok (.aload_n 0, 1) := by decide +kernel
theorem dX7_fall_58 : decode cX7_fall 58 = .ok (.getfield 45, 3) := by decide +kernel
theorem dX7_fall_61 : decode cX7_fall 61 = .ok (.iload_n 2, 1) := by decide +kernel
theorem dX7_fall_62 : decode cX7_fall 62 = .ok (.iaload, 1) := by decide +kernel
theorem dX7_fall_63 : decode cX7_fall 63 = .ok (.i2l, 1) := by decide +kernel
theorem dX7_fall_64 : decode cX7_fall 64 = .ok (.lmul, 1) := by decide +kernel
theorem dX7_fall_65 : decode cX7_fall 65 = .ok (.aload_n 0, 1) := by decide +kernel
theorem dX7_fall_66 : decode cX7_fall 66 = .ok (.getfield 45, 3) := by decide +kernel
theorem dX7_fall_69 : decode cX7_fall 69 = .ok (.iload_n 1, 1) := by decide +kernel
theorem dX7_fall_70 : decode cX7_fall 70 = .ok (.iaload, 1) := by decide +kernel
theorem dX7_fall_71 : decode cX7_fall 71 = .ok (.i2l, 1) := by decide +kernel
theorem dX7_fall_72 : decode cX7_fall 72 = .ok (.ldiv, 1) := by decide +kernel
theorem dX7_fall_73 : decode cX7_fall 73 = .ok (.lstore 8, 2) := by decide +kernel
theorem dX7_fall_75 : decode cX7_fall 75 = .ok (.iload_n 3, 1) := by decide +kernel
theorem dX7_fall_76 : decode cX7_fall 76 = .ok (.ifCond .ne 11, 3) := by decide +kernel
theorem dX7_fall_79 : decode cX7_fall 79 = .ok (.lload 6, 2) := by decide +kernel
theorem dX7_fall_81 : decode cX7_fall 81 = .ok (.lload 4, 2) := by decide +kernel
theorem dX7_fall_83 : decode cX7_fall 83 = .ok (.lsub, 1) := by decide +kernel
theorem dX7_fall_84 : decode cX7_fall 84 = .ok (.goto 27, 3) := by decide +kernel
theorem dX7_fall_87 : decode cX7_fall 87 = .ok (.iload_n 3, 1) := by decide +kernel
theorem dX7_fall_88 : decode cX7_fall 88 = .ok (.iconst 1, 1) := by decide +kernel
theorem dX7_fall_89 : decode cX7_fall 89 = .ok (.if_icmp .ne 11, 3) := by decide +kernel
theorem dX7_fall_92 : decode cX7_fall 92 = .ok (.lload 8, 2) := by decide +kernel
theorem dX7_fall_94 : decode cX7_fall 94 = .ok (.lload 6, 2) := by decide +kernel
theorem dX7_fall_96 : decode cX7_fall 96 = .ok (.lsub, 1) := by decide +kernel
theorem dX7_fall_97 : decode cX7_fall 97 = .ok (.goto 14, 3) := by decide +kernel
theorem dX7_fall_100 : decode cX7_fall 100 = .ok (.aload_n 0, 1) := by decide +kernel
theorem dX7_fall_101 : decode cX7_fall 101 = .ok (.iload_n 2, 1) := by decide +kernel
theorem dX7_fall_102 : decode cX7_fall 102 = .ok (.iload_n 2, 1) := by decide +kernel
theorem dX7_fall_103 : decode cX7_fall 103 = .ok (.bipush (-4), 2) := by decide +kernel
theorem dX7_fall_105 : decode cX7_fall 105 = .ok (.invokevirtual 192, 3) := by decide +kernel
theorem dX7_fall_108 : decode cX7_fall 108 = .ok (.lload 8, 2) := by decide +kernel
theorem dX7_fall_110 : decode cX7_fall 110 = .ok (.lsub, 1) := by decide +kernel
theorem dX7_fall_111 : decode cX7_fall 111 = .ok (.lreturn, 1) := by decide +kernel
theorem dX7_saves_0 : decode cX7_saves 0 = .ok (.iconst 0, 1) := by decide +kernel
theorem dX7_saves_1 : decode cX7_saves 1 = .ok (.istore_n 3, 1) := by decide +kernel
theorem dX7_saves_2 : decode cX7_saves 2 = .ok (.iload_n 3, 1) := by decide +kernel
theorem dX7_saves_3 : decode cX7_saves 3 = .ok (.aload_n 0, 1) := by decide +kernel
theorem dX7_saves_4 : decode cX7_saves 4 = .ok (.arraylength, 1) := by decide +kernel
theorem dX7_saves_5 : decode cX7_saves 5 = .ok (.if_icmp .ge 17, 3) := by decide +kernel
theorem dX7_saves_8 : decode cX7_saves 8 = .ok (.aload_n 1, 1) := by decide +kernel
theorem dX7_saves_9 : decode cX7_saves 9 = .ok (.iload_n 2, 1) := by decide +kernel
theorem dX7_saves_10 : decode cX7_saves 10 = .ok (.iload_n 3, 1) := by decide +kernel
theorem dX7_saves_11 : decode cX7_saves 11 = .ok (.iadd, 1) := by decide +kernel
theorem dX7_saves_12 : decode cX7_saves 12 = .ok (.aload_n 0, 1) := by decide +kernel
theorem dX7_saves_13 : decode cX7_saves 13 = .ok (.iload_n 3, 1) := by decide +kernel
theorem dX7_saves_14 : decode cX7_saves 14 = .ok (.iaload, 1) := by decide +kernel
theorem dX7_saves_15 : decode cX7_saves 15 = .ok (.iastore, 1) := by decide +kernel
theorem dX7_saves_16 : decode cX7_saves 16 = .ok (.iinc 3 1, 3) := by decide +kernel
theorem dX7_saves_19 : decode cX7_saves 19 = .ok (.goto (-17), 3) := by decide +kernel
theorem dX7_saves_22 : decode cX7_saves 22 = .ok (.iload_n 2, 1) := by decide +kernel
theorem dX7_saves_23 : decode cX7_saves 23 = .ok (.aload_n 0, 1) := by decide +kernel
theorem dX7_saves_24 : decode cX7_saves 24 = .ok (.arraylength, 1) := by decide +kernel
theorem dX7_saves_25 : decode cX7_saves 25 = .ok (.iadd, 1) := by decide +kernel
theorem dX7_saves_26 : decode cX7_saves 26 = .ok (.ireturn, 1) := by decide +kernel
theorem dX7_gives_0 : decode cX7_gives 0 = .ok (.iconst 0, 1) := by decide +kernel
theorem dX7_gives_1 : decode cX7_gives 1 = .ok (.istore_n 3, 1) := by decide +kernel
theorem dX7_gives_2 : decode cX7_gives 2 = .ok (.iload_n 3, 1) := by decide +kernel
theorem dX7_gives_3 : decode cX7_gives 3 = .ok (.aload_n 2, 1) := by decide +kernel
theorem dX7_gives_4 : decode cX7_gives 4 = .ok (.arraylength, 1) := by decide +kernel
theorem dX7_gives_5 : decode cX7_gives 5 = .ok (.if_icmp .ge 17, 3) := by decide +kernel
theorem dX7_gives_8 : decode cX7_gives 8 = .ok (.aload_n 2, 1) := by decide +kernel
theorem dX7_gives_9 : decode cX7_gives 9 = .ok (.iload_n 3, 1) := by decide +kernel
theorem dX7_gives_10 : decode cX7_gives 10 = .ok (.aload_n 0, 1) := by decide +kernel
theorem dX7_gives_11 : decode cX7_gives 11 = .ok (.iload_n 1, 1) := by decide +kernel
theorem dX7_gives_12 : decode cX7_gives 12 = .ok (.iload_n 3, 1) := by decide +kernel
theorem dX7_gives_13 : decode cX7_gives 13 = .ok (.iadd, 1) := by decide +kernel
theorem dX7_gives_14 : decode cX7_gives 14 = .ok (.iaload, 1) := by decide +kernel
theorem dX7_gives_15 : decode cX7_gives 15 = .ok (.iastore, 1) := by decide +kernel
theorem dX7_gives_16 : decode cX7_gives 16 = .ok (.iinc 3 1, 3) := by decide +kernel
theorem dX7_gives_19 : decode cX7_gives 19 = .ok (.goto (-17), 3) := by decide +kernel
theorem dX7_gives_22 : decode cX7_gives 22 = .ok (.iload_n 1, 1) := by decide +kernel
theorem dX7_gives_23 : decode cX7_gives 23 = .ok (.aload_n 2, 1) := by decide +kernel
theorem dX7_gives_24 : decode cX7_gives 24 = .ok (.arraylength, 1) := by decide +kernel
theorem dX7_gives_25 : decode cX7_gives 25 = .ok (.iadd, 1) := by decide +kernel
theorem dX7_gives_26 : decode cX7_gives 26 = .ok (.ireturn, 1) := by decide +kernel
set_option maxRecDepth 20000 in
theorem ggX7_image_X7_saves : GoodIn wsX7_image wsX7_saves := goodIn_r _ [23] (by decide +kernel) (by decide +kernel)
set_option maxRecDepth 20000 in
theorem gX7_image_X7_saves : GoodIn wsX7_image (va_wsS RX7 223 yX7_saves wsX7_saves) := goodIn_app (goodIn_of _ (by decide +kernel)) ggX7_image_X7_saves
theorem dX7_image_0 : decode cX7_image 0 = .ok (.aload_n 0, 1) := by decide +kernel
theorem dX7_image_1 : decode cX7_image 1 = .ok (.getfield 7, 3) := by decide +kernel
theorem dX7_image_4 : decode cX7_image 4 = .ok (.aload_n 0, 1) := by decide +kernel
theorem dX7_image_5 : decode cX7_image 5 = .ok (.getfield 61, 3) := by decide +kernel
theorem dX7_image_8 : decode cX7_image 8 = .ok (.iconst 0, 1) := by decide +kernel
theorem dX7_image_9 : decode cX7_image 9 = .ok (.invokestatic 223, 3) := by decide +kernel
theorem dX7_image_12 : decode cX7_image 12 = .ok (.istore_n 1, 1) := by decide +kernel
theorem dX7_image_13 : decode cX7_image 13 = .ok (.aload_n 0, 1) := by decide +kernel
theorem dX7_image_14 : decode cX7_image 14 = .ok (.getfield 18, 3) := by decide +kernel
theorem dX7_image_17 : decode cX7_image 17 = .ok (.aload_n 0, 1) := by decide +kernel
theorem dX7_image_18 : decode cX7_image 18 = .ok (.getfield 61, 3) := by decide +kernel
theorem dX7_image_21 : decode cX7_image 21 = .ok (.iload_n 1, 1) := by decide +kernel
theorem dX7_image_22 : decode cX7_image 22 = .ok (.invokestatic 223, 3) := by decide +kernel
theorem dX7_image_25 : decode cX7_image 25 = .ok (.istore_n 1, 1) := by decide +kernel
theorem dX7_image_26 : decode cX7_image 26 = .ok (.aload_n 0, 1) := by decide +kernel
theorem dX7_image_27 : decode cX7_image 27 = .ok (.getfield 21, 3) := by decide +kernel
theorem dX7_image_30 : decode cX7_image 30 = .ok (.aload_n 0, 1) := by decide +kernel
theorem dX7_image_31 : decode cX7_image 31 = .ok (.getfield 61, 3) := by decide +kernel
theorem dX7_image_34 : decode cX7_image 34 = .ok (.iload_n 1, 1) := by decide +kernel
theorem dX7_image_35 : decode cX7_image 35 = .ok (.invokestatic 223, 3) := by decide +kernel
theorem dX7_image_38 : decode cX7_image 38 = .ok (.istore_n 1, 1) := by decide +kernel
theorem dX7_image_39 : decode cX7_image 39 = .ok (.aload_n 0, 1) := by decide +kernel
theorem dX7_image_40 : decode cX7_image 40 = .ok (.getfield 24, 3) := by decide +kernel
theorem dX7_image_43 : decode cX7_image 43 = .ok (.aload_n 0, 1) := by decide +kernel
theorem dX7_image_44 : decode cX7_image 44 = .ok (.getfield 61, 3) := by decide +kernel
theorem dX7_image_47 : decode cX7_image 47 = .ok (.iload_n 1, 1) := by decide +kernel
theorem dX7_image_48 : decode cX7_image 48 = .ok (.invokestatic 223, 3) := by decide +kernel
theorem dX7_image_51 : decode cX7_image 51 = .ok (.istore_n 1, 1) := by decide +kernel
theorem dX7_image_52 : decode cX7_image 52 = .ok (.aload_n 0, 1) := by decide +kernel
theorem dX7_image_53 : decode cX7_image 53 = .ok (.getfield 27, 3) := by decide +kernel
theorem dX7_image_56 : decode cX7_image 56 = .ok (.aload_n 0, 1) := by decide +kernel
theorem dX7_image_57 : decode cX7_image 57 = .ok (.getfield 61, 3) := by decide +kernel
theorem dX7_image_60 : decode cX7_image 60 = .ok (.iload_n 1, 1) := by decide +kernel
theorem dX7_image_61 : decode cX7_image 61 = .ok (.invokestatic 223, 3) := by decide +kernel
theorem dX7_image_64 : decode cX7_image 64 = .ok (.istore_n 1, 1) := by decide +kernel
theorem dX7_image_65 : decode cX7_image 65 = .ok (.aload_n 0, 1) := by decide +kernel
theorem dX7_image_66 : decode cX7_image 66 = .ok (.getfield 30, 3) := by decide +kernel
theorem dX7_image_69 : decode cX7_image 69 = .ok (.aload_n 0, 1) := by decide +kernel
theorem dX7_image_70 : decode cX7_image 70 = .ok (.getfield 61, 3) := by decide +kernel
theorem dX7_image_73 : decode cX7_image 73 = .ok (.iload_n 1, 1) := by decide +kernel
theorem dX7_image_74 : decode cX7_image 74 = .ok (.invokestatic 223, 3) := by decide +kernel
theorem dX7_image_77 : decode cX7_image 77 = .ok (.istore_n 1, 1) := by decide +kernel
theorem dX7_image_78 : decode cX7_image 78 = .ok (.aload_n 0, 1) := by decide +kernel
theorem dX7_image_79 : decode cX7_image 79 = .ok (.getfield 33, 3) := by decide +kernel
theorem dX7_image_82 : decode cX7_image 82 = .ok (.aload_n 0, 1) := by decide +kernel
theorem dX7_image_83 : decode cX7_image 83 = .ok (.getfield 61, 3) := by decide +kernel
theorem dX7_image_86 : decode cX7_image 86 = .ok (.iload_n 1, 1) := by decide +kernel
theorem dX7_image_87 : decode cX7_image 87 = .ok (.invokestatic 223, 3) := by decide +kernel
theorem dX7_image_90 : decode cX7_image 90 = .ok (.istore_n 1, 1) := by decide +kernel
theorem dX7_image_91 : decode cX7_image 91 = .ok (.aload_n 0, 1) := by decide +kernel
theorem dX7_image_92 : decode cX7_image 92 = .ok (.getfield 36, 3) := by decide +kernel
theorem dX7_image_95 : decode cX7_image 95 = .ok (.aload_n 0, 1) := by decide +kernel
theorem dX7_image_96 : decode cX7_image 96 = .ok (.getfield 61, 3) := by decide +kernel
theorem dX7_image_99 : decode cX7_image 99 = .ok (.iload_n 1, 1) := by decide +kernel
theorem dX7_image_100 : decode cX7_image 100 = .ok (.invokestatic 223, 3) := by decide +kernel
theorem dX7_image_103 : decode cX7_image 103 = .ok (.istore_n 1, 1) := by decide +kernel
theorem dX7_image_104 : decode cX7_image 104 = .ok (.aload_n 0, 1) := by decide +kernel
theorem dX7_image_105 : decode cX7_image 105 = .ok (.getfield 39, 3) := by decide +kernel
theorem dX7_image_108 : decode cX7_image 108 = .ok (.aload_n 0, 1) := by decide +kernel
theorem dX7_image_109 : decode cX7_image 109 = .ok (.getfield 61, 3) := by decide +kernel
theorem dX7_image_112 : decode cX7_image 112 = .ok (.iload_n 1, 1) := by decide +kernel
theorem dX7_image_113 : decode cX7_image 113 = .ok (.invokestatic 223, 3) := by decide +kernel
theorem dX7_image_116 : decode cX7_image 116 = .ok (.istore_n 1, 1) := by decide +kernel
theorem dX7_image_117 : decode cX7_image 117 = .ok (.aload_n 0, 1) := by decide +kernel
theorem dX7_image_118 : decode cX7_image 118 = .ok (.getfield 42, 3) := by decide +kernel
theorem dX7_image_121 : decode cX7_image 121 = .ok (.aload_n 0, 1) := by decide +kernel
theorem dX7_image_122 : decode cX7_image 122 = .ok (.getfield 61, 3) := by decide +kernel
theorem dX7_image_125 : decode cX7_image 125 = .ok (.iload_n 1, 1) := by decide +kernel
theorem dX7_image_126 : decode cX7_image 126 = .ok (.invokestatic 223, 3) := by decide +kernel
theorem dX7_image_129 : decode cX7_image 129 = .ok (.istore_n 1, 1) := by decide +kernel
theorem dX7_image_130 : decode cX7_image 130 = .ok (.aload_n 0, 1) := by decide +kernel
theorem dX7_image_131 : decode cX7_image 131 = .ok (.getfield 45, 3) := by decide +kernel
theorem dX7_image_134 : decode cX7_image 134 = .ok (.aload_n 0, 1) := by decide +kernel
theorem dX7_image_135 : decode cX7_image 135 = .ok (.getfield 61, 3) := by decide +kernel
theorem dX7_image_138 : decode cX7_image 138 = .ok (.iload_n 1, 1) := by decide +kernel
theorem dX7_image_139 : decode cX7_image 139 = .ok (.invokestatic 223, 3) := by decide +kernel
theorem dX7_image_142 : decode cX7_image 142 = .ok (.istore_n 1, 1) := by decide +kernel
theorem dX7_image_143 : decode cX7_image 143 = .ok (.aload_n 0, 1) := by decide +kernel
theorem dX7_image_144 : decode cX7_image 144 = .ok (.getfield 61, 3) := by decide +kernel
theorem dX7_image_147 : decode cX7_image 147 = .ok (.iload_n 1, 1) := by decide +kernel
theorem dX7_image_148 : decode cX7_image 148 = .ok (.aload_n 0, 1) := by decide +kernel
theorem dX7_image_149 : decode cX7_image 149 = .ok (.getfield 14, 3) := by decide +kernel
theorem dX7_image_152 : decode cX7_image 152 = .ok (.iastore, 1) := by decide +kernel
theorem dX7_image_153 : decode cX7_image 153 = .ok (.aload_n 0, 1) := by decide +kernel
theorem dX7_image_154 : decode cX7_image 154 = .ok (.getfield 61, 3) := by decide +kernel
theorem dX7_image_157 : decode cX7_image 157 = .ok (.iload_n 1, 1) := by decide +kernel
theorem dX7_image_158 : decode cX7_image 158 = .ok (.iconst 1, 1) := by decide +kernel
theorem dX7_image_159 : decode cX7_image 159 = .ok (.iadd, 1) := by decide +kernel
theorem dX7_image_160 : decode cX7_image 160 = .ok (.aload_n 0, 1) := by decide +kernel
theorem dX7_image_161 : decode cX7_image 161 = .ok (.getfield 98, 3) := by decide +kernel
theorem dX7_image_164 : decode cX7_image 164 = .ok (.iastore, 1) := by decide +kernel
theorem dX7_image_165 : decode cX7_image 165 = .ok (.aload_n 0, 1) := by decide +kernel
theorem dX7_image_166 : decode cX7_image 166 = .ok (.getfield 61, 3) := by decide +kernel
theorem dX7_image_169 : decode cX7_image 169 = .ok (.iload_n 1, 1) := by decide +kernel
theorem dX7_image_170 : decode cX7_image 170 = .ok (.iconst 2, 1) := by decide +kernel
theorem dX7_image_171 : decode cX7_image 171 = .ok (.iadd, 1) := by decide +kernel
theorem dX7_image_172 : decode cX7_image 172 = .ok (.aload_n 0, 1) := by decide +kernel
theorem dX7_image_173 : decode cX7_image 173 = .ok (.getfield 87, 3) := by decide +kernel
theorem dX7_image_176 : decode cX7_image 176 = .ok (.iastore, 1) := by decide +kernel
theorem dX7_image_177 : decode cX7_image 177 = .ok (.iconst 0, 1) := by decide +kernel
theorem dX7_image_178 : decode cX7_image 178 = .ok (.istore_n 2, 1) := by decide +kernel
theorem dX7_image_179 : decode cX7_image 179 = .ok (.iload_n 2, 1) := by decide +kernel
theorem dX7_image_180 : decode cX7_image 180 = .ok (.bipush 8, 2) := by decide +kernel
theorem dX7_image_182 : decode cX7_image 182 = .ok (.if_icmp .ge 36, 3) := by decide +kernel
theorem dX7_image_185 : decode cX7_image 185 = .ok (.aload_n 0, 1) := by decide +kernel
theorem dX7_image_186 : decode cX7_image 186 = .ok (.getfield 64, 3) := by decide +kernel
theorem dX7_image_189 : decode cX7_image 189 = .ok (.iload_n 2, 1) := by decide +kernel
theorem dX7_image_190 : decode cX7_image 190 = .ok (.aload_n 0, 1) := by decide +kernel
theorem dX7_image_191 : decode cX7_image 191 = .ok (.getfield 48, 3) := by decide +kernel
theorem dX7_image_194 : decode cX7_image 194 = .ok (.iload_n 2, 1) := by decide +kernel
theorem dX7_image_195 : decode cX7_image 195 = .ok (.laload, 1) := by decide +kernel
theorem dX7_image_196 : decode cX7_image 196 = .ok (.lastore, 1) := by decide +kernel
theorem dX7_image_197 : decode cX7_image 197 = .ok (.aload_n 0, 1) := by decide +kernel
theorem dX7_image_198 : decode cX7_image 198 = .ok (.getfield 64, 3) := by decide +kernel
theorem dX7_image_201 : decode cX7_image 201 = .ok (.bipush 8, 2) := by decide +kernel
theorem dX7_image_203 : decode cX7_image 203 = .ok (.iload_n 2, 1) := by decide +kernel
theorem dX7_image_204 : decode cX7_image 204 = .ok (.iadd, 1) := by decide +kernel
theorem dX7_image_205 : decode cX7_image 205 = .ok (.aload_n 0, 1) := by decide +kernel
theorem dX7_image_206 : decode cX7_image 206 = .ok (.getfield 52, 3) := by decide +kernel
theorem dX7_image_209 : decode cX7_image 209 = .ok (.iload_n 2, 1) := by decide +kernel
theorem dX7_image_210 : decode cX7_image 210 = .ok (.laload, 1) := by decide +kernel
theorem dX7_image_211 : decode cX7_image 211 = .ok (.lastore, 1) := by decide +kernel
theorem dX7_image_212 : decode cX7_image 212 = .ok (.iinc 2 1, 3) := by decide +kernel
theorem dX7_image_215 : decode cX7_image 215 = .ok (.goto (-36), 3) := by decide +kernel
theorem dX7_image_218 : decode cX7_image 218 = .ok (.aload_n 0, 1) := by decide +kernel
theorem dX7_image_219 : decode cX7_image 219 = .ok (.iconst 1, 1) := by decide +kernel
theorem dX7_image_220 : decode cX7_image 220 = .ok (.putfield 227, 3) := by decide +kernel
theorem dX7_image_223 : decode cX7_image 223 = .ok (.iconst 1, 1) := by decide +kernel
theorem dX7_image_224 : decode cX7_image 224 = .ok (.ireturn, 1) := by decide +kernel
set_option maxRecDepth 20000 in
theorem ggX7_restore_X7_gives : GoodIn wsX7_restore wsX7_gives := goodIn_r _ [23] (by decide +kernel) (by decide +kernel)
set_option maxRecDepth 20000 in
theorem gX7_restore_X7_gives : GoodIn wsX7_restore (va_wsS RX7 230 yX7_gives wsX7_gives) := goodIn_app (goodIn_of _ (by decide +kernel)) ggX7_restore_X7_gives
theorem dX7_restore_0 : decode cX7_restore 0 = .ok (.aload_n 0, 1) := by decide +kernel
theorem dX7_restore_1 : decode cX7_restore 1 = .ok (.getfield 227, 3) := by decide +kernel
theorem dX7_restore_4 : decode cX7_restore 4 = .ok (.ifCond .ne 6, 3) := by decide +kernel
theorem dX7_restore_7 : decode cX7_restore 7 = .ok (.bipush (-4), 2) := by decide +kernel
theorem dX7_restore_9 : decode cX7_restore 9 = .ok (.ireturn, 1) := by decide +kernel
theorem dX7_restore_10 : decode cX7_restore 10 = .ok (.aload_n 0, 1) := by decide +kernel
theorem dX7_restore_11 : decode cX7_restore 11 = .ok (.getfield 61, 3) := by decide +kernel
theorem dX7_restore_14 : decode cX7_restore 14 = .ok (.iconst 0, 1) := by decide +kernel
theorem dX7_restore_15 : decode cX7_restore 15 = .ok (.aload_n 0, 1) := by decide +kernel
theorem dX7_restore_16 : decode cX7_restore 16 = .ok (.getfield 7, 3) := by decide +kernel
theorem dX7_restore_19 : decode cX7_restore 19 = .ok (.invokestatic 230, 3) := by decide +kernel
theorem dX7_restore_22 : decode cX7_restore 22 = .ok (.istore_n 1, 1) := by decide +kernel
theorem dX7_restore_23 : decode cX7_restore 23 = .ok (.aload_n 0, 1) := by decide +kernel
theorem dX7_restore_24 : decode cX7_restore 24 = .ok (.getfield 61, 3) := by decide +kernel
theorem dX7_restore_27 : decode cX7_restore 27 = .ok (.iload_n 1, 1) := by decide +kernel
theorem dX7_restore_28 : decode cX7_restore 28 = .ok (.aload_n 0, 1) := by decide +kernel
theorem dX7_restore_29 : decode cX7_restore 29 = .ok (.getfield 18, 3) := by decide +kernel
theorem dX7_restore_32 : decode cX7_restore 32 = .ok (.invokestatic 230, 3) := by decide +kernel
theorem dX7_restore_35 : decode cX7_restore 35 = .ok (.istore_n 1, 1) := by decide +kernel
theorem dX7_restore_36 : decode cX7_restore 36 = .ok (.aload_n 0, 1) := by decide +kernel
theorem dX7_restore_37 : decode cX7_restore 37 = .ok (.getfield 61, 3) := by decide +kernel
theorem dX7_restore_40 : decode cX7_restore 40 = .ok (.iload_n 1, 1) := by decide +kernel
theorem dX7_restore_41 : decode cX7_restore 41 = .ok (.aload_n 0, 1) := by decide +kernel
theorem dX7_restore_42 : decode cX7_restore 42 = .ok (.getfield 21, 3) := by decide +kernel
theorem dX7_restore_45 : decode cX7_restore 45 = .ok (.invokestatic 230, 3) := by decide +kernel
theorem dX7_restore_48 : decode cX7_restore 48 = .ok (.istore_n 1, 1) := by decide +kernel
theorem dX7_restore_49 : decode cX7_restore 49 = .ok (.aload_n 0, 1) := by decide +kernel
theorem dX7_restore_50 : decode cX7_restore 50 = .ok (.getfield 61, 3) := by decide +kernel
theorem dX7_restore_53 : decode cX7_restore 53 = .ok (.iload_n 1, 1) := by decide +kernel
theorem dX7_restore_54 : decode cX7_restore 54 = .ok (.aload_n 0, 1) := by decide +kernel
theorem dX7_restore_55 : decode cX7_restore 55 = .ok (.getfield 24, 3) := by decide +kernel
theorem dX7_restore_58 : decode cX7_restore 58 = .ok (.invokestatic 230, 3) := by decide +kernel
theorem dX7_restore_61 : decode cX7_restore 61 = .ok (.istore_n 1, 1) := by decide +kernel
theorem dX7_restore_62 : decode cX7_restore 62 = .ok (.aload_n 0, 1) := by decide +kernel
theorem dX7_restore_63 : decode cX7_restore 63 = .ok (.getfield 61, 3) := by decide +kernel
theorem dX7_restore_66 : decode cX7_restore 66 = .ok (.iload_n 1, 1) := by decide +kernel
theorem dX7_restore_67 : decode cX7_restore 67 = .ok (.aload_n 0, 1) := by decide +kernel
theorem dX7_restore_68 : decode cX7_restore 68 = .ok (.getfield 27, 3) := by decide +kernel
theorem dX7_restore_71 : decode cX7_restore 71 = .ok (.invokestatic 230, 3) := by decide +kernel
theorem dX7_restore_74 : decode cX7_restore 74 = .ok (.istore_n 1, 1) := by decide +kernel
theorem dX7_restore_75 : decode cX7_restore 75 = .ok (.aload_n 0, 1) := by decide +kernel
theorem dX7_restore_76 : decode cX7_restore 76 = .ok (.getfield 61, 3) := by decide +kernel
theorem dX7_restore_79 : decode cX7_restore 79 = .ok (.iload_n 1, 1) := by decide +kernel
theorem dX7_restore_80 : decode cX7_restore 80 = .ok (.aload_n 0, 1) := by decide +kernel
theorem dX7_restore_81 : decode cX7_restore 81 = .ok (.getfield 30, 3) := by decide +kernel
theorem dX7_restore_84 : decode cX7_restore 84 = .ok (.invokestatic 230, 3) := by decide +kernel
theorem dX7_restore_87 : decode cX7_restore 87 = .ok (.istore_n 1, 1) := by decide +kernel
theorem dX7_restore_88 : decode cX7_restore 88 = .ok (.aload_n 0, 1) := by decide +kernel
theorem dX7_restore_89 : decode cX7_restore 89 = .ok (.getfield 61, 3) := by decide +kernel
theorem dX7_restore_92 : decode cX7_restore 92 = .ok (.iload_n 1, 1) := by decide +kernel
theorem dX7_restore_93 : decode cX7_restore 93 = .ok (.aload_n 0, 1) := by decide +kernel
theorem dX7_restore_94 : decode cX7_restore 94 = .ok (.getfield 33, 3) := by decide +kernel
theorem dX7_restore_97 : decode cX7_restore 97 = .ok (.invokestatic 230, 3) := by decide +kernel
theorem dX7_restore_100 : decode cX7_restore 100 = .ok (.istore_n 1, 1) := by decide +kernel
theorem dX7_restore_101 : decode cX7_restore 101 = .ok (.aload_n 0, 1) := by decide +kernel
theorem dX7_restore_102 : decode cX7_restore 102 = .ok (.getfield 61, 3) := by decide +kernel
theorem dX7_restore_105 : decode cX7_restore 105 = .ok (.iload_n 1, 1) := by decide +kernel
theorem dX7_restore_106 : decode cX7_restore 106 = .ok (.aload_n 0, 1) := by decide +kernel
theorem dX7_restore_107 : decode cX7_restore 107 = .ok (.getfield 36, 3) := by decide +kernel
theorem dX7_restore_110 : decode cX7_restore 110 = .ok (.invokestatic 230, 3) := by decide +kernel
theorem dX7_restore_113 : decode cX7_restore 113 = .ok (.istore_n 1, 1) := by decide +kernel
theorem dX7_restore_114 : decode cX7_restore 114 = .ok (.aload_n 0, 1) := by decide +kernel
theorem dX7_restore_115 : decode cX7_restore 115 = .ok (.getfield 61, 3) := by decide +kernel
theorem dX7_restore_118 : decode cX7_restore 118 = .ok (.iload_n 1, 1) := by decide +kernel
theorem dX7_restore_119 : decode cX7_restore 119 = .ok (.aload_n 0, 1) := by decide +kernel
theorem dX7_restore_120 : decode cX7_restore 120 = .ok (.getfield 39, 3) := by decide +kernel
theorem dX7_restore_123 : decode cX7_restore 123 = .ok (.invokestatic 230, 3) := by decide +kernel
theorem dX7_restore_126 : decode cX7_restore 126 = .ok (.istore_n 1, 1) := by decide +kernel
theorem dX7_restore_127 : decode cX7_restore 127 = .ok (.aload_n 0, 1) := by decide +kernel
theorem dX7_restore_128 : decode cX7_restore 128 = .ok (.getfield 61, 3) := by decide +kernel
theorem dX7_restore_131 : decode cX7_restore 131 = .ok (.iload_n 1, 1) := by decide +kernel
theorem dX7_restore_132 : decode cX7_restore 132 = .ok (.aload_n 0, 1) := by decide +kernel
theorem dX7_restore_133 : decode cX7_restore 133 = .ok (.getfield 42, 3) := by decide +kernel
theorem dX7_restore_136 : decode cX7_restore 136 = .ok (.invokestatic 230, 3) := by decide +kernel
theorem dX7_restore_139 : decode cX7_restore 139 = .ok (.istore_n 1, 1) := by decide +kernel
theorem dX7_restore_140 : decode cX7_restore 140 = .ok (.aload_n 0, 1) := by decide +kernel
theorem dX7_restore_141 : decode cX7_restore 141 = .ok (.getfield 61, 3) := by decide +kernel
theorem dX7_restore_144 : decode cX7_restore 144 = .ok (.iload_n 1, 1) := by decide +kernel
theorem dX7_restore_145 : decode cX7_restore 145 = .ok (.aload_n 0, 1) := by decide +kernel
theorem dX7_restore_146 : decode cX7_restore 146 = .ok (.getfield 45, 3) := by decide +kernel
theorem dX7_restore_149 : decode cX7_restore 149 = .ok (.invokestatic 230, 3) := by decide +kernel
theorem dX7_restore_152 : decode cX7_restore 152 = .ok (.istore_n 1, 1) := by decide +kernel
theorem dX7_restore_153 : decode cX7_restore 153 = .ok (.aload_n 0, 1) := by decide +kernel
theorem dX7_restore_154 : decode cX7_restore 154 = .ok (.aload_n 0, 1) := by decide +kernel
theorem dX7_restore_155 : decode cX7_restore 155 = .ok (.getfield 61, 3) := by decide +kernel
theorem dX7_restore_158 : decode cX7_restore 158 = .ok (.iload_n 1, 1) := by decide +kernel
theorem dX7_restore_159 : decode cX7_restore 159 = .ok (.iaload, 1) := by decide +kernel
theorem dX7_restore_160 : decode cX7_restore 160 = .ok (.putfield 14, 3) := by decide +kernel
theorem dX7_restore_163 : decode cX7_restore 163 = .ok (.aload_n 0, 1) := by decide +kernel
theorem dX7_restore_164 : decode cX7_restore 164 = .ok (.aload_n 0, 1) := by decide +kernel
theorem dX7_restore_165 : decode cX7_restore 165 = .ok (.getfield 61, 3) := by decide +kernel
theorem dX7_restore_168 : decode cX7_restore 168 = .ok (.iload_n 1, 1) := by decide +kernel
theorem dX7_restore_169 : decode cX7_restore 169 = .ok (.iconst 1, 1) := by decide +kernel
theorem dX7_restore_170 : decode cX7_restore 170 = .ok (.iadd, 1) := by decide +kernel
theorem dX7_restore_171 : decode cX7_restore 171 = .ok (.iaload, 1) := by decide +kernel
theorem dX7_restore_172 : decode cX7_restore 172 = .ok (.putfield 98, 3) := by decide +kernel
theorem dX7_restore_175 : decode cX7_restore 175 = .ok (.aload_n 0, 1) := by decide +kernel
theorem dX7_restore_176 : decode cX7_restore 176 = .ok (.aload_n 0, 1) := by decide +kernel
theorem dX7_restore_177 : decode cX7_restore 177 = .ok (.getfield 61, 3) := by decide +kernel
theorem dX7_restore_180 : decode cX7_restore 180 = .ok (.iload_n 1, 1) := by decide +kernel
theorem dX7_restore_181 : decode cX7_restore 181 = .ok (.iconst 2, 1) := by decide +kernel
theorem dX7_restore_182 : decode cX7_restore 182 = .ok (.iadd, 1) := by decide +kernel
theorem dX7_restore_183 : decode cX7_restore 183 = .ok (.iaload, 1) := by decide +kernel
theorem dX7_restore_184 : decode cX7_restore 184 = .ok (.putfield 87, 3) := by decide +kernel
theorem dX7_restore_187 : decode cX7_restore 187 = .ok (.iconst 0, 1) := by decide +kernel
theorem dX7_restore_188 : decode cX7_restore 188 = .ok (.istore_n 2, 1) := by decide +kernel
theorem dX7_restore_189 : decode cX7_restore 189 = .ok (.iload_n 2, 1) := by decide +kernel
theorem dX7_restore_190 : decode cX7_restore 190 = .ok (.bipush 8, 2) := by decide +kernel
theorem dX7_restore_192 : decode cX7_restore 192 = .ok (.if_icmp .ge 36, 3) := by decide +kernel
theorem dX7_restore_195 : decode cX7_restore 195 = .ok (.aload_n 0, 1) := by decide +kernel
theorem dX7_restore_196 : decode cX7_restore 196 = .ok (.getfield 48, 3) := by decide +kernel
theorem dX7_restore_199 : decode cX7_restore 199 = .ok (.iload_n 2, 1) := by decide +kernel
theorem dX7_restore_200 : decode cX7_restore 200 = .ok (.aload_n 0, 1) := by decide +kernel
theorem dX7_restore_201 : decode cX7_restore 201 = .ok (.getfield 64, 3) := by decide +kernel
theorem dX7_restore_204 : decode cX7_restore 204 = .ok (.iload_n 2, 1) := by decide +kernel
theorem dX7_restore_205 : decode cX7_restore 205 = .ok (.laload, 1) := by decide +kernel
theorem dX7_restore_206 : decode cX7_restore 206 = .ok (.lastore, 1) := by decide +kernel
theorem dX7_restore_207 : decode cX7_restore 207 = .ok (.aload_n 0, 1) := by decide +kernel
theorem dX7_restore_208 : decode cX7_restore 208 = .ok (.getfield 52, 3) := by decide +kernel
theorem dX7_restore_211 : decode cX7_restore 211 = .ok (.iload_n 2, 1) := by decide +kernel
theorem dX7_restore_212 : decode cX7_restore 212 = .ok (.aload_n 0, 1) := by decide +kernel
theorem dX7_restore_213 : decode cX7_restore 213 = .ok (.getfield 64, 3) := by decide +kernel
theorem dX7_restore_216 : decode cX7_restore 216 = .ok (.bipush 8, 2) := by decide +kernel
theorem dX7_restore_218 : decode cX7_restore 218 = .ok (.iload_n 2, 1) := by decide +kernel
theorem dX7_restore_219 : decode cX7_restore 219 = .ok (.iadd, 1) := by decide +kernel
theorem dX7_restore_220 : decode cX7_restore 220 = .ok (.laload, 1) := by decide +kernel
theorem dX7_restore_221 : decode cX7_restore 221 = .ok (.lastore, 1) := by decide +kernel
theorem dX7_restore_222 : decode cX7_restore 222 = .ok (.iinc 2 1, 3) := by decide +kernel
theorem dX7_restore_225 : decode cX7_restore 225 = .ok (.goto (-36), 3) := by decide +kernel
theorem dX7_restore_228 : decode cX7_restore 228 = .ok (.iconst 1, 1) := by decide +kernel
theorem dX7_restore_229 : decode cX7_restore 229 = .ok (.ireturn, 1) := by decide +kernel
set_option maxRecDepth 20000 in
theorem ggX7_isSheet_X7_in : GoodIn wsX7_isSheet wsX7_in := goodIn_r _ [5] (by decide +kernel) (by decide +kernel)
set_option maxRecDepth 20000 in
theorem gX7_isSheet_X7_in : GoodIn wsX7_isSheet (va_wsS RX7 83 yX7_in wsX7_in) := goodIn_app (goodIn_of _ (by decide +kernel)) ggX7_isSheet_X7_in
theorem dX7_isSheet_0 : decode cX7_isSheet 0 = .ok (.iload_n 0, 1) := by decide +kernel
theorem dX7_isSheet_1 : decode cX7_isSheet 1 = .ok (.i2l, 1) := by decide +kernel
theorem dX7_isSheet_2 : decode cX7_isSheet 2 = .ok (.lconst 0, 1) := by decide +kernel
theorem dX7_isSheet_3 : decode cX7_isSheet 3 = .ok (.ldc2_w 114, 3) := by decide +kernel
theorem dX7_isSheet_6 : decode cX7_isSheet 6 = .ok (.invokestatic 83, 3) := by decide +kernel
theorem dX7_isSheet_9 : decode cX7_isSheet 9 = .ok (.ireturn, 1) := by decide +kernel
set_option maxRecDepth 20000 in
theorem ggX7_isLane_X7_in : GoodIn wsX7_isLane wsX7_in := goodIn_r _ [5] (by decide +kernel) (by decide +kernel)
set_option maxRecDepth 20000 in
theorem gX7_isLane_X7_in : GoodIn wsX7_isLane (va_wsS RX7 83 yX7_in wsX7_in) := goodIn_app (goodIn_of _ (by decide +kernel)) ggX7_isLane_X7_in
theorem dX7_isLane_0 : decode cX7_isLane 0 = .ok (.iload_n 0, 1) := by decide +kernel
theorem dX7_isLane_1 : decode cX7_isLane 1 = .ok (.i2l, 1) := by decide +kernel
theorem dX7_isLane_2 : decode cX7_isLane 2 = .ok (.lconst 0, 1) := by decide +kernel
theorem dX7_isLane_3 : decode cX7_isLane 3 = .ok (.ldc2_w 211, 3) := by decide +kernel
theorem dX7_isLane_6 : decode cX7_isLane 6 = .ok (.invokestatic 83, 3) := by decide +kernel
theorem dX7_isLane_9 : decode cX7_isLane 9 = .ok (.ireturn, 1) := by decide +kernel
theorem dX7_finds_0 : decode cX7_finds 0 = .ok (.aload_n 0, 1) := by decide +kernel
theorem dX7_finds_1 : decode cX7_finds 1 = .ok (.getfield 67, 3) := by decide +kernel
theorem dX7_finds_4 : decode cX7_finds 4 = .ok (.iload_n 1, 1) := by decide +kernel
theorem dX7_finds_5 : decode cX7_finds 5 = .ok (.iaload, 1) := by decide +kernel
theorem dX7_finds_6 : decode cX7_finds 6 = .ok (.ifCond .ge 6, 3) := by decide +kernel
theorem dX7_finds_9 : decode cX7_finds 9 = .ok (.bipush (-11), 2) := by decide +kernel
theorem dX7_finds_11 : decode cX7_finds 11 = .ok (.ireturn, 1) := by decide +kernel
theorem dX7_finds_12 : decode cX7_finds 12 = .ok (.aload_n 0, 1) := by decide +kernel
theorem dX7_finds_13 : decode cX7_finds 13 = .ok (.getfield 67, 3) := by decide +kernel
theorem dX7_finds_16 : decode cX7_finds 16 = .ok (.iload_n 1, 1) := by decide +kernel
theorem dX7_finds_17 : decode cX7_finds 17 = .ok (.iaload, 1) := by decide +kernel
theorem dX7_finds_18 : decode cX7_finds 18 = .ok (.iload_n 2, 1) := by decide +kernel
theorem dX7_finds_19 : decode cX7_finds 19 = .ok (.if_icmp .eq 6, 3) := by decide +kernel
theorem dX7_finds_22 : decode cX7_finds 22 = .ok (.bipush (-12), 2) := by decide +kernel
theorem dX7_finds_24 : decode cX7_finds 24 = .ok (.ireturn, 1) := by decide +kernel
theorem dX7_finds_25 : decode cX7_finds 25 = .ok (.iload_n 3, 1) := by decide +kernel
theorem dX7_finds_26 : decode cX7_finds 26 = .ok (.ifCond .lt 20, 3) := by decide +kernel
theorem dX7_finds_29 : decode cX7_finds 29 = .ok (.iload_n 3, 1) := by decide +kernel
theorem dX7_finds_30 : decode cX7_finds 30 = .ok (.i2l, 1) := by decide +kernel
theorem dX7_finds_31 : decode cX7_finds 31 = .ok (.iload 4, 2) := by decide +kernel
theorem dX7_finds_33 : decode cX7_finds 33 = .ok (.i2l, 1) := by decide +kernel
theorem dX7_finds_34 : decode cX7_finds 34 = .ok (.ladd, 1) := by decide +kernel
theorem dX7_finds_35 : decode cX7_finds 35 = .ok (.aload_n 0, 1) := by decide +kernel
theorem dX7_finds_36 : decode cX7_finds 36 = .ok (.getfield 70, 3) := by decide +kernel
theorem dX7_finds_39 : decode cX7_finds 39 = .ok (.iload_n 1, 1) := by decide +kernel
theorem dX7_finds_40 : decode cX7_finds 40 = .ok (.iaload, 1) := by decide +kernel
theorem dX7_finds_41 : decode cX7_finds 41 = .ok (.i2l, 1) := by decide +kernel
theorem dX7_finds_42 : decode cX7_finds 42 = .ok (.lcmp, 1) := by decide +kernel
theorem dX7_finds_43 : decode cX7_finds 43 = .ok (.ifCond .le 8, 3) := by decide +kernel
theorem dX7_finds_46 : decode cX7_finds 46 = .ok (.bipush (-13), 2) := by decide +kernel
theorem dX7_finds_48 : decode cX7_finds 48 = .ok (.goto 4, 3) := by decide +kernel
theorem dX7_finds_51 : decode cX7_finds 51 = .ok (.iconst 0, 1) := by decide +kernel
theorem dX7_finds_52 : decode cX7_finds 52 = .ok (.ireturn, 1) := by decide +kernel
theorem dX7_cast_0 : decode cX7_cast 0 = .ok (.iload_n 0, 1) := by decide +kernel
theorem dX7_cast_1 : decode cX7_cast 1 = .ok (.ifCond .ne 8, 3) := by decide +kernel
theorem dX7_cast_4 : decode cX7_cast 4 = .ok (.iload_n 1, 1) := by decide +kernel
theorem dX7_cast_5 : decode cX7_cast 5 = .ok (.i2b, 1) := by decide +kernel
theorem dX7_cast_6 : decode cX7_cast 6 = .ok (.goto 14, 3) := by decide +kernel
theorem dX7_cast_9 : decode cX7_cast 9 = .ok (.iload_n 0, 1) := by decide +kernel
theorem dX7_cast_10 : decode cX7_cast 10 = .ok (.iconst 1, 1) := by decide +kernel
theorem dX7_cast_11 : decode cX7_cast 11 = .ok (.if_icmp .ne 8, 3) := by decide +kernel
theorem dX7_cast_14 : decode cX7_cast 14 = .ok (.iload_n 1, 1) := by decide +kernel
theorem dX7_cast_15 : decode cX7_cast 15 = .ok (.i2s, 1) := by decide +kernel
theorem dX7_cast_16 : decode cX7_cast 16 = .ok (.goto 4, 3) := by decide +kernel
theorem dX7_cast_19 : decode cX7_cast 19 = .ok (.iload_n 1, 1) := by decide +kernel
theorem dX7_cast_20 : decode cX7_cast 20 = .ok (.ireturn, 1) := by decide +kernel
set_option maxRecDepth 20000 in
theorem ggX7_book_X7_isYear : GoodIn wsX7_book wsX7_isYear := goodIn_r _ [7, 8, 9, 10, 6, 11] (by decide +kernel) (by decide +kernel)
set_option maxRecDepth 20000 in
theorem gX7_book_X7_isYear : GoodIn wsX7_book (va_wsS RX7 101 yX7_isYear wsX7_isYear) := goodIn_app (goodIn_of _ (by decide +kernel)) ggX7_book_X7_isYear
set_option maxRecDepth 20000 in
theorem ggX7_book_X7_isSheet : GoodIn wsX7_book wsX7_isSheet := goodIn_r _ [14, 15, 9, 10, 6, 11] (by decide +kernel) (by decide +kernel)
set_option maxRecDepth 20000 in
theorem gX7_book_X7_isSheet : GoodIn wsX7_book (va_wsS RX7 234 yX7_isSheet wsX7_isSheet) := goodIn_app (goodIn_of _ (by decide +kernel)) ggX7_book_X7_isSheet
set_option maxRecDepth 20000 in
theorem ggX7_book_X7_isLane : GoodIn wsX7_book wsX7_isLane := goodIn_r _ [18, 19, 9, 10, 6, 11] (by decide +kernel) (by decide +kernel)
set_option maxRecDepth 20000 in
theorem gX7_book_X7_isLane : GoodIn wsX7_book (va_wsS RX7 237 yX7_isLane wsX7_isLane) := goodIn_app (goodIn_of _ (by decide +kernel)) ggX7_book_X7_isLane
set_option maxRecDepth 20000 in
theorem ggX7_book_X7_isBooked : GoodIn wsX7_book wsX7_isBooked := goodIn_r _ [23, 24, 25, 26, 27, 6, 28, 29, 30, 31, 32, 33, 34, 35, 36, 37, 47, 48, 49, 50, 51, 52, 53, 54, 55, 56, 57, 58, 59, 60, 61, 62, 63, 64, 65, 66, 67, 68, 69, 70, 71, 72, 73, 74] (by decide +kernel) (by decide +kernel)
set_option maxRecDepth 20000 in
theorem gX7_book_X7_isBooked : GoodIn wsX7_book (wsV RX7 123 RX7 yX7_isBooked wsX7_isBooked) := goodIn_app (goodIn_of _ (by decide +kernel)) ggX7_book_X7_isBooked
set_option maxRecDepth 20000 in
theorem ggX7_book_X7_finds : GoodIn wsX7_book wsX7_finds := goodIn_r _ [41, 42, 43, 47, 48, 49, 50, 51, 52, 53, 54, 55, 56, 57, 58, 59, 60, 61, 62, 63, 64, 65, 66, 67, 68, 69, 70, 71, 72, 73, 74] (by decide +kernel) (by decide +kernel)
set_option maxRecDepth 20000 in
theorem gX7_book_X7_finds : GoodIn wsX7_book (wsV RX7 240 RX7 yX7_finds wsX7_finds) := goodIn_app (goodIn_of _ (by decide +kernel)) ggX7_book_X7_finds
set_option maxRecDepth 20000 in
theorem ggX7_book_X7_sworn : GoodIn wsX7_book wsX7_sworn := goodIn_r _ [28, 29, 30, 31, 32, 33, 6, 34, 35, 36, 37, 47, 48, 49, 50, 51, 52, 53, 54, 55, 56, 57, 58, 59, 60, 61, 62, 63, 64, 65, 66, 67, 68, 69, 70, 71, 72, 73, 74] (by decide +kernel) (by decide +kernel)
set_option maxRecDepth 20000 in
theorem gX7_book_X7_sworn : GoodIn wsX7_book (wsV RX7 120 RX7 yX7_sworn wsX7_sworn) := goodIn_app (goodIn_of _ (by decide +kernel)) ggX7_book_X7_sworn
set_option maxRecDepth 20000 in
theorem ggX7_book_X7_cast : GoodIn wsX7_book wsX7_cast := goodIn_r _ [46] (by decide +kernel) (by decide +kernel)
set_option maxRecDepth 20000 in
theorem gX7_book_X7_cast : GoodIn wsX7_book (va_wsS RX7 243 yX7_cast wsX7_cast) := goodIn_app (goodIn_of _ (by decide +kernel)) ggX7_book_X7_cast
theorem dX7_book_0 : decode cX7_book 0 = .ok (.iload_n 1, 1) := by decide +kernel
theorem dX7_book_1 : decode cX7_book 1 = .ok (.invokestatic 101, 3) := by decide +kernel
theorem dX7_book_4 : decode cX7_book 4 = .ok (.ifCond .eq 17, 3) := by decide +kernel
theorem dX7_book_7 : decode cX7_book 7 = .ok (.iload_n 2, 1) := by decide +kernel
theorem dX7_book_8 : decode cX7_book 8 = .ok (.invokestatic 234, 3) := by decide +kernel
theorem dX7_book_11 : decode cX7_book 11 = .ok (.ifCond .eq 10, 3) := by decide +kernel
theorem dX7_book_14 : decode cX7_book 14 = .ok (.iload_n 3, 1) := by decide +kernel
theorem dX7_book_15 : decode cX7_book 15 = .ok (.invokestatic 237, 3) := by decide +kernel
theorem dX7_book_18 : decode cX7_book 18 = .ok (.ifCond .ne 5, 3) := by decide +kernel
theorem dX7_book_21 : decode cX7_book 21 = .ok (.iconst (-1), 1) := by decide +kernel
theorem dX7_book_22 : decode cX7_book 22 = .ok (.ireturn, 1) := by decide +kernel
theorem dX7_book_23 : decode cX7_book 23 = .ok (.iconst 0, 1) := by decide +kernel
theorem dX7_book_24 : decode cX7_book 24 = .ok (.istore 5, 2) := by decide +kernel
theorem dX7_book_26 : decode cX7_book 26 = .ok (.iconst 0, 1) := by decide +kernel
theorem dX7_book_27 : decode cX7_book 27 = .ok (.istore 6, 2) := by decide +kernel
theorem dX7_book_29 : decode cX7_book 29 = .ok (.iload 6, 2) := by decide +kernel
theorem dX7_book_31 : decode cX7_book 31 = .ok (.aload_n 0, 1) := by decide +kernel
theorem dX7_book_32 : decode cX7_book 32 = .ok (.getfield 87, 3) := by decide +kernel
theorem dX7_book_35 : decode cX7_book 35 = .ok (.if_icmp .ge 40, 3) := by decide +kernel
theorem dX7_book_38 : decode cX7_book 38 = .ok (.iload 5, 2) := by decide +kernel
theorem dX7_book_40 : decode cX7_book 40 = .ok (.aload_n 0, 1) := by decide +kernel
theorem dX7_book_41 : decode cX7_book 41 = .ok (.getfield 18, 3) := by decide +kernel
theorem dX7_book_44 : decode cX7_book 44 = .ok (.iload 6, 2) := by decide +kernel
theorem dX7_book_46 : decode cX7_book 46 = .ok (.iaload, 1) := by decide +kernel
theorem dX7_book_47 : decode cX7_book 47 = .ok (.iload_n 1, 1) := by decide +kernel
theorem dX7_book_48 : decode cX7_book 48 = .ok (.if_icmp .ne 17, 3) := by decide +kernel
theorem dX7_book_51 : decode cX7_book 51 = .ok (.aload_n 0, 1) := by decide +kernel
theorem dX7_book_52 : decode cX7_book 52 = .ok (.iload 6, 2) := by decide +kernel
theorem dX7_book_54 : decode cX7_book 54 = .ok (.iload_n 1, 1) := by decide +kernel
theorem dX7_book_55 : decode cX7_book 55 = .ok (.invokevirtual 123, 3) := by decide +kernel
theorem dX7_book_58 : decode cX7_book 58 = .ok (.ifCond .eq 7, 3) := by decide +kernel
theorem dX7_book_61 : decode cX7_book 61 = .ok (.iconst 1, 1) := by decide +kernel
theorem dX7_book_62 : decode cX7_book 62 = .ok (.goto 4, 3) := by decide +kernel
theorem dX7_book_65 : decode cX7_book 65 = .ok (.iconst 0, 1) := by decide +kernel
theorem dX7_book_66 : decode cX7_book 66 = .ok (.iadd, 1) := by decide +kernel
theorem dX7_book_67 : decode cX7_book 67 = .ok (.istore 5, 2) := by decide +kernel
theorem dX7_book_69 : decode cX7_book 69 = .ok (.iinc 6 1, 3) := by decide +kernel
theorem dX7_book_72 : decode cX7_book 72 = .ok (.goto (-43), 3) := by decide +kernel
theorem dX7_book_75 : decode cX7_book 75 = .ok (.aload_n 0, 1) := by decide +kernel
theorem dX7_book_76 : decode cX7_book 76 = .ok (.iload_n 2, 1) := by decide +kernel
theorem dX7_book_77 : decode cX7_book 77 = .ok (.iload_n 3, 1) := by decide +kernel
theorem dX7_book_78 : decode cX7_book 78 = .ok (.iload 4, 2) := by decide +kernel
theorem dX7_book_80 : decode cX7_book 80 = .ok (.iload 5, 2) := by decide +kernel
theorem dX7_book_82 : decode cX7_book 82 = .ok (.invokevirtual 240, 3) := by decide +kernel
theorem dX7_book_85 : decode cX7_book 85 = .ok (.istore 6, 2) := by decide +kernel
theorem dX7_book_87 : decode cX7_book 87 = .ok (.iload 6, 2) := by decide +kernel
theorem dX7_book_89 : decode cX7_book 89 = .ok (.ifCond .ge 6, 3) := by decide +kernel
theorem dX7_book_92 : decode cX7_book 92 = .ok (.iload 6, 2) := by decide +kernel
theorem dX7_book_94 : decode cX7_book 94 = .ok (.ireturn, 1) := by decide +kernel
theorem dX7_book_95 : decode cX7_book 95 = .ok (.bipush 24, 2) := by decide +kernel
theorem dX7_book_97 : decode cX7_book 97 = .ok (.iload_n 2, 1) := by decide +kernel
theorem dX7_book_98 : decode cX7_book 98 = .ok (.imul, 1) := by decide +kernel
theorem dX7_book_99 : decode cX7_book 99 = .ok (.iload 4, 2) := by decide +kernel
theorem dX7_book_101 : decode cX7_book 101 = .ok (.iadd, 1) := by decide +kernel
theorem dX7_book_102 : decode cX7_book 102 = .ok (.istore 7, 2) := by decide +kernel
theorem dX7_book_104 : decode cX7_book 104 = .ok (.iconst 0, 1) := by decide +kernel
theorem dX7_book_105 : decode cX7_book 105 = .ok (.istore 8, 2) := by decide +kernel
theorem dX7_book_107 : decode cX7_book 107 = .ok (.iload 8, 2) := by decide +kernel
theorem dX7_book_109 : decode cX7_book 109 = .ok (.aload_n 0, 1) := by decide +kernel
theorem dX7_book_110 : decode cX7_book 110 = .ok (.getfield 87, 3) := by decide +kernel
theorem dX7_book_113 : decode cX7_book 113 = .ok (.if_icmp .ge 51, 3) := by decide +kernel
theorem dX7_book_116 : decode cX7_book 116 = .ok (.aload_n 0, 1) := by decide +kernel
theorem dX7_book_117 : decode cX7_book 117 = .ok (.getfield 18, 3) := by decide +kernel
theorem dX7_book_120 : decode cX7_book 120 = .ok (.iload 8, 2) := by decide +kernel
theorem dX7_book_122 : decode cX7_book 122 = .ok (.iaload, 1) := by decide +kernel
theorem dX7_book_123 : decode cX7_book 123 = .ok (.iload_n 1, 1) := by decide +kernel
theorem dX7_book_124 : decode cX7_book 124 = .ok (.if_icmp .ne 34, 3) := by decide +kernel
theorem dX7_book_127 : decode cX7_book 127 = .ok (.aload_n 0, 1) := by decide +kernel
theorem dX7_book_128 : decode cX7_book 128 = .ok (.iload 8, 2) := by decide +kernel
theorem dX7_book_130 : decode cX7_book 130 = .ok (.iload_n 1, 1) := by decide +kernel
theorem dX7_book_131 : decode cX7_book 131 = .ok (.invokevirtual 123, 3) := by decide +kernel
theorem dX7_book_134 : decode cX7_book 134 = .ok (.ifCond .eq 24, 3) := by decide +kernel
theorem dX7_book_137 : decode cX7_book 137 = .ok (.aload_n 0, 1) := by decide +kernel
theorem dX7_book_138 : decode cX7_book 138 = .ok (.getfield 73, 3) := by decide +kernel
theorem dX7_book_141 : decode cX7_book 141 = .ok (.iload 7, 2) := by decide +kernel
theorem dX7_book_143 : decode cX7_book 143 = .ok (.iload_n 3, 1) := by decide +kernel
theorem dX7_book_144 : decode cX7_book 144 = .ok (.aload_n 0, 1) := by decide +kernel
theorem dX7_book_145 : decode cX7_book 145 = .ok (.iload 8, 2) := by decide +kernel
theorem dX7_book_147 : decode cX7_book 147 = .ok (.iload_n 1, 1) := by decide +kernel
theorem dX7_book_148 : decode cX7_book 148 = .ok (.invokevirtual 120, 3) := by decide +kernel
theorem dX7_book_151 : decode cX7_book 151 = .ok (.invokestatic 243, 3) := by decide +kernel
theorem dX7_book_154 : decode cX7_book 154 = .ok (.iastore, 1) := by decide +kernel
theorem dX7_book_155 : decode cX7_book 155 = .ok (.iinc 7 1, 3) := by decide +kernel
theorem dX7_book_158 : decode cX7_book 158 = .ok (.iinc 8 1, 3) := by decide +kernel
theorem dX7_book_161 : decode cX7_book 161 = .ok (.goto (-54), 3) := by decide +kernel
theorem dX7_book_164 : decode cX7_book 164 = .ok (.iload 5, 2) := by decide +kernel
theorem dX7_book_166 : decode cX7_book 166 = .ok (.ireturn, 1) := by decide +kernel
set_option maxRecDepth 20000 in
theorem ggX7_crowds_X7_isSheet : GoodIn wsX7_crowds wsX7_isSheet := goodIn_r _ [7, 8, 9, 10, 6, 11] (by decide +kernel) (by decide +kernel)
set_option maxRecDepth 20000 in
theorem gX7_crowds_X7_isSheet : GoodIn wsX7_crowds (va_wsS RX7 234 yX7_isSheet wsX7_isSheet) := goodIn_app (goodIn_of _ (by decide +kernel)) ggX7_crowds_X7_isSheet
set_option maxRecDepth 20000 in
theorem ggX7_crowds_X7_isLane : GoodIn wsX7_crowds wsX7_isLane := goodIn_r _ [14, 15, 9, 10, 6, 11] (by decide +kernel) (by decide +kernel)
set_option maxRecDepth 20000 in
theorem gX7_crowds_X7_isLane : GoodIn wsX7_crowds (va_wsS RX7 237 yX7_isLane wsX7_isLane) := goodIn_app (goodIn_of _ (by decide +kernel)) ggX7_crowds_X7_isLane
set_option maxRecDepth 20000 in
theorem ggX7_crowds_X7_finds : GoodIn wsX7_crowds wsX7_finds := goodIn_r _ [19, 20, 21, 22, 23, 24, 25, 26, 27, 28, 29, 30, 31, 32, 33, 34, 35, 36, 37, 38, 39, 40, 41, 42, 43, 44, 45, 46, 47, 48, 49] (by decide +kernel) (by decide +kernel)
set_option maxRecDepth 20000 in
theorem gX7_crowds_X7_finds : GoodIn wsX7_crowds (wsV RX7 240 RX7 yX7_finds wsX7_finds) := goodIn_app (goodIn_of _ (by decide +kernel)) ggX7_crowds_X7_finds
set_option maxRecDepth 20000 in
theorem ggX7_crowds_X7_in : GoodIn wsX7_crowds wsX7_in := goodIn_r _ [11] (by decide +kernel) (by decide +kernel)
set_option maxRecDepth 20000 in
theorem gX7_crowds_X7_in : GoodIn wsX7_crowds (va_wsS RX7 83 yX7_in wsX7_in) := goodIn_app (goodIn_of _ (by decide +kernel)) ggX7_crowds_X7_in
theorem dX7_crowds_0 : decode cX7_crowds 0 = .ok (.iload_n 1, 1) := by decide +kernel
theorem dX7_crowds_1 : decode cX7_crowds 1 = .ok (.invokestatic 234, 3) := by decide +kernel
theorem dX7_crowds_4 : decode cX7_crowds 4 = .ok (.ifCond .eq 10, 3) := by decide +kernel
theorem dX7_crowds_7 : decode cX7_crowds 7 = .ok (.iload_n 2, 1) := by decide +kernel
theorem dX7_crowds_8 : decode cX7_crowds 8 = .ok (.invokestatic 237, 3) := by decide +kernel
theorem dX7_crowds_11 : decode cX7_crowds 11 = .ok (.ifCond .ne 5, 3) := by decide +kernel
theorem dX7_crowds_14 : decode cX7_crowds 14 = .ok (.iconst (-1), 1) := by decide +kernel
theorem dX7_crowds_15 : decode cX7_crowds 15 = .ok (.ireturn, 1) := by decide +kernel
theorem dX7_crowds_16 : decode cX7_crowds 16 = .ok (.aload_n 0, 1) := by decide +kernel
theorem dX7_crowds_17 : decode cX7_crowds 17 = .ok (.iload_n 1, 1) := by decide +kernel
theorem dX7_crowds_18 : decode cX7_crowds 18 = .ok (.iload_n 2, 1) := by decide +kernel
theorem dX7_crowds_19 : decode cX7_crowds 19 = .ok (.iload_n 3, 1) := by decide +kernel
theorem dX7_crowds_20 : decode cX7_crowds 20 = .ok (.bipush 8, 2) := by decide +kernel
theorem dX7_crowds_22 : decode cX7_crowds 22 = .ok (.invokevirtual 240, 3) := by decide +kernel
theorem dX7_crowds_25 : decode cX7_crowds 25 = .ok (.istore 4, 2) := by decide +kernel
theorem dX7_crowds_27 : decode cX7_crowds 27 = .ok (.iload 4, 2) := by decide +kernel
theorem dX7_crowds_29 : decode cX7_crowds 29 = .ok (.ifCond .ge 6, 3) := by decide +kernel
theorem dX7_crowds_32 : decode cX7_crowds 32 = .ok (.iload 4, 2) := by decide +kernel
theorem dX7_crowds_34 : decode cX7_crowds 34 = .ok (.ireturn, 1) := by decide +kernel
theorem dX7_crowds_35 : decode cX7_crowds 35 = .ok (.iconst 0, 1) := by decide +kernel
theorem dX7_crowds_36 : decode cX7_crowds 36 = .ok (.istore 5, 2) := by decide +kernel
theorem dX7_crowds_38 : decode cX7_crowds 38 = .ok (.iload 5, 2) := by decide +kernel
theorem dX7_crowds_40 : decode cX7_crowds 40 = .ok (.bipush 8, 2) := by decide +kernel
theorem dX7_crowds_42 : decode cX7_crowds 42 = .ok (.if_icmp .ge 37, 3) := by decide +kernel
theorem dX7_crowds_45 : decode cX7_crowds 45 = .ok (.aload_n 0, 1) := by decide +kernel
theorem dX7_crowds_46 : decode cX7_crowds 46 = .ok (.getfield 73, 3) := by decide +kernel
theorem dX7_crowds_49 : decode cX7_crowds 49 = .ok (.bipush 24, 2) := by decide +kernel
theorem dX7_crowds_51 : decode cX7_crowds 51 = .ok (.iload_n 1, 1) := by decide +kernel
theorem dX7_crowds_52 : decode cX7_crowds 52 = .ok (.imul, 1) := by decide +kernel
theorem dX7_crowds_53 : decode cX7_crowds 53 = .ok (.iload_n 3, 1) := by decide +kernel
theorem dX7_crowds_54 : decode cX7_crowds 54 = .ok (.iadd, 1) := by decide +kernel
theorem dX7_crowds_55 : decode cX7_crowds 55 = .ok (.iload 5, 2) := by decide +kernel
theorem dX7_crowds_57 : decode cX7_crowds 57 = .ok (.iadd, 1) := by decide +kernel
theorem dX7_crowds_58 : decode cX7_crowds 58 = .ok (.iaload, 1) := by decide +kernel
theorem dX7_crowds_59 : decode cX7_crowds 59 = .ok (.i2l, 1) := by decide +kernel
theorem dX7_crowds_60 : decode cX7_crowds 60 = .ok (.lconst 1, 1) := by decide +kernel
theorem dX7_crowds_61 : decode cX7_crowds 61 = .ok (.ldc2_w 140, 3) := by decide +kernel
theorem dX7_crowds_64 : decode cX7_crowds 64 = .ok (.invokestatic 83, 3) := by decide +kernel
theorem dX7_crowds_67 : decode cX7_crowds 67 = .ok (.ifCond .ne 6, 3) := by decide +kernel
theorem dX7_crowds_70 : decode cX7_crowds 70 = .ok (.bipush (-2), 2) := by decide +kernel
theorem dX7_crowds_72 : decode cX7_crowds 72 = .ok (.ireturn, 1) := by decide +kernel
theorem dX7_crowds_73 : decode cX7_crowds 73 = .ok (.iinc 5 1, 3) := by decide +kernel
theorem dX7_crowds_76 : decode cX7_crowds 76 = .ok (.goto (-38), 3) := by decide +kernel
theorem dX7_crowds_79 : decode cX7_crowds 79 = .ok (.iconst 0, 1) := by decide +kernel
theorem dX7_crowds_80 : decode cX7_crowds 80 = .ok (.istore 5, 2) := by decide +kernel
theorem dX7_crowds_82 : decode cX7_crowds 82 = .ok (.iload 5, 2) := by decide +kernel
theorem dX7_crowds_84 : decode cX7_crowds 84 = .ok (.bipush 8, 2) := by decide +kernel
theorem dX7_crowds_86 : decode cX7_crowds 86 = .ok (.if_icmp .ge 30, 3) := by decide +kernel
theorem dX7_crowds_89 : decode cX7_crowds 89 = .ok (.aload_n 0, 1) := by decide +kernel
theorem dX7_crowds_90 : decode cX7_crowds 90 = .ok (.getfield 42, 3) := by decide +kernel
theorem dX7_crowds_93 : decode cX7_crowds 93 = .ok (.iload 5, 2) := by decide +kernel
theorem dX7_crowds_95 : decode cX7_crowds 95 = .ok (.aload_n 0, 1) := by decide +kernel
theorem dX7_crowds_96 : decode cX7_crowds 96 = .ok (.getfield 73, 3) := by decide +kernel
theorem dX7_crowds_99 : decode cX7_crowds 99 = .ok (.bipush 24, 2) := by decide +kernel
theorem dX7_crowds_101 : decode cX7_crowds 101 = .ok (.iload_n 1, 1) := by decide +kernel
theorem dX7_crowds_102 : decode cX7_crowds 102 = .ok (.imul, 1) := by decide +kernel
theorem dX7_crowds_103 : decode cX7_crowds 103 = .ok (.iload_n 3, 1) := by decide +kernel
theorem dX7_crowds_104 : decode cX7_crowds 104 = .ok (.iadd, 1) := by decide +kernel
theorem dX7_crowds_105 : decode cX7_crowds 105 = .ok (.iload 5, 2) := by decide +kernel
theorem dX7_crowds_107 : decode cX7_crowds 107 = .ok (.iadd, 1) := by decide +kernel
theorem dX7_crowds_108 : decode cX7_crowds 108 = .ok (.iaload, 1) := by decide +kernel
theorem dX7_crowds_109 : decode cX7_crowds 109 = .ok (.iastore, 1) := by decide +kernel
theorem dX7_crowds_110 : decode cX7_crowds 110 = .ok (.iinc 5 1, 3) := by decide +kernel
theorem dX7_crowds_113 : decode cX7_crowds 113 = .ok (.goto (-31), 3) := by decide +kernel
theorem dX7_crowds_116 : decode cX7_crowds 116 = .ok (.bipush 8, 2) := by decide +kernel
theorem dX7_crowds_118 : decode cX7_crowds 118 = .ok (.ireturn, 1) := by decide +kernel
set_option maxRecDepth 20000 in
theorem ggX7_sheet_X7_isSheet : GoodIn wsX7_sheet wsX7_isSheet := goodIn_r _ [7, 8, 9, 10, 6, 11] (by decide +kernel) (by decide +kernel)
set_option maxRecDepth 20000 in
theorem gX7_sheet_X7_isSheet : GoodIn wsX7_sheet (va_wsS RX7 234 yX7_isSheet wsX7_isSheet) := goodIn_app (goodIn_of _ (by decide +kernel)) ggX7_sheet_X7_isSheet
set_option maxRecDepth 20000 in
theorem ggX7_sheet_X7_isLane : GoodIn wsX7_sheet wsX7_isLane := goodIn_r _ [14, 15, 9, 10, 6, 11] (by decide +kernel) (by decide +kernel)
set_option maxRecDepth 20000 in
theorem gX7_sheet_X7_isLane : GoodIn wsX7_sheet (va_wsS RX7 237 yX7_isLane wsX7_isLane) := goodIn_app (goodIn_of _ (by decide +kernel)) ggX7_sheet_X7_isLane
theorem dX7_sheet_0 : decode cX7_sheet 0 = .ok (.iload_n 1, 1) := by decide +kernel
theorem dX7_sheet_1 : decode cX7_sheet 1 = .ok (.invokestatic 234, 3) := by decide +kernel
theorem dX7_sheet_4 : decode cX7_sheet 4 = .ok (.ifCond .eq 16, 3) := by decide +kernel
theorem dX7_sheet_7 : decode cX7_sheet 7 = .ok (.iload_n 2, 1) := by decide +kernel
theorem dX7_sheet_8 : decode cX7_sheet 8 = .ok (.invokestatic 237, 3) := by decide +kernel
theorem dX7_sheet_11 : decode cX7_sheet 11 = .ok (.ifCond .eq 9, 3) := by decide +kernel
theorem dX7_sheet_14 : decode cX7_sheet 14 = .ok (.iload_n 3, 1) := by decide +kernel
theorem dX7_sheet_15 : decode cX7_sheet 15 = .ok (.bipush 24, 2) := by decide +kernel
theorem dX7_sheet_17 : decode cX7_sheet 17 = .ok (.if_icmp .le 5, 3) := by decide +kernel
theorem dX7_sheet_20 : decode cX7_sheet 20 = .ok (.iconst (-1), 1) := by decide +kernel
theorem dX7_sheet_21 : decode cX7_sheet 21 = .ok (.ireturn, 1) := by decide +kernel
theorem dX7_sheet_22 : decode cX7_sheet 22 = .ok (.iload_n 3, 1) := by decide +kernel
theorem dX7_sheet_23 : decode cX7_sheet 23 = .ok (.ifCond .ge 6, 3) := by decide +kernel
theorem dX7_sheet_26 : decode cX7_sheet 26 = .ok (.bipush (-14), 2) := by decide +kernel
theorem dX7_sheet_28 : decode cX7_sheet 28 = .ok (.ireturn, 1) := by decide +kernel
theorem dX7_sheet_29 : decode cX7_sheet 29 = .ok (.aload_n 0, 1) := by decide +kernel
theorem dX7_sheet_30 : decode cX7_sheet 30 = .ok (.getfield 67, 3) := by decide +kernel
theorem dX7_sheet_33 : decode cX7_sheet 33 = .ok (.iload_n 1, 1) := by decide +kernel
theorem dX7_sheet_34 : decode cX7_sheet 34 = .ok (.iload_n 2, 1) := by decide +kernel
theorem dX7_sheet_35 : decode cX7_sheet 35 = .ok (.iastore, 1) := by decide +kernel
theorem dX7_sheet_36 : decode cX7_sheet 36 = .ok (.aload_n 0, 1) := by decide +kernel
theorem dX7_sheet_37 : decode cX7_sheet 37 = .ok (.getfield 70, 3) := by decide +kernel
theorem dX7_sheet_40 : decode cX7_sheet 40 = .ok (.iload_n 1, 1) := by decide +kernel
theorem dX7_sheet_41 : decode cX7_sheet 41 = .ok (.iload_n 3, 1) := by decide +kernel
theorem dX7_sheet_42 : decode cX7_sheet 42 = .ok (.iastore, 1) := by decide +kernel
theorem dX7_sheet_43 : decode cX7_sheet 43 = .ok (.iconst 0, 1) := by decide +kernel
theorem dX7_sheet_44 : decode cX7_sheet 44 = .ok (.istore 4, 2) := by decide +kernel
theorem dX7_sheet_46 : decode cX7_sheet 46 = .ok (.iload 4, 2) := by decide +kernel
theorem dX7_sheet_48 : decode cX7_sheet 48 = .ok (.bipush 24, 2) := by decide +kernel
theorem dX7_sheet_50 : decode cX7_sheet 50 = .ok (.if_icmp .ge 22, 3) := by decide +kernel
theorem dX7_sheet_53 : decode cX7_sheet 53 = .ok (.aload_n 0, 1) := by decide +kernel
theorem dX7_sheet_54 : decode cX7_sheet 54 = .ok (.getfield 73, 3) := by decide +kernel
theorem dX7_sheet_57 : decode cX7_sheet 57 = .ok (.bipush 24, 2) := by decide +kernel
theorem dX7_sheet_59 : decode cX7_sheet 59 = .ok (.iload_n 1, 1) := by decide +kernel
theorem dX7_sheet_60 : decode cX7_sheet 60 = .ok (.imul, 1) := by decide +kernel
theorem dX7_sheet_61 : decode cX7_sheet 61 = .ok (.iload 4, 2) := by decide +kernel
theorem dX7_sheet_63 : decode cX7_sheet 63 = .ok (.iadd, 1) := by decide +kernel
theorem dX7_sheet_64 : decode cX7_sheet 64 = .ok (.iconst 0, 1) := by decide +kernel
theorem dX7_sheet_65 : decode cX7_sheet 65 = .ok (.iastore, 1) := by decide +kernel
theorem dX7_sheet_66 : decode cX7_sheet 66 = .ok (.iinc 4 1, 3) := by decide +kernel
theorem dX7_sheet_69 : decode cX7_sheet 69 = .ok (.goto (-23), 3) := by decide +kernel
theorem dX7_sheet_72 : decode cX7_sheet 72 = .ok (.iload_n 3, 1) := by decide +kernel
theorem dX7_sheet_73 : decode cX7_sheet 73 = .ok (.ireturn, 1) := by decide +kernel
set_option maxRecDepth 20000 in
theorem ggX7_drop_X7_isSheet : GoodIn wsX7_drop wsX7_isSheet := goodIn_r _ [6, 7, 8, 9, 5, 10] (by decide +kernel) (by decide +kernel)
set_option maxRecDepth 20000 in
theorem gX7_drop_X7_isSheet : GoodIn wsX7_drop (va_wsS RX7 234 yX7_isSheet wsX7_isSheet) := goodIn_app (goodIn_of _ (by decide +kernel)) ggX7_drop_X7_isSheet
theorem dX7_drop_0 : decode cX7_drop 0 = .ok (.iload_n 1, 1) := by decide +kernel
theorem dX7_drop_1 : decode cX7_drop 1 = .ok (.invokestatic 234, 3) := by decide +kernel
theorem dX7_drop_4 : decode cX7_drop 4 = .ok (.ifCond .ne 5, 3) := by decide +kernel
theorem dX7_drop_7 : decode cX7_drop 7 = .ok (.iconst (-1), 1) := by decide +kernel
theorem dX7_drop_8 : decode cX7_drop 8 = .ok (.ireturn, 1) := by decide +kernel
theorem dX7_drop_9 : decode cX7_drop 9 = .ok (.aload_n 0, 1) := by decide +kernel
theorem dX7_drop_10 : decode cX7_drop 10 = .ok (.getfield 67, 3) := by decide +kernel
theorem dX7_drop_13 : decode cX7_drop 13 = .ok (.iload_n 1, 1) := by decide +kernel
theorem dX7_drop_14 : decode cX7_drop 14 = .ok (.iaload, 1) := by decide +kernel
theorem dX7_drop_15 : decode cX7_drop 15 = .ok (.ifCond .ge 6, 3) := by decide +kernel
theorem dX7_drop_18 : decode cX7_drop 18 = .ok (.bipush (-11), 2) := by decide +kernel
theorem dX7_drop_20 : decode cX7_drop 20 = .ok (.ireturn, 1) := by decide +kernel
theorem dX7_drop_21 : decode cX7_drop 21 = .ok (.aload_n 0, 1) := by decide +kernel
theorem dX7_drop_22 : decode cX7_drop 22 = .ok (.getfield 67, 3) := by decide +kernel
theorem dX7_drop_25 : decode cX7_drop 25 = .ok (.iload_n 1, 1) := by decide +kernel
theorem dX7_drop_26 : decode cX7_drop 26 = .ok (.iconst (-1), 1) := by decide +kernel
theorem dX7_drop_27 : decode cX7_drop 27 = .ok (.iastore, 1) := by decide +kernel
theorem dX7_drop_28 : decode cX7_drop 28 = .ok (.aload_n 0, 1) := by decide +kernel
theorem dX7_drop_29 : decode cX7_drop 29 = .ok (.getfield 70, 3) := by decide +kernel
theorem dX7_drop_32 : decode cX7_drop 32 = .ok (.iload_n 1, 1) := by decide +kernel
theorem dX7_drop_33 : decode cX7_drop 33 = .ok (.iaload, 1) := by decide +kernel
theorem dX7_drop_34 : decode cX7_drop 34 = .ok (.ireturn, 1) := by decide +kernel
set_option maxRecDepth 20000 in
theorem ggX7_item_X7_isSheet : GoodIn wsX7_item wsX7_isSheet := goodIn_r _ [5, 6, 7, 8, 4, 9] (by decide +kernel) (by decide +kernel)
set_option maxRecDepth 20000 in
theorem gX7_item_X7_isSheet : GoodIn wsX7_item (va_wsS RX7 234 yX7_isSheet wsX7_isSheet) := goodIn_app (goodIn_of _ (by decide +kernel)) ggX7_item_X7_isSheet
set_option maxRecDepth 20000 in
theorem ggX7_item_X7_isLane : GoodIn wsX7_item wsX7_isLane := goodIn_r _ [12, 13, 7, 8, 4, 9] (by decide +kernel) (by decide +kernel)
set_option maxRecDepth 20000 in
theorem gX7_item_X7_isLane : GoodIn wsX7_item (va_wsS RX7 237 yX7_isLane wsX7_isLane) := goodIn_app (goodIn_of _ (by decide +kernel)) ggX7_item_X7_isLane
set_option maxRecDepth 20000 in
theorem ggX7_item_X7_finds : GoodIn wsX7_item wsX7_finds := goodIn_r _ [17, 18, 19, 23, 24, 25, 26, 27, 28, 29, 30, 31, 32, 33, 34, 35, 36, 37, 38, 39, 40, 41, 42, 43, 44, 45, 46, 47, 48, 49, 50] (by decide +kernel) (by decide +kernel)
set_option maxRecDepth 20000 in
theorem gX7_item_X7_finds : GoodIn wsX7_item (wsV RX7 240 RX7 yX7_finds wsX7_finds) := goodIn_app (goodIn_of _ (by decide +kernel)) ggX7_item_X7_finds
set_option maxRecDepth 20000 in
theorem ggX7_item_X7_cast : GoodIn wsX7_item wsX7_cast := goodIn_r _ [22] (by decide +kernel) (by decide +kernel)
set_option maxRecDepth 20000 in
theorem gX7_item_X7_cast : GoodIn wsX7_item (va_wsS RX7 243 yX7_cast wsX7_cast) := goodIn_app (goodIn_of _ (by decide +kernel)) ggX7_item_X7_cast
theorem dX7_item_0 : decode cX7_item 0 = .ok (.iload_n 1, 1) := by decide +kernel
theorem dX7_item_1 : decode cX7_item 1 = .ok (.invokestatic 234, 3) := by decide +kernel
theorem dX7_item_4 : decode cX7_item 4 = .ok (.ifCond .eq 10, 3) := by decide +kernel
theorem dX7_item_7 : decode cX7_item 7 = .ok (.iload_n 2, 1) := by decide +kernel
theorem dX7_item_8 : decode cX7_item 8 = .ok (.invokestatic 237, 3) := by decide +kernel
theorem dX7_item_11 : decode cX7_item 11 = .ok (.ifCond .ne 5, 3) := by decide +kernel
theorem dX7_item_14 : decode cX7_item 14 = .ok (.iconst (-1), 1) := by decide +kernel
theorem dX7_item_15 : decode cX7_item 15 = .ok (.ireturn, 1) := by decide +kernel
theorem dX7_item_16 : decode cX7_item 16 = .ok (.aload_n 0, 1) := by decide +kernel
theorem dX7_item_17 : decode cX7_item 17 = .ok (.iload_n 1, 1) := by decide +kernel
theorem dX7_item_18 : decode cX7_item 18 = .ok (.iload_n 2, 1) := by decide +kernel
theorem dX7_item_19 : decode cX7_item 19 = .ok (.iload_n 3, 1) := by decide +kernel
theorem dX7_item_20 : decode cX7_item 20 = .ok (.iconst 1, 1) := by decide +kernel
theorem dX7_item_21 : decode cX7_item 21 = .ok (.invokevirtual 240, 3) := by decide +kernel
theorem dX7_item_24 : decode cX7_item 24 = .ok (.istore 5, 2) := by decide +kernel
theorem dX7_item_26 : decode cX7_item 26 = .ok (.iload 5, 2) := by decide +kernel
theorem dX7_item_28 : decode cX7_item 28 = .ok (.ifCond .ge 6, 3) := by decide +kernel
theorem dX7_item_31 : decode cX7_item 31 = .ok (.iload 5, 2) := by decide +kernel
theorem dX7_item_33 : decode cX7_item 33 = .ok (.ireturn, 1) := by decide +kernel
theorem dX7_item_34 : decode cX7_item 34 = .ok (.aload_n 0, 1) := by decide +kernel
theorem dX7_item_35 : decode cX7_item 35 = .ok (.getfield 73, 3) := by decide +kernel
theorem dX7_item_38 : decode cX7_item 38 = .ok (.bipush 24, 2) := by decide +kernel
theorem dX7_item_40 : decode cX7_item 40 = .ok (.iload_n 1, 1) := by decide +kernel
theorem dX7_item_41 : decode cX7_item 41 = .ok (.imul, 1) := by decide +kernel
theorem dX7_item_42 : decode cX7_item 42 = .ok (.iload_n 3, 1) := by decide +kernel
theorem dX7_item_43 : decode cX7_item 43 = .ok (.iadd, 1) := by decide +kernel
theorem dX7_item_44 : decode cX7_item 44 = .ok (.iload_n 2, 1) := by decide +kernel
theorem dX7_item_45 : decode cX7_item 45 = .ok (.iload 4, 2) := by decide +kernel
theorem dX7_item_47 : decode cX7_item 47 = .ok (.invokestatic 243, 3) := by decide +kernel
theorem dX7_item_50 : decode cX7_item 50 = .ok (.iastore, 1) := by decide +kernel
theorem dX7_item_51 : decode cX7_item 51 = .ok (.iconst 1, 1) := by decide +kernel
theorem dX7_item_52 : decode cX7_item 52 = .ok (.ireturn, 1) := by decide +kernel
set_option maxRecDepth 20000 in
theorem ggX7_copy_X7_isSheet : GoodIn wsX7_copy wsX7_isSheet := goodIn_r _ [7, 8, 9, 10, 6, 11] (by decide +kernel) (by decide +kernel)
set_option maxRecDepth 20000 in
theorem gX7_copy_X7_isSheet : GoodIn wsX7_copy (va_wsS RX7 234 yX7_isSheet wsX7_isSheet) := goodIn_app (goodIn_of _ (by decide +kernel)) ggX7_copy_X7_isSheet
set_option maxRecDepth 20000 in
theorem ggX7_copy_X7_finds : GoodIn wsX7_copy wsX7_finds := goodIn_r _ [15, 1, 16, 17, 18, 19, 20, 21, 22, 23, 24, 25, 26, 27, 28, 29, 30, 31, 32, 33, 34, 35, 36, 37, 38, 39, 40, 41, 42, 43, 44] (by decide +kernel) (by decide +kernel)
set_option maxRecDepth 20000 in
theorem gX7_copy_X7_finds : GoodIn wsX7_copy (wsV RX7 240 RX7 yX7_finds wsX7_finds) := goodIn_app (goodIn_of _ (by decide +kernel)) ggX7_copy_X7_finds
theorem dX7_copy_0 : decode cX7_copy 0 = .ok (.iload_n 1, 1) := by decide +kernel
theorem dX7_copy_1 : decode cX7_copy 1 = .ok (.invokestatic 234, 3) := by decide +kernel
theorem dX7_copy_4 : decode cX7_copy 4 = .ok (.ifCond .eq 10, 3) := by decide +kernel
theorem dX7_copy_7 : decode cX7_copy 7 = .ok (.iload_n 3, 1) := by decide +kernel
theorem dX7_copy_8 : decode cX7_copy 8 = .ok (.invokestatic 234, 3) := by decide +kernel
theorem dX7_copy_11 : decode cX7_copy 11 = .ok (.ifCond .ne 5, 3) := by decide +kernel
theorem dX7_copy_14 : decode cX7_copy 14 = .ok (.iconst (-1), 1) := by decide +kernel
theorem dX7_copy_15 : decode cX7_copy 15 = .ok (.ireturn, 1) := by decide +kernel
theorem dX7_copy_16 : decode cX7_copy 16 = .ok (.aload_n 0, 1) := by decide +kernel
theorem dX7_copy_17 : decode cX7_copy 17 = .ok (.getfield 67, 3) := by decide +kernel
theorem dX7_copy_20 : decode cX7_copy 20 = .ok (.iload_n 1, 1) := by decide +kernel
theorem dX7_copy_21 : decode cX7_copy 21 = .ok (.iaload, 1) := by decide +kernel
theorem dX7_copy_22 : decode cX7_copy 22 = .ok (.ifCond .lt 12, 3) := by decide +kernel
theorem dX7_copy_25 : decode cX7_copy 25 = .ok (.aload_n 0, 1) := by decide +kernel
theorem dX7_copy_26 : decode cX7_copy 26 = .ok (.getfield 67, 3) := by decide +kernel
theorem dX7_copy_29 : decode cX7_copy 29 = .ok (.iload_n 3, 1) := by decide +kernel
theorem dX7_copy_30 : decode cX7_copy 30 = .ok (.iaload, 1) := by decide +kernel
theorem dX7_copy_31 : decode cX7_copy 31 = .ok (.ifCond .ge 6, 3) := by decide +kernel
theorem dX7_copy_34 : decode cX7_copy 34 = .ok (.bipush (-11), 2) := by decide +kernel
theorem dX7_copy_36 : decode cX7_copy 36 = .ok (.ireturn, 1) := by decide +kernel
theorem dX7_copy_37 : decode cX7_copy 37 = .ok (.aload_n 0, 1) := by decide +kernel
theorem dX7_copy_38 : decode cX7_copy 38 = .ok (.getfield 67, 3) := by decide +kernel
theorem dX7_copy_41 : decode cX7_copy 41 = .ok (.iload_n 1, 1) := by decide +kernel
theorem dX7_copy_42 : decode cX7_copy 42 = .ok (.iaload, 1) := by decide +kernel
theorem dX7_copy_43 : decode cX7_copy 43 = .ok (.aload_n 0, 1) := by decide +kernel
theorem dX7_copy_44 : decode cX7_copy 44 = .ok (.getfield 67, 3) := by decide +kernel
theorem dX7_copy_47 : decode cX7_copy 47 = .ok (.iload_n 3, 1) := by decide +kernel
theorem dX7_copy_48 : decode cX7_copy 48 = .ok (.iaload, 1) := by decide +kernel
theorem dX7_copy_49 : decode cX7_copy 49 = .ok (.if_icmp .eq 6, 3) := by decide +kernel
theorem dX7_copy_52 : decode cX7_copy 52 = .ok (.bipush (-12), 2) := by decide +kernel
theorem dX7_copy_54 : decode cX7_copy 54 = .ok (.ireturn, 1) := by decide +kernel
theorem dX7_copy_55 : decode cX7_copy 55 = .ok (.iload 5, 2) := by decide +kernel
theorem dX7_copy_57 : decode cX7_copy 57 = .ok (.ifCond .lt 38, 3) := by decide +kernel
theorem dX7_copy_60 : decode cX7_copy 60 = .ok (.aload_n 0, 1) := by decide +kernel
theorem dX7_copy_61 : decode cX7_copy 61 = .ok (.iload_n 1, 1) := by decide +kernel
theorem dX7_copy_62 : decode cX7_copy 62 = .ok (.aload_n 0, 1) := by decide +kernel
theorem dX7_copy_63 : decode cX7_copy 63 = .ok (.getfield 67, 3) := by decide +kernel
theorem dX7_copy_66 : decode cX7_copy 66 = .ok (.iload_n 1, 1) := by decide +kernel
theorem dX7_copy_67 : decode cX7_copy 67 = .ok (.iaload, 1) := by decide +kernel
theorem dX7_copy_68 : decode cX7_copy 68 = .ok (.iload_n 2, 1) := by decide +kernel
theorem dX7_copy_69 : decode cX7_copy 69 = .ok (.iload 5, 2) := by decide +kernel
theorem dX7_copy_71 : decode cX7_copy 71 = .ok (.invokevirtual 240, 3) := by decide +kernel
theorem dX7_copy_74 : decode cX7_copy 74 = .ok (.ifCond .lt 21, 3) := by decide +kernel
theorem dX7_copy_77 : decode cX7_copy 77 = .ok (.aload_n 0, 1) := by decide +kernel
theorem dX7_copy_78 : decode cX7_copy 78 = .ok (.iload_n 3, 1) := by decide +kernel
theorem dX7_copy_79 : decode cX7_copy 79 = .ok (.aload_n 0, 1) := by decide +kernel
theorem dX7_copy_80 : decode cX7_copy 80 = .ok (.getfield 67, 3) := by decide +kernel
theorem dX7_copy_83 : decode cX7_copy 83 = .ok (.iload_n 3, 1) := by decide +kernel
theorem dX7_copy_84 : decode cX7_copy 84 = .ok (.iaload, 1) := by decide +kernel
theorem dX7_copy_85 : decode cX7_copy 85 = .ok (.iload 4, 2) := by decide +kernel
theorem dX7_copy_87 : decode cX7_copy 87 = .ok (.iload 5, 2) := by decide +kernel
theorem dX7_copy_89 : decode cX7_copy 89 = .ok (.invokevirtual 240, 3) := by decide +kernel
theorem dX7_copy_92 : decode cX7_copy 92 = .ok (.ifCond .ge 6, 3) := by decide +kernel
theorem dX7_copy_95 : decode cX7_copy 95 = .ok (.bipush (-13), 2) := by decide +kernel
theorem dX7_copy_97 : decode cX7_copy 97 = .ok (.ireturn, 1) := by decide +kernel
theorem dX7_copy_98 : decode cX7_copy 98 = .ok (.iconst 0, 1) := by decide +kernel
theorem dX7_copy_99 : decode cX7_copy 99 = .ok (.istore 6, 2) := by decide +kernel
theorem dX7_copy_101 : decode cX7_copy 101 = .ok (.iload 6, 2) := by decide +kernel
theorem dX7_copy_103 : decode cX7_copy 103 = .ok (.iload 5, 2) := by decide +kernel
theorem dX7_copy_105 : decode cX7_copy 105 = .ok (.if_icmp .ge 30, 3) := by decide +kernel
theorem dX7_copy_108 : decode cX7_copy 108 = .ok (.aload_n 0, 1) := by decide +kernel
theorem dX7_copy_109 : decode cX7_copy 109 = .ok (.getfield 76, 3) := by decide +kernel
theorem dX7_copy_112 : decode cX7_copy 112 = .ok (.iload 6, 2) := by decide +kernel
theorem dX7_copy_114 : decode cX7_copy 114 = .ok (.aload_n 0, 1) := by decide +kernel
theorem dX7_copy_115 : decode cX7_copy 115 = .ok (.getfield 73, 3) := by decide +kernel
theorem dX7_copy_118 : decode cX7_copy 118 = .ok (.bipush 24, 2) := by decide +kernel
theorem dX7_copy_120 : decode cX7_copy 120 = .ok (.iload_n 1, 1) := by decide +kernel
theorem dX7_copy_121 : decode cX7_copy 121 = .ok (.imul, 1) := by decide +kernel
theorem dX7_copy_122 : decode cX7_copy 122 = .ok (.iload_n 2, 1) := by decide +kernel
theorem dX7_copy_123 : decode cX7_copy 123 = .ok (.iadd, 1) := by decide +kernel
theorem dX7_copy_124 : decode cX7_copy 124 = .ok (.iload 6, 2) := by decide +kernel
theorem dX7_copy_126 : decode cX7_copy 126 = .ok (.iadd, 1) := by decide +kernel
theorem dX7_copy_127 : decode cX7_copy 127 = .ok (.iaload, 1) := by decide +kernel
theorem dX7_copy_128 : decode cX7_copy 128 = .ok (.iastore, 1) := by decide +kernel
theorem dX7_copy_129 : decode cX7_copy 129 = .ok (.iinc 6 1, 3) := by decide +kernel
theorem dX7_copy_132 : decode cX7_copy 132 = .ok (.goto (-31), 3) := by decide +kernel
theorem dX7_copy_135 : decode cX7_copy 135 = .ok (.iconst 0, 1) := by decide +kernel
theorem dX7_copy_136 : decode cX7_copy 136 = .ok (.istore 6, 2) := by decide +kernel
theorem dX7_copy_138 : decode cX7_copy 138 = .ok (.iload 6, 2) := by decide +kernel
theorem dX7_copy_140 : decode cX7_copy 140 = .ok (.iload 5, 2) := by decide +kernel
theorem dX7_copy_142 : decode cX7_copy 142 = .ok (.if_icmp .ge 31, 3) := by decide +kernel
theorem dX7_copy_145 : decode cX7_copy 145 = .ok (.aload_n 0, 1) := by decide +kernel
theorem dX7_copy_146 : decode cX7_copy 146 = .ok (.getfield 73, 3) := by decide +kernel
theorem dX7_copy_149 : decode cX7_copy 149 = .ok (.bipush 24, 2) := by decide +kernel
theorem dX7_copy_151 : decode cX7_copy 151 = .ok (.iload_n 3, 1) := by decide +kernel
theorem dX7_copy_152 : decode cX7_copy 152 = .ok (.imul, 1) := by decide +kernel
theorem dX7_copy_153 : decode cX7_copy 153 = .ok (.iload 4, 2) := by decide +kernel
theorem dX7_copy_155 : decode cX7_copy 155 = .ok (.iadd, 1) := by decide +kernel
theorem dX7_copy_156 : decode cX7_copy 156 = .ok (.iload 6, 2) := by decide +kernel
theorem dX7_copy_158 : decode cX7_copy 158 = .ok (.iadd, 1) := by decide +kernel
theorem dX7_copy_159 : decode cX7_copy 159 = .ok (.aload_n 0, 1) := by decide +kernel
theorem dX7_copy_160 : decode cX7_copy 160 = .ok (.getfield 76, 3) := by decide +kernel
theorem dX7_copy_163 : decode cX7_copy 163 = .ok (.iload 6, 2) := by decide +kernel
theorem dX7_copy_165 : decode cX7_copy 165 = .ok (.iaload, 1) := by decide +kernel
theorem dX7_copy_166 : decode cX7_copy 166 = .ok (.iastore, 1) := by decide +kernel
theorem dX7_copy_167 : decode cX7_copy 167 = .ok (.iinc 6 1, 3) := by decide +kernel
theorem dX7_copy_170 : decode cX7_copy 170 = .ok (.goto (-32), 3) := by decide +kernel
theorem dX7_copy_173 : decode cX7_copy 173 = .ok (.iload 5, 2) := by decide +kernel
theorem dX7_copy_175 : decode cX7_copy 175 = .ok (.ireturn, 1) := by decide +kernel
