theorem dX0_init_0 : decode cX0_init 0 = .ok (.aload_n 0, 1) := by decide +kernel
theorem dX0_init_1 : decode cX0_init 1 = .ok (.invokespecial 3, 3) := by decide +kernel
theorem dX0_init_4 : decode cX0_init 4 = .ok (.aload_n 0, 1) := by decide +kernel
theorem dX0_init_5 : decode cX0_init 5 = .ok (.bipush 8, 2) := by decide +kernel
theorem dX0_init_7 : decode cX0_init 7 = .ok (.newarray .int, 2) := by decide +kernel
theorem dX0_init_9 : decode cX0_init 9 = .ok (.putfield 9, 3) := by decide +kernel
theorem dX0_init_12 : decode cX0_init 12 = .ok (.aload_n 0, 1) := by decide +kernel
theorem dX0_init_13 : decode cX0_init 13 = .ok (.bipush 8, 2) := by decide +kernel
theorem dX0_init_15 : decode cX0_init 15 = .ok (.newarray .int, 2) := by decide +kernel
theorem dX0_init_17 : decode cX0_init 17 = .ok (.putfield 15, 3) := by decide +kernel
theorem dX0_init_20 : decode cX0_init 20 = .ok (.aload_n 0, 1) := by decide +kernel
theorem dX0_init_21 : decode cX0_init 21 = .ok (.bipush 8, 2) := by decide +kernel
theorem dX0_init_23 : decode cX0_init 23 = .ok (.newarray .int, 2) := by decide +kernel
theorem dX0_init_25 : decode cX0_init 25 = .ok (.putfield 18, 3) := by decide +kernel
theorem dX0_init_28 : decode cX0_init 28 = .ok (.aload_n 0, 1) := by decide +kernel
theorem dX0_init_29 : decode cX0_init 29 = .ok (.bipush 8, 2) := by decide +kernel
theorem dX0_init_31 : decode cX0_init 31 = .ok (.newarray .int, 2) := by decide +kernel
theorem dX0_init_33 : decode cX0_init 33 = .ok (.putfield 21, 3) := by decide +kernel
theorem dX0_init_36 : decode cX0_init 36 = .ok (.iconst 0, 1) := by decide +kernel
theorem dX0_init_37 : decode cX0_init 37 = .ok (.istore_n 1, 1) := by decide +kernel
theorem dX0_init_38 : decode cX0_init 38 = .ok (.iload_n 1, 1) := by decide +kernel
theorem dX0_init_39 : decode cX0_init 39 = .ok (.bipush 8, 2) := by decide +kernel
theorem dX0_init_41 : decode cX0_init 41 = .ok (.if_icmp .ge 17, 3) := by decide +kernel
theorem dX0_init_44 : decode cX0_init 44 = .ok (.aload_n 0, 1) := by decide +kernel
theorem dX0_init_45 : decode cX0_init 45 = .ok (.getfield 21, 3) := by decide +kernel
theorem dX0_init_48 : decode cX0_init 48 = .ok (.iload_n 1, 1) := by decide +kernel
theorem dX0_init_49 : decode cX0_init 49 = .ok (.bipush 9, 2) := by decide +kernel
theorem dX0_init_51 : decode cX0_init 51 = .ok (.iastore, 1) := by decide +kernel
theorem dX0_init_52 : decode cX0_init 52 = .ok (.iinc 1 1, 3) := by decide +kernel
theorem dX0_init_55 : decode cX0_init 55 = .ok (.goto (-17), 3) := by decide +kernel
theorem dX0_init_58 : decode cX0_init 58 = .ok (.return_, 1) := by decide +kernel
theorem dX0_takeFrom_0 : decode cX0_takeFrom 0 = .ok (.aload_n 1, 1) := by decide +kernel
theorem dX0_takeFrom_1 : decode cX0_takeFrom 1 = .ok (.getfield 9, 3) := by decide +kernel
theorem dX0_takeFrom_4 : decode cX0_takeFrom 4 = .ok (.iconst 0, 1) := by decide +kernel
theorem dX0_takeFrom_5 : decode cX0_takeFrom 5 = .ok (.aload_n 0, 1) := by decide +kernel
theorem dX0_takeFrom_6 : decode cX0_takeFrom 6 = .ok (.getfield 9, 3) := by decide +kernel
theorem dX0_takeFrom_9 : decode cX0_takeFrom 9 = .ok (.iconst 0, 1) := by decide +kernel
theorem dX0_takeFrom_10 : decode cX0_takeFrom 10 = .ok (.bipush 8, 2) := by decide +kernel
theorem dX0_takeFrom_12 : decode cX0_takeFrom 12 = .ok (.invokestatic 24, 3) := by decide +kernel
theorem dX0_takeFrom_15 : decode cX0_takeFrom 15 = .ok (.aload_n 1, 1) := by decide +kernel
theorem dX0_takeFrom_16 : decode cX0_takeFrom 16 = .ok (.getfield 15, 3) := by decide +kernel
theorem dX0_takeFrom_19 : decode cX0_takeFrom 19 = .ok (.iconst 0, 1) := by decide +kernel
theorem dX0_takeFrom_20 : decode cX0_takeFrom 20 = .ok (.aload_n 0, 1) := by decide +kernel
theorem dX0_takeFrom_21 : decode cX0_takeFrom 21 = .ok (.getfield 15, 3) := by decide +kernel
theorem dX0_takeFrom_24 : decode cX0_takeFrom 24 = .ok (.iconst 0, 1) := by decide +kernel
theorem dX0_takeFrom_25 : decode cX0_takeFrom 25 = .ok (.bipush 8, 2) := by decide +kernel
theorem dX0_takeFrom_27 : decode cX0_takeFrom 27 = .ok (.invokestatic 24, 3) := by decide +kernel
theorem dX0_takeFrom_30 : decode cX0_takeFrom 30 = .ok (.aload_n 1, 1) := by decide +kernel
theorem dX0_takeFrom_31 : decode cX0_takeFrom 31 = .ok (.getfield 18, 3) := by decide +kernel
theorem dX0_takeFrom_34 : decode cX0_takeFrom 34 = .ok (.iconst 0, 1) := by decide +kernel
theorem dX0_takeFrom_35 : decode cX0_takeFrom 35 = .ok (.aload_n 0, 1) := by decide +kernel
theorem dX0_takeFrom_36 : decode cX0_takeFrom 36 = .ok (.getfield 18, 3) := by decide +kernel
theorem dX0_takeFrom_39 : decode cX0_takeFrom 39 = .ok (.iconst 0, 1) := by decide +kernel
theorem dX0_takeFrom_40 : decode cX0_takeFrom 40 = .ok (.bipush 8, 2) := by decide +kernel
theorem dX0_takeFrom_42 : decode cX0_takeFrom 42 = .ok (.invokestatic 24, 3) := by decide +kernel
theorem dX0_takeFrom_45 : decode cX0_takeFrom 45 = .ok (.aload_n 1, 1) := by decide +kernel
theorem dX0_takeFrom_46 : decode cX0_takeFrom 46 = .ok (.getfield 21, 3) := by decide +kernel
theorem dX0_takeFrom_49 : decode cX0_takeFrom 49 = .ok (.iconst 0, 1) := by decide +kernel
theorem dX0_takeFrom_50 : decode cX0_takeFrom 50 = .ok (.aload_n 0, 1) := by decide +kernel
theorem dX0_takeFrom_51 : decode cX0_takeFrom 51 = .ok (.getfield 21, 3) := by decide +kernel
theorem dX0_takeFrom_54 : decode cX0_takeFrom 54 = .ok (.iconst 0, 1) := by decide +kernel
theorem dX0_takeFrom_55 : decode cX0_takeFrom 55 = .ok (.bipush 8, 2) := by decide +kernel
theorem dX0_takeFrom_57 : decode cX0_takeFrom 57 = .ok (.invokestatic 24, 3) := by decide +kernel
theorem dX0_takeFrom_60 : decode cX0_takeFrom 60 = .ok (.return_, 1) := by decide +kernel
theorem dX0_changeFrom_0 : decode cX0_changeFrom 0 = .ok (.iload_n 1, 1) := by decide +kernel
theorem dX0_changeFrom_1 : decode cX0_changeFrom 1 = .ok (.istore 6, 2) := by decide +kernel
theorem dX0_changeFrom_3 : decode cX0_changeFrom 3 = .ok (.iload 6, 2) := by decide +kernel
theorem dX0_changeFrom_5 : decode cX0_changeFrom 5 = .ok (.bipush 8, 2) := by decide +kernel
theorem dX0_changeFrom_7 : decode cX0_changeFrom 7 = .ok (.if_icmp .ge 43, 3) := by decide +kernel
theorem dX0_changeFrom_10 : decode cX0_changeFrom 10 = .ok (.aload_n 0, 1) := by decide +kernel
theorem dX0_changeFrom_11 : decode cX0_changeFrom 11 = .ok (.getfield 9, 3) := by decide +kernel
theorem dX0_changeFrom_14 : decode cX0_changeFrom 14 = .ok (.iload 6, 2) := by decide +kernel
theorem dX0_changeFrom_16 : decode cX0_changeFrom 16 = .ok (.iload_n 2, 1) := by decide +kernel
theorem dX0_changeFrom_17 : decode cX0_changeFrom 17 = .ok (.iastore, 1) := by decide +kernel
theorem dX0_changeFrom_18 : decode cX0_changeFrom 18 = .ok (.aload_n 0, 1) := by decide +kernel
theorem dX0_changeFrom_19 : decode cX0_changeFrom 19 = .ok (.getfield 15, 3) := by decide +kernel
theorem dX0_changeFrom_22 : decode cX0_changeFrom 22 = .ok (.iload 6, 2) := by decide +kernel
theorem dX0_changeFrom_24 : decode cX0_changeFrom 24 = .ok (.iload_n 3, 1) := by decide +kernel
theorem dX0_changeFrom_25 : decode cX0_changeFrom 25 = .ok (.iastore, 1) := by decide +kernel
theorem dX0_changeFrom_26 : decode cX0_changeFrom 26 = .ok (.aload_n 0, 1) := by decide +kernel
theorem dX0_changeFrom_27 : decode cX0_changeFrom 27 = .ok (.getfield 18, 3) := by decide +kernel
theorem dX0_changeFrom_30 : decode cX0_changeFrom 30 = .ok (.iload 6, 2) := by decide +kernel
theorem dX0_changeFrom_32 : decode cX0_changeFrom 32 = .ok (.iload 4, 2) := by decide +kernel
theorem dX0_changeFrom_34 : decode cX0_changeFrom 34 = .ok (.iastore, 1) := by decide +kernel
theorem dX0_changeFrom_35 : decode cX0_changeFrom 35 = .ok (.aload_n 0, 1) := by decide +kernel
theorem dX0_changeFrom_36 : decode cX0_changeFrom 36 = .ok (.getfield 21, 3) := by decide +kernel
theorem dX0_changeFrom_39 : decode cX0_changeFrom 39 = .ok (.iload 6, 2) := by decide +kernel
theorem dX0_changeFrom_41 : decode cX0_changeFrom 41 = .ok (.iload 5, 2) := by decide +kernel
theorem dX0_changeFrom_43 : decode cX0_changeFrom 43 = .ok (.iastore, 1) := by decide +kernel
theorem dX0_changeFrom_44 : decode cX0_changeFrom 44 = .ok (.iinc 6 1, 3) := by decide +kernel
theorem dX0_changeFrom_47 : decode cX0_changeFrom 47 = .ok (.goto (-44), 3) := by decide +kernel
theorem dX0_changeFrom_50 : decode cX0_changeFrom 50 = .ok (.return_, 1) := by decide +kernel
theorem dX0_greatestKeen_0 : decode cX0_greatestKeen 0 = .ok (.iconst 0, 1) := by decide +kernel
theorem dX0_greatestKeen_1 : decode cX0_greatestKeen 1 = .ok (.istore_n 2, 1) := by decide +kernel
theorem dX0_greatestKeen_2 : decode cX0_greatestKeen 2 = .ok (.iconst 0, 1) := by decide +kernel
theorem dX0_greatestKeen_3 : decode cX0_greatestKeen 3 = .ok (.istore_n 3, 1) := by decide +kernel
theorem dX0_greatestKeen_4 : decode cX0_greatestKeen 4 = .ok (.iload_n 3, 1) := by decide +kernel
theorem dX0_greatestKeen_5 : decode cX0_greatestKeen 5 = .ok (.bipush 8, 2) := by decide +kernel
theorem dX0_greatestKeen_7 : decode cX0_greatestKeen 7 = .ok (.if_icmp .ge 38, 3) := by decide +kernel
theorem dX0_greatestKeen_10 : decode cX0_greatestKeen 10 = .ok (.iload_n 1, 1) := by decide +kernel
theorem dX0_greatestKeen_11 : decode cX0_greatestKeen 11 = .ok (.iload_n 3, 1) := by decide +kernel
theorem dX0_greatestKeen_12 : decode cX0_greatestKeen 12 = .ok (.ishr, 1) := by decide +kernel
theorem dX0_greatestKeen_13 : decode cX0_greatestKeen 13 = .ok (.iconst 1, 1) := by decide +kernel
theorem dX0_greatestKeen_14 : decode cX0_greatestKeen 14 = .ok (.iand, 1) := by decide +kernel
theorem dX0_greatestKeen_15 : decode cX0_greatestKeen 15 = .ok (.iconst 1, 1) := by decide +kernel
theorem dX0_greatestKeen_16 : decode cX0_greatestKeen 16 = .ok (.if_icmp .ne 23, 3) := by decide +kernel
theorem dX0_greatestKeen_19 : decode cX0_greatestKeen 19 = .ok (.aload_n 0, 1) := by decide +kernel
theorem dX0_greatestKeen_20 : decode cX0_greatestKeen 20 = .ok (.getfield 15, 3) := by decide +kernel
theorem dX0_greatestKeen_23 : decode cX0_greatestKeen 23 = .ok (.iload_n 3, 1) := by decide +kernel
theorem dX0_greatestKeen_24 : decode cX0_greatestKeen 24 = .ok (.iaload, 1) := by decide +kernel
theorem dX0_greatestKeen_25 : decode cX0_greatestKeen 25 = .ok (.ifCond .le 14, 3) := by decide +kernel
theorem dX0_greatestKeen_28 : decode cX0_greatestKeen 28 = .ok (.iload_n 2, 1) := by decide +kernel
theorem dX0_greatestKeen_29 : decode cX0_greatestKeen 29 = .ok (.aload_n 0, 1) := by decide +kernel
theorem dX0_greatestKeen_30 : decode cX0_greatestKeen 30 = .ok (.getfield 18, 3) := by decide +kernel
theorem dX0_greatestKeen_33 : decode cX0_greatestKeen 33 = .ok (.iload_n 3, 1) := by decide +kernel
theorem dX0_greatestKeen_34 : decode cX0_greatestKeen 34 = .ok (.iaload, 1) := by decide +kernel
theorem dX0_greatestKeen_35 : decode cX0_greatestKeen 35 = .ok (.invokestatic 30, 3) := by decide +kernel
theorem dX0_greatestKeen_38 : decode cX0_greatestKeen 38 = .ok (.istore_n 2, 1) := by decide +kernel
theorem dX0_greatestKeen_39 : decode cX0_greatestKeen 39 = .ok (.iinc 3 1, 3) := by decide +kernel
theorem dX0_greatestKeen_42 : decode cX0_greatestKeen 42 = .ok (.goto (-38), 3) := by decide +kernel
theorem dX0_greatestKeen_45 : decode cX0_greatestKeen 45 = .ok (.iload_n 2, 1) := by decide +kernel
theorem dX0_greatestKeen_46 : decode cX0_greatestKeen 46 = .ok (.ireturn, 1) := by decide +kernel
theorem dX1_init_0 : decode cX1_init 0 = .ok (.aload_n 0, 1) := by decide +kernel
theorem dX1_init_1 : decode cX1_init 1 = .ok (.invokespecial 3, 3) := by decide +kernel
theorem dX1_init_4 : decode cX1_init 4 = .ok (.aload_n 0, 1) := by decide +kernel
theorem dX1_init_5 : decode cX1_init 5 = .ok (.bipush 24, 2) := by decide +kernel
theorem dX1_init_7 : decode cX1_init 7 = .ok (.newarray .int, 2) := by decide +kernel
theorem dX1_init_9 : decode cX1_init 9 = .ok (.putfield 9, 3) := by decide +kernel
theorem dX1_init_12 : decode cX1_init 12 = .ok (.aload_n 0, 1) := by decide +kernel
theorem dX1_init_13 : decode cX1_init 13 = .ok (.bipush 24, 2) := by decide +kernel
theorem dX1_init_15 : decode cX1_init 15 = .ok (.newarray .int, 2) := by decide +kernel
theorem dX1_init_17 : decode cX1_init 17 = .ok (.putfield 15, 3) := by decide +kernel
theorem dX1_init_20 : decode cX1_init 20 = .ok (.aload_n 0, 1) := by decide +kernel
theorem dX1_init_21 : decode cX1_init 21 = .ok (.bipush 24, 2) := by decide +kernel
theorem dX1_init_23 : decode cX1_init 23 = .ok (.newarray .int, 2) := by decide +kernel
theorem dX1_init_25 : decode cX1_init 25 = .ok (.putfield 18, 3) := by decide +kernel
theorem dX1_init_28 : decode cX1_init 28 = .ok (.return_, 1) := by decide +kernel
set_option maxRecDepth 20000 in
theorem ggX1_gather_X5_isInBook : GoodIn wsX1_gather wsX5_isInBook := goodIn_r _ [9, 10, 11, 12, 13, 14, 8, 15, 16, 17, 18, 19, 20, 21, 22, 23, 24, 25, 51, 52, 53, 54, 55, 56, 57, 58, 59, 60, 66, 67, 68, 69, 61, 62, 63, 64, 65] (by decide +kernel) (by decide +kernel)
set_option maxRecDepth 20000 in
theorem gX1_gather_X5_isInBook : GoodIn wsX1_gather (wsV RX1 37 RX5 yX5_isInBook wsX5_isInBook) := goodIn_app (goodIn_of _ (by decide +kernel)) ggX1_gather_X5_isInBook
set_option maxRecDepth 20000 in
theorem ggX1_gather_X5_sworn : GoodIn wsX1_gather wsX5_sworn := goodIn_r _ [15, 10, 16, 17, 18, 19, 20, 8, 21, 22, 23, 24, 25, 51, 52, 53, 54, 55, 56, 57, 58, 59, 60, 66, 67, 68, 69, 61, 62, 63, 64, 65] (by decide +kernel) (by decide +kernel)
set_option maxRecDepth 20000 in
theorem gX1_gather_X5_sworn : GoodIn wsX1_gather (wsV RX1 41 RX5 yX5_sworn wsX5_sworn) := goodIn_app (goodIn_of _ (by decide +kernel)) ggX1_gather_X5_sworn
set_option maxRecDepth 20000 in
theorem ggX1_gather_X5_weight : GoodIn wsX1_gather wsX5_weight := goodIn_r _ [30, 31, 32, 23, 33, 34, 35, 36, 8, 37, 38, 12, 13, 14, 15, 10, 16, 17, 18, 19, 20, 21, 22, 24, 25, 51, 52, 53, 54, 55, 56, 57, 58, 59, 60, 61, 62, 63, 64, 65, 66, 67, 68, 69] (by decide +kernel) (by decide +kernel)
set_option maxRecDepth 20000 in
theorem gX1_gather_X5_weight : GoodIn wsX1_gather (wsV RX1 44 RX5 yX5_weight wsX5_weight) := goodIn_app (goodIn_of _ (by decide +kernel)) ggX1_gather_X5_weight
set_option maxRecDepth 20000 in
theorem ggX1_gather_X1_insert : GoodIn wsX1_gather wsX1_insert := goodIn_r _ [43, 1, 44, 45, 46, 47, 48, 49, 50] (by decide +kernel) (by decide +kernel)
set_option maxRecDepth 20000 in
theorem gX1_gather_X1_insert : GoodIn wsX1_gather (wsV RX1 46 RX1 yX1_insert wsX1_insert) := goodIn_app (goodIn_of _ (by decide +kernel)) ggX1_gather_X1_insert
theorem dX1_gather_0 : decode cX1_gather 0 = .ok (.aload_n 0, 1) := by decide +kernel
theorem dX1_gather_1 : decode cX1_gather 1 = .ok (.iconst 0, 1) := by decide +kernel
theorem dX1_gather_2 : decode cX1_gather 2 = .ok (.putfield 21, 3) := by decide +kernel
theorem dX1_gather_5 : decode cX1_gather 5 = .ok (.iconst 0, 1) := by decide +kernel
theorem dX1_gather_6 : decode cX1_gather 6 = .ok (.istore 4, 2) := by decide +kernel
theorem dX1_gather_8 : decode cX1_gather 8 = .ok (.iload 4, 2) := by decide +kernel
theorem dX1_gather_10 : decode cX1_gather 10 = .ok (.aload_n 1, 1) := by decide +kernel
theorem dX1_gather_11 : decode cX1_gather 11 = .ok (.getfield 25, 3) := by decide +kernel
theorem dX1_gather_14 : decode cX1_gather 14 = .ok (.getfield 31, 3) := by decide +kernel
theorem dX1_gather_17 : decode cX1_gather 17 = .ok (.if_icmp .ge 53, 3) := by decide +kernel
theorem dX1_gather_20 : decode cX1_gather 20 = .ok (.aload_n 1, 1) := by decide +kernel
theorem dX1_gather_21 : decode cX1_gather 21 = .ok (.getfield 25, 3) := by decide +kernel
theorem dX1_gather_24 : decode cX1_gather 24 = .ok (.getfield 34, 3) := by decide +kernel
theorem dX1_gather_27 : decode cX1_gather 27 = .ok (.iload 4, 2) := by decide +kernel
theorem dX1_gather_29 : decode cX1_gather 29 = .ok (.iaload, 1) := by decide +kernel
theorem dX1_gather_30 : decode cX1_gather 30 = .ok (.iload_n 2, 1) := by decide +kernel
theorem dX1_gather_31 : decode cX1_gather 31 = .ok (.if_icmp .ne 33, 3) := by decide +kernel
theorem dX1_gather_34 : decode cX1_gather 34 = .ok (.aload_n 1, 1) := by decide +kernel
theorem dX1_gather_35 : decode cX1_gather 35 = .ok (.iload 4, 2) := by decide +kernel
theorem dX1_gather_37 : decode cX1_gather 37 = .ok (.iload_n 3, 1) := by decide +kernel
theorem dX1_gather_38 : decode cX1_gather 38 = .ok (.invokevirtual 37, 3) := by decide +kernel
theorem dX1_gather_41 : decode cX1_gather 41 = .ok (.ifCond .eq 23, 3) := by decide +kernel
theorem dX1_gather_44 : decode cX1_gather 44 = .ok (.aload_n 0, 1) := by decide +kernel
theorem dX1_gather_45 : decode cX1_gather 45 = .ok (.iload 4, 2) := by decide +kernel
theorem dX1_gather_47 : decode cX1_gather 47 = .ok (.aload_n 1, 1) := by decide +kernel
theorem dX1_gather_48 : decode cX1_gather 48 = .ok (.iload 4, 2) := by decide +kernel
theorem dX1_gather_50 : decode cX1_gather 50 = .ok (.iload_n 3, 1) := by decide +kernel
theorem dX1_gather_51 : decode cX1_gather 51 = .ok (.invokevirtual 41, 3) := by decide +kernel
theorem dX1_gather_54 : decode cX1_gather 54 = .ok (.aload_n 1, 1) := by decide +kernel
theorem dX1_gather_55 : decode cX1_gather 55 = .ok (.iload 4, 2) := by decide +kernel
theorem dX1_gather_57 : decode cX1_gather 57 = .ok (.iload_n 3, 1) := by decide +kernel
theorem dX1_gather_58 : decode cX1_gather 58 = .ok (.invokevirtual 44, 3) := by decide +kernel
theorem dX1_gather_61 : decode cX1_gather 61 = .ok (.invokevirtual 46, 3) := by decide +kernel
theorem dX1_gather_64 : decode cX1_gather 64 = .ok (.iinc 4 1, 3) := by decide +kernel
theorem dX1_gather_67 : decode cX1_gather 67 = .ok (.goto (-59), 3) := by decide +kernel
theorem dX1_gather_70 : decode cX1_gather 70 = .ok (.return_, 1) := by decide +kernel
theorem dX1_insert_0 : decode cX1_insert 0 = .ok (.aload_n 0, 1) := by decide +kernel
theorem dX1_insert_1 : decode cX1_insert 1 = .ok (.getfield 21, 3) := by decide +kernel
theorem dX1_insert_4 : decode cX1_insert 4 = .ok (.bipush 24, 2) := by decide +kernel
theorem dX1_insert_6 : decode cX1_insert 6 = .ok (.if_icmp .lt 4, 3) := by decide +kernel
theorem dX1_insert_9 : decode cX1_insert 9 = .ok (.return_, 1) := by decide +kernel
theorem dX1_insert_10 : decode cX1_insert 10 = .ok (.aload_n 0, 1) := by decide +kernel
theorem dX1_insert_11 : decode cX1_insert 11 = .ok (.getfield 21, 3) := by decide +kernel
theorem dX1_insert_14 : decode cX1_insert 14 = .ok (.istore 4, 2) := by decide +kernel
theorem dX1_insert_16 : decode cX1_insert 16 = .ok (.iload 4, 2) := by decide +kernel
theorem dX1_insert_18 : decode cX1_insert 18 = .ok (.ifCond .le 70, 3) := by decide +kernel
theorem dX1_insert_21 : decode cX1_insert 21 = .ok (.aload_n 0, 1) := by decide +kernel
theorem dX1_insert_22 : decode cX1_insert 22 = .ok (.getfield 15, 3) := by decide +kernel
theorem dX1_insert_25 : decode cX1_insert 25 = .ok (.iload 4, 2) := by decide +kernel
theorem dX1_insert_27 : decode cX1_insert 27 = .ok (.iconst 1, 1) := by decide +kernel
theorem dX1_insert_28 : decode cX1_insert 28 = .ok (.isub, 1) := by decide +kernel
theorem dX1_insert_29 : decode cX1_insert 29 = .ok (.iaload, 1) := by decide +kernel
theorem dX1_insert_30 : decode cX1_insert 30 = .ok (.iload_n 2, 1) := by decide +kernel
theorem dX1_insert_31 : decode cX1_insert 31 = .ok (.if_icmp .ge 57, 3) := by decide +kernel
theorem dX1_insert_34 : decode cX1_insert 34 = .ok (.aload_n 0, 1) := by decide +kernel
theorem dX1_insert_35 : decode cX1_insert 35 = .ok (.getfield 9, 3) := by decide +kernel
theorem dX1_insert_38 : decode cX1_insert 38 = .ok (.iload 4, 2) := by decide +kernel
theorem dX1_insert_40 : decode cX1_insert 40 = .ok (.aload_n 0, 1) := by decide +kernel
theorem dX1_insert_41 : decode cX1_insert 41 = .ok (.getfield 9, 3) := by decide +kernel
theorem dX1_insert_44 : decode cX1_insert 44 = .ok (.iload 4, 2) := by decide +kernel
theorem dX1_insert_46 : decode cX1_insert 46 = .ok (.iconst 1, 1) := by decide +kernel
theorem dX1_insert_47 : decode cX1_insert 47 = .ok (.isub, 1) := by decide +kernel
theorem dX1_insert_48 : decode cX1_insert 48 = .ok (.iaload, 1) := by decide +kernel
theorem dX1_insert_49 : decode cX1_insert 49 = .ok (.iastore, 1) := by decide +kernel
theorem dX1_insert_50 : decode cX1_insert 50 = .ok (.aload_n 0, 1) := by decide +kernel
theorem dX1_insert_51 : decode cX1_insert 51 = .ok (.getfield 15, 3) := by decide +kernel
theorem dX1_insert_54 : decode cX1_insert 54 = .ok (.iload 4, 2) := by decide +kernel
theorem dX1_insert_56 : decode cX1_insert 56 = .ok (.aload_n 0, 1) := by decide +kernel
theorem dX1_insert_57 : decode cX1_insert 57 = .ok (.getfield 15, 3) := by decide +kernel
theorem dX1_insert_60 : decode cX1_insert 60 = .ok (.iload 4, 2) := by decide +kernel
theorem dX1_insert_62 : decode cX1_insert 62 = .ok (.iconst 1, 1) := by decide +kernel
theorem dX1_insert_63 : decode cX1_insert 63 = .ok (.isub, 1) := by decide +kernel
theorem dX1_insert_64 : decode cX1_insert 64 = .ok (.iaload, 1) := by decide +kernel
theorem dX1_insert_65 : decode cX1_insert 65 = .ok (.iastore, 1) := by decide +kernel
theorem dX1_insert_66 : decode cX1_insert 66 = .ok (.aload_n 0, 1) := by decide +kernel
theorem dX1_insert_67 : decode cX1_insert 67 = .ok (.getfield 18, 3) := by decide +kernel
theorem dX1_insert_70 : decode cX1_insert 70 = .ok (.iload 4, 2) := by decide +kernel
theorem dX1_insert_72 : decode cX1_insert 72 = .ok (.aload_n 0, 1) := by decide +kernel
theorem dX1_insert_73 : decode cX1_insert 73 = .ok (.getfield 18, 3) := by decide +kernel
theorem dX1_insert_76 : decode cX1_insert 76 = .ok (.iload 4, 2) := by decide +kernel
theorem dX1_insert_78 : decode cX1_insert 78 = .ok (.iconst 1, 1) := by decide +kernel
theorem dX1_insert_79 : decode cX1_insert 79 = .ok (.isub, 1) := by decide +kernel
theorem dX1_insert_80 : decode cX1_insert 80 = .ok (.iaload, 1) := by decide +kernel
theorem dX1_insert_81 : decode cX1_insert 81 = .ok (.iastore, 1) := by decide +kernel
theorem dX1_insert_82 : decode cX1_insert 82 = .ok (.iinc 4 (-1), 3) := by decide +kernel
theorem dX1_insert_85 : decode cX1_insert 85 = .ok (.goto (-69), 3) := by decide +kernel
theorem dX1_insert_88 : decode cX1_insert 88 = .ok (.aload_n 0, 1) := by decide +kernel
theorem dX1_insert_89 : decode cX1_insert 89 = .ok (.getfield 9, 3) := by decide +kernel
theorem dX1_insert_92 : decode cX1_insert 92 = .ok (.iload 4, 2) := by decide +kernel
theorem dX1_insert_94 : decode cX1_insert 94 = .ok (.iload_n 1, 1) := by decide +kernel
theorem dX1_insert_95 : decode cX1_insert 95 = .ok (.iastore, 1) := by decide +kernel
theorem dX1_insert_96 : decode cX1_insert 96 = .ok (.aload_n 0, 1) := by decide +kernel
theorem dX1_insert_97 : decode cX1_insert 97 = .ok (.getfield 15, 3) := by decide +kernel
theorem dX1_insert_100 : decode cX1_insert 100 = .ok (.iload 4, 2) := by decide +kernel
theorem dX1_insert_102 : decode cX1_insert 102 = .ok (.iload_n 2, 1) := by decide +kernel
theorem dX1_insert_103 : decode cX1_insert 103 = .ok (.iastore, 1) := by decide +kernel
theorem dX1_insert_104 : decode cX1_insert 104 = .ok (.aload_n 0, 1) := by decide +kernel
theorem dX1_insert_105 : decode cX1_insert 105 = .ok (.getfield 18, 3) := by decide +kernel
theorem dX1_insert_108 : decode cX1_insert 108 = .ok (.iload 4, 2) := by decide +kernel
theorem dX1_insert_110 : decode cX1_insert 110 = .ok (.iload_n 3, 1) := by decide +kernel
theorem dX1_insert_111 : decode cX1_insert 111 = .ok (.iastore, 1) := by decide +kernel
theorem dX1_insert_112 : decode cX1_insert 112 = .ok (.aload_n 0, 1) := by decide +kernel
theorem dX1_insert_113 : decode cX1_insert 113 = .ok (.dup, 1) := by decide +kernel
theorem dX1_insert_114 : decode cX1_insert 114 = .ok (.getfield 21, 3) := by decide +kernel
theorem dX1_insert_117 : decode cX1_insert 117 = .ok (.iconst 1, 1) := by decide +kernel
theorem dX1_insert_118 : decode cX1_insert 118 = .ok (.iadd, 1) := by decide +kernel
theorem dX1_insert_119 : decode cX1_insert 119 = .ok (.putfield 21, 3) := by decide +kernel
theorem dX1_insert_122 : decode cX1_insert 122 = .ok (.return_, 1) := by decide +kernel
theorem dX1_sumAll_0 : decode cX1_sumAll 0 = .ok (.lconst 0, 1) := by decide +kernel
theorem dX1_sumAll_1 : decode cX1_sumAll 1 = .ok (.lstore_n 2, 1) := by decide +kernel
theorem dX1_sumAll_2 : decode cX1_sumAll 2 = .ok (.iconst 0, 1) := by decide +kernel
theorem dX1_sumAll_3 : decode cX1_sumAll 3 = .ok (.istore 4, 2) := by decide +kernel
theorem dX1_sumAll_5 : decode cX1_sumAll 5 = .ok (.iload 4, 2) := by decide +kernel
theorem dX1_sumAll_7 : decode cX1_sumAll 7 = .ok (.aload_n 0, 1) := by decide +kernel
theorem dX1_sumAll_8 : decode cX1_sumAll 8 = .ok (.getfield 21, 3) := by decide +kernel
theorem dX1_sumAll_11 : decode cX1_sumAll 11 = .ok (.if_icmp .ge 40, 3) := by decide +kernel
theorem dX1_sumAll_14 : decode cX1_sumAll 14 = .ok (.aload_n 0, 1) := by decide +kernel
theorem dX1_sumAll_15 : decode cX1_sumAll 15 = .ok (.getfield 9, 3) := by decide +kernel
theorem dX1_sumAll_18 : decode cX1_sumAll 18 = .ok (.iload 4, 2) := by decide +kernel
theorem dX1_sumAll_20 : decode cX1_sumAll 20 = .ok (.iaload, 1) := by decide +kernel
theorem dX1_sumAll_21 : decode cX1_sumAll 21 = .ok (.iload_n 1, 1) := by decide +kernel
theorem dX1_sumAll_22 : decode cX1_sumAll 22 = .ok (.if_icmp .eq 23, 3) := by decide +kernel
theorem dX1_sumAll_25 : decode cX1_sumAll 25 = .ok (.lload_n 2, 1) := by decide +kernel
theorem dX1_sumAll_26 : decode cX1_sumAll 26 = .ok (.aload_n 0, 1) := by decide +kernel
theorem dX1_sumAll_27 : decode cX1_sumAll 27 = .ok (.getfield 15, 3) := by decide +kernel
theorem dX1_sumAll_30 : decode cX1_sumAll 30 = .ok (.iload 4, 2) := by decide +kernel
theorem dX1_sumAll_32 : decode cX1_sumAll 32 = .ok (.iaload, 1) := by decide +kernel
theorem dX1_sumAll_33 : decode cX1_sumAll 33 = .ok (.i2l, 1) := by decide +kernel
theorem dX1_sumAll_34 : decode cX1_sumAll 34 = .ok (.aload_n 0, 1) := by decide +kernel
theorem dX1_sumAll_35 : decode cX1_sumAll 35 = .ok (.getfield 18, 3) := by decide +kernel
theorem dX1_sumAll_38 : decode cX1_sumAll 38 = .ok (.iload 4, 2) := by decide +kernel
theorem dX1_sumAll_40 : decode cX1_sumAll 40 = .ok (.iaload, 1) := by decide +kernel
theorem dX1_sumAll_41 : decode cX1_sumAll 41 = .ok (.i2l, 1) := by decide +kernel
theorem dX1_sumAll_42 : decode cX1_sumAll 42 = .ok (.lmul, 1) := by decide +kernel
theorem dX1_sumAll_43 : decode cX1_sumAll 43 = .ok (.ladd, 1) := by decide +kernel
theorem dX1_sumAll_44 : decode cX1_sumAll 44 = .ok (.lstore_n 2, 1) := by decide +kernel
theorem dX1_sumAll_45 : decode cX1_sumAll 45 = .ok (.iinc 4 1, 3) := by decide +kernel
theorem dX1_sumAll_48 : decode cX1_sumAll 48 = .ok (.goto (-43), 3) := by decide +kernel
theorem dX1_sumAll_51 : decode cX1_sumAll 51 = .ok (.lload_n 2, 1) := by decide +kernel
theorem dX1_sumAll_52 : decode cX1_sumAll 52 = .ok (.lreturn, 1) := by decide +kernel
theorem dX1_sumTop_0 : decode cX1_sumTop 0 = .ok (.lconst 0, 1) := by decide +kernel
theorem dX1_sumTop_1 : decode cX1_sumTop 1 = .ok (.lstore 4, 2) := by decide +kernel
theorem dX1_sumTop_3 : decode cX1_sumTop 3 = .ok (.lload_n 1, 1) := by decide +kernel
theorem dX1_sumTop_4 : decode cX1_sumTop 4 = .ok (.lstore 6, 2) := by decide +kernel
theorem dX1_sumTop_6 : decode cX1_sumTop 6 = .ok (.iconst 0, 1) := by decide +kernel
theorem dX1_sumTop_7 : decode cX1_sumTop 7 = .ok (.istore 8, 2) := by decide +kernel
theorem dX1_sumTop_9 : decode cX1_sumTop 9 = .ok (.iload 8, 2) := by decide +kernel
theorem dX1_sumTop_11 : decode cX1_sumTop 11 = .ok (.aload_n 0, 1) := by decide +kernel
theorem dX1_sumTop_12 : decode cX1_sumTop 12 = .ok (.getfield 21, 3) := by decide +kernel
theorem dX1_sumTop_15 : decode cX1_sumTop 15 = .ok (.if_icmp .ge 62, 3) := by decide +kernel
theorem dX1_sumTop_18 : decode cX1_sumTop 18 = .ok (.aload_n 0, 1) := by decide +kernel
theorem dX1_sumTop_19 : decode cX1_sumTop 19 = .ok (.getfield 9, 3) := by decide +kernel
theorem dX1_sumTop_22 : decode cX1_sumTop 22 = .ok (.iload 8, 2) := by decide +kernel
theorem dX1_sumTop_24 : decode cX1_sumTop 24 = .ok (.iaload, 1) := by decide +kernel
theorem dX1_sumTop_25 : decode cX1_sumTop 25 = .ok (.iload_n 3, 1) := by decide +kernel
theorem dX1_sumTop_26 : decode cX1_sumTop 26 = .ok (.if_icmp .eq 45, 3) := by decide +kernel
theorem dX1_sumTop_29 : decode cX1_sumTop 29 = .ok (.ldc2_w 50, 3) := by decide +kernel
theorem dX1_sumTop_32 : decode cX1_sumTop 32 = .ok (.aload_n 0, 1) := by decide +kernel
theorem dX1_sumTop_33 : decode cX1_sumTop 33 = .ok (.getfield 18, 3) := by decide +kernel
theorem dX1_sumTop_36 : decode cX1_sumTop 36 = .ok (.iload 8, 2) := by decide +kernel
theorem dX1_sumTop_38 : decode cX1_sumTop 38 = .ok (.iaload, 1) := by decide +kernel
theorem dX1_sumTop_39 : decode cX1_sumTop 39 = .ok (.i2l, 1) := by decide +kernel
theorem dX1_sumTop_40 : decode cX1_sumTop 40 = .ok (.lmul, 1) := by decide +kernel
theorem dX1_sumTop_41 : decode cX1_sumTop 41 = .ok (.lload 6, 2) := by decide +kernel
theorem dX1_sumTop_43 : decode cX1_sumTop 43 = .ok (.invokestatic 52, 3) := by decide +kernel
theorem dX1_sumTop_46 : decode cX1_sumTop 46 = .ok (.lstore 9, 2) := by decide +kernel
theorem dX1_sumTop_48 : decode cX1_sumTop 48 = .ok (.lload 4, 2) := by decide +kernel
theorem dX1_sumTop_50 : decode cX1_sumTop 50 = .ok (.aload_n 0, 1) := by decide +kernel
theorem dX1_sumTop_51 : decode cX1_sumTop 51 = .ok (.getfield 15, 3) := by decide +kernel
theorem dX1_sumTop_54 : decode cX1_sumTop 54 = .ok (.iload 8, 2) := by decide +kernel
theorem dX1_sumTop_56 : decode cX1_sumTop 56 = .ok (.iaload, 1) := by decide +kernel
theorem dX1_sumTop_57 : decode cX1_sumTop 57 = .ok (.i2l, 1) := by decide +kernel
theorem dX1_sumTop_58 : decode cX1_sumTop 58 = .ok (.lload 9, 2) := by decide +kernel
theorem dX1_sumTop_60 : decode cX1_sumTop 60 = .ok (.lmul, 1) := by decide +kernel
theorem dX1_sumTop_61 : decode cX1_sumTop 61 = .ok (.ladd, 1) := by decide +kernel
theorem dX1_sumTop_62 : decode cX1_sumTop 62 = .ok (.lstore 4, 2) := by decide +kernel
theorem dX1_sumTop_64 : decode cX1_sumTop 64 = .ok (.lload 6, 2) := by decide +kernel
theorem dX1_sumTop_66 : decode cX1_sumTop 66 = .ok (.lload 9, 2) := by decide +kernel
theorem dX1_sumTop_68 : decode cX1_sumTop 68 = .ok (.lsub, 1) := by decide +kernel
theorem dX1_sumTop_69 : decode cX1_sumTop 69 = .ok (.lstore 6, 2) := by decide +kernel
theorem dX1_sumTop_71 : decode cX1_sumTop 71 = .ok (.iinc 8 1, 3) := by decide +kernel
theorem dX1_sumTop_74 : decode cX1_sumTop 74 = .ok (.goto (-65), 3) := by decide +kernel
theorem dX1_sumTop_77 : decode cX1_sumTop 77 = .ok (.lload 4, 2) := by decide +kernel
theorem dX1_sumTop_79 : decode cX1_sumTop 79 = .ok (.lreturn, 1) := by decide +kernel
set_option maxRecDepth 20000 in
theorem ggX1_partsOfTop_X1_sumAll : GoodIn wsX1_partsOfTop wsX1_sumAll := goodIn_r _ [5, 6, 7, 8, 9, 26, 27, 28, 29] (by decide +kernel) (by decide +kernel)
set_option maxRecDepth 20000 in
theorem gX1_partsOfTop_X1_sumAll : GoodIn wsX1_partsOfTop (wsV RX1 58 RX1 yX1_sumAll wsX1_sumAll) := goodIn_app (goodIn_of _ (by decide +kernel)) ggX1_partsOfTop_X1_sumAll
set_option maxRecDepth 20000 in
theorem ggX1_partsOfTop_X1_sumTop : GoodIn wsX1_partsOfTop wsX1_sumTop := goodIn_r _ [13, 6, 7, 14, 9, 15, 16, 17, 18, 8, 26, 27, 28, 29] (by decide +kernel) (by decide +kernel)
set_option maxRecDepth 20000 in
theorem gX1_partsOfTop_X1_sumTop : GoodIn wsX1_partsOfTop (wsV RX1 62 RX1 yX1_sumTop wsX1_sumTop) := goodIn_app (goodIn_of _ (by decide +kernel)) ggX1_partsOfTop_X1_sumTop
set_option maxRecDepth 20000 in
theorem ggX1_partsOfTop_X6_parts : GoodIn wsX1_partsOfTop wsX6_parts := goodIn_r _ [21, 22, 23, 24, 20, 25] (by decide +kernel) (by decide +kernel)
set_option maxRecDepth 20000 in
theorem gX1_partsOfTop_X6_parts_n66 : GoodIn wsX1_partsOfTop (wsX6_parts) := ggX1_partsOfTop_X6_parts
theorem dX1_partsOfTop_0 : decode cX1_partsOfTop 0 = .ok (.aload_n 0, 1) := by decide +kernel
theorem dX1_partsOfTop_1 : decode cX1_partsOfTop 1 = .ok (.iload_n 3, 1) := by decide +kernel
theorem dX1_partsOfTop_2 : decode cX1_partsOfTop 2 = .ok (.invokevirtual 58, 3) := by decide +kernel
theorem dX1_partsOfTop_5 : decode cX1_partsOfTop 5 = .ok (.lstore 4, 2) := by decide +kernel
theorem dX1_partsOfTop_7 : decode cX1_partsOfTop 7 = .ok (.lload 4, 2) := by decide +kernel
theorem dX1_partsOfTop_9 : decode cX1_partsOfTop 9 = .ok (.lconst 0, 1) := by decide +kernel
theorem dX1_partsOfTop_10 : decode cX1_partsOfTop 10 = .ok (.lcmp, 1) := by decide +kernel
theorem dX1_partsOfTop_11 : decode cX1_partsOfTop 11 = .ok (.ifCond .ne 8, 3) := by decide +kernel
theorem dX1_partsOfTop_14 : decode cX1_partsOfTop 14 = .ok (.bipush (-4), 2) := by decide +kernel
theorem dX1_partsOfTop_16 : decode cX1_partsOfTop 16 = .ok (.goto 14, 3) := by decide +kernel
theorem dX1_partsOfTop_19 : decode cX1_partsOfTop 19 = .ok (.aload_n 0, 1) := by decide +kernel
theorem dX1_partsOfTop_20 : decode cX1_partsOfTop 20 = .ok (.lload_n 1, 1) := by decide +kernel
theorem dX1_partsOfTop_21 : decode cX1_partsOfTop 21 = .ok (.iload_n 3, 1) := by decide +kernel
theorem dX1_partsOfTop_22 : decode cX1_partsOfTop 22 = .ok (.invokevirtual 62, 3) := by decide +kernel
theorem dX1_partsOfTop_25 : decode cX1_partsOfTop 25 = .ok (.lload 4, 2) := by decide +kernel
theorem dX1_partsOfTop_27 : decode cX1_partsOfTop 27 = .ok (.invokestatic 66, 3) := by decide +kernel
theorem dX1_partsOfTop_30 : decode cX1_partsOfTop 30 = .ok (.ireturn, 1) := by decide +kernel
theorem dX2_init_0 : decode cX2_init 0 = .ok (.aload_n 0, 1) := by decide +kernel
theorem dX2_init_1 : decode cX2_init 1 = .ok (.invokespecial 3, 3) := by decide +kernel
theorem dX2_init_4 : decode cX2_init 4 = .ok (.aload_n 0, 1) := by decide +kernel
theorem dX2_init_5 : decode cX2_init 5 = .ok (.iconst 4, 1) := by decide +kernel
theorem dX2_init_6 : decode cX2_init 6 = .ok (.newarray .int, 2) := by decide +kernel
theorem dX2_init_8 : decode cX2_init 8 = .ok (.putfield 9, 3) := by decide +kernel
theorem dX2_init_11 : decode cX2_init 11 = .ok (.aload_n 0, 1) := by decide +kernel
theorem dX2_init_12 : decode cX2_init 12 = .ok (.iconst 4, 1) := by decide +kernel
theorem dX2_init_13 : decode cX2_init 13 = .ok (.newarray .int, 2) := by decide +kernel
theorem dX2_init_15 : decode cX2_init 15 = .ok (.putfield 15, 3) := by decide +kernel
theorem dX2_init_18 : decode cX2_init 18 = .ok (.aload_n 0, 1) := by decide +kernel
theorem dX2_init_19 : decode cX2_init 19 = .ok (.bipush 96, 2) := by decide +kernel
theorem dX2_init_21 : decode cX2_init 21 = .ok (.newarray .int, 2) := by decide +kernel
theorem dX2_init_23 : decode cX2_init 23 = .ok (.putfield 18, 3) := by decide +kernel
theorem dX2_init_26 : decode cX2_init 26 = .ok (.iconst 0, 1) := by decide +kernel
theorem dX2_init_27 : decode cX2_init 27 = .ok (.istore_n 1, 1) := by decide +kernel
theorem dX2_init_28 : decode cX2_init 28 = .ok (.iload_n 1, 1) := by decide +kernel
theorem dX2_init_29 : decode cX2_init 29 = .ok (.iconst 4, 1) := by decide +kernel
theorem dX2_init_30 : decode cX2_init 30 = .ok (.if_icmp .ge 16, 3) := by decide +kernel
theorem dX2_init_33 : decode cX2_init 33 = .ok (.aload_n 0, 1) := by decide +kernel
theorem dX2_init_34 : decode cX2_init 34 = .ok (.getfield 9, 3) := by decide +kernel
theorem dX2_init_37 : decode cX2_init 37 = .ok (.iload_n 1, 1) := by decide +kernel
theorem dX2_init_38 : decode cX2_init 38 = .ok (.iconst (-1), 1) := by decide +kernel
theorem dX2_init_39 : decode cX2_init 39 = .ok (.iastore, 1) := by decide +kernel
theorem dX2_init_40 : decode cX2_init 40 = .ok (.iinc 1 1, 3) := by decide +kernel
theorem dX2_init_43 : decode cX2_init 43 = .ok (.goto (-15), 3) := by decide +kernel
theorem dX2_init_46 : decode cX2_init 46 = .ok (.return_, 1) := by decide +kernel
theorem dX2_holdsRow_0 : decode cX2_holdsRow 0 = .ok (.aload_n 0, 1) := by decide +kernel
theorem dX2_holdsRow_1 : decode cX2_holdsRow 1 = .ok (.getfield 9, 3) := by decide +kernel
theorem dX2_holdsRow_4 : decode cX2_holdsRow 4 = .ok (.iload_n 1, 1) := by decide +kernel
theorem dX2_holdsRow_5 : decode cX2_holdsRow 5 = .ok (.iaload, 1) := by decide +kernel
theorem dX2_holdsRow_6 : decode cX2_holdsRow 6 = .ok (.iconst (-1), 1) := by decide +kernel
theorem dX2_holdsRow_7 : decode cX2_holdsRow 7 = .ok (.if_icmp .eq 7, 3) := by decide +kernel
theorem dX2_holdsRow_10 : decode cX2_holdsRow 10 = .ok (.iconst 1, 1) := by decide +kernel
theorem dX2_holdsRow_11 : decode cX2_holdsRow 11 = .ok (.goto 4, 3) := by decide +kernel
theorem dX2_holdsRow_14 : decode cX2_holdsRow 14 = .ok (.iconst 0, 1) := by decide +kernel
theorem dX2_holdsRow_15 : decode cX2_holdsRow 15 = .ok (.ireturn, 1) := by decide +kernel
theorem dX2_hold_0 : decode cX2_hold 0 = .ok (.aload_n 0, 1) := by decide +kernel
theorem dX2_hold_1 : decode cX2_hold 1 = .ok (.getfield 9, 3) := by decide +kernel
theorem dX2_hold_4 : decode cX2_hold 4 = .ok (.iload_n 1, 1) := by decide +kernel
theorem dX2_hold_5 : decode cX2_hold 5 = .ok (.iload_n 2, 1) := by decide +kernel
theorem dX2_hold_6 : decode cX2_hold 6 = .ok (.iastore, 1) := by decide +kernel
theorem dX2_hold_7 : decode cX2_hold 7 = .ok (.aload_n 0, 1) := by decide +kernel
theorem dX2_hold_8 : decode cX2_hold 8 = .ok (.getfield 15, 3) := by decide +kernel
theorem dX2_hold_11 : decode cX2_hold 11 = .ok (.iload_n 1, 1) := by decide +kernel
theorem dX2_hold_12 : decode cX2_hold 12 = .ok (.iload_n 3, 1) := by decide +kernel
theorem dX2_hold_13 : decode cX2_hold 13 = .ok (.iastore, 1) := by decide +kernel
theorem dX2_hold_14 : decode cX2_hold 14 = .ok (.iconst 0, 1) := by decide +kernel
theorem dX2_hold_15 : decode cX2_hold 15 = .ok (.istore 4, 2) := by decide +kernel
theorem dX2_hold_17 : decode cX2_hold 17 = .ok (.iload 4, 2) := by decide +kernel
theorem dX2_hold_19 : decode cX2_hold 19 = .ok (.bipush 24, 2) := by decide +kernel
theorem dX2_hold_21 : decode cX2_hold 21 = .ok (.if_icmp .ge 22, 3) := by decide +kernel
theorem dX2_hold_24 : decode cX2_hold 24 = .ok (.aload_n 0, 1) := by decide +kernel
theorem dX2_hold_25 : decode cX2_hold 25 = .ok (.getfield 18, 3) := by decide +kernel
theorem dX2_hold_28 : decode cX2_hold 28 = .ok (.iload_n 1, 1) := by decide +kernel
theorem dX2_hold_29 : decode cX2_hold 29 = .ok (.bipush 24, 2) := by decide +kernel
theorem dX2_hold_31 : decode cX2_hold 31 = .ok (.imul, 1) := by decide +kernel
theorem dX2_hold_32 : decode cX2_hold 32 = .ok (.iload 4, 2) := by decide +kernel
theorem dX2_hold_34 : decode cX2_hold 34 = .ok (.iadd, 1) := by decide +kernel
theorem dX2_hold_35 : decode cX2_hold 35 = .ok (.iconst 0, 1) := by decide +kernel
theorem dX2_hold_36 : decode cX2_hold 36 = .ok (.iastore, 1) := by decide +kernel
theorem dX2_hold_37 : decode cX2_hold 37 = .ok (.iinc 4 1, 3) := by decide +kernel
theorem dX2_hold_40 : decode cX2_hold 40 = .ok (.goto (-23), 3) := by decide +kernel
theorem dX2_hold_43 : decode cX2_hold 43 = .ok (.return_, 1) := by decide +kernel
theorem dX2_holdNothing_0 : decode cX2_holdNothing 0 = .ok (.aload_n 0, 1) := by decide +kernel
theorem dX2_holdNothing_1 : decode cX2_holdNothing 1 = .ok (.getfield 9, 3) := by decide +kernel
theorem dX2_holdNothing_4 : decode cX2_holdNothing 4 = .ok (.iload_n 1, 1) := by decide +kernel
theorem dX2_holdNothing_5 : decode cX2_holdNothing 5 = .ok (.iconst (-1), 1) := by decide +kernel
theorem dX2_holdNothing_6 : decode cX2_holdNothing 6 = .ok (.iastore, 1) := by decide +kernel
theorem dX2_holdNothing_7 : decode cX2_holdNothing 7 = .ok (.aload_n 0, 1) := by decide +kernel
theorem dX2_holdNothing_8 : decode cX2_holdNothing 8 = .ok (.getfield 15, 3) := by decide +kernel
theorem dX2_holdNothing_11 : decode cX2_holdNothing 11 = .ok (.iload_n 1, 1) := by decide +kernel
theorem dX2_holdNothing_12 : decode cX2_holdNothing 12 = .ok (.iconst 0, 1) := by decide +kernel
theorem dX2_holdNothing_13 : decode cX2_holdNothing 13 = .ok (.iastore, 1) := by decide +kernel
theorem dX2_holdNothing_14 : decode cX2_holdNothing 14 = .ok (.return_, 1) := by decide +kernel
theorem dX2_hasItems_0 : decode cX2_hasItems 0 = .ok (.iload_n 2, 1) := by decide +kernel
theorem dX2_hasItems_1 : decode cX2_hasItems 1 = .ok (.ifCond .lt 23, 3) := by decide +kernel
theorem dX2_hasItems_4 : decode cX2_hasItems 4 = .ok (.iload_n 3, 1) := by decide +kernel
theorem dX2_hasItems_5 : decode cX2_hasItems 5 = .ok (.ifCond .lt 19, 3) := by decide +kernel
theorem dX2_hasItems_8 : decode cX2_hasItems 8 = .ok (.iload_n 2, 1) := by decide +kernel
theorem dX2_hasItems_9 : decode cX2_hasItems 9 = .ok (.aload_n 0, 1) := by decide +kernel
theorem dX2_hasItems_10 : decode cX2_hasItems 10 = .ok (.getfield 15, 3) := by decide +kernel
theorem dX2_hasItems_13 : decode cX2_hasItems 13 = .ok (.iload_n 1, 1) := by decide +kernel
theorem dX2_hasItems_14 : decode cX2_hasItems 14 = .ok (.iaload, 1) := by decide +kernel
theorem dX2_hasItems_15 : decode cX2_hasItems 15 = .ok (.iload_n 3, 1) := by decide +kernel
theorem dX2_hasItems_16 : decode cX2_hasItems 16 = .ok (.isub, 1) := by decide +kernel
theorem dX2_hasItems_17 : decode cX2_hasItems 17 = .ok (.if_icmp .gt 7, 3) := by decide +kernel
theorem dX2_hasItems_20 : decode cX2_hasItems 20 = .ok (.iconst 1, 1) := by decide +kernel
theorem dX2_hasItems_21 : decode cX2_hasItems 21 = .ok (.goto 4, 3) := by decide +kernel
theorem dX2_hasItems_24 : decode cX2_hasItems 24 = .ok (.iconst 0, 1) := by decide +kernel
theorem dX2_hasItems_25 : decode cX2_hasItems 25 = .ok (.ireturn, 1) := by decide +kernel
set_option maxRecDepth 20000 in
theorem ggX2_refusal_X2_holdsRow : GoodIn wsX2_refusal wsX2_holdsRow := goodIn_r _ [6, 1, 12, 13, 14] (by decide +kernel) (by decide +kernel)
set_option maxRecDepth 20000 in
theorem gX2_refusal_X2_holdsRow : GoodIn wsX2_refusal (wsV RX2 21 RX2 yX2_holdsRow wsX2_holdsRow) := goodIn_app (goodIn_of _ (by decide +kernel)) ggX2_refusal_X2_holdsRow
set_option maxRecDepth 20000 in
theorem ggX2_refusal_X2_hasItems : GoodIn wsX2_refusal wsX2_hasItems := goodIn_r _ [10, 11, 12, 13, 14] (by decide +kernel) (by decide +kernel)
set_option maxRecDepth 20000 in
theorem gX2_refusal_X2_hasItems : GoodIn wsX2_refusal (wsV RX2 25 RX2 yX2_hasItems wsX2_hasItems) := goodIn_app (goodIn_of _ (by decide +kernel)) ggX2_refusal_X2_hasItems
theorem dX2_refusal_0 : decode cX2_refusal 0 = .ok (.aload_n 0, 1) := by decide +kernel
theorem dX2_refusal_1 : decode cX2_refusal 1 = .ok (.iload_n 1, 1) := by decide +kernel
theorem dX2_refusal_2 : decode cX2_refusal 2 = .ok (.invokevirtual 21, 3) := by decide +kernel
theorem dX2_refusal_5 : decode cX2_refusal 5 = .ok (.ifCond .ne 6, 3) := by decide +kernel
theorem dX2_refusal_8 : decode cX2_refusal 8 = .ok (.bipush (-11), 2) := by decide +kernel
theorem dX2_refusal_10 : decode cX2_refusal 10 = .ok (.ireturn, 1) := by decide +kernel
theorem dX2_refusal_11 : decode cX2_refusal 11 = .ok (.aload_n 0, 1) := by decide +kernel
theorem dX2_refusal_12 : decode cX2_refusal 12 = .ok (.getfield 9, 3) := by decide +kernel
theorem dX2_refusal_15 : decode cX2_refusal 15 = .ok (.iload_n 1, 1) := by decide +kernel
theorem dX2_refusal_16 : decode cX2_refusal 16 = .ok (.iaload, 1) := by decide +kernel
theorem dX2_refusal_17 : decode cX2_refusal 17 = .ok (.iload_n 2, 1) := by decide +kernel
theorem dX2_refusal_18 : decode cX2_refusal 18 = .ok (.if_icmp .eq 6, 3) := by decide +kernel
theorem dX2_refusal_21 : decode cX2_refusal 21 = .ok (.bipush (-12), 2) := by decide +kernel
theorem dX2_refusal_23 : decode cX2_refusal 23 = .ok (.ireturn, 1) := by decide +kernel
theorem dX2_refusal_24 : decode cX2_refusal 24 = .ok (.aload_n 0, 1) := by decide +kernel
theorem dX2_refusal_25 : decode cX2_refusal 25 = .ok (.iload_n 1, 1) := by decide +kernel
theorem dX2_refusal_26 : decode cX2_refusal 26 = .ok (.iload_n 3, 1) := by decide +kernel
theorem dX2_refusal_27 : decode cX2_refusal 27 = .ok (.iload 4, 2) := by decide +kernel
theorem dX2_refusal_29 : decode cX2_refusal 29 = .ok (.invokevirtual 25, 3) := by decide +kernel
theorem dX2_refusal_32 : decode cX2_refusal 32 = .ok (.ifCond .eq 7, 3) := by decide +kernel
theorem dX2_refusal_35 : decode cX2_refusal 35 = .ok (.iconst 0, 1) := by decide +kernel
theorem dX2_refusal_36 : decode cX2_refusal 36 = .ok (.goto 5, 3) := by decide +kernel
theorem dX2_refusal_39 : decode cX2_refusal 39 = .ok (.bipush (-13), 2) := by decide +kernel
theorem dX2_refusal_41 : decode cX2_refusal 41 = .ok (.ireturn, 1) := by decide +kernel
set_option maxRecDepth 20000 in
theorem ggX2_at_X2_hasItems : GoodIn wsX2_at wsX2_hasItems := goodIn_r _ [6, 7, 8, 9, 10] (by decide +kernel) (by decide +kernel)
set_option maxRecDepth 20000 in
theorem gX2_at_X2_hasItems : GoodIn wsX2_at (wsV RX2 25 RX2 yX2_hasItems wsX2_hasItems) := goodIn_app (goodIn_of _ (by decide +kernel)) ggX2_at_X2_hasItems
theorem dX2_at_0 : decode cX2_at 0 = .ok (.aload_n 0, 1) := by decide +kernel
theorem dX2_at_1 : decode cX2_at 1 = .ok (.iload_n 1, 1) := by decide +kernel
theorem dX2_at_2 : decode cX2_at 2 = .ok (.iload_n 2, 1) := by decide +kernel
theorem dX2_at_3 : decode cX2_at 3 = .ok (.iconst 1, 1) := by decide +kernel
theorem dX2_at_4 : decode cX2_at 4 = .ok (.invokevirtual 25, 3) := by decide +kernel
theorem dX2_at_7 : decode cX2_at 7 = .ok (.ifCond .eq 17, 3) := by decide +kernel
theorem dX2_at_10 : decode cX2_at 10 = .ok (.aload_n 0, 1) := by decide +kernel
theorem dX2_at_11 : decode cX2_at 11 = .ok (.getfield 18, 3) := by decide +kernel
theorem dX2_at_14 : decode cX2_at 14 = .ok (.iload_n 1, 1) := by decide +kernel
theorem dX2_at_15 : decode cX2_at 15 = .ok (.bipush 24, 2) := by decide +kernel
theorem dX2_at_17 : decode cX2_at 17 = .ok (.imul, 1) := by decide +kernel
theorem dX2_at_18 : decode cX2_at 18 = .ok (.iload_n 2, 1) := by decide +kernel
theorem dX2_at_19 : decode cX2_at 19 = .ok (.iadd, 1) := by decide +kernel
theorem dX2_at_20 : decode cX2_at 20 = .ok (.iaload, 1) := by decide +kernel
theorem dX2_at_21 : decode cX2_at 21 = .ok (.goto 4, 3) := by decide +kernel
theorem dX2_at_24 : decode cX2_at 24 = .ok (.iconst 0, 1) := by decide +kernel
theorem dX2_at_25 : decode cX2_at 25 = .ok (.ireturn, 1) := by decide +kernel
set_option maxRecDepth 20000 in
theorem ggX2_put_X2_hasItems : GoodIn wsX2_put wsX2_hasItems := goodIn_r _ [7, 8, 12, 13, 14] (by decide +kernel) (by decide +kernel)
set_option maxRecDepth 20000 in
theorem gX2_put_X2_hasItems : GoodIn wsX2_put (wsV RX2 25 RX2 yX2_hasItems wsX2_hasItems) := goodIn_app (goodIn_of _ (by decide +kernel)) ggX2_put_X2_hasItems
set_option maxRecDepth 20000 in
theorem ggX2_put_X2_narrowed : GoodIn wsX2_put wsX2_narrowed := goodIn_r _ [11] (by decide +kernel) (by decide +kernel)
set_option maxRecDepth 20000 in
theorem gX2_put_X2_narrowed : GoodIn wsX2_put (va_wsS RX2 29 yX2_narrowed wsX2_narrowed) := goodIn_app (goodIn_of _ (by decide +kernel)) ggX2_put_X2_narrowed
theorem dX2_put_0 : decode cX2_put 0 = .ok (.aload_n 0, 1) := by decide +kernel
theorem dX2_put_1 : decode cX2_put 1 = .ok (.iload_n 1, 1) := by decide +kernel
theorem dX2_put_2 : decode cX2_put 2 = .ok (.iload_n 2, 1) := by decide +kernel
theorem dX2_put_3 : decode cX2_put 3 = .ok (.iconst 1, 1) := by decide +kernel
theorem dX2_put_4 : decode cX2_put 4 = .ok (.invokevirtual 25, 3) := by decide +kernel
theorem dX2_put_7 : decode cX2_put 7 = .ok (.ifCond .eq 24, 3) := by decide +kernel
theorem dX2_put_10 : decode cX2_put 10 = .ok (.aload_n 0, 1) := by decide +kernel
theorem dX2_put_11 : decode cX2_put 11 = .ok (.getfield 18, 3) := by decide +kernel
theorem dX2_put_14 : decode cX2_put 14 = .ok (.iload_n 1, 1) := by decide +kernel
theorem dX2_put_15 : decode cX2_put 15 = .ok (.bipush 24, 2) := by decide +kernel
theorem dX2_put_17 : decode cX2_put 17 = .ok (.imul, 1) := by decide +kernel
theorem dX2_put_18 : decode cX2_put 18 = .ok (.iload_n 2, 1) := by decide +kernel
theorem dX2_put_19 : decode cX2_put 19 = .ok (.iadd, 1) := by decide +kernel
theorem dX2_put_20 : decode cX2_put 20 = .ok (.aload_n 0, 1) := by decide +kernel
theorem dX2_put_21 : decode cX2_put 21 = .ok (.getfield 9, 3) := by decide +kernel
theorem dX2_put_24 : decode cX2_put 24 = .ok (.iload_n 1, 1) := by decide +kernel
theorem dX2_put_25 : decode cX2_put 25 = .ok (.iaload, 1) := by decide +kernel
theorem dX2_put_26 : decode cX2_put 26 = .ok (.iload_n 3, 1) := by decide +kernel
theorem dX2_put_27 : decode cX2_put 27 = .ok (.invokestatic 29, 3) := by decide +kernel
theorem dX2_put_30 : decode cX2_put 30 = .ok (.iastore, 1) := by decide +kernel
theorem dX2_put_31 : decode cX2_put 31 = .ok (.return_, 1) := by decide +kernel
theorem dX2_narrowed_0 : decode cX2_narrowed 0 = .ok (.iload_n 0, 1) := by decide +kernel
theorem dX2_narrowed_1 : decode cX2_narrowed 1 = .ok (.lookupswitch 33 #[(0, 27), (1, 30)], 27) := by decide +kernel
theorem dX2_narrowed_28 : decode cX2_narrowed 28 = .ok (.iload_n 1, 1) := by decide +kernel
theorem dX2_narrowed_29 : decode cX2_narrowed 29 = .ok (.i2b, 1) := by decide +kernel
theorem dX2_narrowed_30 : decode cX2_narrowed 30 = .ok (.ireturn, 1) := by decide +kernel
theorem dX2_narrowed_31 : decode cX2_narrowed 31 = .ok (.iload_n 1, 1) := by decide +kernel
theorem dX2_narrowed_32 : decode cX2_narrowed 32 = .ok (.i2s, 1) := by decide +kernel
theorem dX2_narrowed_33 : decode cX2_narrowed 33 = .ok (.ireturn, 1) := by decide +kernel
theorem dX2_narrowed_34 : decode cX2_narrowed 34 = .ok (.iload_n 1, 1) := by decide +kernel
theorem dX2_narrowed_35 : decode cX2_narrowed 35 = .ok (.ireturn, 1) := by decide +kernel
theorem dX2_move_0 : decode cX2_move 0 = .ok (.aload_n 0, 1) := by decide +kernel
theorem dX2_move_1 : decode cX2_move 1 = .ok (.getfield 18, 3) := by decide +kernel
theorem dX2_move_4 : decode cX2_move 4 = .ok (.iload_n 1, 1) := by decide +kernel
theorem dX2_move_5 : decode cX2_move 5 = .ok (.bipush 24, 2) := by decide +kernel
theorem dX2_move_7 : decode cX2_move 7 = .ok (.imul, 1) := by decide +kernel
theorem dX2_move_8 : decode cX2_move 8 = .ok (.iload_n 2, 1) := by decide +kernel
theorem dX2_move_9 : decode cX2_move 9 = .ok (.iadd, 1) := by decide +kernel
theorem dX2_move_10 : decode cX2_move 10 = .ok (.aload_n 0, 1) := by decide +kernel
theorem dX2_move_11 : decode cX2_move 11 = .ok (.getfield 18, 3) := by decide +kernel
theorem dX2_move_14 : decode cX2_move 14 = .ok (.iload_n 3, 1) := by decide +kernel
theorem dX2_move_15 : decode cX2_move 15 = .ok (.bipush 24, 2) := by decide +kernel
theorem dX2_move_17 : decode cX2_move 17 = .ok (.imul, 1) := by decide +kernel
theorem dX2_move_18 : decode cX2_move 18 = .ok (.iload 4, 2) := by decide +kernel
theorem dX2_move_20 : decode cX2_move 20 = .ok (.iadd, 1) := by decide +kernel
theorem dX2_move_21 : decode cX2_move 21 = .ok (.iload 5, 2) := by decide +kernel
theorem dX2_move_23 : decode cX2_move 23 = .ok (.invokestatic 33, 3) := by decide +kernel
theorem dX2_move_26 : decode cX2_move 26 = .ok (.return_, 1) := by decide +kernel
theorem dX3_init_0 : decode cX3_init 0 = .ok (.aload_n 0, 1) := by decide +kernel
theorem dX3_init_1 : decode cX3_init 1 = .ok (.invokespecial 3, 3) := by decide +kernel
theorem dX3_init_4 : decode cX3_init 4 = .ok (.aload_n 0, 1) := by decide +kernel
theorem dX3_init_5 : decode cX3_init 5 = .ok (.bipush 100, 2) := by decide +kernel
theorem dX3_init_7 : decode cX3_init 7 = .ok (.newarray .int, 2) := by decide +kernel
theorem dX3_init_9 : decode cX3_init 9 = .ok (.putfield 9, 3) := by decide +kernel
theorem dX3_init_12 : decode cX3_init 12 = .ok (.return_, 1) := by decide +kernel
theorem dX3_hasRoomFor_0 : decode cX3_hasRoomFor 0 = .ok (.iload_n 1, 1) := by decide +kernel
theorem dX3_hasRoomFor_1 : decode cX3_hasRoomFor 1 = .ok (.bipush 100, 2) := by decide +kernel
theorem dX3_hasRoomFor_3 : decode cX3_hasRoomFor 3 = .ok (.aload_n 0, 1) := by decide +kernel
theorem dX3_hasRoomFor_4 : decode cX3_hasRoomFor 4 = .ok (.getfield 15, 3) := by decide +kernel
theorem dX3_hasRoomFor_7 : decode cX3_hasRoomFor 7 = .ok (.isub, 1) := by decide +kernel
theorem dX3_hasRoomFor_8 : decode cX3_hasRoomFor 8 = .ok (.if_icmp .gt 7, 3) := by decide +kernel
theorem dX3_hasRoomFor_11 : decode cX3_hasRoomFor 11 = .ok (.iconst 1, 1) := by decide +kernel
theorem dX3_hasRoomFor_12 : decode cX3_hasRoomFor 12 = .ok (.goto 4, 3) := by decide +kernel
theorem dX3_hasRoomFor_15 : decode cX3_hasRoomFor 15 = .ok (.iconst 0, 1) := by decide +kernel
theorem dX3_hasRoomFor_16 : decode cX3_hasRoomFor 16 = .ok (.ireturn, 1) := by decide +kernel
set_option maxRecDepth 20000 in
theorem ggX3_add_X3_hasRoomFor : GoodIn wsX3_add wsX3_hasRoomFor := goodIn_r _ [7, 2, 8, 9, 10] (by decide +kernel) (by decide +kernel)
set_option maxRecDepth 20000 in
theorem gX3_add_X3_hasRoomFor : GoodIn wsX3_add (wsV RX3 19 RX3 yX3_hasRoomFor wsX3_hasRoomFor) := goodIn_app (goodIn_of _ (by decide +kernel)) ggX3_add_X3_hasRoomFor
theorem dX3_add_0 : decode cX3_add 0 = .ok (.aload_n 0, 1) := by decide +kernel
theorem dX3_add_1 : decode cX3_add 1 = .ok (.iconst 1, 1) := by decide +kernel
theorem dX3_add_2 : decode cX3_add 2 = .ok (.invokevirtual 19, 3) := by decide +kernel
theorem dX3_add_5 : decode cX3_add 5 = .ok (.ifCond .eq 23, 3) := by decide +kernel
theorem dX3_add_8 : decode cX3_add 8 = .ok (.aload_n 0, 1) := by decide +kernel
theorem dX3_add_9 : decode cX3_add 9 = .ok (.getfield 9, 3) := by decide +kernel
theorem dX3_add_12 : decode cX3_add 12 = .ok (.aload_n 0, 1) := by decide +kernel
theorem dX3_add_13 : decode cX3_add 13 = .ok (.getfield 15, 3) := by decide +kernel
theorem dX3_add_16 : decode cX3_add 16 = .ok (.iload_n 1, 1) := by decide +kernel
theorem dX3_add_17 : decode cX3_add 17 = .ok (.iastore, 1) := by decide +kernel
theorem dX3_add_18 : decode cX3_add 18 = .ok (.aload_n 0, 1) := by decide +kernel
theorem dX3_add_19 : decode cX3_add 19 = .ok (.dup, 1) := by decide +kernel
theorem dX3_add_20 : decode cX3_add 20 = .ok (.getfield 15, 3) := by decide +kernel
theorem dX3_add_23 : decode cX3_add 23 = .ok (.iconst 1, 1) := by decide +kernel
theorem dX3_add_24 : decode cX3_add 24 = .ok (.iadd, 1) := by decide +kernel
theorem dX3_add_25 : decode cX3_add 25 = .ok (.putfield 15, 3) := by decide +kernel
theorem dX3_add_28 : decode cX3_add 28 = .ok (.return_, 1) := by decide +kernel
theorem dX3_clear_0 : decode cX3_clear 0 = .ok (.aload_n 0, 1) := by decide +kernel
theorem dX3_clear_1 : decode cX3_clear 1 = .ok (.iconst 0, 1) := by decide +kernel
theorem dX3_clear_2 : decode cX3_clear 2 = .ok (.putfield 15, 3) := by decide +kernel
theorem dX3_clear_5 : decode cX3_clear 5 = .ok (.return_, 1) := by decide +kernel
set_option maxRecDepth 20000 in
theorem ggX3_readLaws_X3_readLaw : GoodIn wsX3_readLaws wsX3_readLaw := goodIn_r _ [6, 7, 8, 9, 10, 5, 11, 1, 12, 13, 14, 15, 16, 17, 18, 19, 20, 21, 22, 23, 24, 25, 26, 27, 28, 29, 30, 31, 32, 33, 34, 35, 36, 37, 38, 39, 40, 41, 42, 43, 44, 45, 46, 47, 52, 53, 54, 55, 56, 57, 58] (by decide +kernel) (by decide +kernel)
set_option maxRecDepth 20000 in
theorem gX3_readLaws_X3_readLaw : GoodIn wsX3_readLaws (wsV RX3 26 RX3 yX3_readLaw wsX3_readLaw) := goodIn_app (goodIn_of _ (by decide +kernel)) ggX3_readLaws_X3_readLaw
set_option maxRecDepth 20000 in
theorem ggX3_readLaws_X3_fault : GoodIn wsX3_readLaws wsX3_fault := goodIn_r _ [51, 1, 52, 53, 54] (by decide +kernel) (by decide +kernel)
set_option maxRecDepth 20000 in
theorem gX3_readLaws_X3_fault : GoodIn wsX3_readLaws (wsV RX3 30 RX3 yX3_fault wsX3_fault) := goodIn_app (goodIn_of _ (by decide +kernel)) ggX3_readLaws_X3_fault
set_option maxRecDepth 20000 in
theorem ggX3_readLaws_X3_next : GoodIn wsX3_readLaws wsX3_next := goodIn_r _ [15, 1, 16, 17, 52, 53, 54] (by decide +kernel) (by decide +kernel)
set_option maxRecDepth 20000 in
theorem gX3_readLaws_X3_next : GoodIn wsX3_readLaws (wsV RX3 34 RX3 yX3_next wsX3_next) := goodIn_app (goodIn_of _ (by decide +kernel)) ggX3_readLaws_X3_next
set_option maxRecDepth 20000 in
theorem ggX3_readLaws_X3_takes : GoodIn wsX3_readLaws wsX3_takes := goodIn_r _ [24, 1, 12, 13, 14, 5, 15, 16, 17, 52, 53, 54] (by decide +kernel) (by decide +kernel)
set_option maxRecDepth 20000 in
theorem gX3_readLaws_X3_takes : GoodIn wsX3_readLaws (wsV RX3 37 RX3 yX3_takes wsX3_takes) := goodIn_app (goodIn_of _ (by decide +kernel)) ggX3_readLaws_X3_takes
theorem dX3_readLaws_0 : decode cX3_readLaws 0 = .ok (.aload_n 0, 1) := by decide +kernel
theorem dX3_readLaws_1 : decode cX3_readLaws 1 = .ok (.iconst 0, 1) := by decide +kernel
theorem dX3_readLaws_2 : decode cX3_readLaws 2 = .ok (.putfield 23, 3) := by decide +kernel
theorem dX3_readLaws_5 : decode cX3_readLaws 5 = .ok (.iconst 1, 1) := by decide +kernel
theorem dX3_readLaws_6 : decode cX3_readLaws 6 = .ok (.istore_n 2, 1) := by decide +kernel
theorem dX3_readLaws_7 : decode cX3_readLaws 7 = .ok (.iload_n 2, 1) := by decide +kernel
theorem dX3_readLaws_8 : decode cX3_readLaws 8 = .ok (.bipush 8, 2) := by decide +kernel
theorem dX3_readLaws_10 : decode cX3_readLaws 10 = .ok (.if_icmp .gt 52, 3) := by decide +kernel
theorem dX3_readLaws_13 : decode cX3_readLaws 13 = .ok (.aload_n 0, 1) := by decide +kernel
theorem dX3_readLaws_14 : decode cX3_readLaws 14 = .ok (.aload_n 1, 1) := by decide +kernel
theorem dX3_readLaws_15 : decode cX3_readLaws 15 = .ok (.invokevirtual 26, 3) := by decide +kernel
theorem dX3_readLaws_18 : decode cX3_readLaws 18 = .ok (.ifCond .ne 8, 3) := by decide +kernel
theorem dX3_readLaws_21 : decode cX3_readLaws 21 = .ok (.aload_n 0, 1) := by decide +kernel
theorem dX3_readLaws_22 : decode cX3_readLaws 22 = .ok (.invokevirtual 30, 3) := by decide +kernel
theorem dX3_readLaws_25 : decode cX3_readLaws 25 = .ok (.ireturn, 1) := by decide +kernel
theorem dX3_readLaws_26 : decode cX3_readLaws 26 = .ok (.aload_n 0, 1) := by decide +kernel
theorem dX3_readLaws_27 : decode cX3_readLaws 27 = .ok (.invokevirtual 34, 3) := by decide +kernel
theorem dX3_readLaws_30 : decode cX3_readLaws 30 = .ok (.iconst (-1), 1) := by decide +kernel
theorem dX3_readLaws_31 : decode cX3_readLaws 31 = .ok (.if_icmp .ne 5, 3) := by decide +kernel
theorem dX3_readLaws_34 : decode cX3_readLaws 34 = .ok (.iload_n 2, 1) := by decide +kernel
theorem dX3_readLaws_35 : decode cX3_readLaws 35 = .ok (.ireturn, 1) := by decide +kernel
theorem dX3_readLaws_36 : decode cX3_readLaws 36 = .ok (.iload_n 2, 1) := by decide +kernel
theorem dX3_readLaws_37 : decode cX3_readLaws 37 = .ok (.bipush 8, 2) := by decide +kernel
theorem dX3_readLaws_39 : decode cX3_readLaws 39 = .ok (.if_icmp .eq 12, 3) := by decide +kernel
theorem dX3_readLaws_42 : decode cX3_readLaws 42 = .ok (.aload_n 0, 1) := by decide +kernel
theorem dX3_readLaws_43 : decode cX3_readLaws 43 = .ok (.bipush 59, 2) := by decide +kernel
theorem dX3_readLaws_45 : decode cX3_readLaws 45 = .ok (.invokevirtual 37, 3) := by decide +kernel
theorem dX3_readLaws_48 : decode cX3_readLaws 48 = .ok (.ifCond .ne 8, 3) := by decide +kernel
theorem dX3_readLaws_51 : decode cX3_readLaws 51 = .ok (.aload_n 0, 1) := by decide +kernel
theorem dX3_readLaws_52 : decode cX3_readLaws 52 = .ok (.invokevirtual 30, 3) := by decide +kernel
theorem dX3_readLaws_55 : decode cX3_readLaws 55 = .ok (.ireturn, 1) := by decide +kernel
theorem dX3_readLaws_56 : decode cX3_readLaws 56 = .ok (.iinc 2 1, 3) := by decide +kernel
theorem dX3_readLaws_59 : decode cX3_readLaws 59 = .ok (.goto (-52), 3) := by decide +kernel
theorem dX3_readLaws_62 : decode cX3_readLaws 62 = .ok (.aload_n 0, 1) := by decide +kernel
theorem dX3_readLaws_63 : decode cX3_readLaws 63 = .ok (.invokevirtual 30, 3) := by decide +kernel
theorem dX3_readLaws_66 : decode cX3_readLaws 66 = .ok (.ireturn, 1) := by decide +kernel
set_option maxRecDepth 20000 in
theorem ggX3_readWills_X3_readWill : GoodIn wsX3_readWills wsX3_readWill := goodIn_r _ [6, 7, 8, 9, 5, 10, 1, 11, 12, 13, 14, 15, 16, 17, 18, 19, 20, 21, 22, 23, 24, 25, 26, 27, 28, 29, 30, 31, 32, 33, 34, 35, 36, 37, 38, 39, 40, 41, 42, 43, 44, 45, 46, 47, 48, 49, 50, 51, 52, 53, 54, 55, 56, 57, 62, 63, 64, 65, 66, 67, 68, 69] (by decide +kernel) (by decide +kernel)
set_option maxRecDepth 20000 in
theorem gX3_readWills_X3_readWill : GoodIn wsX3_readWills (wsV RX3 41 RX3 yX3_readWill wsX3_readWill) := goodIn_app (goodIn_of _ (by decide +kernel)) ggX3_readWills_X3_readWill
set_option maxRecDepth 20000 in
theorem ggX3_readWills_X3_fault : GoodIn wsX3_readWills wsX3_fault := goodIn_r _ [61, 1, 62, 63, 64] (by decide +kernel) (by decide +kernel)
set_option maxRecDepth 20000 in
theorem gX3_readWills_X3_fault : GoodIn wsX3_readWills (wsV RX3 30 RX3 yX3_fault wsX3_fault) := goodIn_app (goodIn_of _ (by decide +kernel)) ggX3_readWills_X3_fault
set_option maxRecDepth 20000 in
theorem ggX3_readWills_X3_next : GoodIn wsX3_readWills wsX3_next := goodIn_r _ [14, 1, 15, 16, 62, 63, 64] (by decide +kernel) (by decide +kernel)
set_option maxRecDepth 20000 in
theorem gX3_readWills_X3_next : GoodIn wsX3_readWills (wsV RX3 34 RX3 yX3_next wsX3_next) := goodIn_app (goodIn_of _ (by decide +kernel)) ggX3_readWills_X3_next
set_option maxRecDepth 20000 in
theorem ggX3_readWills_X3_takes : GoodIn wsX3_readWills wsX3_takes := goodIn_r _ [23, 1, 11, 12, 13, 5, 14, 15, 16, 62, 63, 64] (by decide +kernel) (by decide +kernel)
set_option maxRecDepth 20000 in
theorem gX3_readWills_X3_takes : GoodIn wsX3_readWills (wsV RX3 37 RX3 yX3_takes wsX3_takes) := goodIn_app (goodIn_of _ (by decide +kernel)) ggX3_readWills_X3_takes
theorem dX3_readWills_0 : decode cX3_readWills 0 = .ok (.aload_n 0, 1) := by decide +kernel
theorem dX3_readWills_1 : decode cX3_readWills 1 = .ok (.iconst 0, 1) := by decide +kernel
theorem dX3_readWills_2 : decode cX3_readWills 2 = .ok (.putfield 23, 3) := by decide +kernel
theorem dX3_readWills_5 : decode cX3_readWills 5 = .ok (.iconst 1, 1) := by decide +kernel
theorem dX3_readWills_6 : decode cX3_readWills 6 = .ok (.istore_n 2, 1) := by decide +kernel
theorem dX3_readWills_7 : decode cX3_readWills 7 = .ok (.iload_n 2, 1) := by decide +kernel
theorem dX3_readWills_8 : decode cX3_readWills 8 = .ok (.bipush 8, 2) := by decide +kernel
theorem dX3_readWills_10 : decode cX3_readWills 10 = .ok (.if_icmp .gt 52, 3) := by decide +kernel
theorem dX3_readWills_13 : decode cX3_readWills 13 = .ok (.aload_n 0, 1) := by decide +kernel
theorem dX3_readWills_14 : decode cX3_readWills 14 = .ok (.aload_n 1, 1) := by decide +kernel
theorem dX3_readWills_15 : decode cX3_readWills 15 = .ok (.invokevirtual 41, 3) := by decide +kernel
theorem dX3_readWills_18 : decode cX3_readWills 18 = .ok (.ifCond .ne 8, 3) := by decide +kernel
theorem dX3_readWills_21 : decode cX3_readWills 21 = .ok (.aload_n 0, 1) := by decide +kernel
theorem dX3_readWills_22 : decode cX3_readWills 22 = .ok (.invokevirtual 30, 3) := by decide +kernel
theorem dX3_readWills_25 : decode cX3_readWills 25 = .ok (.ireturn, 1) := by decide +kernel
theorem dX3_readWills_26 : decode cX3_readWills 26 = .ok (.aload_n 0, 1) := by decide +kernel
theorem dX3_readWills_27 : decode cX3_readWills 27 = .ok (.invokevirtual 34, 3) := by decide +kernel
theorem dX3_readWills_30 : decode cX3_readWills 30 = .ok (.iconst (-1), 1) := by decide +kernel
theorem dX3_readWills_31 : decode cX3_readWills 31 = .ok (.if_icmp .ne 5, 3) := by decide +kernel
theorem dX3_readWills_34 : decode cX3_readWills 34 = .ok (.iload_n 2, 1) := by decide +kernel
theorem dX3_readWills_35 : decode cX3_readWills 35 = .ok (.ireturn, 1) := by decide +kernel
theorem dX3_readWills_36 : decode cX3_readWills 36 = .ok (.iload_n 2, 1) := by decide +kernel
theorem dX3_readWills_37 : decode cX3_readWills 37 = .ok (.bipush 8, 2) := by decide +kernel
theorem dX3_readWills_39 : decode cX3_readWills 39 = .ok (.if_icmp .eq 12, 3) := by decide +kernel
theorem dX3_readWills_42 : decode cX3_readWills 42 = .ok (.aload_n 0, 1) := by decide +kernel
theorem dX3_readWills_43 : decode cX3_readWills 43 = .ok (.bipush 59, 2) := by decide +kernel
theorem dX3_readWills_45 : decode cX3_readWills 45 = .ok (.invokevirtual 37, 3) := by decide +kernel
theorem dX3_readWills_48 : decode cX3_readWills 48 = .ok (.ifCond .ne 8, 3) := by decide +kernel
theorem dX3_readWills_51 : decode cX3_readWills 51 = .ok (.aload_n 0, 1) := by decide +kernel
theorem dX3_readWills_52 : decode cX3_readWills 52 = .ok (.invokevirtual 30, 3) := by decide +kernel
theorem dX3_readWills_55 : decode cX3_readWills 55 = .ok (.ireturn, 1) := by decide +kernel
theorem dX3_readWills_56 : decode cX3_readWills 56 = .ok (.iinc 2 1, 3) := by decide +kernel
theorem dX3_readWills_59 : decode cX3_readWills 59 = .ok (.goto (-52), 3) := by decide +kernel
theorem dX3_readWills_62 : decode cX3_readWills 62 = .ok (.aload_n 0, 1) := by decide +kernel
theorem dX3_readWills_63 : decode cX3_readWills 63 = .ok (.invokevirtual 30, 3) := by decide +kernel
theorem dX3_readWills_66 : decode cX3_readWills 66 = .ok (.ireturn, 1) := by decide +kernel
theorem dX3_fault_0 : decode cX3_fault 0 = .ok (.bipush (-20), 2) := by decide +kernel
theorem dX3_fault_2 : decode cX3_fault 2 = .ok (.aload_n 0, 1) := by decide +kernel
theorem dX3_fault_3 : decode cX3_fault 3 = .ok (.getfield 23, 3) := by decide +kernel
theorem dX3_fault_6 : decode cX3_fault 6 = .ok (.isub, 1) := by decide +kernel
theorem dX3_fault_7 : decode cX3_fault 7 = .ok (.ireturn, 1) := by decide +kernel
set_option maxRecDepth 20000 in
theorem ggX3_readLaw_X3_readDigit : GoodIn wsX3_readLaw wsX3_readDigit := goodIn_r _ [6, 7, 8, 9, 10, 5, 11, 12, 13, 14, 15, 16, 44, 45, 46] (by decide +kernel) (by decide +kernel)
set_option maxRecDepth 20000 in
theorem gX3_readLaw_X3_readDigit : GoodIn wsX3_readLaw (wsV RX3 45 RX3 yX3_readDigit wsX3_readDigit) := goodIn_app (goodIn_of _ (by decide +kernel)) ggX3_readLaw_X3_readDigit
set_option maxRecDepth 20000 in
theorem ggX3_readLaw_X3_takes : GoodIn wsX3_readLaw wsX3_takes := goodIn_r _ [20, 7, 8, 9, 10, 5, 11, 12, 13, 44, 45, 46] (by decide +kernel) (by decide +kernel)
set_option maxRecDepth 20000 in
theorem gX3_readLaw_X3_takes : GoodIn wsX3_readLaw (wsV RX3 37 RX3 yX3_takes wsX3_takes) := goodIn_app (goodIn_of _ (by decide +kernel)) ggX3_readLaw_X3_takes
set_option maxRecDepth 20000 in
theorem ggX3_readLaw_X3_readPerhaps : GoodIn wsX3_readLaw wsX3_readPerhaps := goodIn_r _ [24, 17, 18, 19, 5, 20, 7, 8, 9, 10, 11, 12, 13, 25, 26, 27, 28, 29, 30, 31, 32, 33, 34, 14, 15, 16, 44, 45, 46] (by decide +kernel) (by decide +kernel)
set_option maxRecDepth 20000 in
theorem gX3_readLaw_X3_readPerhaps : GoodIn wsX3_readLaw (wsV RX3 49 RX3 yX3_readPerhaps wsX3_readPerhaps) := goodIn_app (goodIn_of _ (by decide +kernel)) ggX3_readLaw_X3_readPerhaps
set_option maxRecDepth 20000 in
theorem ggX3_readLaw_X0_changeFrom : GoodIn wsX3_readLaw wsX0_changeFrom := goodIn_r _ [39, 40, 41, 42, 43, 47, 48, 49, 50] (by decide +kernel) (by decide +kernel)
set_option maxRecDepth 20000 in
theorem gX3_readLaw_X0_changeFrom : GoodIn wsX3_readLaw (wsV RX3 57 RX0 yX0_changeFrom wsX0_changeFrom) := goodIn_app (goodIn_of _ (by decide +kernel)) ggX3_readLaw_X0_changeFrom
theorem dX3_readLaw_0 : decode cX3_readLaw 0 = .ok (.aload_n 0, 1) := by decide +kernel
theorem dX3_readLaw_1 : decode cX3_readLaw 1 = .ok (.bipush 7, 2) := by decide +kernel
theorem dX3_readLaw_3 : decode cX3_readLaw 3 = .ok (.invokevirtual 45, 3) := by decide +kernel
theorem dX3_readLaw_6 : decode cX3_readLaw 6 = .ok (.istore_n 2, 1) := by decide +kernel
theorem dX3_readLaw_7 : decode cX3_readLaw 7 = .ok (.iload_n 2, 1) := by decide +kernel
theorem dX3_readLaw_8 : decode cX3_readLaw 8 = .ok (.iconst (-1), 1) := by decide +kernel
theorem dX3_readLaw_9 : decode cX3_readLaw 9 = .ok (.if_icmp .eq 12, 3) := by decide +kernel
theorem dX3_readLaw_12 : decode cX3_readLaw 12 = .ok (.aload_n 0, 1) := by decide +kernel
theorem dX3_readLaw_13 : decode cX3_readLaw 13 = .ok (.bipush 58, 2) := by decide +kernel
theorem dX3_readLaw_15 : decode cX3_readLaw 15 = .ok (.invokevirtual 37, 3) := by decide +kernel
theorem dX3_readLaw_18 : decode cX3_readLaw 18 = .ok (.ifCond .ne 5, 3) := by decide +kernel
theorem dX3_readLaw_21 : decode cX3_readLaw 21 = .ok (.iconst 0, 1) := by decide +kernel
theorem dX3_readLaw_22 : decode cX3_readLaw 22 = .ok (.ireturn, 1) := by decide +kernel
theorem dX3_readLaw_23 : decode cX3_readLaw 23 = .ok (.aload_n 0, 1) := by decide +kernel
theorem dX3_readLaw_24 : decode cX3_readLaw 24 = .ok (.bipush 102, 2) := by decide +kernel
theorem dX3_readLaw_26 : decode cX3_readLaw 26 = .ok (.sipush 9999, 3) := by decide +kernel
theorem dX3_readLaw_29 : decode cX3_readLaw 29 = .ok (.invokevirtual 49, 3) := by decide +kernel
theorem dX3_readLaw_32 : decode cX3_readLaw 32 = .ok (.istore_n 3, 1) := by decide +kernel
theorem dX3_readLaw_33 : decode cX3_readLaw 33 = .ok (.iload_n 3, 1) := by decide +kernel
theorem dX3_readLaw_34 : decode cX3_readLaw 34 = .ok (.iconst (-1), 1) := by decide +kernel
theorem dX3_readLaw_35 : decode cX3_readLaw 35 = .ok (.if_icmp .ne 5, 3) := by decide +kernel
theorem dX3_readLaw_38 : decode cX3_readLaw 38 = .ok (.iconst 0, 1) := by decide +kernel
theorem dX3_readLaw_39 : decode cX3_readLaw 39 = .ok (.ireturn, 1) := by decide +kernel
theorem dX3_readLaw_40 : decode cX3_readLaw 40 = .ok (.aload_n 0, 1) := by decide +kernel
theorem dX3_readLaw_41 : decode cX3_readLaw 41 = .ok (.bipush 108, 2) := by decide +kernel
theorem dX3_readLaw_43 : decode cX3_readLaw 43 = .ok (.sipush 9999, 3) := by decide +kernel
theorem dX3_readLaw_46 : decode cX3_readLaw 46 = .ok (.invokevirtual 49, 3) := by decide +kernel
theorem dX3_readLaw_49 : decode cX3_readLaw 49 = .ok (.istore 4, 2) := by decide +kernel
theorem dX3_readLaw_51 : decode cX3_readLaw 51 = .ok (.iload 4, 2) := by decide +kernel
theorem dX3_readLaw_53 : decode cX3_readLaw 53 = .ok (.iconst (-1), 1) := by decide +kernel
theorem dX3_readLaw_54 : decode cX3_readLaw 54 = .ok (.if_icmp .ne 5, 3) := by decide +kernel
theorem dX3_readLaw_57 : decode cX3_readLaw 57 = .ok (.iconst 0, 1) := by decide +kernel
theorem dX3_readLaw_58 : decode cX3_readLaw 58 = .ok (.ireturn, 1) := by decide +kernel
theorem dX3_readLaw_59 : decode cX3_readLaw 59 = .ok (.aload_n 0, 1) := by decide +kernel
theorem dX3_readLaw_60 : decode cX3_readLaw 60 = .ok (.bipush 104, 2) := by decide +kernel
theorem dX3_readLaw_62 : decode cX3_readLaw 62 = .ok (.sipush 999, 3) := by decide +kernel
theorem dX3_readLaw_65 : decode cX3_readLaw 65 = .ok (.invokevirtual 49, 3) := by decide +kernel
theorem dX3_readLaw_68 : decode cX3_readLaw 68 = .ok (.istore 5, 2) := by decide +kernel
theorem dX3_readLaw_70 : decode cX3_readLaw 70 = .ok (.iload 5, 2) := by decide +kernel
theorem dX3_readLaw_72 : decode cX3_readLaw 72 = .ok (.iconst (-1), 1) := by decide +kernel
theorem dX3_readLaw_73 : decode cX3_readLaw 73 = .ok (.if_icmp .ne 5, 3) := by decide +kernel
theorem dX3_readLaw_76 : decode cX3_readLaw 76 = .ok (.iconst 0, 1) := by decide +kernel
theorem dX3_readLaw_77 : decode cX3_readLaw 77 = .ok (.ireturn, 1) := by decide +kernel
theorem dX3_readLaw_78 : decode cX3_readLaw 78 = .ok (.iconst 0, 1) := by decide +kernel
theorem dX3_readLaw_79 : decode cX3_readLaw 79 = .ok (.istore 6, 2) := by decide +kernel
theorem dX3_readLaw_81 : decode cX3_readLaw 81 = .ok (.iconst 0, 1) := by decide +kernel
theorem dX3_readLaw_82 : decode cX3_readLaw 82 = .ok (.istore 7, 2) := by decide +kernel
theorem dX3_readLaw_84 : decode cX3_readLaw 84 = .ok (.iload 7, 2) := by decide +kernel
theorem dX3_readLaw_86 : decode cX3_readLaw 86 = .ok (.iconst 4, 1) := by decide +kernel
theorem dX3_readLaw_87 : decode cX3_readLaw 87 = .ok (.if_icmp .ge 31, 3) := by decide +kernel
theorem dX3_readLaw_90 : decode cX3_readLaw 90 = .ok (.aload_n 0, 1) := by decide +kernel
theorem dX3_readLaw_91 : decode cX3_readLaw 91 = .ok (.getstatic 53, 3) := by decide +kernel
theorem dX3_readLaw_94 : decode cX3_readLaw 94 = .ok (.iload 7, 2) := by decide +kernel
theorem dX3_readLaw_96 : decode cX3_readLaw 96 = .ok (.caload, 1) := by decide +kernel
theorem dX3_readLaw_97 : decode cX3_readLaw 97 = .ok (.invokevirtual 37, 3) := by decide +kernel
theorem dX3_readLaw_100 : decode cX3_readLaw 100 = .ok (.ifCond .eq 12, 3) := by decide +kernel
theorem dX3_readLaw_103 : decode cX3_readLaw 103 = .ok (.iload 6, 2) := by decide +kernel
theorem dX3_readLaw_105 : decode cX3_readLaw 105 = .ok (.iconst 1, 1) := by decide +kernel
theorem dX3_readLaw_106 : decode cX3_readLaw 106 = .ok (.iload 7, 2) := by decide +kernel
theorem dX3_readLaw_108 : decode cX3_readLaw 108 = .ok (.ishl, 1) := by decide +kernel
theorem dX3_readLaw_109 : decode cX3_readLaw 109 = .ok (.ior, 1) := by decide +kernel
theorem dX3_readLaw_110 : decode cX3_readLaw 110 = .ok (.istore 6, 2) := by decide +kernel
theorem dX3_readLaw_112 : decode cX3_readLaw 112 = .ok (.iinc 7 1, 3) := by decide +kernel
theorem dX3_readLaw_115 : decode cX3_readLaw 115 = .ok (.goto (-31), 3) := by decide +kernel
theorem dX3_readLaw_118 : decode cX3_readLaw 118 = .ok (.aload_n 1, 1) := by decide +kernel
theorem dX3_readLaw_119 : decode cX3_readLaw 119 = .ok (.iload_n 2, 1) := by decide +kernel
theorem dX3_readLaw_120 : decode cX3_readLaw 120 = .ok (.iload_n 3, 1) := by decide +kernel
theorem dX3_readLaw_121 : decode cX3_readLaw 121 = .ok (.iload 4, 2) := by decide +kernel
theorem dX3_readLaw_123 : decode cX3_readLaw 123 = .ok (.iload 5, 2) := by decide +kernel
theorem dX3_readLaw_125 : decode cX3_readLaw 125 = .ok (.iload 6, 2) := by decide +kernel
theorem dX3_readLaw_127 : decode cX3_readLaw 127 = .ok (.invokevirtual 57, 3) := by decide +kernel
theorem dX3_readLaw_130 : decode cX3_readLaw 130 = .ok (.iconst 1, 1) := by decide +kernel
theorem dX3_readLaw_131 : decode cX3_readLaw 131 = .ok (.ireturn, 1) := by decide +kernel
set_option maxRecDepth 20000 in
theorem ggX3_readWill_X3_readDigit : GoodIn wsX3_readWill wsX3_readDigit := goodIn_r _ [5, 6, 7, 8, 9, 4, 10, 11, 12, 13, 14, 15, 54, 55, 56] (by decide +kernel) (by decide +kernel)
set_option maxRecDepth 20000 in
theorem gX3_readWill_X3_readDigit : GoodIn wsX3_readWill (wsV RX3 45 RX3 yX3_readDigit wsX3_readDigit) := goodIn_app (goodIn_of _ (by decide +kernel)) ggX3_readWill_X3_readDigit
set_option maxRecDepth 20000 in
theorem ggX3_readWill_X3_takes : GoodIn wsX3_readWill wsX3_takes := goodIn_r _ [19, 6, 7, 8, 9, 4, 10, 11, 12, 54, 55, 56] (by decide +kernel) (by decide +kernel)
set_option maxRecDepth 20000 in
theorem gX3_readWill_X3_takes : GoodIn wsX3_readWill (wsV RX3 37 RX3 yX3_takes wsX3_takes) := goodIn_app (goodIn_of _ (by decide +kernel)) ggX3_readWill_X3_takes
set_option maxRecDepth 20000 in
theorem ggX3_readWill_X3_readNumber : GoodIn wsX3_readWill wsX3_readNumber := goodIn_r _ [23, 24, 25, 6, 11, 12, 26, 27, 28, 29, 7, 8, 9, 4, 10, 13, 14, 15, 54, 55, 56] (by decide +kernel) (by decide +kernel)
set_option maxRecDepth 20000 in
theorem gX3_readWill_X3_readNumber : GoodIn wsX3_readWill (wsV RX3 63 RX3 yX3_readNumber wsX3_readNumber) := goodIn_app (goodIn_of _ (by decide +kernel)) ggX3_readWill_X3_readNumber
set_option maxRecDepth 20000 in
theorem ggX3_readWill_X4_add : GoodIn wsX3_readWill wsX4_add := goodIn_r _ [34, 35, 36, 37, 38, 39, 40, 41, 42, 33, 43, 57, 58, 59, 60, 61] (by decide +kernel) (by decide +kernel)
set_option maxRecDepth 20000 in
theorem gX3_readWill_X4_add : GoodIn wsX3_readWill (wsV RX3 66 RX4 yX4_add wsX4_add) := goodIn_app (goodIn_of _ (by decide +kernel)) ggX3_readWill_X4_add
set_option maxRecDepth 20000 in
theorem ggX3_readWill_X3_readThings : GoodIn wsX3_readWill wsX3_readThings := goodIn_r _ [47, 48, 49, 50, 51, 52, 4, 53, 16, 17, 18, 19, 6, 7, 8, 9, 10, 11, 12, 20, 21, 22, 23, 24, 25, 26, 27, 28, 29, 13, 14, 15, 57, 58, 59, 60, 61, 54, 55, 56] (by decide +kernel) (by decide +kernel)
set_option maxRecDepth 20000 in
theorem gX3_readWill_X3_readThings : GoodIn wsX3_readWill (wsV RX3 72 RX3 yX3_readThings wsX3_readThings) := goodIn_app (goodIn_of _ (by decide +kernel)) ggX3_readWill_X3_readThings
theorem dX3_readWill_0 : decode cX3_readWill 0 = .ok (.aload_n 0, 1) := by decide +kernel
theorem dX3_readWill_1 : decode cX3_readWill 1 = .ok (.bipush 7, 2) := by decide +kernel
theorem dX3_readWill_3 : decode cX3_readWill 3 = .ok (.invokevirtual 45, 3) := by decide +kernel
theorem dX3_readWill_6 : decode cX3_readWill 6 = .ok (.istore_n 2, 1) := by decide +kernel
theorem dX3_readWill_7 : decode cX3_readWill 7 = .ok (.iload_n 2, 1) := by decide +kernel
theorem dX3_readWill_8 : decode cX3_readWill 8 = .ok (.iconst (-1), 1) := by decide +kernel
theorem dX3_readWill_9 : decode cX3_readWill 9 = .ok (.if_icmp .ne 5, 3) := by decide +kernel
theorem dX3_readWill_12 : decode cX3_readWill 12 = .ok (.iconst 0, 1) := by decide +kernel
theorem dX3_readWill_13 : decode cX3_readWill 13 = .ok (.ireturn, 1) := by decide +kernel
theorem dX3_readWill_14 : decode cX3_readWill 14 = .ok (.aload_n 0, 1) := by decide +kernel
theorem dX3_readWill_15 : decode cX3_readWill 15 = .ok (.iconst 5, 1) := by decide +kernel
theorem dX3_readWill_16 : decode cX3_readWill 16 = .ok (.invokevirtual 45, 3) := by decide +kernel
theorem dX3_readWill_19 : decode cX3_readWill 19 = .ok (.istore_n 3, 1) := by decide +kernel
theorem dX3_readWill_20 : decode cX3_readWill 20 = .ok (.iload_n 3, 1) := by decide +kernel
theorem dX3_readWill_21 : decode cX3_readWill 21 = .ok (.iconst (-1), 1) := by decide +kernel
theorem dX3_readWill_22 : decode cX3_readWill 22 = .ok (.if_icmp .ne 5, 3) := by decide +kernel
theorem dX3_readWill_25 : decode cX3_readWill 25 = .ok (.iconst 0, 1) := by decide +kernel
theorem dX3_readWill_26 : decode cX3_readWill 26 = .ok (.ireturn, 1) := by decide +kernel
theorem dX3_readWill_27 : decode cX3_readWill 27 = .ok (.aload_n 0, 1) := by decide +kernel
theorem dX3_readWill_28 : decode cX3_readWill 28 = .ok (.bipush 109, 2) := by decide +kernel
theorem dX3_readWill_30 : decode cX3_readWill 30 = .ok (.invokevirtual 37, 3) := by decide +kernel
theorem dX3_readWill_33 : decode cX3_readWill 33 = .ok (.istore 4, 2) := by decide +kernel
theorem dX3_readWill_35 : decode cX3_readWill 35 = .ok (.iload 4, 2) := by decide +kernel
theorem dX3_readWill_37 : decode cX3_readWill 37 = .ok (.ifCond .ne 14, 3) := by decide +kernel
theorem dX3_readWill_40 : decode cX3_readWill 40 = .ok (.aload_n 0, 1) := by decide +kernel
theorem dX3_readWill_41 : decode cX3_readWill 41 = .ok (.bipush 119, 2) := by decide +kernel
theorem dX3_readWill_43 : decode cX3_readWill 43 = .ok (.invokevirtual 37, 3) := by decide +kernel
theorem dX3_readWill_46 : decode cX3_readWill 46 = .ok (.ifCond .ne 5, 3) := by decide +kernel
theorem dX3_readWill_49 : decode cX3_readWill 49 = .ok (.iconst 0, 1) := by decide +kernel
theorem dX3_readWill_50 : decode cX3_readWill 50 = .ok (.ireturn, 1) := by decide +kernel
theorem dX3_readWill_51 : decode cX3_readWill 51 = .ok (.aload_n 0, 1) := by decide +kernel
theorem dX3_readWill_52 : decode cX3_readWill 52 = .ok (.sipush 9999, 3) := by decide +kernel
theorem dX3_readWill_55 : decode cX3_readWill 55 = .ok (.invokevirtual 63, 3) := by decide +kernel
theorem dX3_readWill_58 : decode cX3_readWill 58 = .ok (.istore 5, 2) := by decide +kernel
theorem dX3_readWill_60 : decode cX3_readWill 60 = .ok (.iload 5, 2) := by decide +kernel
theorem dX3_readWill_62 : decode cX3_readWill 62 = .ok (.iconst (-1), 1) := by decide +kernel
theorem dX3_readWill_63 : decode cX3_readWill 63 = .ok (.if_icmp .ne 5, 3) := by decide +kernel
theorem dX3_readWill_66 : decode cX3_readWill 66 = .ok (.iconst 0, 1) := by decide +kernel
theorem dX3_readWill_67 : decode cX3_readWill 67 = .ok (.ireturn, 1) := by decide +kernel
theorem dX3_readWill_68 : decode cX3_readWill 68 = .ok (.aload_n 1, 1) := by decide +kernel
theorem dX3_readWill_69 : decode cX3_readWill 69 = .ok (.iload_n 2, 1) := by decide +kernel
theorem dX3_readWill_70 : decode cX3_readWill 70 = .ok (.iload_n 3, 1) := by decide +kernel
theorem dX3_readWill_71 : decode cX3_readWill 71 = .ok (.iload 4, 2) := by decide +kernel
theorem dX3_readWill_73 : decode cX3_readWill 73 = .ok (.ifCond .eq 7, 3) := by decide +kernel
theorem dX3_readWill_76 : decode cX3_readWill 76 = .ok (.iconst 0, 1) := by decide +kernel
theorem dX3_readWill_77 : decode cX3_readWill 77 = .ok (.goto 4, 3) := by decide +kernel
theorem dX3_readWill_80 : decode cX3_readWill 80 = .ok (.iconst 1, 1) := by decide +kernel
theorem dX3_readWill_81 : decode cX3_readWill 81 = .ok (.iload 5, 2) := by decide +kernel
theorem dX3_readWill_83 : decode cX3_readWill 83 = .ok (.invokevirtual 66, 3) := by decide +kernel
theorem dX3_readWill_86 : decode cX3_readWill 86 = .ok (.aload_n 0, 1) := by decide +kernel
theorem dX3_readWill_87 : decode cX3_readWill 87 = .ok (.aload_n 1, 1) := by decide +kernel
theorem dX3_readWill_88 : decode cX3_readWill 88 = .ok (.invokevirtual 72, 3) := by decide +kernel
theorem dX3_readWill_91 : decode cX3_readWill 91 = .ok (.ireturn, 1) := by decide +kernel
set_option maxRecDepth 20000 in
theorem ggX3_readThings_X3_readPerhaps : GoodIn wsX3_readThings wsX3_readPerhaps := goodIn_r _ [7, 8, 9, 10, 6, 11, 12, 13, 14, 15, 16, 17, 18, 19, 20, 21, 22, 23, 24, 25, 26, 27, 28, 29, 30, 31, 37, 38, 39] (by decide +kernel) (by decide +kernel)
set_option maxRecDepth 20000 in
theorem gX3_readThings_X3_readPerhaps : GoodIn wsX3_readThings (wsV RX3 49 RX3 yX3_readPerhaps wsX3_readPerhaps) := goodIn_app (goodIn_of _ (by decide +kernel)) ggX3_readThings_X3_readPerhaps
theorem dX3_readThings_0 : decode cX3_readThings 0 = .ok (.aload_n 0, 1) := by decide +kernel
theorem dX3_readThings_1 : decode cX3_readThings 1 = .ok (.bipush 108, 2) := by decide +kernel
theorem dX3_readThings_3 : decode cX3_readThings 3 = .ok (.sipush 9999, 3) := by decide +kernel
theorem dX3_readThings_6 : decode cX3_readThings 6 = .ok (.invokevirtual 49, 3) := by decide +kernel
theorem dX3_readThings_9 : decode cX3_readThings 9 = .ok (.istore_n 2, 1) := by decide +kernel
theorem dX3_readThings_10 : decode cX3_readThings 10 = .ok (.iload_n 2, 1) := by decide +kernel
theorem dX3_readThings_11 : decode cX3_readThings 11 = .ok (.iconst (-1), 1) := by decide +kernel
theorem dX3_readThings_12 : decode cX3_readThings 12 = .ok (.if_icmp .ne 5, 3) := by decide +kernel
theorem dX3_readThings_15 : decode cX3_readThings 15 = .ok (.iconst 0, 1) := by decide +kernel
theorem dX3_readThings_16 : decode cX3_readThings 16 = .ok (.ireturn, 1) := by decide +kernel
theorem dX3_readThings_17 : decode cX3_readThings 17 = .ok (.aload_n 0, 1) := by decide +kernel
theorem dX3_readThings_18 : decode cX3_readThings 18 = .ok (.bipush 103, 2) := by decide +kernel
theorem dX3_readThings_20 : decode cX3_readThings 20 = .ok (.sipush 9999, 3) := by decide +kernel
theorem dX3_readThings_23 : decode cX3_readThings 23 = .ok (.invokevirtual 49, 3) := by decide +kernel
theorem dX3_readThings_26 : decode cX3_readThings 26 = .ok (.istore_n 3, 1) := by decide +kernel
theorem dX3_readThings_27 : decode cX3_readThings 27 = .ok (.iload_n 3, 1) := by decide +kernel
theorem dX3_readThings_28 : decode cX3_readThings 28 = .ok (.iconst (-1), 1) := by decide +kernel
theorem dX3_readThings_29 : decode cX3_readThings 29 = .ok (.if_icmp .ne 5, 3) := by decide +kernel
theorem dX3_readThings_32 : decode cX3_readThings 32 = .ok (.iconst 0, 1) := by decide +kernel
theorem dX3_readThings_33 : decode cX3_readThings 33 = .ok (.ireturn, 1) := by decide +kernel
theorem dX3_readThings_34 : decode cX3_readThings 34 = .ok (.aload_n 0, 1) := by decide +kernel
theorem dX3_readThings_35 : decode cX3_readThings 35 = .ok (.bipush 116, 2) := by decide +kernel
theorem dX3_readThings_37 : decode cX3_readThings 37 = .ok (.sipush 9999, 3) := by decide +kernel
theorem dX3_readThings_40 : decode cX3_readThings 40 = .ok (.invokevirtual 49, 3) := by decide +kernel
theorem dX3_readThings_43 : decode cX3_readThings 43 = .ok (.istore 4, 2) := by decide +kernel
theorem dX3_readThings_45 : decode cX3_readThings 45 = .ok (.iload 4, 2) := by decide +kernel
theorem dX3_readThings_47 : decode cX3_readThings 47 = .ok (.iconst (-1), 1) := by decide +kernel
theorem dX3_readThings_48 : decode cX3_readThings 48 = .ok (.if_icmp .eq 10, 3) := by decide +kernel
theorem dX3_readThings_51 : decode cX3_readThings 51 = .ok (.aload_n 1, 1) := by decide +kernel
theorem dX3_readThings_52 : decode cX3_readThings 52 = .ok (.getfield 75, 3) := by decide +kernel
theorem dX3_readThings_55 : decode cX3_readThings 55 = .ok (.ifCond .ne 5, 3) := by decide +kernel
theorem dX3_readThings_58 : decode cX3_readThings 58 = .ok (.iconst 0, 1) := by decide +kernel
theorem dX3_readThings_59 : decode cX3_readThings 59 = .ok (.ireturn, 1) := by decide +kernel
theorem dX3_readThings_60 : decode cX3_readThings 60 = .ok (.aload_n 1, 1) := by decide +kernel
theorem dX3_readThings_61 : decode cX3_readThings 61 = .ok (.getfield 75, 3) := by decide +kernel
theorem dX3_readThings_64 : decode cX3_readThings 64 = .ok (.iconst 1, 1) := by decide +kernel
theorem dX3_readThings_65 : decode cX3_readThings 65 = .ok (.isub, 1) := by decide +kernel
theorem dX3_readThings_66 : decode cX3_readThings 66 = .ok (.iconst 4, 1) := by decide +kernel
theorem dX3_readThings_67 : decode cX3_readThings 67 = .ok (.imul, 1) := by decide +kernel
theorem dX3_readThings_68 : decode cX3_readThings 68 = .ok (.istore 5, 2) := by decide +kernel
theorem dX3_readThings_70 : decode cX3_readThings 70 = .ok (.aload_n 1, 1) := by decide +kernel
theorem dX3_readThings_71 : decode cX3_readThings 71 = .ok (.getfield 76, 3) := by decide +kernel
theorem dX3_readThings_74 : decode cX3_readThings 74 = .ok (.iload 5, 2) := by decide +kernel
theorem dX3_readThings_76 : decode cX3_readThings 76 = .ok (.iconst 1, 1) := by decide +kernel
theorem dX3_readThings_77 : decode cX3_readThings 77 = .ok (.iadd, 1) := by decide +kernel
theorem dX3_readThings_78 : decode cX3_readThings 78 = .ok (.iload_n 2, 1) := by decide +kernel
theorem dX3_readThings_79 : decode cX3_readThings 79 = .ok (.iastore, 1) := by decide +kernel
theorem dX3_readThings_80 : decode cX3_readThings 80 = .ok (.aload_n 1, 1) := by decide +kernel
theorem dX3_readThings_81 : decode cX3_readThings 81 = .ok (.getfield 76, 3) := by decide +kernel
theorem dX3_readThings_84 : decode cX3_readThings 84 = .ok (.iload 5, 2) := by decide +kernel
theorem dX3_readThings_86 : decode cX3_readThings 86 = .ok (.iconst 2, 1) := by decide +kernel
theorem dX3_readThings_87 : decode cX3_readThings 87 = .ok (.iadd, 1) := by decide +kernel
theorem dX3_readThings_88 : decode cX3_readThings 88 = .ok (.iload_n 3, 1) := by decide +kernel
theorem dX3_readThings_89 : decode cX3_readThings 89 = .ok (.iastore, 1) := by decide +kernel
theorem dX3_readThings_90 : decode cX3_readThings 90 = .ok (.aload_n 1, 1) := by decide +kernel
theorem dX3_readThings_91 : decode cX3_readThings 91 = .ok (.getfield 76, 3) := by decide +kernel
theorem dX3_readThings_94 : decode cX3_readThings 94 = .ok (.iload 5, 2) := by decide +kernel
theorem dX3_readThings_96 : decode cX3_readThings 96 = .ok (.iconst 3, 1) := by decide +kernel
theorem dX3_readThings_97 : decode cX3_readThings 97 = .ok (.iadd, 1) := by decide +kernel
theorem dX3_readThings_98 : decode cX3_readThings 98 = .ok (.iload 4, 2) := by decide +kernel
theorem dX3_readThings_100 : decode cX3_readThings 100 = .ok (.iastore, 1) := by decide +kernel
theorem dX3_readThings_101 : decode cX3_readThings 101 = .ok (.iconst 1, 1) := by decide +kernel
theorem dX3_readThings_102 : decode cX3_readThings 102 = .ok (.ireturn, 1) := by decide +kernel
theorem dX3_next_0 : decode cX3_next 0 = .ok (.aload_n 0, 1) := by decide +kernel
theorem dX3_next_1 : decode cX3_next 1 = .ok (.getfield 23, 3) := by decide +kernel
theorem dX3_next_4 : decode cX3_next 4 = .ok (.aload_n 0, 1) := by decide +kernel
theorem dX3_next_5 : decode cX3_next 5 = .ok (.getfield 15, 3) := by decide +kernel
theorem dX3_next_8 : decode cX3_next 8 = .ok (.if_icmp .ge 30, 3) := by decide +kernel
theorem dX3_next_11 : decode cX3_next 11 = .ok (.aload_n 0, 1) := by decide +kernel
theorem dX3_next_12 : decode cX3_next 12 = .ok (.getfield 9, 3) := by decide +kernel
theorem dX3_next_15 : decode cX3_next 15 = .ok (.aload_n 0, 1) := by decide +kernel
theorem dX3_next_16 : decode cX3_next 16 = .ok (.getfield 23, 3) := by decide +kernel
theorem dX3_next_19 : decode cX3_next 19 = .ok (.iaload, 1) := by decide +kernel
theorem dX3_next_20 : decode cX3_next 20 = .ok (.bipush 32, 2) := by decide +kernel
theorem dX3_next_22 : decode cX3_next 22 = .ok (.if_icmp .ne 16, 3) := by decide +kernel
theorem dX3_next_25 : decode cX3_next 25 = .ok (.aload_n 0, 1) := by decide +kernel
theorem dX3_next_26 : decode cX3_next 26 = .ok (.dup, 1) := by decide +kernel
theorem dX3_next_27 : decode cX3_next 27 = .ok (.getfield 23, 3) := by decide +kernel
theorem dX3_next_30 : decode cX3_next 30 = .ok (.iconst 1, 1) := by decide +kernel
theorem dX3_next_31 : decode cX3_next 31 = .ok (.iadd, 1) := by decide +kernel
theorem dX3_next_32 : decode cX3_next 32 = .ok (.putfield 23, 3) := by decide +kernel
theorem dX3_next_35 : decode cX3_next 35 = .ok (.goto (-35), 3) := by decide +kernel
theorem dX3_next_38 : decode cX3_next 38 = .ok (.aload_n 0, 1) := by decide +kernel
theorem dX3_next_39 : decode cX3_next 39 = .ok (.getfield 23, 3) := by decide +kernel
theorem dX3_next_42 : decode cX3_next 42 = .ok (.aload_n 0, 1) := by decide +kernel
theorem dX3_next_43 : decode cX3_next 43 = .ok (.getfield 15, 3) := by decide +kernel
theorem dX3_next_46 : decode cX3_next 46 = .ok (.if_icmp .ge 15, 3) := by decide +kernel
theorem dX3_next_49 : decode cX3_next 49 = .ok (.aload_n 0, 1) := by decide +kernel
theorem dX3_next_50 : decode cX3_next 50 = .ok (.getfield 9, 3) := by decide +kernel
theorem dX3_next_53 : decode cX3_next 53 = .ok (.aload_n 0, 1) := by decide +kernel
theorem dX3_next_54 : decode cX3_next 54 = .ok (.getfield 23, 3) := by decide +kernel
theorem dX3_next_57 : decode cX3_next 57 = .ok (.iaload, 1) := by decide +kernel
theorem dX3_next_58 : decode cX3_next 58 = .ok (.goto 4, 3) := by decide +kernel
theorem dX3_next_61 : decode cX3_next 61 = .ok (.iconst (-1), 1) := by decide +kernel
theorem dX3_next_62 : decode cX3_next 62 = .ok (.ireturn, 1) := by decide +kernel
set_option maxRecDepth 20000 in
theorem ggX3_takes_X3_next : GoodIn wsX3_takes wsX3_next := goodIn_r _ [6, 1, 7, 8, 9, 10, 11] (by decide +kernel) (by decide +kernel)
set_option maxRecDepth 20000 in
theorem gX3_takes_X3_next : GoodIn wsX3_takes (wsV RX3 34 RX3 yX3_next wsX3_next) := goodIn_app (goodIn_of _ (by decide +kernel)) ggX3_takes_X3_next
theorem dX3_takes_0 : decode cX3_takes 0 = .ok (.aload_n 0, 1) := by decide +kernel
theorem dX3_takes_1 : decode cX3_takes 1 = .ok (.invokevirtual 34, 3) := by decide +kernel
theorem dX3_takes_4 : decode cX3_takes 4 = .ok (.iload_n 1, 1) := by decide +kernel
theorem dX3_takes_5 : decode cX3_takes 5 = .ok (.if_icmp .eq 5, 3) := by decide +kernel
theorem dX3_takes_8 : decode cX3_takes 8 = .ok (.iconst 0, 1) := by decide +kernel
theorem dX3_takes_9 : decode cX3_takes 9 = .ok (.ireturn, 1) := by decide +kernel
theorem dX3_takes_10 : decode cX3_takes 10 = .ok (.aload_n 0, 1) := by decide +kernel
theorem dX3_takes_11 : decode cX3_takes 11 = .ok (.dup, 1) := by decide +kernel
theorem dX3_takes_12 : decode cX3_takes 12 = .ok (.getfield 23, 3) := by decide +kernel
theorem dX3_takes_15 : decode cX3_takes 15 = .ok (.iconst 1, 1) := by decide +kernel
theorem dX3_takes_16 : decode cX3_takes 16 = .ok (.iadd, 1) := by decide +kernel
theorem dX3_takes_17 : decode cX3_takes 17 = .ok (.putfield 23, 3) := by decide +kernel
theorem dX3_takes_20 : decode cX3_takes 20 = .ok (.iconst 1, 1) := by decide +kernel
theorem dX3_takes_21 : decode cX3_takes 21 = .ok (.ireturn, 1) := by decide +kernel
set_option maxRecDepth 20000 in
theorem ggX3_readDigit_X3_next : GoodIn wsX3_readDigit wsX3_next := goodIn_r _ [6, 1, 7, 8, 12, 13, 14] (by decide +kernel) (by decide +kernel)
set_option maxRecDepth 20000 in
theorem gX3_readDigit_X3_next : GoodIn wsX3_readDigit (wsV RX3 34 RX3 yX3_next wsX3_next) := goodIn_app (goodIn_of _ (by decide +kernel)) ggX3_readDigit_X3_next
set_option maxRecDepth 20000 in
theorem ggX3_readDigit_X6_isWithin : GoodIn wsX3_readDigit wsX6_isWithin := goodIn_r _ [11] (by decide +kernel) (by decide +kernel)
set_option maxRecDepth 20000 in
theorem gX3_readDigit_X6_isWithin_n79 : GoodIn wsX3_readDigit (wsX6_isWithin) := ggX3_readDigit_X6_isWithin
theorem dX3_readDigit_0 : decode cX3_readDigit 0 = .ok (.aload_n 0, 1) := by decide +kernel
theorem dX3_readDigit_1 : decode cX3_readDigit 1 = .ok (.invokevirtual 34, 3) := by decide +kernel
theorem dX3_readDigit_4 : decode cX3_readDigit 4 = .ok (.bipush 48, 2) := by decide +kernel
theorem dX3_readDigit_6 : decode cX3_readDigit 6 = .ok (.isub, 1) := by decide +kernel
theorem dX3_readDigit_7 : decode cX3_readDigit 7 = .ok (.istore_n 2, 1) := by decide +kernel
theorem dX3_readDigit_8 : decode cX3_readDigit 8 = .ok (.iload_n 2, 1) := by decide +kernel
theorem dX3_readDigit_9 : decode cX3_readDigit 9 = .ok (.i2l, 1) := by decide +kernel
theorem dX3_readDigit_10 : decode cX3_readDigit 10 = .ok (.lconst 0, 1) := by decide +kernel
theorem dX3_readDigit_11 : decode cX3_readDigit 11 = .ok (.iload_n 1, 1) := by decide +kernel
theorem dX3_readDigit_12 : decode cX3_readDigit 12 = .ok (.i2l, 1) := by decide +kernel
theorem dX3_readDigit_13 : decode cX3_readDigit 13 = .ok (.invokestatic 79, 3) := by decide +kernel
theorem dX3_readDigit_16 : decode cX3_readDigit 16 = .ok (.ifCond .ne 5, 3) := by decide +kernel
theorem dX3_readDigit_19 : decode cX3_readDigit 19 = .ok (.iconst (-1), 1) := by decide +kernel
theorem dX3_readDigit_20 : decode cX3_readDigit 20 = .ok (.ireturn, 1) := by decide +kernel
theorem dX3_readDigit_21 : decode cX3_readDigit 21 = .ok (.aload_n 0, 1) := by decide +kernel
theorem dX3_readDigit_22 : decode cX3_readDigit 22 = .ok (.dup, 1) := by decide +kernel
theorem dX3_readDigit_23 : decode cX3_readDigit 23 = .ok (.getfield 23, 3) := by decide +kernel
theorem dX3_readDigit_26 : decode cX3_readDigit 26 = .ok (.iconst 1, 1) := by decide +kernel
theorem dX3_readDigit_27 : decode cX3_readDigit 27 = .ok (.iadd, 1) := by decide +kernel
theorem dX3_readDigit_28 : decode cX3_readDigit 28 = .ok (.putfield 23, 3) := by decide +kernel
theorem dX3_readDigit_31 : decode cX3_readDigit 31 = .ok (.iload_n 2, 1) := by decide +kernel
theorem dX3_readDigit_32 : decode cX3_readDigit 32 = .ok (.ireturn, 1) := by decide +kernel
set_option maxRecDepth 20000 in
theorem ggX3_readPerhaps_X3_takes : GoodIn wsX3_readPerhaps wsX3_takes := goodIn_r _ [5, 6, 7, 8, 9, 4, 10, 11, 12, 26, 27, 28] (by decide +kernel) (by decide +kernel)
set_option maxRecDepth 20000 in
theorem gX3_readPerhaps_X3_takes : GoodIn wsX3_readPerhaps (wsV RX3 37 RX3 yX3_takes wsX3_takes) := goodIn_app (goodIn_of _ (by decide +kernel)) ggX3_readPerhaps_X3_takes
set_option maxRecDepth 20000 in
theorem ggX3_readPerhaps_X3_readNumber : GoodIn wsX3_readPerhaps wsX3_readNumber := goodIn_r _ [16, 17, 18, 6, 11, 12, 19, 20, 21, 22, 7, 8, 9, 4, 10, 23, 24, 25, 26, 27, 28] (by decide +kernel) (by decide +kernel)
set_option maxRecDepth 20000 in
theorem gX3_readPerhaps_X3_readNumber : GoodIn wsX3_readPerhaps (wsV RX3 63 RX3 yX3_readNumber wsX3_readNumber) := goodIn_app (goodIn_of _ (by decide +kernel)) ggX3_readPerhaps_X3_readNumber
theorem dX3_readPerhaps_0 : decode cX3_readPerhaps 0 = .ok (.aload_n 0, 1) := by decide +kernel
theorem dX3_readPerhaps_1 : decode cX3_readPerhaps 1 = .ok (.iload_n 1, 1) := by decide +kernel
theorem dX3_readPerhaps_2 : decode cX3_readPerhaps 2 = .ok (.invokevirtual 37, 3) := by decide +kernel
theorem dX3_readPerhaps_5 : decode cX3_readPerhaps 5 = .ok (.ifCond .eq 11, 3) := by decide +kernel
theorem dX3_readPerhaps_8 : decode cX3_readPerhaps 8 = .ok (.aload_n 0, 1) := by decide +kernel
theorem dX3_readPerhaps_9 : decode cX3_readPerhaps 9 = .ok (.iload_n 2, 1) := by decide +kernel
theorem dX3_readPerhaps_10 : decode cX3_readPerhaps 10 = .ok (.invokevirtual 63, 3) := by decide +kernel
theorem dX3_readPerhaps_13 : decode cX3_readPerhaps 13 = .ok (.goto 4, 3) := by decide +kernel
theorem dX3_readPerhaps_16 : decode cX3_readPerhaps 16 = .ok (.iconst 0, 1) := by decide +kernel
theorem dX3_readPerhaps_17 : decode cX3_readPerhaps 17 = .ok (.ireturn, 1) := by decide +kernel
set_option maxRecDepth 20000 in
theorem ggX3_readNumber_X3_next : GoodIn wsX3_readNumber wsX3_next := goodIn_r _ [14, 3, 4, 5, 18, 19, 20] (by decide +kernel) (by decide +kernel)
set_option maxRecDepth 20000 in
theorem gX3_readNumber_X3_next : GoodIn wsX3_readNumber (wsV RX3 34 RX3 yX3_next wsX3_next) := goodIn_app (goodIn_of _ (by decide +kernel)) ggX3_readNumber_X3_next
set_option maxRecDepth 20000 in
theorem ggX3_readNumber_X6_isWithin : GoodIn wsX3_readNumber wsX6_isWithin := goodIn_r _ [17] (by decide +kernel) (by decide +kernel)
set_option maxRecDepth 20000 in
theorem gX3_readNumber_X6_isWithin_n79 : GoodIn wsX3_readNumber (wsX6_isWithin) := ggX3_readNumber_X6_isWithin
theorem dX3_readNumber_0 : decode cX3_readNumber 0 = .ok (.aload_n 0, 1) := by decide +kernel
theorem dX3_readNumber_1 : decode cX3_readNumber 1 = .ok (.invokevirtual 34, 3) := by decide +kernel
theorem dX3_readNumber_4 : decode cX3_readNumber 4 = .ok (.i2l, 1) := by decide +kernel
theorem dX3_readNumber_5 : decode cX3_readNumber 5 = .ok (.ldc2_w 83, 3) := by decide +kernel
theorem dX3_readNumber_8 : decode cX3_readNumber 8 = .ok (.ldc2_w 85, 3) := by decide +kernel
theorem dX3_readNumber_11 : decode cX3_readNumber 11 = .ok (.invokestatic 79, 3) := by decide +kernel
theorem dX3_readNumber_14 : decode cX3_readNumber 14 = .ok (.ifCond .ne 5, 3) := by decide +kernel
theorem dX3_readNumber_17 : decode cX3_readNumber 17 = .ok (.iconst (-1), 1) := by decide +kernel
theorem dX3_readNumber_18 : decode cX3_readNumber 18 = .ok (.ireturn, 1) := by decide +kernel
theorem dX3_readNumber_19 : decode cX3_readNumber 19 = .ok (.aload_n 0, 1) := by decide +kernel
theorem dX3_readNumber_20 : decode cX3_readNumber 20 = .ok (.getfield 23, 3) := by decide +kernel
theorem dX3_readNumber_23 : decode cX3_readNumber 23 = .ok (.istore_n 2, 1) := by decide +kernel
theorem dX3_readNumber_24 : decode cX3_readNumber 24 = .ok (.iconst 0, 1) := by decide +kernel
theorem dX3_readNumber_25 : decode cX3_readNumber 25 = .ok (.istore_n 3, 1) := by decide +kernel
theorem dX3_readNumber_26 : decode cX3_readNumber 26 = .ok (.aload_n 0, 1) := by decide +kernel
theorem dX3_readNumber_27 : decode cX3_readNumber 27 = .ok (.getfield 23, 3) := by decide +kernel
theorem dX3_readNumber_30 : decode cX3_readNumber 30 = .ok (.aload_n 0, 1) := by decide +kernel
theorem dX3_readNumber_31 : decode cX3_readNumber 31 = .ok (.getfield 15, 3) := by decide +kernel
theorem dX3_readNumber_34 : decode cX3_readNumber 34 = .ok (.if_icmp .ge 62, 3) := by decide +kernel
theorem dX3_readNumber_37 : decode cX3_readNumber 37 = .ok (.aload_n 0, 1) := by decide +kernel
theorem dX3_readNumber_38 : decode cX3_readNumber 38 = .ok (.getfield 9, 3) := by decide +kernel
theorem dX3_readNumber_41 : decode cX3_readNumber 41 = .ok (.aload_n 0, 1) := by decide +kernel
theorem dX3_readNumber_42 : decode cX3_readNumber 42 = .ok (.getfield 23, 3) := by decide +kernel
theorem dX3_readNumber_45 : decode cX3_readNumber 45 = .ok (.iaload, 1) := by decide +kernel
theorem dX3_readNumber_46 : decode cX3_readNumber 46 = .ok (.i2l, 1) := by decide +kernel
theorem dX3_readNumber_47 : decode cX3_readNumber 47 = .ok (.ldc2_w 83, 3) := by decide +kernel
theorem dX3_readNumber_50 : decode cX3_readNumber 50 = .ok (.ldc2_w 85, 3) := by decide +kernel
theorem dX3_readNumber_53 : decode cX3_readNumber 53 = .ok (.invokestatic 79, 3) := by decide +kernel
theorem dX3_readNumber_56 : decode cX3_readNumber 56 = .ok (.ifCond .eq 40, 3) := by decide +kernel
theorem dX3_readNumber_59 : decode cX3_readNumber 59 = .ok (.iload_n 3, 1) := by decide +kernel
theorem dX3_readNumber_60 : decode cX3_readNumber 60 = .ok (.bipush 10, 2) := by decide +kernel
theorem dX3_readNumber_62 : decode cX3_readNumber 62 = .ok (.imul, 1) := by decide +kernel
theorem dX3_readNumber_63 : decode cX3_readNumber 63 = .ok (.aload_n 0, 1) := by decide +kernel
theorem dX3_readNumber_64 : decode cX3_readNumber 64 = .ok (.getfield 9, 3) := by decide +kernel
theorem dX3_readNumber_67 : decode cX3_readNumber 67 = .ok (.aload_n 0, 1) := by decide +kernel
theorem dX3_readNumber_68 : decode cX3_readNumber 68 = .ok (.getfield 23, 3) := by decide +kernel
theorem dX3_readNumber_71 : decode cX3_readNumber 71 = .ok (.iaload, 1) := by decide +kernel
theorem dX3_readNumber_72 : decode cX3_readNumber 72 = .ok (.iadd, 1) := by decide +kernel
theorem dX3_readNumber_73 : decode cX3_readNumber 73 = .ok (.bipush 48, 2) := by decide +kernel
theorem dX3_readNumber_75 : decode cX3_readNumber 75 = .ok (.isub, 1) := by decide +kernel
theorem dX3_readNumber_76 : decode cX3_readNumber 76 = .ok (.sipush 10000, 3) := by decide +kernel
theorem dX3_readNumber_79 : decode cX3_readNumber 79 = .ok (.invokestatic 87, 3) := by decide +kernel
theorem dX3_readNumber_82 : decode cX3_readNumber 82 = .ok (.istore_n 3, 1) := by decide +kernel
theorem dX3_readNumber_83 : decode cX3_readNumber 83 = .ok (.aload_n 0, 1) := by decide +kernel
theorem dX3_readNumber_84 : decode cX3_readNumber 84 = .ok (.dup, 1) := by decide +kernel
theorem dX3_readNumber_85 : decode cX3_readNumber 85 = .ok (.getfield 23, 3) := by decide +kernel
theorem dX3_readNumber_88 : decode cX3_readNumber 88 = .ok (.iconst 1, 1) := by decide +kernel
theorem dX3_readNumber_89 : decode cX3_readNumber 89 = .ok (.iadd, 1) := by decide +kernel
theorem dX3_readNumber_90 : decode cX3_readNumber 90 = .ok (.putfield 23, 3) := by decide +kernel
theorem dX3_readNumber_93 : decode cX3_readNumber 93 = .ok (.goto (-67), 3) := by decide +kernel
theorem dX3_readNumber_96 : decode cX3_readNumber 96 = .ok (.iload_n 3, 1) := by decide +kernel
theorem dX3_readNumber_97 : decode cX3_readNumber 97 = .ok (.iload_n 1, 1) := by decide +kernel
theorem dX3_readNumber_98 : decode cX3_readNumber 98 = .ok (.if_icmp .le 10, 3) := by decide +kernel
theorem dX3_readNumber_101 : decode cX3_readNumber 101 = .ok (.aload_n 0, 1) := by decide +kernel
theorem dX3_readNumber_102 : decode cX3_readNumber 102 = .ok (.iload_n 2, 1) := by decide +kernel
theorem dX3_readNumber_103 : decode cX3_readNumber 103 = .ok (.putfield 23, 3) := by decide +kernel
theorem dX3_readNumber_106 : decode cX3_readNumber 106 = .ok (.iconst (-1), 1) := by decide +kernel
theorem dX3_readNumber_107 : decode cX3_readNumber 107 = .ok (.ireturn, 1) := by decide +kernel
theorem dX3_readNumber_108 : decode cX3_readNumber 108 = .ok (.iload_n 3, 1) := by decide +kernel
theorem dX3_readNumber_109 : decode cX3_readNumber 109 = .ok (.ireturn, 1) := by decide +kernel
theorem dX4_init_0 : decode cX4_init 0 = .ok (.aload_n 0, 1) := by decide +kernel
theorem dX4_init_1 : decode cX4_init 1 = .ok (.invokespecial 3, 3) := by decide +kernel
theorem dX4_init_4 : decode cX4_init 4 = .ok (.aload_n 0, 1) := by decide +kernel
theorem dX4_init_5 : decode cX4_init 5 = .ok (.bipush 24, 2) := by decide +kernel
theorem dX4_init_7 : decode cX4_init 7 = .ok (.newarray .int, 2) := by decide +kernel
theorem dX4_init_9 : decode cX4_init 9 = .ok (.putfield 9, 3) := by decide +kernel
theorem dX4_init_12 : decode cX4_init 12 = .ok (.aload_n 0, 1) := by decide +kernel
theorem dX4_init_13 : decode cX4_init 13 = .ok (.bipush 24, 2) := by decide +kernel
theorem dX4_init_15 : decode cX4_init 15 = .ok (.newarray .int, 2) := by decide +kernel
theorem dX4_init_17 : decode cX4_init 17 = .ok (.putfield 15, 3) := by decide +kernel
theorem dX4_init_20 : decode cX4_init 20 = .ok (.aload_n 0, 1) := by decide +kernel
theorem dX4_init_21 : decode cX4_init 21 = .ok (.bipush 24, 2) := by decide +kernel
theorem dX4_init_23 : decode cX4_init 23 = .ok (.newarray .int, 2) := by decide +kernel
theorem dX4_init_25 : decode cX4_init 25 = .ok (.putfield 18, 3) := by decide +kernel
theorem dX4_init_28 : decode cX4_init 28 = .ok (.aload_n 0, 1) := by decide +kernel
theorem dX4_init_29 : decode cX4_init 29 = .ok (.bipush 96, 2) := by decide +kernel
theorem dX4_init_31 : decode cX4_init 31 = .ok (.newarray .int, 2) := by decide +kernel
theorem dX4_init_33 : decode cX4_init 33 = .ok (.putfield 21, 3) := by decide +kernel
theorem dX4_init_36 : decode cX4_init 36 = .ok (.return_, 1) := by decide +kernel
theorem dX4_has_0 : decode cX4_has 0 = .ok (.iload_n 1, 1) := by decide +kernel
theorem dX4_has_1 : decode cX4_has 1 = .ok (.ifCond .lt 15, 3) := by decide +kernel
theorem dX4_has_4 : decode cX4_has 4 = .ok (.iload_n 1, 1) := by decide +kernel
theorem dX4_has_5 : decode cX4_has 5 = .ok (.aload_n 0, 1) := by decide +kernel
theorem dX4_has_6 : decode cX4_has 6 = .ok (.getfield 24, 3) := by decide +kernel
theorem dX4_has_9 : decode cX4_has 9 = .ok (.if_icmp .ge 7, 3) := by decide +kernel
theorem dX4_has_12 : decode cX4_has 12 = .ok (.iconst 1, 1) := by decide +kernel
theorem dX4_has_13 : decode cX4_has 13 = .ok (.goto 4, 3) := by decide +kernel
theorem dX4_has_16 : decode cX4_has 16 = .ok (.iconst 0, 1) := by decide +kernel
theorem dX4_has_17 : decode cX4_has 17 = .ok (.ireturn, 1) := by decide +kernel
theorem dX4_hasRoomFor_0 : decode cX4_hasRoomFor 0 = .ok (.iload_n 1, 1) := by decide +kernel
theorem dX4_hasRoomFor_1 : decode cX4_hasRoomFor 1 = .ok (.bipush 24, 2) := by decide +kernel
theorem dX4_hasRoomFor_3 : decode cX4_hasRoomFor 3 = .ok (.aload_n 0, 1) := by decide +kernel
theorem dX4_hasRoomFor_4 : decode cX4_hasRoomFor 4 = .ok (.getfield 24, 3) := by decide +kernel
theorem dX4_hasRoomFor_7 : decode cX4_hasRoomFor 7 = .ok (.isub, 1) := by decide +kernel
theorem dX4_hasRoomFor_8 : decode cX4_hasRoomFor 8 = .ok (.if_icmp .gt 7, 3) := by decide +kernel
theorem dX4_hasRoomFor_11 : decode cX4_hasRoomFor 11 = .ok (.iconst 1, 1) := by decide +kernel
theorem dX4_hasRoomFor_12 : decode cX4_hasRoomFor 12 = .ok (.goto 4, 3) := by decide +kernel
theorem dX4_hasRoomFor_15 : decode cX4_hasRoomFor 15 = .ok (.iconst 0, 1) := by decide +kernel
theorem dX4_hasRoomFor_16 : decode cX4_hasRoomFor 16 = .ok (.ireturn, 1) := by decide +kernel
set_option maxRecDepth 20000 in
theorem ggX4_add_X4_hasRoomFor : GoodIn wsX4_add wsX4_hasRoomFor := goodIn_r _ [10, 2, 11, 12, 13, 14, 15] (by decide +kernel) (by decide +kernel)
set_option maxRecDepth 20000 in
theorem gX4_add_X4_hasRoomFor : GoodIn wsX4_add (wsV RX4 28 RX4 yX4_hasRoomFor wsX4_hasRoomFor) := goodIn_app (goodIn_of _ (by decide +kernel)) ggX4_add_X4_hasRoomFor
theorem dX4_add_0 : decode cX4_add 0 = .ok (.aload_n 0, 1) := by decide +kernel
theorem dX4_add_1 : decode cX4_add 1 = .ok (.iconst 1, 1) := by decide +kernel
theorem dX4_add_2 : decode cX4_add 2 = .ok (.invokevirtual 28, 3) := by decide +kernel
theorem dX4_add_5 : decode cX4_add 5 = .ok (.ifCond .ne 4, 3) := by decide +kernel
theorem dX4_add_8 : decode cX4_add 8 = .ok (.return_, 1) := by decide +kernel
theorem dX4_add_9 : decode cX4_add 9 = .ok (.aload_n 0, 1) := by decide +kernel
theorem dX4_add_10 : decode cX4_add 10 = .ok (.getfield 9, 3) := by decide +kernel
theorem dX4_add_13 : decode cX4_add 13 = .ok (.aload_n 0, 1) := by decide +kernel
theorem dX4_add_14 : decode cX4_add 14 = .ok (.getfield 24, 3) := by decide +kernel
theorem dX4_add_17 : decode cX4_add 17 = .ok (.iload_n 1, 1) := by decide +kernel
theorem dX4_add_18 : decode cX4_add 18 = .ok (.iastore, 1) := by decide +kernel
theorem dX4_add_19 : decode cX4_add 19 = .ok (.aload_n 0, 1) := by decide +kernel
theorem dX4_add_20 : decode cX4_add 20 = .ok (.getfield 15, 3) := by decide +kernel
theorem dX4_add_23 : decode cX4_add 23 = .ok (.aload_n 0, 1) := by decide +kernel
theorem dX4_add_24 : decode cX4_add 24 = .ok (.getfield 24, 3) := by decide +kernel
theorem dX4_add_27 : decode cX4_add 27 = .ok (.iload_n 2, 1) := by decide +kernel
theorem dX4_add_28 : decode cX4_add 28 = .ok (.iastore, 1) := by decide +kernel
theorem dX4_add_29 : decode cX4_add 29 = .ok (.aload_n 0, 1) := by decide +kernel
theorem dX4_add_30 : decode cX4_add 30 = .ok (.getfield 18, 3) := by decide +kernel
theorem dX4_add_33 : decode cX4_add 33 = .ok (.aload_n 0, 1) := by decide +kernel
theorem dX4_add_34 : decode cX4_add 34 = .ok (.getfield 24, 3) := by decide +kernel
theorem dX4_add_37 : decode cX4_add 37 = .ok (.iload_n 3, 1) := by decide +kernel
theorem dX4_add_38 : decode cX4_add 38 = .ok (.iastore, 1) := by decide +kernel
theorem dX4_add_39 : decode cX4_add 39 = .ok (.aload_n 0, 1) := by decide +kernel
theorem dX4_add_40 : decode cX4_add 40 = .ok (.getfield 21, 3) := by decide +kernel
theorem dX4_add_43 : decode cX4_add 43 = .ok (.aload_n 0, 1) := by decide +kernel
theorem dX4_add_44 : decode cX4_add 44 = .ok (.getfield 24, 3) := by decide +kernel
theorem dX4_add_47 : decode cX4_add 47 = .ok (.iconst 4, 1) := by decide +kernel
theorem dX4_add_48 : decode cX4_add 48 = .ok (.imul, 1) := by decide +kernel
theorem dX4_add_49 : decode cX4_add 49 = .ok (.iload 4, 2) := by decide +kernel
theorem dX4_add_51 : decode cX4_add 51 = .ok (.iastore, 1) := by decide +kernel
theorem dX4_add_52 : decode cX4_add 52 = .ok (.iconst 1, 1) := by decide +kernel
theorem dX4_add_53 : decode cX4_add 53 = .ok (.istore 5, 2) := by decide +kernel
theorem dX4_add_55 : decode cX4_add 55 = .ok (.iload 5, 2) := by decide +kernel
theorem dX4_add_57 : decode cX4_add 57 = .ok (.iconst 4, 1) := by decide +kernel
theorem dX4_add_58 : decode cX4_add 58 = .ok (.if_icmp .ge 24, 3) := by decide +kernel
theorem dX4_add_61 : decode cX4_add 61 = .ok (.aload_n 0, 1) := by decide +kernel
theorem dX4_add_62 : decode cX4_add 62 = .ok (.getfield 21, 3) := by decide +kernel
theorem dX4_add_65 : decode cX4_add 65 = .ok (.aload_n 0, 1) := by decide +kernel
theorem dX4_add_66 : decode cX4_add 66 = .ok (.getfield 24, 3) := by decide +kernel
theorem dX4_add_69 : decode cX4_add 69 = .ok (.iconst 4, 1) := by decide +kernel
theorem dX4_add_70 : decode cX4_add 70 = .ok (.imul, 1) := by decide +kernel
theorem dX4_add_71 : decode cX4_add 71 = .ok (.iload 5, 2) := by decide +kernel
theorem dX4_add_73 : decode cX4_add 73 = .ok (.iadd, 1) := by decide +kernel
theorem dX4_add_74 : decode cX4_add 74 = .ok (.iconst 0, 1) := by decide +kernel
theorem dX4_add_75 : decode cX4_add 75 = .ok (.iastore, 1) := by decide +kernel
theorem dX4_add_76 : decode cX4_add 76 = .ok (.iinc 5 1, 3) := by decide +kernel
theorem dX4_add_79 : decode cX4_add 79 = .ok (.goto (-24), 3) := by decide +kernel
theorem dX4_add_82 : decode cX4_add 82 = .ok (.aload_n 0, 1) := by decide +kernel
theorem dX4_add_83 : decode cX4_add 83 = .ok (.dup, 1) := by decide +kernel
theorem dX4_add_84 : decode cX4_add 84 = .ok (.getfield 24, 3) := by decide +kernel
theorem dX4_add_87 : decode cX4_add 87 = .ok (.iconst 1, 1) := by decide +kernel
theorem dX4_add_88 : decode cX4_add 88 = .ok (.iadd, 1) := by decide +kernel
theorem dX4_add_89 : decode cX4_add 89 = .ok (.putfield 24, 3) := by decide +kernel
theorem dX4_add_92 : decode cX4_add 92 = .ok (.return_, 1) := by decide +kernel
set_option maxRecDepth 20000 in
theorem ggX4_addAll_X4_hasRoomFor : GoodIn wsX4_addAll wsX4_hasRoomFor := goodIn_r _ [6, 1, 19, 20, 21, 22, 23] (by decide +kernel) (by decide +kernel)
set_option maxRecDepth 20000 in
theorem gX4_addAll_X4_hasRoomFor : GoodIn wsX4_addAll (wsV RX4 28 RX4 yX4_hasRoomFor wsX4_hasRoomFor) := goodIn_app (goodIn_of _ (by decide +kernel)) ggX4_addAll_X4_hasRoomFor
set_option maxRecDepth 20000 in
theorem ggX4_addAll_X4_move : GoodIn wsX4_addAll wsX4_move := goodIn_r _ [10, 11, 12, 13, 14, 15, 16, 17, 18, 19, 20, 21, 22, 23] (by decide +kernel) (by decide +kernel)
set_option maxRecDepth 20000 in
theorem gX4_addAll_X4_move : GoodIn wsX4_addAll (wsV RX4 32 RX4 yX4_move wsX4_move) := goodIn_app (goodIn_of _ (by decide +kernel)) ggX4_addAll_X4_move
theorem dX4_addAll_0 : decode cX4_addAll 0 = .ok (.aload_n 0, 1) := by decide +kernel
theorem dX4_addAll_1 : decode cX4_addAll 1 = .ok (.aload_n 1, 1) := by decide +kernel
theorem dX4_addAll_2 : decode cX4_addAll 2 = .ok (.getfield 24, 3) := by decide +kernel
theorem dX4_addAll_5 : decode cX4_addAll 5 = .ok (.invokevirtual 28, 3) := by decide +kernel
theorem dX4_addAll_8 : decode cX4_addAll 8 = .ok (.ifCond .eq 30, 3) := by decide +kernel
theorem dX4_addAll_11 : decode cX4_addAll 11 = .ok (.aload_n 0, 1) := by decide +kernel
theorem dX4_addAll_12 : decode cX4_addAll 12 = .ok (.aload_n 1, 1) := by decide +kernel
theorem dX4_addAll_13 : decode cX4_addAll 13 = .ok (.iconst 0, 1) := by decide +kernel
theorem dX4_addAll_14 : decode cX4_addAll 14 = .ok (.aload_n 0, 1) := by decide +kernel
theorem dX4_addAll_15 : decode cX4_addAll 15 = .ok (.getfield 24, 3) := by decide +kernel
theorem dX4_addAll_18 : decode cX4_addAll 18 = .ok (.aload_n 1, 1) := by decide +kernel
theorem dX4_addAll_19 : decode cX4_addAll 19 = .ok (.getfield 24, 3) := by decide +kernel
theorem dX4_addAll_22 : decode cX4_addAll 22 = .ok (.invokevirtual 32, 3) := by decide +kernel
theorem dX4_addAll_25 : decode cX4_addAll 25 = .ok (.aload_n 0, 1) := by decide +kernel
theorem dX4_addAll_26 : decode cX4_addAll 26 = .ok (.dup, 1) := by decide +kernel
theorem dX4_addAll_27 : decode cX4_addAll 27 = .ok (.getfield 24, 3) := by decide +kernel
theorem dX4_addAll_30 : decode cX4_addAll 30 = .ok (.aload_n 1, 1) := by decide +kernel
theorem dX4_addAll_31 : decode cX4_addAll 31 = .ok (.getfield 24, 3) := by decide +kernel
theorem dX4_addAll_34 : decode cX4_addAll 34 = .ok (.iadd, 1) := by decide +kernel
theorem dX4_addAll_35 : decode cX4_addAll 35 = .ok (.putfield 24, 3) := by decide +kernel
theorem dX4_addAll_38 : decode cX4_addAll 38 = .ok (.return_, 1) := by decide +kernel
set_option maxRecDepth 20000 in
theorem ggX4_removeOne_X4_has : GoodIn wsX4_removeOne wsX4_has := goodIn_r _ [6, 1, 19, 20, 21, 22, 23] (by decide +kernel) (by decide +kernel)
set_option maxRecDepth 20000 in
theorem gX4_removeOne_X4_has : GoodIn wsX4_removeOne (wsV RX4 36 RX4 yX4_has wsX4_has) := goodIn_app (goodIn_of _ (by decide +kernel)) ggX4_removeOne_X4_has
set_option maxRecDepth 20000 in
theorem ggX4_removeOne_X4_move : GoodIn wsX4_removeOne wsX4_move := goodIn_r _ [10, 11, 12, 13, 14, 15, 16, 17, 18, 19, 20, 21, 22, 23] (by decide +kernel) (by decide +kernel)
set_option maxRecDepth 20000 in
theorem gX4_removeOne_X4_move : GoodIn wsX4_removeOne (wsV RX4 32 RX4 yX4_move wsX4_move) := goodIn_app (goodIn_of _ (by decide +kernel)) ggX4_removeOne_X4_move
theorem dX4_removeOne_0 : decode cX4_removeOne 0 = .ok (.aload_n 0, 1) := by decide +kernel
theorem dX4_removeOne_1 : decode cX4_removeOne 1 = .ok (.iload_n 1, 1) := by decide +kernel
theorem dX4_removeOne_2 : decode cX4_removeOne 2 = .ok (.invokevirtual 36, 3) := by decide +kernel
theorem dX4_removeOne_5 : decode cX4_removeOne 5 = .ok (.ifCond .eq 30, 3) := by decide +kernel
theorem dX4_removeOne_8 : decode cX4_removeOne 8 = .ok (.aload_n 0, 1) := by decide +kernel
theorem dX4_removeOne_9 : decode cX4_removeOne 9 = .ok (.aload_n 0, 1) := by decide +kernel
theorem dX4_removeOne_10 : decode cX4_removeOne 10 = .ok (.iload_n 1, 1) := by decide +kernel
theorem dX4_removeOne_11 : decode cX4_removeOne 11 = .ok (.iconst 1, 1) := by decide +kernel
theorem dX4_removeOne_12 : decode cX4_removeOne 12 = .ok (.iadd, 1) := by decide +kernel
theorem dX4_removeOne_13 : decode cX4_removeOne 13 = .ok (.iload_n 1, 1) := by decide +kernel
theorem dX4_removeOne_14 : decode cX4_removeOne 14 = .ok (.aload_n 0, 1) := by decide +kernel
theorem dX4_removeOne_15 : decode cX4_removeOne 15 = .ok (.getfield 24, 3) := by decide +kernel
theorem dX4_removeOne_18 : decode cX4_removeOne 18 = .ok (.iload_n 1, 1) := by decide +kernel
theorem dX4_removeOne_19 : decode cX4_removeOne 19 = .ok (.isub, 1) := by decide +kernel
theorem dX4_removeOne_20 : decode cX4_removeOne 20 = .ok (.iconst 1, 1) := by decide +kernel
theorem dX4_removeOne_21 : decode cX4_removeOne 21 = .ok (.isub, 1) := by decide +kernel
theorem dX4_removeOne_22 : decode cX4_removeOne 22 = .ok (.invokevirtual 32, 3) := by decide +kernel
theorem dX4_removeOne_25 : decode cX4_removeOne 25 = .ok (.aload_n 0, 1) := by decide +kernel
theorem dX4_removeOne_26 : decode cX4_removeOne 26 = .ok (.dup, 1) := by decide +kernel
theorem dX4_removeOne_27 : decode cX4_removeOne 27 = .ok (.getfield 24, 3) := by decide +kernel
theorem dX4_removeOne_30 : decode cX4_removeOne 30 = .ok (.iconst 1, 1) := by decide +kernel
theorem dX4_removeOne_31 : decode cX4_removeOne 31 = .ok (.isub, 1) := by decide +kernel
theorem dX4_removeOne_32 : decode cX4_removeOne 32 = .ok (.putfield 24, 3) := by decide +kernel
theorem dX4_removeOne_35 : decode cX4_removeOne 35 = .ok (.return_, 1) := by decide +kernel
set_option maxRecDepth 20000 in
theorem ggX4_takeFrom_X4_move : GoodIn wsX4_takeFrom wsX4_move := goodIn_r _ [6, 7, 8, 9, 10, 11, 12, 13, 14, 15, 16, 17, 18, 19] (by decide +kernel) (by decide +kernel)
set_option maxRecDepth 20000 in
theorem gX4_takeFrom_X4_move : GoodIn wsX4_takeFrom (wsV RX4 32 RX4 yX4_move wsX4_move) := goodIn_app (goodIn_of _ (by decide +kernel)) ggX4_takeFrom_X4_move
theorem dX4_takeFrom_0 : decode cX4_takeFrom 0 = .ok (.aload_n 0, 1) := by decide +kernel
theorem dX4_takeFrom_1 : decode cX4_takeFrom 1 = .ok (.aload_n 1, 1) := by decide +kernel
theorem dX4_takeFrom_2 : decode cX4_takeFrom 2 = .ok (.iconst 0, 1) := by decide +kernel
theorem dX4_takeFrom_3 : decode cX4_takeFrom 3 = .ok (.iconst 0, 1) := by decide +kernel
theorem dX4_takeFrom_4 : decode cX4_takeFrom 4 = .ok (.aload_n 1, 1) := by decide +kernel
theorem dX4_takeFrom_5 : decode cX4_takeFrom 5 = .ok (.getfield 24, 3) := by decide +kernel
theorem dX4_takeFrom_8 : decode cX4_takeFrom 8 = .ok (.invokevirtual 32, 3) := by decide +kernel
theorem dX4_takeFrom_11 : decode cX4_takeFrom 11 = .ok (.aload_n 0, 1) := by decide +kernel
theorem dX4_takeFrom_12 : decode cX4_takeFrom 12 = .ok (.aload_n 1, 1) := by decide +kernel
theorem dX4_takeFrom_13 : decode cX4_takeFrom 13 = .ok (.getfield 24, 3) := by decide +kernel
theorem dX4_takeFrom_16 : decode cX4_takeFrom 16 = .ok (.putfield 24, 3) := by decide +kernel
theorem dX4_takeFrom_19 : decode cX4_takeFrom 19 = .ok (.return_, 1) := by decide +kernel
theorem dX4_move_0 : decode cX4_move 0 = .ok (.aload_n 1, 1) := by decide +kernel
theorem dX4_move_1 : decode cX4_move 1 = .ok (.getfield 9, 3) := by decide +kernel
theorem dX4_move_4 : decode cX4_move 4 = .ok (.iload_n 2, 1) := by decide +kernel
theorem dX4_move_5 : decode cX4_move 5 = .ok (.aload_n 0, 1) := by decide +kernel
theorem dX4_move_6 : decode cX4_move 6 = .ok (.getfield 9, 3) := by decide +kernel
theorem dX4_move_9 : decode cX4_move 9 = .ok (.iload_n 3, 1) := by decide +kernel
theorem dX4_move_10 : decode cX4_move 10 = .ok (.iload 4, 2) := by decide +kernel
theorem dX4_move_12 : decode cX4_move 12 = .ok (.invokestatic 39, 3) := by decide +kernel
theorem dX4_move_15 : decode cX4_move 15 = .ok (.aload_n 1, 1) := by decide +kernel
theorem dX4_move_16 : decode cX4_move 16 = .ok (.getfield 15, 3) := by decide +kernel
theorem dX4_move_19 : decode cX4_move 19 = .ok (.iload_n 2, 1) := by decide +kernel
theorem dX4_move_20 : decode cX4_move 20 = .ok (.aload_n 0, 1) := by decide +kernel
theorem dX4_move_21 : decode cX4_move 21 = .ok (.getfield 15, 3) := by decide +kernel
theorem dX4_move_24 : decode cX4_move 24 = .ok (.iload_n 3, 1) := by decide +kernel
theorem dX4_move_25 : decode cX4_move 25 = .ok (.iload 4, 2) := by decide +kernel
theorem dX4_move_27 : decode cX4_move 27 = .ok (.invokestatic 39, 3) := by decide +kernel
theorem dX4_move_30 : decode cX4_move 30 = .ok (.aload_n 1, 1) := by decide +kernel
theorem dX4_move_31 : decode cX4_move 31 = .ok (.getfield 18, 3) := by decide +kernel
theorem dX4_move_34 : decode cX4_move 34 = .ok (.iload_n 2, 1) := by decide +kernel
theorem dX4_move_35 : decode cX4_move 35 = .ok (.aload_n 0, 1) := by decide +kernel
theorem dX4_move_36 : decode cX4_move 36 = .ok (.getfield 18, 3) := by decide +kernel
theorem dX4_move_39 : decode cX4_move 39 = .ok (.iload_n 3, 1) := by decide +kernel
theorem dX4_move_40 : decode cX4_move 40 = .ok (.iload 4, 2) := by decide +kernel
theorem dX4_move_42 : decode cX4_move 42 = .ok (.invokestatic 39, 3) := by decide +kernel
theorem dX4_move_45 : decode cX4_move 45 = .ok (.aload_n 1, 1) := by decide +kernel
theorem dX4_move_46 : decode cX4_move 46 = .ok (.getfield 21, 3) := by decide +kernel
theorem dX4_move_49 : decode cX4_move 49 = .ok (.iload_n 2, 1) := by decide +kernel
theorem dX4_move_50 : decode cX4_move 50 = .ok (.iconst 4, 1) := by decide +kernel
theorem dX4_move_51 : decode cX4_move 51 = .ok (.imul, 1) := by decide +kernel
theorem dX4_move_52 : decode cX4_move 52 = .ok (.aload_n 0, 1) := by decide +kernel
theorem dX4_move_53 : decode cX4_move 53 = .ok (.getfield 21, 3) := by decide +kernel
theorem dX4_move_56 : decode cX4_move 56 = .ok (.iload_n 3, 1) := by decide +kernel
theorem dX4_move_57 : decode cX4_move 57 = .ok (.iconst 4, 1) := by decide +kernel
theorem dX4_move_58 : decode cX4_move 58 = .ok (.imul, 1) := by decide +kernel
theorem dX4_move_59 : decode cX4_move 59 = .ok (.iload 4, 2) := by decide +kernel
theorem dX4_move_61 : decode cX4_move 61 = .ok (.iconst 4, 1) := by decide +kernel
theorem dX4_move_62 : decode cX4_move 62 = .ok (.imul, 1) := by decide +kernel
theorem dX4_move_63 : decode cX4_move 63 = .ok (.invokestatic 39, 3) := by decide +kernel
theorem dX4_move_66 : decode cX4_move 66 = .ok (.return_, 1) := by decide +kernel
set_option maxRecDepth 20000 in
theorem ggX5_init_X0_init : GoodIn wsX5_init wsX0_init := goodIn_r _ [23, 24, 2, 3, 4, 25, 26, 27, 28, 46, 47, 48, 49] (by decide +kernel) (by decide +kernel)
set_option maxRecDepth 20000 in
theorem gX5_init_X0_init : GoodIn wsX5_init (wsX0_init) := ggX5_init_X0_init
set_option maxRecDepth 20000 in
theorem ggX5_init_X4_init : GoodIn wsX5_init wsX4_init := goodIn_r _ [30, 31, 2, 3, 4, 32, 33, 34, 35, 50, 51, 52, 53, 54] (by decide +kernel) (by decide +kernel)
set_option maxRecDepth 20000 in
theorem gX5_init_X4_init_n29 : GoodIn wsX5_init (wsX4_init) := ggX5_init_X4_init
theorem dX5_init_0 : decode cX5_init 0 = .ok (.aload_n 0, 1) := by decide +kernel
theorem dX5_init_1 : decode cX5_init 1 = .ok (.invokespecial 3, 3) := by decide +kernel
theorem dX5_init_4 : decode cX5_init 4 = .ok (.aload_n 0, 1) := by decide +kernel
theorem dX5_init_5 : decode cX5_init 5 = .ok (.bipush 6, 2) := by decide +kernel
theorem dX5_init_7 : decode cX5_init 7 = .ok (.newarray .int, 2) := by decide +kernel
theorem dX5_init_9 : decode cX5_init 9 = .ok (.putfield 9, 3) := by decide +kernel
theorem dX5_init_12 : decode cX5_init 12 = .ok (.aload_n 0, 1) := by decide +kernel
theorem dX5_init_13 : decode cX5_init 13 = .ok (.ldc 15, 2) := by decide +kernel
theorem dX5_init_15 : decode cX5_init 15 = .ok (.putfield 16, 3) := by decide +kernel
theorem dX5_init_18 : decode cX5_init 18 = .ok (.aload_n 0, 1) := by decide +kernel
theorem dX5_init_19 : decode cX5_init 19 = .ok (.new 20, 3) := by decide +kernel
theorem dX5_init_22 : decode cX5_init 22 = .ok (.dup, 1) := by decide +kernel
theorem dX5_init_23 : decode cX5_init 23 = .ok (.invokespecial 22, 3) := by decide +kernel
theorem dX5_init_26 : decode cX5_init 26 = .ok (.putfield 23, 3) := by decide +kernel
theorem dX5_init_29 : decode cX5_init 29 = .ok (.aload_n 0, 1) := by decide +kernel
theorem dX5_init_30 : decode cX5_init 30 = .ok (.new 27, 3) := by decide +kernel
theorem dX5_init_33 : decode cX5_init 33 = .ok (.dup, 1) := by decide +kernel
theorem dX5_init_34 : decode cX5_init 34 = .ok (.invokespecial 29, 3) := by decide +kernel
theorem dX5_init_37 : decode cX5_init 37 = .ok (.putfield 30, 3) := by decide +kernel
theorem dX5_init_40 : decode cX5_init 40 = .ok (.aload_n 0, 1) := by decide +kernel
theorem dX5_init_41 : decode cX5_init 41 = .ok (.bipush 8, 2) := by decide +kernel
theorem dX5_init_43 : decode cX5_init 43 = .ok (.newarray .int, 2) := by decide +kernel
theorem dX5_init_45 : decode cX5_init 45 = .ok (.putfield 34, 3) := by decide +kernel
theorem dX5_init_48 : decode cX5_init 48 = .ok (.aload_n 0, 1) := by decide +kernel
theorem dX5_init_49 : decode cX5_init 49 = .ok (.bipush 8, 2) := by decide +kernel
theorem dX5_init_51 : decode cX5_init 51 = .ok (.newarray .int, 2) := by decide +kernel
theorem dX5_init_53 : decode cX5_init 53 = .ok (.putfield 37, 3) := by decide +kernel
theorem dX5_init_56 : decode cX5_init 56 = .ok (.aload_n 0, 1) := by decide +kernel
theorem dX5_init_57 : decode cX5_init 57 = .ok (.bipush 8, 2) := by decide +kernel
theorem dX5_init_59 : decode cX5_init 59 = .ok (.newarray .long, 2) := by decide +kernel
theorem dX5_init_61 : decode cX5_init 61 = .ok (.putfield 40, 3) := by decide +kernel
theorem dX5_init_64 : decode cX5_init 64 = .ok (.aload_n 0, 1) := by decide +kernel
theorem dX5_init_65 : decode cX5_init 65 = .ok (.bipush 8, 2) := by decide +kernel
theorem dX5_init_67 : decode cX5_init 67 = .ok (.newarray .long, 2) := by decide +kernel
theorem dX5_init_69 : decode cX5_init 69 = .ok (.putfield 44, 3) := by decide +kernel
theorem dX5_init_72 : decode cX5_init 72 = .ok (.iconst 0, 1) := by decide +kernel
theorem dX5_init_73 : decode cX5_init 73 = .ok (.istore_n 1, 1) := by decide +kernel
theorem dX5_init_74 : decode cX5_init 74 = .ok (.iload_n 1, 1) := by decide +kernel
theorem dX5_init_75 : decode cX5_init 75 = .ok (.bipush 6, 2) := by decide +kernel
theorem dX5_init_77 : decode cX5_init 77 = .ok (.if_icmp .ge 16, 3) := by decide +kernel
theorem dX5_init_80 : decode cX5_init 80 = .ok (.aload_n 0, 1) := by decide +kernel
theorem dX5_init_81 : decode cX5_init 81 = .ok (.getfield 9, 3) := by decide +kernel
theorem dX5_init_84 : decode cX5_init 84 = .ok (.iload_n 1, 1) := by decide +kernel
theorem dX5_init_85 : decode cX5_init 85 = .ok (.iconst 1, 1) := by decide +kernel
theorem dX5_init_86 : decode cX5_init 86 = .ok (.iastore, 1) := by decide +kernel
theorem dX5_init_87 : decode cX5_init 87 = .ok (.iinc 1 1, 3) := by decide +kernel
theorem dX5_init_90 : decode cX5_init 90 = .ok (.goto (-16), 3) := by decide +kernel
theorem dX5_init_93 : decode cX5_init 93 = .ok (.iconst 0, 1) := by decide +kernel
theorem dX5_init_94 : decode cX5_init 94 = .ok (.istore_n 1, 1) := by decide +kernel
theorem dX5_init_95 : decode cX5_init 95 = .ok (.iload_n 1, 1) := by decide +kernel
theorem dX5_init_96 : decode cX5_init 96 = .ok (.bipush 8, 2) := by decide +kernel
theorem dX5_init_98 : decode cX5_init 98 = .ok (.if_icmp .ge 26, 3) := by decide +kernel
theorem dX5_init_101 : decode cX5_init 101 = .ok (.aload_n 0, 1) := by decide +kernel
theorem dX5_init_102 : decode cX5_init 102 = .ok (.getfield 34, 3) := by decide +kernel
theorem dX5_init_105 : decode cX5_init 105 = .ok (.iload_n 1, 1) := by decide +kernel
theorem dX5_init_106 : decode cX5_init 106 = .ok (.sipush 1000, 3) := by decide +kernel
theorem dX5_init_109 : decode cX5_init 109 = .ok (.iastore, 1) := by decide +kernel
theorem dX5_init_110 : decode cX5_init 110 = .ok (.aload_n 0, 1) := by decide +kernel
theorem dX5_init_111 : decode cX5_init 111 = .ok (.getfield 37, 3) := by decide +kernel
theorem dX5_init_114 : decode cX5_init 114 = .ok (.iload_n 1, 1) := by decide +kernel
theorem dX5_init_115 : decode cX5_init 115 = .ok (.bipush 100, 2) := by decide +kernel
theorem dX5_init_117 : decode cX5_init 117 = .ok (.iastore, 1) := by decide +kernel
theorem dX5_init_118 : decode cX5_init 118 = .ok (.iinc 1 1, 3) := by decide +kernel
theorem dX5_init_121 : decode cX5_init 121 = .ok (.goto (-26), 3) := by decide +kernel
theorem dX5_init_124 : decode cX5_init 124 = .ok (.return_, 1) := by decide +kernel
set_option maxRecDepth 20000 in
theorem ggX5_takeFrom_X0_takeFrom : GoodIn wsX5_takeFrom wsX0_takeFrom := goodIn_r _ [19, 20, 21, 3, 4, 5, 22, 23, 24, 50, 51, 52, 53] (by decide +kernel) (by decide +kernel)
set_option maxRecDepth 20000 in
theorem gX5_takeFrom_X0_takeFrom : GoodIn wsX5_takeFrom (wsV RX5 56 RX0 yX0_takeFrom wsX0_takeFrom) := goodIn_app (goodIn_of _ (by decide +kernel)) ggX5_takeFrom_X0_takeFrom
set_option maxRecDepth 20000 in
theorem ggX5_takeFrom_X4_takeFrom : GoodIn wsX5_takeFrom wsX4_takeFrom := goodIn_r _ [29, 30, 31, 32, 33, 28, 34, 35, 36, 3, 4, 5, 37, 38, 39, 54, 55, 56, 57, 58] (by decide +kernel) (by decide +kernel)
set_option maxRecDepth 20000 in
theorem gX5_takeFrom_X4_takeFrom : GoodIn wsX5_takeFrom (wsV RX5 60 RX4 yX4_takeFrom wsX4_takeFrom) := goodIn_app (goodIn_of _ (by decide +kernel)) ggX5_takeFrom_X4_takeFrom
theorem dX5_takeFrom_0 : decode cX5_takeFrom 0 = .ok (.aload_n 1, 1) := by decide +kernel
theorem dX5_takeFrom_1 : decode cX5_takeFrom 1 = .ok (.getfield 9, 3) := by decide +kernel
theorem dX5_takeFrom_4 : decode cX5_takeFrom 4 = .ok (.iconst 0, 1) := by decide +kernel
theorem dX5_takeFrom_5 : decode cX5_takeFrom 5 = .ok (.aload_n 0, 1) := by decide +kernel
theorem dX5_takeFrom_6 : decode cX5_takeFrom 6 = .ok (.getfield 9, 3) := by decide +kernel
theorem dX5_takeFrom_9 : decode cX5_takeFrom 9 = .ok (.iconst 0, 1) := by decide +kernel
theorem dX5_takeFrom_10 : decode cX5_takeFrom 10 = .ok (.bipush 6, 2) := by decide +kernel
theorem dX5_takeFrom_12 : decode cX5_takeFrom 12 = .ok (.invokestatic 47, 3) := by decide +kernel
theorem dX5_takeFrom_15 : decode cX5_takeFrom 15 = .ok (.aload_n 0, 1) := by decide +kernel
theorem dX5_takeFrom_16 : decode cX5_takeFrom 16 = .ok (.aload_n 1, 1) := by decide +kernel
theorem dX5_takeFrom_17 : decode cX5_takeFrom 17 = .ok (.getfield 16, 3) := by decide +kernel
theorem dX5_takeFrom_20 : decode cX5_takeFrom 20 = .ok (.putfield 16, 3) := by decide +kernel
theorem dX5_takeFrom_23 : decode cX5_takeFrom 23 = .ok (.aload_n 0, 1) := by decide +kernel
theorem dX5_takeFrom_24 : decode cX5_takeFrom 24 = .ok (.aload_n 1, 1) := by decide +kernel
theorem dX5_takeFrom_25 : decode cX5_takeFrom 25 = .ok (.getfield 53, 3) := by decide +kernel
theorem dX5_takeFrom_28 : decode cX5_takeFrom 28 = .ok (.putfield 53, 3) := by decide +kernel
theorem dX5_takeFrom_31 : decode cX5_takeFrom 31 = .ok (.aload_n 0, 1) := by decide +kernel
theorem dX5_takeFrom_32 : decode cX5_takeFrom 32 = .ok (.getfield 23, 3) := by decide +kernel
theorem dX5_takeFrom_35 : decode cX5_takeFrom 35 = .ok (.aload_n 1, 1) := by decide +kernel
theorem dX5_takeFrom_36 : decode cX5_takeFrom 36 = .ok (.getfield 23, 3) := by decide +kernel
theorem dX5_takeFrom_39 : decode cX5_takeFrom 39 = .ok (.invokevirtual 56, 3) := by decide +kernel
theorem dX5_takeFrom_42 : decode cX5_takeFrom 42 = .ok (.aload_n 0, 1) := by decide +kernel
theorem dX5_takeFrom_43 : decode cX5_takeFrom 43 = .ok (.getfield 30, 3) := by decide +kernel
theorem dX5_takeFrom_46 : decode cX5_takeFrom 46 = .ok (.aload_n 1, 1) := by decide +kernel
theorem dX5_takeFrom_47 : decode cX5_takeFrom 47 = .ok (.getfield 30, 3) := by decide +kernel
theorem dX5_takeFrom_50 : decode cX5_takeFrom 50 = .ok (.invokevirtual 60, 3) := by decide +kernel
theorem dX5_takeFrom_53 : decode cX5_takeFrom 53 = .ok (.aload_n 1, 1) := by decide +kernel
theorem dX5_takeFrom_54 : decode cX5_takeFrom 54 = .ok (.getfield 34, 3) := by decide +kernel
theorem dX5_takeFrom_57 : decode cX5_takeFrom 57 = .ok (.iconst 0, 1) := by decide +kernel
theorem dX5_takeFrom_58 : decode cX5_takeFrom 58 = .ok (.aload_n 0, 1) := by decide +kernel
theorem dX5_takeFrom_59 : decode cX5_takeFrom 59 = .ok (.getfield 34, 3) := by decide +kernel
theorem dX5_takeFrom_62 : decode cX5_takeFrom 62 = .ok (.iconst 0, 1) := by decide +kernel
theorem dX5_takeFrom_63 : decode cX5_takeFrom 63 = .ok (.bipush 8, 2) := by decide +kernel
theorem dX5_takeFrom_65 : decode cX5_takeFrom 65 = .ok (.invokestatic 47, 3) := by decide +kernel
theorem dX5_takeFrom_68 : decode cX5_takeFrom 68 = .ok (.aload_n 1, 1) := by decide +kernel
theorem dX5_takeFrom_69 : decode cX5_takeFrom 69 = .ok (.getfield 37, 3) := by decide +kernel
theorem dX5_takeFrom_72 : decode cX5_takeFrom 72 = .ok (.iconst 0, 1) := by decide +kernel
theorem dX5_takeFrom_73 : decode cX5_takeFrom 73 = .ok (.aload_n 0, 1) := by decide +kernel
theorem dX5_takeFrom_74 : decode cX5_takeFrom 74 = .ok (.getfield 37, 3) := by decide +kernel
theorem dX5_takeFrom_77 : decode cX5_takeFrom 77 = .ok (.iconst 0, 1) := by decide +kernel
theorem dX5_takeFrom_78 : decode cX5_takeFrom 78 = .ok (.bipush 8, 2) := by decide +kernel
theorem dX5_takeFrom_80 : decode cX5_takeFrom 80 = .ok (.invokestatic 47, 3) := by decide +kernel
theorem dX5_takeFrom_83 : decode cX5_takeFrom 83 = .ok (.aload_n 0, 1) := by decide +kernel
theorem dX5_takeFrom_84 : decode cX5_takeFrom 84 = .ok (.aload_n 1, 1) := by decide +kernel
theorem dX5_takeFrom_85 : decode cX5_takeFrom 85 = .ok (.getfield 63, 3) := by decide +kernel
theorem dX5_takeFrom_88 : decode cX5_takeFrom 88 = .ok (.putfield 63, 3) := by decide +kernel
theorem dX5_takeFrom_91 : decode cX5_takeFrom 91 = .ok (.aload_n 1, 1) := by decide +kernel
theorem dX5_takeFrom_92 : decode cX5_takeFrom 92 = .ok (.getfield 40, 3) := by decide +kernel
theorem dX5_takeFrom_95 : decode cX5_takeFrom 95 = .ok (.iconst 0, 1) := by decide +kernel
theorem dX5_takeFrom_96 : decode cX5_takeFrom 96 = .ok (.aload_n 0, 1) := by decide +kernel
theorem dX5_takeFrom_97 : decode cX5_takeFrom 97 = .ok (.getfield 40, 3) := by decide +kernel
theorem dX5_takeFrom_100 : decode cX5_takeFrom 100 = .ok (.iconst 0, 1) := by decide +kernel
theorem dX5_takeFrom_101 : decode cX5_takeFrom 101 = .ok (.bipush 8, 2) := by decide +kernel
theorem dX5_takeFrom_103 : decode cX5_takeFrom 103 = .ok (.invokestatic 47, 3) := by decide +kernel
theorem dX5_takeFrom_106 : decode cX5_takeFrom 106 = .ok (.aload_n 1, 1) := by decide +kernel
theorem dX5_takeFrom_107 : decode cX5_takeFrom 107 = .ok (.getfield 44, 3) := by decide +kernel
theorem dX5_takeFrom_110 : decode cX5_takeFrom 110 = .ok (.iconst 0, 1) := by decide +kernel
theorem dX5_takeFrom_111 : decode cX5_takeFrom 111 = .ok (.aload_n 0, 1) := by decide +kernel
theorem dX5_takeFrom_112 : decode cX5_takeFrom 112 = .ok (.getfield 44, 3) := by decide +kernel
theorem dX5_takeFrom_115 : decode cX5_takeFrom 115 = .ok (.iconst 0, 1) := by decide +kernel
theorem dX5_takeFrom_116 : decode cX5_takeFrom 116 = .ok (.bipush 8, 2) := by decide +kernel
theorem dX5_takeFrom_118 : decode cX5_takeFrom 118 = .ok (.invokestatic 47, 3) := by decide +kernel
theorem dX5_takeFrom_121 : decode cX5_takeFrom 121 = .ok (.return_, 1) := by decide +kernel
theorem dX5_seen_0 : decode cX5_seen 0 = .ok (.aload_n 0, 1) := by decide +kernel
theorem dX5_seen_1 : decode cX5_seen 1 = .ok (.getfield 23, 3) := by decide +kernel
theorem dX5_seen_4 : decode cX5_seen 4 = .ok (.getfield 66, 3) := by decide +kernel
theorem dX5_seen_7 : decode cX5_seen 7 = .ok (.iload_n 2, 1) := by decide +kernel
theorem dX5_seen_8 : decode cX5_seen 8 = .ok (.iaload, 1) := by decide +kernel
theorem dX5_seen_9 : decode cX5_seen 9 = .ok (.istore_n 3, 1) := by decide +kernel
theorem dX5_seen_10 : decode cX5_seen 10 = .ok (.aload_n 0, 1) := by decide +kernel
theorem dX5_seen_11 : decode cX5_seen 11 = .ok (.getfield 30, 3) := by decide +kernel
theorem dX5_seen_14 : decode cX5_seen 14 = .ok (.getfield 69, 3) := by decide +kernel
theorem dX5_seen_17 : decode cX5_seen 17 = .ok (.iload_n 1, 1) := by decide +kernel
theorem dX5_seen_18 : decode cX5_seen 18 = .ok (.iaload, 1) := by decide +kernel
theorem dX5_seen_19 : decode cX5_seen 19 = .ok (.iconst 1, 1) := by decide +kernel
theorem dX5_seen_20 : decode cX5_seen 20 = .ok (.if_icmp .ne 12, 3) := by decide +kernel
theorem dX5_seen_23 : decode cX5_seen 23 = .ok (.iload_n 3, 1) := by decide +kernel
theorem dX5_seen_24 : decode cX5_seen 24 = .ok (.bipush 8, 2) := by decide +kernel
theorem dX5_seen_26 : decode cX5_seen 26 = .ok (.iand, 1) := by decide +kernel
theorem dX5_seen_27 : decode cX5_seen 27 = .ok (.ifCond .ne 5, 3) := by decide +kernel
theorem dX5_seen_30 : decode cX5_seen 30 = .ok (.iconst 0, 1) := by decide +kernel
theorem dX5_seen_31 : decode cX5_seen 31 = .ok (.ireturn, 1) := by decide +kernel
theorem dX5_seen_32 : decode cX5_seen 32 = .ok (.aload_n 0, 1) := by decide +kernel
theorem dX5_seen_33 : decode cX5_seen 33 = .ok (.getfield 30, 3) := by decide +kernel
theorem dX5_seen_36 : decode cX5_seen 36 = .ok (.getfield 72, 3) := by decide +kernel
theorem dX5_seen_39 : decode cX5_seen 39 = .ok (.iload_n 1, 1) := by decide +kernel
theorem dX5_seen_40 : decode cX5_seen 40 = .ok (.iconst 4, 1) := by decide +kernel
theorem dX5_seen_41 : decode cX5_seen 41 = .ok (.imul, 1) := by decide +kernel
theorem dX5_seen_42 : decode cX5_seen 42 = .ok (.iaload, 1) := by decide +kernel
theorem dX5_seen_43 : decode cX5_seen 43 = .ok (.istore 4, 2) := by decide +kernel
theorem dX5_seen_45 : decode cX5_seen 45 = .ok (.iconst 1, 1) := by decide +kernel
theorem dX5_seen_46 : decode cX5_seen 46 = .ok (.istore 5, 2) := by decide +kernel
theorem dX5_seen_48 : decode cX5_seen 48 = .ok (.iload 5, 2) := by decide +kernel
theorem dX5_seen_50 : decode cX5_seen 50 = .ok (.iconst 4, 1) := by decide +kernel
theorem dX5_seen_51 : decode cX5_seen 51 = .ok (.if_icmp .ge 40, 3) := by decide +kernel
theorem dX5_seen_54 : decode cX5_seen 54 = .ok (.iload_n 3, 1) := by decide +kernel
theorem dX5_seen_55 : decode cX5_seen 55 = .ok (.iload 5, 2) := by decide +kernel
theorem dX5_seen_57 : decode cX5_seen 57 = .ok (.iconst 1, 1) := by decide +kernel
theorem dX5_seen_58 : decode cX5_seen 58 = .ok (.isub, 1) := by decide +kernel
theorem dX5_seen_59 : decode cX5_seen 59 = .ok (.ishr, 1) := by decide +kernel
theorem dX5_seen_60 : decode cX5_seen 60 = .ok (.iconst 1, 1) := by decide +kernel
theorem dX5_seen_61 : decode cX5_seen 61 = .ok (.iand, 1) := by decide +kernel
theorem dX5_seen_62 : decode cX5_seen 62 = .ok (.iconst 1, 1) := by decide +kernel
theorem dX5_seen_63 : decode cX5_seen 63 = .ok (.if_icmp .ne 22, 3) := by decide +kernel
theorem dX5_seen_66 : decode cX5_seen 66 = .ok (.iload 4, 2) := by decide +kernel
theorem dX5_seen_68 : decode cX5_seen 68 = .ok (.aload_n 0, 1) := by decide +kernel
theorem dX5_seen_69 : decode cX5_seen 69 = .ok (.getfield 30, 3) := by decide +kernel
theorem dX5_seen_72 : decode cX5_seen 72 = .ok (.getfield 72, 3) := by decide +kernel
theorem dX5_seen_75 : decode cX5_seen 75 = .ok (.iload_n 1, 1) := by decide +kernel
theorem dX5_seen_76 : decode cX5_seen 76 = .ok (.iconst 4, 1) := by decide +kernel
theorem dX5_seen_77 : decode cX5_seen 77 = .ok (.imul, 1) := by decide +kernel
theorem dX5_seen_78 : decode cX5_seen 78 = .ok (.iload 5, 2) := by decide +kernel
theorem dX5_seen_80 : decode cX5_seen 80 = .ok (.iadd, 1) := by decide +kernel
theorem dX5_seen_81 : decode cX5_seen 81 = .ok (.iaload, 1) := by decide +kernel
theorem dX5_seen_82 : decode cX5_seen 82 = .ok (.iadd, 1) := by decide +kernel
theorem dX5_seen_83 : decode cX5_seen 83 = .ok (.istore 4, 2) := by decide +kernel
theorem dX5_seen_85 : decode cX5_seen 85 = .ok (.iinc 5 1, 3) := by decide +kernel
theorem dX5_seen_88 : decode cX5_seen 88 = .ok (.goto (-40), 3) := by decide +kernel
theorem dX5_seen_91 : decode cX5_seen 91 = .ok (.iload 4, 2) := by decide +kernel
theorem dX5_seen_93 : decode cX5_seen 93 = .ok (.ireturn, 1) := by decide +kernel
set_option maxRecDepth 20000 in
theorem ggX5_sworn_X5_seen : GoodIn wsX5_sworn wsX5_seen := goodIn_r _ [8, 1, 9, 10, 11, 12, 13, 14, 15, 16, 17, 18, 19, 20, 21, 22, 23, 24, 25, 26, 27, 28, 29, 30, 31] (by decide +kernel) (by decide +kernel)
set_option maxRecDepth 20000 in
theorem gX5_sworn_X5_seen : GoodIn wsX5_sworn (wsV RX5 75 RX5 yX5_seen wsX5_seen) := goodIn_app (goodIn_of _ (by decide +kernel)) ggX5_sworn_X5_seen
theorem dX5_sworn_0 : decode cX5_sworn 0 = .ok (.aload_n 0, 1) := by decide +kernel
theorem dX5_sworn_1 : decode cX5_sworn 1 = .ok (.iload_n 1, 1) := by decide +kernel
theorem dX5_sworn_2 : decode cX5_sworn 2 = .ok (.iload_n 2, 1) := by decide +kernel
theorem dX5_sworn_3 : decode cX5_sworn 3 = .ok (.invokevirtual 75, 3) := by decide +kernel
theorem dX5_sworn_6 : decode cX5_sworn 6 = .ok (.istore_n 3, 1) := by decide +kernel
theorem dX5_sworn_7 : decode cX5_sworn 7 = .ok (.aload_n 0, 1) := by decide +kernel
theorem dX5_sworn_8 : decode cX5_sworn 8 = .ok (.getfield 23, 3) := by decide +kernel
theorem dX5_sworn_11 : decode cX5_sworn 11 = .ok (.getfield 79, 3) := by decide +kernel
theorem dX5_sworn_14 : decode cX5_sworn 14 = .ok (.iload_n 2, 1) := by decide +kernel
theorem dX5_sworn_15 : decode cX5_sworn 15 = .ok (.iaload, 1) := by decide +kernel
theorem dX5_sworn_16 : decode cX5_sworn 16 = .ok (.istore 4, 2) := by decide +kernel
theorem dX5_sworn_18 : decode cX5_sworn 18 = .ok (.iload 4, 2) := by decide +kernel
theorem dX5_sworn_20 : decode cX5_sworn 20 = .ok (.ifCond .le 30, 3) := by decide +kernel
theorem dX5_sworn_23 : decode cX5_sworn 23 = .ok (.iload_n 3, 1) := by decide +kernel
theorem dX5_sworn_24 : decode cX5_sworn 24 = .ok (.iload 4, 2) := by decide +kernel
theorem dX5_sworn_26 : decode cX5_sworn 26 = .ok (.if_icmp .le 24, 3) := by decide +kernel
theorem dX5_sworn_29 : decode cX5_sworn 29 = .ok (.iload_n 3, 1) := by decide +kernel
theorem dX5_sworn_30 : decode cX5_sworn 30 = .ok (.iload 4, 2) := by decide +kernel
theorem dX5_sworn_32 : decode cX5_sworn 32 = .ok (.isub, 1) := by decide +kernel
theorem dX5_sworn_33 : decode cX5_sworn 33 = .ok (.aload_n 0, 1) := by decide +kernel
theorem dX5_sworn_34 : decode cX5_sworn 34 = .ok (.getfield 23, 3) := by decide +kernel
theorem dX5_sworn_37 : decode cX5_sworn 37 = .ok (.getfield 82, 3) := by decide +kernel
theorem dX5_sworn_40 : decode cX5_sworn 40 = .ok (.iload_n 2, 1) := by decide +kernel
theorem dX5_sworn_41 : decode cX5_sworn 41 = .ok (.iaload, 1) := by decide +kernel
theorem dX5_sworn_42 : decode cX5_sworn 42 = .ok (.if_icmp .gt 8, 3) := by decide +kernel
theorem dX5_sworn_45 : decode cX5_sworn 45 = .ok (.iload 4, 2) := by decide +kernel
theorem dX5_sworn_47 : decode cX5_sworn 47 = .ok (.goto 4, 3) := by decide +kernel
theorem dX5_sworn_50 : decode cX5_sworn 50 = .ok (.iload_n 3, 1) := by decide +kernel
theorem dX5_sworn_51 : decode cX5_sworn 51 = .ok (.ireturn, 1) := by decide +kernel
set_option maxRecDepth 20000 in
theorem ggX5_isInBook_X5_sworn : GoodIn wsX5_isInBook wsX5_sworn := goodIn_r _ [7, 1, 8, 9, 10, 11, 12, 6, 13, 14, 15, 16, 17, 18, 19, 20, 21, 22, 23, 24, 25, 26, 27, 28, 29, 30, 31, 32, 33, 34, 35, 36] (by decide +kernel) (by decide +kernel)
set_option maxRecDepth 20000 in
theorem gX5_isInBook_X5_sworn : GoodIn wsX5_isInBook (wsV RX5 85 RX5 yX5_sworn wsX5_sworn) := goodIn_app (goodIn_of _ (by decide +kernel)) ggX5_isInBook_X5_sworn
theorem dX5_isInBook_0 : decode cX5_isInBook 0 = .ok (.aload_n 0, 1) := by decide +kernel
theorem dX5_isInBook_1 : decode cX5_isInBook 1 = .ok (.iload_n 1, 1) := by decide +kernel
theorem dX5_isInBook_2 : decode cX5_isInBook 2 = .ok (.iload_n 2, 1) := by decide +kernel
theorem dX5_isInBook_3 : decode cX5_isInBook 3 = .ok (.invokevirtual 85, 3) := by decide +kernel
theorem dX5_isInBook_6 : decode cX5_isInBook 6 = .ok (.istore_n 3, 1) := by decide +kernel
theorem dX5_isInBook_7 : decode cX5_isInBook 7 = .ok (.iload_n 3, 1) := by decide +kernel
theorem dX5_isInBook_8 : decode cX5_isInBook 8 = .ok (.ifCond .le 20, 3) := by decide +kernel
theorem dX5_isInBook_11 : decode cX5_isInBook 11 = .ok (.iload_n 3, 1) := by decide +kernel
theorem dX5_isInBook_12 : decode cX5_isInBook 12 = .ok (.aload_n 0, 1) := by decide +kernel
theorem dX5_isInBook_13 : decode cX5_isInBook 13 = .ok (.getfield 23, 3) := by decide +kernel
theorem dX5_isInBook_16 : decode cX5_isInBook 16 = .ok (.getfield 88, 3) := by decide +kernel
theorem dX5_isInBook_19 : decode cX5_isInBook 19 = .ok (.iload_n 2, 1) := by decide +kernel
theorem dX5_isInBook_20 : decode cX5_isInBook 20 = .ok (.iaload, 1) := by decide +kernel
theorem dX5_isInBook_21 : decode cX5_isInBook 21 = .ok (.if_icmp .lt 7, 3) := by decide +kernel
theorem dX5_isInBook_24 : decode cX5_isInBook 24 = .ok (.iconst 1, 1) := by decide +kernel
theorem dX5_isInBook_25 : decode cX5_isInBook 25 = .ok (.goto 4, 3) := by decide +kernel
theorem dX5_isInBook_28 : decode cX5_isInBook 28 = .ok (.iconst 0, 1) := by decide +kernel
theorem dX5_isInBook_29 : decode cX5_isInBook 29 = .ok (.ireturn, 1) := by decide +kernel
set_option maxRecDepth 20000 in
theorem ggX5_weight_X5_isRich : GoodIn wsX5_weight wsX5_isRich := goodIn_r _ [9, 10, 11, 12, 13, 8, 14, 15, 16, 17, 18, 19, 20, 21, 22, 3, 23, 24, 25, 26, 27, 28, 29, 30, 31, 32, 33, 34, 40, 41, 42, 43, 35, 36, 37, 38, 39] (by decide +kernel) (by decide +kernel)
set_option maxRecDepth 20000 in
theorem gX5_weight_X5_isRich : GoodIn wsX5_weight (wsV RX5 91 RX5 yX5_isRich wsX5_isRich) := goodIn_app (goodIn_of _ (by decide +kernel)) ggX5_weight_X5_isRich
theorem dX5_weight_0 : decode cX5_weight 0 = .ok (.aload_n 0, 1) := by decide +kernel
theorem dX5_weight_1 : decode cX5_weight 1 = .ok (.iload_n 1, 1) := by decide +kernel
theorem dX5_weight_2 : decode cX5_weight 2 = .ok (.iload_n 2, 1) := by decide +kernel
theorem dX5_weight_3 : decode cX5_weight 3 = .ok (.invokevirtual 91, 3) := by decide +kernel
theorem dX5_weight_6 : decode cX5_weight 6 = .ok (.ifCond .eq 13, 3) := by decide +kernel
theorem dX5_weight_9 : decode cX5_weight 9 = .ok (.bipush 100, 2) := by decide +kernel
theorem dX5_weight_11 : decode cX5_weight 11 = .ok (.aload_n 0, 1) := by decide +kernel
theorem dX5_weight_12 : decode cX5_weight 12 = .ok (.getfield 53, 3) := by decide +kernel
theorem dX5_weight_15 : decode cX5_weight 15 = .ok (.iadd, 1) := by decide +kernel
theorem dX5_weight_16 : decode cX5_weight 16 = .ok (.goto 5, 3) := by decide +kernel
theorem dX5_weight_19 : decode cX5_weight 19 = .ok (.bipush 100, 2) := by decide +kernel
theorem dX5_weight_21 : decode cX5_weight 21 = .ok (.aload_n 0, 1) := by decide +kernel
theorem dX5_weight_22 : decode cX5_weight 22 = .ok (.getfield 9, 3) := by decide +kernel
theorem dX5_weight_25 : decode cX5_weight 25 = .ok (.aload_n 0, 1) := by decide +kernel
theorem dX5_weight_26 : decode cX5_weight 26 = .ok (.getfield 30, 3) := by decide +kernel
theorem dX5_weight_29 : decode cX5_weight 29 = .ok (.getfield 95, 3) := by decide +kernel
theorem dX5_weight_32 : decode cX5_weight 32 = .ok (.iload_n 1, 1) := by decide +kernel
theorem dX5_weight_33 : decode cX5_weight 33 = .ok (.iaload, 1) := by decide +kernel
theorem dX5_weight_34 : decode cX5_weight 34 = .ok (.iaload, 1) := by decide +kernel
theorem dX5_weight_35 : decode cX5_weight 35 = .ok (.imul, 1) := by decide +kernel
theorem dX5_weight_36 : decode cX5_weight 36 = .ok (.ireturn, 1) := by decide +kernel
set_option maxRecDepth 20000 in
theorem ggX5_isRich_X5_sworn : GoodIn wsX5_isRich wsX5_sworn := goodIn_r _ [6, 7, 8, 9, 10, 11, 12, 5, 13, 14, 15, 16, 17, 18, 19, 20, 21, 22, 23, 24, 25, 26, 27, 28, 29, 30, 31, 32, 33, 34, 35, 36] (by decide +kernel) (by decide +kernel)
set_option maxRecDepth 20000 in
theorem gX5_isRich_X5_sworn : GoodIn wsX5_isRich (wsV RX5 85 RX5 yX5_sworn wsX5_sworn) := goodIn_app (goodIn_of _ (by decide +kernel)) ggX5_isRich_X5_sworn
theorem dX5_isRich_0 : decode cX5_isRich 0 = .ok (.aload_n 0, 1) := by decide +kernel
theorem dX5_isRich_1 : decode cX5_isRich 1 = .ok (.iload_n 1, 1) := by decide +kernel
theorem dX5_isRich_2 : decode cX5_isRich 2 = .ok (.iload_n 2, 1) := by decide +kernel
theorem dX5_isRich_3 : decode cX5_isRich 3 = .ok (.invokevirtual 85, 3) := by decide +kernel
theorem dX5_isRich_6 : decode cX5_isRich 6 = .ok (.aload_n 0, 1) := by decide +kernel
theorem dX5_isRich_7 : decode cX5_isRich 7 = .ok (.getfield 16, 3) := by decide +kernel
theorem dX5_isRich_10 : decode cX5_isRich 10 = .ok (.if_icmp .lt 7, 3) := by decide +kernel
theorem dX5_isRich_13 : decode cX5_isRich 13 = .ok (.iconst 1, 1) := by decide +kernel
theorem dX5_isRich_14 : decode cX5_isRich 14 = .ok (.goto 4, 3) := by decide +kernel
theorem dX5_isRich_17 : decode cX5_isRich 17 = .ok (.iconst 0, 1) := by decide +kernel
theorem dX5_isRich_18 : decode cX5_isRich 18 = .ok (.ireturn, 1) := by decide +kernel
set_option maxRecDepth 20000 in
theorem ggX5_kind_X5_isInBook : GoodIn wsX5_kind wsX5_isInBook := goodIn_r _ [7, 8, 9, 10, 11, 12, 6, 13, 14, 15, 16, 17, 18, 19, 20, 1, 21, 22, 28, 29, 30, 31, 32, 33, 34, 35, 36, 37, 43, 44, 45, 46, 38, 39, 40, 41, 42] (by decide +kernel) (by decide +kernel)
set_option maxRecDepth 20000 in
theorem gX5_kind_X5_isInBook : GoodIn wsX5_kind (wsV RX5 101 RX5 yX5_isInBook wsX5_isInBook) := goodIn_app (goodIn_of _ (by decide +kernel)) ggX5_kind_X5_isInBook
set_option maxRecDepth 20000 in
theorem ggX5_kind_X5_sworn : GoodIn wsX5_kind wsX5_sworn := goodIn_r _ [13, 8, 14, 15, 16, 17, 18, 6, 19, 20, 1, 21, 22, 28, 29, 30, 31, 32, 33, 34, 35, 36, 37, 43, 44, 45, 46, 38, 39, 40, 41, 42] (by decide +kernel) (by decide +kernel)
set_option maxRecDepth 20000 in
theorem gX5_kind_X5_sworn : GoodIn wsX5_kind (wsV RX5 85 RX5 yX5_sworn wsX5_sworn) := goodIn_app (goodIn_of _ (by decide +kernel)) ggX5_kind_X5_sworn
set_option maxRecDepth 20000 in
theorem ggX5_kind_X5_seen : GoodIn wsX5_kind wsX5_seen := goodIn_r _ [19, 8, 20, 1, 21, 22, 28, 29, 30, 31, 32, 33, 34, 35, 36, 37, 43, 44, 45, 46, 38, 39, 40, 41, 42] (by decide +kernel) (by decide +kernel)
set_option maxRecDepth 20000 in
theorem gX5_kind_X5_seen : GoodIn wsX5_kind (wsV RX5 75 RX5 yX5_seen wsX5_seen) := goodIn_app (goodIn_of _ (by decide +kernel)) ggX5_kind_X5_seen
set_option maxRecDepth 20000 in
theorem ggX5_kind_X5_isRich : GoodIn wsX5_kind wsX5_isRich := goodIn_r _ [26, 27, 10, 11, 12, 6, 13, 8, 14, 15, 16, 17, 18, 19, 20, 1, 21, 22, 28, 29, 30, 31, 32, 33, 34, 35, 36, 37, 43, 44, 45, 46, 38, 39, 40, 41, 42] (by decide +kernel) (by decide +kernel)
set_option maxRecDepth 20000 in
theorem gX5_kind_X5_isRich : GoodIn wsX5_kind (wsV RX5 91 RX5 yX5_isRich wsX5_isRich) := goodIn_app (goodIn_of _ (by decide +kernel)) ggX5_kind_X5_isRich
theorem dX5_kind_0 : decode cX5_kind 0 = .ok (.aload_n 0, 1) := by decide +kernel
theorem dX5_kind_1 : decode cX5_kind 1 = .ok (.getfield 30, 3) := by decide +kernel
theorem dX5_kind_4 : decode cX5_kind 4 = .ok (.getfield 98, 3) := by decide +kernel
theorem dX5_kind_7 : decode cX5_kind 7 = .ok (.iload_n 1, 1) := by decide +kernel
theorem dX5_kind_8 : decode cX5_kind 8 = .ok (.iaload, 1) := by decide +kernel
theorem dX5_kind_9 : decode cX5_kind 9 = .ok (.istore_n 2, 1) := by decide +kernel
theorem dX5_kind_10 : decode cX5_kind 10 = .ok (.aload_n 0, 1) := by decide +kernel
theorem dX5_kind_11 : decode cX5_kind 11 = .ok (.iload_n 1, 1) := by decide +kernel
theorem dX5_kind_12 : decode cX5_kind 12 = .ok (.iload_n 2, 1) := by decide +kernel
theorem dX5_kind_13 : decode cX5_kind 13 = .ok (.invokevirtual 101, 3) := by decide +kernel
theorem dX5_kind_16 : decode cX5_kind 16 = .ok (.ifCond .ne 5, 3) := by decide +kernel
theorem dX5_kind_19 : decode cX5_kind 19 = .ok (.iconst 1, 1) := by decide +kernel
theorem dX5_kind_20 : decode cX5_kind 20 = .ok (.ireturn, 1) := by decide +kernel
theorem dX5_kind_21 : decode cX5_kind 21 = .ok (.aload_n 0, 1) := by decide +kernel
theorem dX5_kind_22 : decode cX5_kind 22 = .ok (.iload_n 1, 1) := by decide +kernel
theorem dX5_kind_23 : decode cX5_kind 23 = .ok (.iload_n 2, 1) := by decide +kernel
theorem dX5_kind_24 : decode cX5_kind 24 = .ok (.invokevirtual 85, 3) := by decide +kernel
theorem dX5_kind_27 : decode cX5_kind 27 = .ok (.aload_n 0, 1) := by decide +kernel
theorem dX5_kind_28 : decode cX5_kind 28 = .ok (.iload_n 1, 1) := by decide +kernel
theorem dX5_kind_29 : decode cX5_kind 29 = .ok (.iload_n 2, 1) := by decide +kernel
theorem dX5_kind_30 : decode cX5_kind 30 = .ok (.invokevirtual 75, 3) := by decide +kernel
theorem dX5_kind_33 : decode cX5_kind 33 = .ok (.if_icmp .eq 5, 3) := by decide +kernel
theorem dX5_kind_36 : decode cX5_kind 36 = .ok (.iconst 2, 1) := by decide +kernel
theorem dX5_kind_37 : decode cX5_kind 37 = .ok (.ireturn, 1) := by decide +kernel
theorem dX5_kind_38 : decode cX5_kind 38 = .ok (.aload_n 0, 1) := by decide +kernel
theorem dX5_kind_39 : decode cX5_kind 39 = .ok (.iload_n 1, 1) := by decide +kernel
theorem dX5_kind_40 : decode cX5_kind 40 = .ok (.iload_n 2, 1) := by decide +kernel
theorem dX5_kind_41 : decode cX5_kind 41 = .ok (.invokevirtual 91, 3) := by decide +kernel
theorem dX5_kind_44 : decode cX5_kind 44 = .ok (.ifCond .eq 7, 3) := by decide +kernel
theorem dX5_kind_47 : decode cX5_kind 47 = .ok (.iconst 3, 1) := by decide +kernel
theorem dX5_kind_48 : decode cX5_kind 48 = .ok (.goto 4, 3) := by decide +kernel
theorem dX5_kind_51 : decode cX5_kind 51 = .ok (.iconst 0, 1) := by decide +kernel
theorem dX5_kind_52 : decode cX5_kind 52 = .ok (.ireturn, 1) := by decide +kernel
set_option maxRecDepth 20000 in
theorem ggX5_howManyOfKind_X5_kind : GoodIn wsX5_howManyOfKind wsX5_kind := goodIn_r _ [7, 1, 8, 9, 10, 11, 6, 12, 13, 14, 15, 16, 17, 18, 19, 20, 21, 22, 23, 24, 25, 26, 27, 28, 29, 30, 31, 32, 33, 34, 35, 36, 37, 38, 39, 40, 41, 42, 43, 44, 45, 46, 47, 48, 49, 50, 51] (by decide +kernel) (by decide +kernel)
set_option maxRecDepth 20000 in
theorem gX5_howManyOfKind_X5_kind : GoodIn wsX5_howManyOfKind (wsV RX5 107 RX5 yX5_kind wsX5_kind) := goodIn_app (goodIn_of _ (by decide +kernel)) ggX5_howManyOfKind_X5_kind
theorem dX5_howManyOfKind_0 : decode cX5_howManyOfKind 0 = .ok (.iconst 0, 1) := by decide +kernel
theorem dX5_howManyOfKind_1 : decode cX5_howManyOfKind 1 = .ok (.istore_n 2, 1) := by decide +kernel
theorem dX5_howManyOfKind_2 : decode cX5_howManyOfKind 2 = .ok (.iconst 0, 1) := by decide +kernel
theorem dX5_howManyOfKind_3 : decode cX5_howManyOfKind 3 = .ok (.istore_n 3, 1) := by decide +kernel
theorem dX5_howManyOfKind_4 : decode cX5_howManyOfKind 4 = .ok (.iload_n 3, 1) := by decide +kernel
theorem dX5_howManyOfKind_5 : decode cX5_howManyOfKind 5 = .ok (.aload_n 0, 1) := by decide +kernel
theorem dX5_howManyOfKind_6 : decode cX5_howManyOfKind 6 = .ok (.getfield 30, 3) := by decide +kernel
theorem dX5_howManyOfKind_9 : decode cX5_howManyOfKind 9 = .ok (.getfield 104, 3) := by decide +kernel
theorem dX5_howManyOfKind_12 : decode cX5_howManyOfKind 12 = .ok (.if_icmp .ge 21, 3) := by decide +kernel
theorem dX5_howManyOfKind_15 : decode cX5_howManyOfKind 15 = .ok (.aload_n 0, 1) := by decide +kernel
theorem dX5_howManyOfKind_16 : decode cX5_howManyOfKind 16 = .ok (.iload_n 3, 1) := by decide +kernel
theorem dX5_howManyOfKind_17 : decode cX5_howManyOfKind 17 = .ok (.invokevirtual 107, 3) := by decide +kernel
theorem dX5_howManyOfKind_20 : decode cX5_howManyOfKind 20 = .ok (.iload_n 1, 1) := by decide +kernel
theorem dX5_howManyOfKind_21 : decode cX5_howManyOfKind 21 = .ok (.if_icmp .ne 6, 3) := by decide +kernel
theorem dX5_howManyOfKind_24 : decode cX5_howManyOfKind 24 = .ok (.iinc 2 1, 3) := by decide +kernel
theorem dX5_howManyOfKind_27 : decode cX5_howManyOfKind 27 = .ok (.iinc 3 1, 3) := by decide +kernel
theorem dX5_howManyOfKind_30 : decode cX5_howManyOfKind 30 = .ok (.goto (-26), 3) := by decide +kernel
theorem dX5_howManyOfKind_33 : decode cX5_howManyOfKind 33 = .ok (.iload_n 2, 1) := by decide +kernel
theorem dX5_howManyOfKind_34 : decode cX5_howManyOfKind 34 = .ok (.ireturn, 1) := by decide +kernel
set_option maxRecDepth 20000 in
theorem ggX5_howManyInBook_X5_isInBook : GoodIn wsX5_howManyInBook wsX5_isInBook := goodIn_r _ [8, 9, 10, 11, 12, 13, 7, 14, 15, 16, 17, 18, 19, 20, 21, 1, 22, 23, 24, 25, 26, 27, 28, 29, 30, 31, 32, 33, 39, 40, 41, 42, 34, 35, 36, 37, 38] (by decide +kernel) (by decide +kernel)
set_option maxRecDepth 20000 in
theorem gX5_howManyInBook_X5_isInBook : GoodIn wsX5_howManyInBook (wsV RX5 101 RX5 yX5_isInBook wsX5_isInBook) := goodIn_app (goodIn_of _ (by decide +kernel)) ggX5_howManyInBook_X5_isInBook
theorem dX5_howManyInBook_0 : decode cX5_howManyInBook 0 = .ok (.iconst 0, 1) := by decide +kernel
theorem dX5_howManyInBook_1 : decode cX5_howManyInBook 1 = .ok (.istore_n 2, 1) := by decide +kernel
theorem dX5_howManyInBook_2 : decode cX5_howManyInBook 2 = .ok (.iconst 0, 1) := by decide +kernel
theorem dX5_howManyInBook_3 : decode cX5_howManyInBook 3 = .ok (.istore_n 3, 1) := by decide +kernel
theorem dX5_howManyInBook_4 : decode cX5_howManyInBook 4 = .ok (.iload_n 3, 1) := by decide +kernel
theorem dX5_howManyInBook_5 : decode cX5_howManyInBook 5 = .ok (.aload_n 0, 1) := by decide +kernel
theorem dX5_howManyInBook_6 : decode cX5_howManyInBook 6 = .ok (.getfield 30, 3) := by decide +kernel
theorem dX5_howManyInBook_9 : decode cX5_howManyInBook 9 = .ok (.getfield 104, 3) := by decide +kernel
theorem dX5_howManyInBook_12 : decode cX5_howManyInBook 12 = .ok (.if_icmp .ge 34, 3) := by decide +kernel
theorem dX5_howManyInBook_15 : decode cX5_howManyInBook 15 = .ok (.aload_n 0, 1) := by decide +kernel
theorem dX5_howManyInBook_16 : decode cX5_howManyInBook 16 = .ok (.getfield 30, 3) := by decide +kernel
theorem dX5_howManyInBook_19 : decode cX5_howManyInBook 19 = .ok (.getfield 98, 3) := by decide +kernel
theorem dX5_howManyInBook_22 : decode cX5_howManyInBook 22 = .ok (.iload_n 3, 1) := by decide +kernel
theorem dX5_howManyInBook_23 : decode cX5_howManyInBook 23 = .ok (.iaload, 1) := by decide +kernel
theorem dX5_howManyInBook_24 : decode cX5_howManyInBook 24 = .ok (.iload_n 1, 1) := by decide +kernel
theorem dX5_howManyInBook_25 : decode cX5_howManyInBook 25 = .ok (.if_icmp .ne 15, 3) := by decide +kernel
theorem dX5_howManyInBook_28 : decode cX5_howManyInBook 28 = .ok (.aload_n 0, 1) := by decide +kernel
theorem dX5_howManyInBook_29 : decode cX5_howManyInBook 29 = .ok (.iload_n 3, 1) := by decide +kernel
theorem dX5_howManyInBook_30 : decode cX5_howManyInBook 30 = .ok (.iload_n 1, 1) := by decide +kernel
theorem dX5_howManyInBook_31 : decode cX5_howManyInBook 31 = .ok (.invokevirtual 101, 3) := by decide +kernel
theorem dX5_howManyInBook_34 : decode cX5_howManyInBook 34 = .ok (.ifCond .eq 6, 3) := by decide +kernel
theorem dX5_howManyInBook_37 : decode cX5_howManyInBook 37 = .ok (.iinc 2 1, 3) := by decide +kernel
theorem dX5_howManyInBook_40 : decode cX5_howManyInBook 40 = .ok (.iinc 3 1, 3) := by decide +kernel
theorem dX5_howManyInBook_43 : decode cX5_howManyInBook 43 = .ok (.goto (-39), 3) := by decide +kernel
theorem dX5_howManyInBook_46 : decode cX5_howManyInBook 46 = .ok (.iload_n 2, 1) := by decide +kernel
theorem dX5_howManyInBook_47 : decode cX5_howManyInBook 47 = .ok (.ireturn, 1) := by decide +kernel
set_option maxRecDepth 20000 in
theorem ggX5_howManyNearLine_X5_sworn : GoodIn wsX5_howManyNearLine wsX5_sworn := goodIn_r _ [10, 4, 5, 11, 12, 13, 14, 9, 15, 16, 1, 17, 18, 22, 23, 24, 25, 26, 27, 28, 29, 30, 31, 37, 38, 39, 40, 32, 33, 34, 35, 36] (by decide +kernel) (by decide +kernel)
set_option maxRecDepth 20000 in
theorem gX5_howManyNearLine_X5_sworn : GoodIn wsX5_howManyNearLine (wsV RX5 85 RX5 yX5_sworn wsX5_sworn) := goodIn_app (goodIn_of _ (by decide +kernel)) ggX5_howManyNearLine_X5_sworn
set_option maxRecDepth 20000 in
theorem ggX5_howManyNearLine_X6_isWithin : GoodIn wsX5_howManyNearLine wsX6_isWithin := goodIn_r _ [21] (by decide +kernel) (by decide +kernel)
set_option maxRecDepth 20000 in
theorem gX5_howManyNearLine_X6_isWithin_n111 : GoodIn wsX5_howManyNearLine (wsX6_isWithin) := ggX5_howManyNearLine_X6_isWithin
theorem dX5_howManyNearLine_0 : decode cX5_howManyNearLine 0 = .ok (.iconst 0, 1) := by decide +kernel
theorem dX5_howManyNearLine_1 : decode cX5_howManyNearLine 1 = .ok (.istore 4, 2) := by decide +kernel
theorem dX5_howManyNearLine_3 : decode cX5_howManyNearLine 3 = .ok (.iconst 0, 1) := by decide +kernel
theorem dX5_howManyNearLine_4 : decode cX5_howManyNearLine 4 = .ok (.istore 5, 2) := by decide +kernel
theorem dX5_howManyNearLine_6 : decode cX5_howManyNearLine 6 = .ok (.iload 5, 2) := by decide +kernel
theorem dX5_howManyNearLine_8 : decode cX5_howManyNearLine 8 = .ok (.aload_n 0, 1) := by decide +kernel
theorem dX5_howManyNearLine_9 : decode cX5_howManyNearLine 9 = .ok (.getfield 30, 3) := by decide +kernel
theorem dX5_howManyNearLine_12 : decode cX5_howManyNearLine 12 = .ok (.getfield 104, 3) := by decide +kernel
theorem dX5_howManyNearLine_15 : decode cX5_howManyNearLine 15 = .ok (.if_icmp .ge 73, 3) := by decide +kernel
theorem dX5_howManyNearLine_18 : decode cX5_howManyNearLine 18 = .ok (.aload_n 0, 1) := by decide +kernel
theorem dX5_howManyNearLine_19 : decode cX5_howManyNearLine 19 = .ok (.getfield 30, 3) := by decide +kernel
theorem dX5_howManyNearLine_22 : decode cX5_howManyNearLine 22 = .ok (.getfield 98, 3) := by decide +kernel
theorem dX5_howManyNearLine_25 : decode cX5_howManyNearLine 25 = .ok (.iload 5, 2) := by decide +kernel
theorem dX5_howManyNearLine_27 : decode cX5_howManyNearLine 27 = .ok (.iaload, 1) := by decide +kernel
theorem dX5_howManyNearLine_28 : decode cX5_howManyNearLine 28 = .ok (.istore 6, 2) := by decide +kernel
theorem dX5_howManyNearLine_30 : decode cX5_howManyNearLine 30 = .ok (.aload_n 0, 1) := by decide +kernel
theorem dX5_howManyNearLine_31 : decode cX5_howManyNearLine 31 = .ok (.getfield 23, 3) := by decide +kernel
theorem dX5_howManyNearLine_34 : decode cX5_howManyNearLine 34 = .ok (.getfield 79, 3) := by decide +kernel
theorem dX5_howManyNearLine_37 : decode cX5_howManyNearLine 37 = .ok (.iload 6, 2) := by decide +kernel
theorem dX5_howManyNearLine_39 : decode cX5_howManyNearLine 39 = .ok (.iaload, 1) := by decide +kernel
theorem dX5_howManyNearLine_40 : decode cX5_howManyNearLine 40 = .ok (.istore 7, 2) := by decide +kernel
theorem dX5_howManyNearLine_42 : decode cX5_howManyNearLine 42 = .ok (.iload_n 1, 1) := by decide +kernel
theorem dX5_howManyNearLine_43 : decode cX5_howManyNearLine 43 = .ok (.iload 6, 2) := by decide +kernel
theorem dX5_howManyNearLine_45 : decode cX5_howManyNearLine 45 = .ok (.ishr, 1) := by decide +kernel
theorem dX5_howManyNearLine_46 : decode cX5_howManyNearLine 46 = .ok (.iconst 1, 1) := by decide +kernel
theorem dX5_howManyNearLine_47 : decode cX5_howManyNearLine 47 = .ok (.iand, 1) := by decide +kernel
theorem dX5_howManyNearLine_48 : decode cX5_howManyNearLine 48 = .ok (.iconst 1, 1) := by decide +kernel
theorem dX5_howManyNearLine_49 : decode cX5_howManyNearLine 49 = .ok (.if_icmp .ne 33, 3) := by decide +kernel
theorem dX5_howManyNearLine_52 : decode cX5_howManyNearLine 52 = .ok (.iload 7, 2) := by decide +kernel
theorem dX5_howManyNearLine_54 : decode cX5_howManyNearLine 54 = .ok (.ifCond .le 28, 3) := by decide +kernel
theorem dX5_howManyNearLine_57 : decode cX5_howManyNearLine 57 = .ok (.aload_n 0, 1) := by decide +kernel
theorem dX5_howManyNearLine_58 : decode cX5_howManyNearLine 58 = .ok (.iload 5, 2) := by decide +kernel
theorem dX5_howManyNearLine_60 : decode cX5_howManyNearLine 60 = .ok (.iload 6, 2) := by decide +kernel
theorem dX5_howManyNearLine_62 : decode cX5_howManyNearLine 62 = .ok (.invokevirtual 85, 3) := by decide +kernel
theorem dX5_howManyNearLine_65 : decode cX5_howManyNearLine 65 = .ok (.iload 7, 2) := by decide +kernel
theorem dX5_howManyNearLine_67 : decode cX5_howManyNearLine 67 = .ok (.isub, 1) := by decide +kernel
theorem dX5_howManyNearLine_68 : decode cX5_howManyNearLine 68 = .ok (.i2l, 1) := by decide +kernel
theorem dX5_howManyNearLine_69 : decode cX5_howManyNearLine 69 = .ok (.iload_n 2, 1) := by decide +kernel
theorem dX5_howManyNearLine_70 : decode cX5_howManyNearLine 70 = .ok (.i2l, 1) := by decide +kernel
theorem dX5_howManyNearLine_71 : decode cX5_howManyNearLine 71 = .ok (.iload_n 3, 1) := by decide +kernel
theorem dX5_howManyNearLine_72 : decode cX5_howManyNearLine 72 = .ok (.i2l, 1) := by decide +kernel
theorem dX5_howManyNearLine_73 : decode cX5_howManyNearLine 73 = .ok (.invokestatic 111, 3) := by decide +kernel
theorem dX5_howManyNearLine_76 : decode cX5_howManyNearLine 76 = .ok (.ifCond .eq 6, 3) := by decide +kernel
theorem dX5_howManyNearLine_79 : decode cX5_howManyNearLine 79 = .ok (.iinc 4 1, 3) := by decide +kernel
theorem dX5_howManyNearLine_82 : decode cX5_howManyNearLine 82 = .ok (.iinc 5 1, 3) := by decide +kernel
theorem dX5_howManyNearLine_85 : decode cX5_howManyNearLine 85 = .ok (.goto (-79), 3) := by decide +kernel
theorem dX5_howManyNearLine_88 : decode cX5_howManyNearLine 88 = .ok (.iload 4, 2) := by decide +kernel
theorem dX5_howManyNearLine_90 : decode cX5_howManyNearLine 90 = .ok (.ireturn, 1) := by decide +kernel
set_option maxRecDepth 20000 in
theorem ggX5_sumSworn_X5_isInBook : GoodIn wsX5_sumSworn wsX5_isInBook := goodIn_r _ [8, 9, 10, 11, 12, 13, 7, 14, 15, 16, 17, 18, 19, 20, 21, 1, 22, 23, 36, 37, 38, 39, 40, 41, 42, 43, 44, 45, 51, 52, 53, 54, 46, 47, 48, 49, 50] (by decide +kernel) (by decide +kernel)
set_option maxRecDepth 20000 in
theorem gX5_sumSworn_X5_isInBook : GoodIn wsX5_sumSworn (wsV RX5 101 RX5 yX5_isInBook wsX5_isInBook) := goodIn_app (goodIn_of _ (by decide +kernel)) ggX5_sumSworn_X5_isInBook
set_option maxRecDepth 20000 in
theorem ggX5_sumSworn_X5_sworn : GoodIn wsX5_sumSworn wsX5_sworn := goodIn_r _ [14, 9, 15, 16, 17, 18, 19, 7, 20, 21, 1, 22, 23, 36, 37, 38, 39, 40, 41, 42, 43, 44, 45, 51, 52, 53, 54, 46, 47, 48, 49, 50] (by decide +kernel) (by decide +kernel)
set_option maxRecDepth 20000 in
theorem gX5_sumSworn_X5_sworn : GoodIn wsX5_sumSworn (wsV RX5 85 RX5 yX5_sworn wsX5_sworn) := goodIn_app (goodIn_of _ (by decide +kernel)) ggX5_sumSworn_X5_sworn
set_option maxRecDepth 20000 in
theorem ggX5_sumSworn_X5_weight : GoodIn wsX5_sumSworn wsX5_weight := goodIn_r _ [27, 28, 29, 1, 30, 31, 32, 33, 7, 34, 35, 11, 12, 13, 14, 9, 15, 16, 17, 18, 19, 20, 21, 22, 23, 36, 37, 38, 39, 40, 41, 42, 43, 44, 45, 46, 47, 48, 49, 50, 51, 52, 53, 54] (by decide +kernel) (by decide +kernel)
set_option maxRecDepth 20000 in
theorem gX5_sumSworn_X5_weight : GoodIn wsX5_sumSworn (wsV RX5 115 RX5 yX5_weight wsX5_weight) := goodIn_app (goodIn_of _ (by decide +kernel)) ggX5_sumSworn_X5_weight
theorem dX5_sumSworn_0 : decode cX5_sumSworn 0 = .ok (.lconst 0, 1) := by decide +kernel
theorem dX5_sumSworn_1 : decode cX5_sumSworn 1 = .ok (.lstore_n 3, 1) := by decide +kernel
theorem dX5_sumSworn_2 : decode cX5_sumSworn 2 = .ok (.iconst 0, 1) := by decide +kernel
theorem dX5_sumSworn_3 : decode cX5_sumSworn 3 = .ok (.istore 5, 2) := by decide +kernel
theorem dX5_sumSworn_5 : decode cX5_sumSworn 5 = .ok (.iload 5, 2) := by decide +kernel
theorem dX5_sumSworn_7 : decode cX5_sumSworn 7 = .ok (.aload_n 0, 1) := by decide +kernel
theorem dX5_sumSworn_8 : decode cX5_sumSworn 8 = .ok (.getfield 30, 3) := by decide +kernel
theorem dX5_sumSworn_11 : decode cX5_sumSworn 11 = .ok (.getfield 104, 3) := by decide +kernel
theorem dX5_sumSworn_14 : decode cX5_sumSworn 14 = .ok (.if_icmp .ge 53, 3) := by decide +kernel
theorem dX5_sumSworn_17 : decode cX5_sumSworn 17 = .ok (.aload_n 0, 1) := by decide +kernel
theorem dX5_sumSworn_18 : decode cX5_sumSworn 18 = .ok (.getfield 30, 3) := by decide +kernel
theorem dX5_sumSworn_21 : decode cX5_sumSworn 21 = .ok (.getfield 98, 3) := by decide +kernel
theorem dX5_sumSworn_24 : decode cX5_sumSworn 24 = .ok (.iload 5, 2) := by decide +kernel
theorem dX5_sumSworn_26 : decode cX5_sumSworn 26 = .ok (.iaload, 1) := by decide +kernel
theorem dX5_sumSworn_27 : decode cX5_sumSworn 27 = .ok (.iload_n 1, 1) := by decide +kernel
theorem dX5_sumSworn_28 : decode cX5_sumSworn 28 = .ok (.if_icmp .ne 33, 3) := by decide +kernel
theorem dX5_sumSworn_31 : decode cX5_sumSworn 31 = .ok (.aload_n 0, 1) := by decide +kernel
theorem dX5_sumSworn_32 : decode cX5_sumSworn 32 = .ok (.iload 5, 2) := by decide +kernel
theorem dX5_sumSworn_34 : decode cX5_sumSworn 34 = .ok (.iload_n 2, 1) := by decide +kernel
theorem dX5_sumSworn_35 : decode cX5_sumSworn 35 = .ok (.invokevirtual 101, 3) := by decide +kernel
theorem dX5_sumSworn_38 : decode cX5_sumSworn 38 = .ok (.ifCond .eq 23, 3) := by decide +kernel
theorem dX5_sumSworn_41 : decode cX5_sumSworn 41 = .ok (.lload_n 3, 1) := by decide +kernel
theorem dX5_sumSworn_42 : decode cX5_sumSworn 42 = .ok (.aload_n 0, 1) := by decide +kernel
theorem dX5_sumSworn_43 : decode cX5_sumSworn 43 = .ok (.iload 5, 2) := by decide +kernel
theorem dX5_sumSworn_45 : decode cX5_sumSworn 45 = .ok (.iload_n 2, 1) := by decide +kernel
theorem dX5_sumSworn_46 : decode cX5_sumSworn 46 = .ok (.invokevirtual 85, 3) := by decide +kernel
theorem dX5_sumSworn_49 : decode cX5_sumSworn 49 = .ok (.i2l, 1) := by decide +kernel
theorem dX5_sumSworn_50 : decode cX5_sumSworn 50 = .ok (.aload_n 0, 1) := by decide +kernel
theorem dX5_sumSworn_51 : decode cX5_sumSworn 51 = .ok (.iload 5, 2) := by decide +kernel
theorem dX5_sumSworn_53 : decode cX5_sumSworn 53 = .ok (.iload_n 2, 1) := by decide +kernel
theorem dX5_sumSworn_54 : decode cX5_sumSworn 54 = .ok (.invokevirtual 115, 3) := by decide +kernel
theorem dX5_sumSworn_57 : decode cX5_sumSworn 57 = .ok (.i2l, 1) := by decide +kernel
theorem dX5_sumSworn_58 : decode cX5_sumSworn 58 = .ok (.lmul, 1) := by decide +kernel
theorem dX5_sumSworn_59 : decode cX5_sumSworn 59 = .ok (.ladd, 1) := by decide +kernel
theorem dX5_sumSworn_60 : decode cX5_sumSworn 60 = .ok (.lstore_n 3, 1) := by decide +kernel
theorem dX5_sumSworn_61 : decode cX5_sumSworn 61 = .ok (.iinc 5 1, 3) := by decide +kernel
theorem dX5_sumSworn_64 : decode cX5_sumSworn 64 = .ok (.goto (-59), 3) := by decide +kernel
theorem dX5_sumSworn_67 : decode cX5_sumSworn 67 = .ok (.lload_n 3, 1) := by decide +kernel
theorem dX5_sumSworn_68 : decode cX5_sumSworn 68 = .ok (.lreturn, 1) := by decide +kernel
set_option maxRecDepth 20000 in
theorem ggX5_sumUnseen_X5_isInBook : GoodIn wsX5_sumUnseen wsX5_isInBook := goodIn_r _ [10, 11, 12, 13, 14, 15, 9, 16, 17, 18, 19, 20, 21, 22, 23, 1, 24, 25, 40, 41, 42, 43, 44, 45, 46, 47, 48, 49, 55, 56, 57, 58, 50, 51, 52, 53, 54] (by decide +kernel) (by decide +kernel)
set_option maxRecDepth 20000 in
theorem gX5_sumUnseen_X5_isInBook : GoodIn wsX5_sumUnseen (wsV RX5 101 RX5 yX5_isInBook wsX5_isInBook) := goodIn_app (goodIn_of _ (by decide +kernel)) ggX5_sumUnseen_X5_isInBook
set_option maxRecDepth 20000 in
theorem ggX5_sumUnseen_X5_weight : GoodIn wsX5_sumUnseen wsX5_weight := goodIn_r _ [29, 30, 4, 1, 5, 31, 32, 33, 9, 34, 35, 13, 14, 15, 16, 11, 17, 18, 19, 20, 21, 22, 23, 24, 25, 40, 41, 42, 43, 44, 45, 46, 47, 48, 49, 50, 51, 52, 53, 54, 55, 56, 57, 58] (by decide +kernel) (by decide +kernel)
set_option maxRecDepth 20000 in
theorem gX5_sumUnseen_X5_weight : GoodIn wsX5_sumUnseen (wsV RX5 115 RX5 yX5_weight wsX5_weight) := goodIn_app (goodIn_of _ (by decide +kernel)) ggX5_sumUnseen_X5_weight
set_option maxRecDepth 20000 in
theorem ggX5_sumUnseen_X5_allHad : GoodIn wsX5_sumUnseen wsX5_allHad := goodIn_r _ [39, 1, 25, 40, 41, 42, 43, 44, 45, 46, 47, 48, 49, 50, 51, 52, 53, 54] (by decide +kernel) (by decide +kernel)
set_option maxRecDepth 20000 in
theorem gX5_sumUnseen_X5_allHad : GoodIn wsX5_sumUnseen (wsV RX5 118 RX5 yX5_allHad wsX5_allHad) := goodIn_app (goodIn_of _ (by decide +kernel)) ggX5_sumUnseen_X5_allHad
set_option maxRecDepth 20000 in
theorem ggX5_sumUnseen_X5_sworn : GoodIn wsX5_sumUnseen wsX5_sworn := goodIn_r _ [16, 11, 17, 18, 19, 20, 21, 9, 22, 23, 1, 24, 25, 40, 41, 42, 43, 44, 45, 46, 47, 48, 49, 55, 56, 57, 58, 50, 51, 52, 53, 54] (by decide +kernel) (by decide +kernel)
set_option maxRecDepth 20000 in
theorem gX5_sumUnseen_X5_sworn : GoodIn wsX5_sumUnseen (wsV RX5 85 RX5 yX5_sworn wsX5_sworn) := goodIn_app (goodIn_of _ (by decide +kernel)) ggX5_sumUnseen_X5_sworn
theorem dX5_sumUnseen_0 : decode cX5_sumUnseen 0 = .ok (.lconst 0, 1) := by decide +kernel
theorem dX5_sumUnseen_1 : decode cX5_sumUnseen 1 = .ok (.lstore_n 2, 1) := by decide +kernel
theorem dX5_sumUnseen_2 : decode cX5_sumUnseen 2 = .ok (.iconst 0, 1) := by decide +kernel
theorem dX5_sumUnseen_3 : decode cX5_sumUnseen 3 = .ok (.istore 4, 2) := by decide +kernel
theorem dX5_sumUnseen_5 : decode cX5_sumUnseen 5 = .ok (.iload 4, 2) := by decide +kernel
theorem dX5_sumUnseen_7 : decode cX5_sumUnseen 7 = .ok (.aload_n 0, 1) := by decide +kernel
theorem dX5_sumUnseen_8 : decode cX5_sumUnseen 8 = .ok (.getfield 30, 3) := by decide +kernel
theorem dX5_sumUnseen_11 : decode cX5_sumUnseen 11 = .ok (.getfield 104, 3) := by decide +kernel
theorem dX5_sumUnseen_14 : decode cX5_sumUnseen 14 = .ok (.if_icmp .ge 85, 3) := by decide +kernel
theorem dX5_sumUnseen_17 : decode cX5_sumUnseen 17 = .ok (.aload_n 0, 1) := by decide +kernel
theorem dX5_sumUnseen_18 : decode cX5_sumUnseen 18 = .ok (.getfield 30, 3) := by decide +kernel
theorem dX5_sumUnseen_21 : decode cX5_sumUnseen 21 = .ok (.getfield 98, 3) := by decide +kernel
theorem dX5_sumUnseen_24 : decode cX5_sumUnseen 24 = .ok (.iload 4, 2) := by decide +kernel
theorem dX5_sumUnseen_26 : decode cX5_sumUnseen 26 = .ok (.iaload, 1) := by decide +kernel
theorem dX5_sumUnseen_27 : decode cX5_sumUnseen 27 = .ok (.iload_n 1, 1) := by decide +kernel
theorem dX5_sumUnseen_28 : decode cX5_sumUnseen 28 = .ok (.if_icmp .ne 65, 3) := by decide +kernel
theorem dX5_sumUnseen_31 : decode cX5_sumUnseen 31 = .ok (.aload_n 0, 1) := by decide +kernel
theorem dX5_sumUnseen_32 : decode cX5_sumUnseen 32 = .ok (.iload 4, 2) := by decide +kernel
theorem dX5_sumUnseen_34 : decode cX5_sumUnseen 34 = .ok (.iload_n 1, 1) := by decide +kernel
theorem dX5_sumUnseen_35 : decode cX5_sumUnseen 35 = .ok (.invokevirtual 101, 3) := by decide +kernel
theorem dX5_sumUnseen_38 : decode cX5_sumUnseen 38 = .ok (.ifCond .eq 13, 3) := by decide +kernel
theorem dX5_sumUnseen_41 : decode cX5_sumUnseen 41 = .ok (.aload_n 0, 1) := by decide +kernel
theorem dX5_sumUnseen_42 : decode cX5_sumUnseen 42 = .ok (.iload 4, 2) := by decide +kernel
theorem dX5_sumUnseen_44 : decode cX5_sumUnseen 44 = .ok (.iload_n 1, 1) := by decide +kernel
theorem dX5_sumUnseen_45 : decode cX5_sumUnseen 45 = .ok (.invokevirtual 115, 3) := by decide +kernel
theorem dX5_sumUnseen_48 : decode cX5_sumUnseen 48 = .ok (.goto 21, 3) := by decide +kernel
theorem dX5_sumUnseen_51 : decode cX5_sumUnseen 51 = .ok (.bipush 100, 2) := by decide +kernel
theorem dX5_sumUnseen_53 : decode cX5_sumUnseen 53 = .ok (.aload_n 0, 1) := by decide +kernel
theorem dX5_sumUnseen_54 : decode cX5_sumUnseen 54 = .ok (.getfield 9, 3) := by decide +kernel
theorem dX5_sumUnseen_57 : decode cX5_sumUnseen 57 = .ok (.aload_n 0, 1) := by decide +kernel
theorem dX5_sumUnseen_58 : decode cX5_sumUnseen 58 = .ok (.getfield 30, 3) := by decide +kernel
theorem dX5_sumUnseen_61 : decode cX5_sumUnseen 61 = .ok (.getfield 95, 3) := by decide +kernel
theorem dX5_sumUnseen_64 : decode cX5_sumUnseen 64 = .ok (.iload 4, 2) := by decide +kernel
theorem dX5_sumUnseen_66 : decode cX5_sumUnseen 66 = .ok (.iaload, 1) := by decide +kernel
theorem dX5_sumUnseen_67 : decode cX5_sumUnseen 67 = .ok (.iaload, 1) := by decide +kernel
theorem dX5_sumUnseen_68 : decode cX5_sumUnseen 68 = .ok (.imul, 1) := by decide +kernel
theorem dX5_sumUnseen_69 : decode cX5_sumUnseen 69 = .ok (.istore 5, 2) := by decide +kernel
theorem dX5_sumUnseen_71 : decode cX5_sumUnseen 71 = .ok (.lload_n 2, 1) := by decide +kernel
theorem dX5_sumUnseen_72 : decode cX5_sumUnseen 72 = .ok (.aload_n 0, 1) := by decide +kernel
theorem dX5_sumUnseen_73 : decode cX5_sumUnseen 73 = .ok (.iload 4, 2) := by decide +kernel
theorem dX5_sumUnseen_75 : decode cX5_sumUnseen 75 = .ok (.invokevirtual 118, 3) := by decide +kernel
theorem dX5_sumUnseen_78 : decode cX5_sumUnseen 78 = .ok (.aload_n 0, 1) := by decide +kernel
theorem dX5_sumUnseen_79 : decode cX5_sumUnseen 79 = .ok (.iload 4, 2) := by decide +kernel
theorem dX5_sumUnseen_81 : decode cX5_sumUnseen 81 = .ok (.iload_n 1, 1) := by decide +kernel
theorem dX5_sumUnseen_82 : decode cX5_sumUnseen 82 = .ok (.invokevirtual 85, 3) := by decide +kernel
theorem dX5_sumUnseen_85 : decode cX5_sumUnseen 85 = .ok (.isub, 1) := by decide +kernel
theorem dX5_sumUnseen_86 : decode cX5_sumUnseen 86 = .ok (.i2l, 1) := by decide +kernel
theorem dX5_sumUnseen_87 : decode cX5_sumUnseen 87 = .ok (.iload 5, 2) := by decide +kernel
theorem dX5_sumUnseen_89 : decode cX5_sumUnseen 89 = .ok (.i2l, 1) := by decide +kernel
theorem dX5_sumUnseen_90 : decode cX5_sumUnseen 90 = .ok (.lmul, 1) := by decide +kernel
theorem dX5_sumUnseen_91 : decode cX5_sumUnseen 91 = .ok (.ladd, 1) := by decide +kernel
theorem dX5_sumUnseen_92 : decode cX5_sumUnseen 92 = .ok (.lstore_n 2, 1) := by decide +kernel
theorem dX5_sumUnseen_93 : decode cX5_sumUnseen 93 = .ok (.iinc 4 1, 3) := by decide +kernel
theorem dX5_sumUnseen_96 : decode cX5_sumUnseen 96 = .ok (.goto (-91), 3) := by decide +kernel
theorem dX5_sumUnseen_99 : decode cX5_sumUnseen 99 = .ok (.lload_n 2, 1) := by decide +kernel
theorem dX5_sumUnseen_100 : decode cX5_sumUnseen 100 = .ok (.lreturn, 1) := by decide +kernel
theorem dX5_allHad_0 : decode cX5_allHad 0 = .ok (.iconst 0, 1) := by decide +kernel
theorem dX5_allHad_1 : decode cX5_allHad 1 = .ok (.istore_n 2, 1) := by decide +kernel
theorem dX5_allHad_2 : decode cX5_allHad 2 = .ok (.iconst 0, 1) := by decide +kernel
theorem dX5_allHad_3 : decode cX5_allHad 3 = .ok (.istore_n 3, 1) := by decide +kernel
theorem dX5_allHad_4 : decode cX5_allHad 4 = .ok (.iload_n 3, 1) := by decide +kernel
theorem dX5_allHad_5 : decode cX5_allHad 5 = .ok (.iconst 4, 1) := by decide +kernel
theorem dX5_allHad_6 : decode cX5_allHad 6 = .ok (.if_icmp .ge 25, 3) := by decide +kernel
theorem dX5_allHad_9 : decode cX5_allHad 9 = .ok (.iload_n 2, 1) := by decide +kernel
theorem dX5_allHad_10 : decode cX5_allHad 10 = .ok (.aload_n 0, 1) := by decide +kernel
theorem dX5_allHad_11 : decode cX5_allHad 11 = .ok (.getfield 30, 3) := by decide +kernel
theorem dX5_allHad_14 : decode cX5_allHad 14 = .ok (.getfield 72, 3) := by decide +kernel
theorem dX5_allHad_17 : decode cX5_allHad 17 = .ok (.iload_n 1, 1) := by decide +kernel
theorem dX5_allHad_18 : decode cX5_allHad 18 = .ok (.iconst 4, 1) := by decide +kernel
theorem dX5_allHad_19 : decode cX5_allHad 19 = .ok (.imul, 1) := by decide +kernel
theorem dX5_allHad_20 : decode cX5_allHad 20 = .ok (.iload_n 3, 1) := by decide +kernel
theorem dX5_allHad_21 : decode cX5_allHad 21 = .ok (.iadd, 1) := by decide +kernel
theorem dX5_allHad_22 : decode cX5_allHad 22 = .ok (.iaload, 1) := by decide +kernel
theorem dX5_allHad_23 : decode cX5_allHad 23 = .ok (.iadd, 1) := by decide +kernel
theorem dX5_allHad_24 : decode cX5_allHad 24 = .ok (.istore_n 2, 1) := by decide +kernel
theorem dX5_allHad_25 : decode cX5_allHad 25 = .ok (.iinc 3 1, 3) := by decide +kernel
theorem dX5_allHad_28 : decode cX5_allHad 28 = .ok (.goto (-24), 3) := by decide +kernel
theorem dX5_allHad_31 : decode cX5_allHad 31 = .ok (.iload_n 2, 1) := by decide +kernel
theorem dX5_allHad_32 : decode cX5_allHad 32 = .ok (.ireturn, 1) := by decide +kernel
set_option maxRecDepth 20000 in
theorem ggX5_isFighting_X5_sumSworn : GoodIn wsX5_isFighting wsX5_sumSworn := goodIn_r _ [7, 8, 9, 10, 11, 12, 13, 6, 14, 15, 16, 17, 18, 19, 20, 21, 22, 23, 24, 25, 26, 27, 28, 29, 30, 31, 32, 33, 34, 35, 36, 37, 38, 39, 40, 41, 50, 51, 52, 53, 54, 55, 56, 57, 58, 59, 60, 61, 62, 63, 64, 65, 66, 67, 68] (by decide +kernel) (by decide +kernel)
set_option maxRecDepth 20000 in
theorem gX5_isFighting_X5_sumSworn : GoodIn wsX5_isFighting (wsV RX5 121 RX5 yX5_sumSworn wsX5_sumSworn) := goodIn_app (goodIn_of _ (by decide +kernel)) ggX5_isFighting_X5_sumSworn
set_option maxRecDepth 20000 in
theorem ggX5_isFighting_X5_sumUnseen : GoodIn wsX5_isFighting wsX5_sumUnseen := goodIn_r _ [45, 8, 9, 10, 35, 36, 11, 12, 13, 6, 14, 15, 16, 17, 18, 19, 20, 21, 22, 23, 24, 25, 26, 27, 28, 29, 30, 31, 32, 33, 34, 37, 38, 39, 40, 41, 46, 47, 48, 49, 50, 51, 52, 53, 54, 55, 56, 57, 58, 59, 60, 61, 62, 63, 64, 65, 66, 67, 68] (by decide +kernel) (by decide +kernel)
set_option maxRecDepth 20000 in
theorem gX5_isFighting_X5_sumUnseen : GoodIn wsX5_isFighting (wsV RX5 125 RX5 yX5_sumUnseen wsX5_sumUnseen) := goodIn_app (goodIn_of _ (by decide +kernel)) ggX5_isFighting_X5_sumUnseen
theorem dX5_isFighting_0 : decode cX5_isFighting 0 = .ok (.aload_n 0, 1) := by decide +kernel
theorem dX5_isFighting_1 : decode cX5_isFighting 1 = .ok (.iload_n 1, 1) := by decide +kernel
theorem dX5_isFighting_2 : decode cX5_isFighting 2 = .ok (.iload_n 1, 1) := by decide +kernel
theorem dX5_isFighting_3 : decode cX5_isFighting 3 = .ok (.invokevirtual 121, 3) := by decide +kernel
theorem dX5_isFighting_6 : decode cX5_isFighting 6 = .ok (.lstore_n 2, 1) := by decide +kernel
theorem dX5_isFighting_7 : decode cX5_isFighting 7 = .ok (.aload_n 0, 1) := by decide +kernel
theorem dX5_isFighting_8 : decode cX5_isFighting 8 = .ok (.getfield 44, 3) := by decide +kernel
theorem dX5_isFighting_11 : decode cX5_isFighting 11 = .ok (.iload_n 1, 1) := by decide +kernel
theorem dX5_isFighting_12 : decode cX5_isFighting 12 = .ok (.laload, 1) := by decide +kernel
theorem dX5_isFighting_13 : decode cX5_isFighting 13 = .ok (.lload_n 2, 1) := by decide +kernel
theorem dX5_isFighting_14 : decode cX5_isFighting 14 = .ok (.lcmp, 1) := by decide +kernel
theorem dX5_isFighting_15 : decode cX5_isFighting 15 = .ok (.ifCond .lt 20, 3) := by decide +kernel
theorem dX5_isFighting_18 : decode cX5_isFighting 18 = .ok (.aload_n 0, 1) := by decide +kernel
theorem dX5_isFighting_19 : decode cX5_isFighting 19 = .ok (.getfield 40, 3) := by decide +kernel
theorem dX5_isFighting_22 : decode cX5_isFighting 22 = .ok (.iload_n 1, 1) := by decide +kernel
theorem dX5_isFighting_23 : decode cX5_isFighting 23 = .ok (.laload, 1) := by decide +kernel
theorem dX5_isFighting_24 : decode cX5_isFighting 24 = .ok (.lload_n 2, 1) := by decide +kernel
theorem dX5_isFighting_25 : decode cX5_isFighting 25 = .ok (.aload_n 0, 1) := by decide +kernel
theorem dX5_isFighting_26 : decode cX5_isFighting 26 = .ok (.iload_n 1, 1) := by decide +kernel
theorem dX5_isFighting_27 : decode cX5_isFighting 27 = .ok (.invokevirtual 125, 3) := by decide +kernel
theorem dX5_isFighting_30 : decode cX5_isFighting 30 = .ok (.ladd, 1) := by decide +kernel
theorem dX5_isFighting_31 : decode cX5_isFighting 31 = .ok (.lcmp, 1) := by decide +kernel
theorem dX5_isFighting_32 : decode cX5_isFighting 32 = .ok (.ifCond .le 7, 3) := by decide +kernel
theorem dX5_isFighting_35 : decode cX5_isFighting 35 = .ok (.iconst 1, 1) := by decide +kernel
theorem dX5_isFighting_36 : decode cX5_isFighting 36 = .ok (.goto 4, 3) := by decide +kernel
theorem dX5_isFighting_39 : decode cX5_isFighting 39 = .ok (.iconst 0, 1) := by decide +kernel
theorem dX5_isFighting_40 : decode cX5_isFighting 40 = .ok (.ireturn, 1) := by decide +kernel
theorem dX5_topRoom_0 : decode cX5_topRoom 0 = .ok (.iload_n 2, 1) := by decide +kernel
theorem dX5_topRoom_1 : decode cX5_topRoom 1 = .ok (.i2l, 1) := by decide +kernel
theorem dX5_topRoom_2 : decode cX5_topRoom 2 = .ok (.aload_n 0, 1) := by decide +kernel
theorem dX5_topRoom_3 : decode cX5_topRoom 3 = .ok (.getfield 34, 3) := by decide +kernel
theorem dX5_topRoom_6 : decode cX5_topRoom 6 = .ok (.iload_n 1, 1) := by decide +kernel
theorem dX5_topRoom_7 : decode cX5_topRoom 7 = .ok (.iaload, 1) := by decide +kernel
theorem dX5_topRoom_8 : decode cX5_topRoom 8 = .ok (.i2l, 1) := by decide +kernel
theorem dX5_topRoom_9 : decode cX5_topRoom 9 = .ok (.lmul, 1) := by decide +kernel
theorem dX5_topRoom_10 : decode cX5_topRoom 10 = .ok (.lreturn, 1) := by decide +kernel
theorem dJ6_bitCount_0f7a4_0 : decode cJ6_bitCount_0f7a4 0 = .ok (.iload_n 0, 1) := by decide +kernel
theorem dJ6_bitCount_0f7a4_1 : decode cJ6_bitCount_0f7a4 1 = .ok (.iload_n 0, 1) := by decide +kernel
theorem dJ6_bitCount_0f7a4_2 : decode cJ6_bitCount_0f7a4 2 = .ok (.iconst 1, 1) := by decide +kernel
theorem dJ6_bitCount_0f7a4_3 : decode cJ6_bitCount_0f7a4 3 = .ok (.iushr, 1) := by decide +kernel
theorem dJ6_bitCount_0f7a4_4 : decode cJ6_bitCount_0f7a4 4 = .ok (.ldc_w 265, 3) := by decide +kernel
theorem dJ6_bitCount_0f7a4_7 : decode cJ6_bitCount_0f7a4 7 = .ok (.iand, 1) := by decide +kernel
theorem dJ6_bitCount_0f7a4_8 : decode cJ6_bitCount_0f7a4 8 = .ok (.isub, 1) := by decide +kernel
theorem dJ6_bitCount_0f7a4_9 : decode cJ6_bitCount_0f7a4 9 = .ok (.istore_n 0, 1) := by decide +kernel
theorem dJ6_bitCount_0f7a4_10 : decode cJ6_bitCount_0f7a4 10 = .ok (.iload_n 0, 1) := by decide +kernel
theorem dJ6_bitCount_0f7a4_11 : decode cJ6_bitCount_0f7a4 11 = .ok (.ldc_w 266, 3) := by decide +kernel
theorem dJ6_bitCount_0f7a4_14 : decode cJ6_bitCount_0f7a4 14 = .ok (.iand, 1) := by decide +kernel
theorem dJ6_bitCount_0f7a4_15 : decode cJ6_bitCount_0f7a4 15 = .ok (.iload_n 0, 1) := by decide +kernel
theorem dJ6_bitCount_0f7a4_16 : decode cJ6_bitCount_0f7a4 16 = .ok (.iconst 2, 1) := by decide +kernel
theorem dJ6_bitCount_0f7a4_17 : decode cJ6_bitCount_0f7a4 17 = .ok (.iushr, 1) := by decide +kernel
theorem dJ6_bitCount_0f7a4_18 : decode cJ6_bitCount_0f7a4 18 = .ok (.ldc_w 266, 3) := by decide +kernel
theorem dJ6_bitCount_0f7a4_21 : decode cJ6_bitCount_0f7a4 21 = .ok (.iand, 1) := by decide +kernel
theorem dJ6_bitCount_0f7a4_22 : decode cJ6_bitCount_0f7a4 22 = .ok (.iadd, 1) := by decide +kernel
theorem dJ6_bitCount_0f7a4_23 : decode cJ6_bitCount_0f7a4 23 = .ok (.istore_n 0, 1) := by decide +kernel
theorem dJ6_bitCount_0f7a4_24 : decode cJ6_bitCount_0f7a4 24 = .ok (.iload_n 0, 1) := by decide +kernel
theorem dJ6_bitCount_0f7a4_25 : decode cJ6_bitCount_0f7a4 25 = .ok (.iload_n 0, 1) := by decide +kernel
theorem dJ6_bitCount_0f7a4_26 : decode cJ6_bitCount_0f7a4 26 = .ok (.iconst 4, 1) := by decide +kernel
theorem dJ6_bitCount_0f7a4_27 : decode cJ6_bitCount_0f7a4 27 = .ok (.iushr, 1) := by decide +kernel
theorem dJ6_bitCount_0f7a4_28 : decode cJ6_bitCount_0f7a4 28 = .ok (.iadd, 1) := by decide +kernel
theorem dJ6_bitCount_0f7a4_29 : decode cJ6_bitCount_0f7a4 29 = .ok (.ldc_w 267, 3) := by decide +kernel
theorem dJ6_bitCount_0f7a4_32 : decode cJ6_bitCount_0f7a4 32 = .ok (.iand, 1) := by decide +kernel
theorem dJ6_bitCount_0f7a4_33 : decode cJ6_bitCount_0f7a4 33 = .ok (.istore_n 0, 1) := by decide +kernel
theorem dJ6_bitCount_0f7a4_34 : decode cJ6_bitCount_0f7a4 34 = .ok (.iload_n 0, 1) := by decide +kernel
theorem dJ6_bitCount_0f7a4_35 : decode cJ6_bitCount_0f7a4 35 = .ok (.iload_n 0, 1) := by decide +kernel
theorem dJ6_bitCount_0f7a4_36 : decode cJ6_bitCount_0f7a4 36 = .ok (.bipush 8, 2) := by decide +kernel
theorem dJ6_bitCount_0f7a4_38 : decode cJ6_bitCount_0f7a4 38 = .ok (.iushr, 1) := by decide +kernel
theorem dJ6_bitCount_0f7a4_39 : decode cJ6_bitCount_0f7a4 39 = .ok (.iadd, 1) := by decide +kernel
theorem dJ6_bitCount_0f7a4_40 : decode cJ6_bitCount_0f7a4 40 = .ok (.istore_n 0, 1) := by decide +kernel
theorem dJ6_bitCount_0f7a4_41 : decode cJ6_bitCount_0f7a4 41 = .ok (.iload_n 0, 1) := by decide +kernel
theorem dJ6_bitCount_0f7a4_42 : decode cJ6_bitCount_0f7a4 42 = .ok (.iload_n 0, 1) := by decide +kernel
theorem dJ6_bitCount_0f7a4_43 : decode cJ6_bitCount_0f7a4 43 = .ok (.bipush 16, 2) := by decide +kernel
theorem dJ6_bitCount_0f7a4_45 : decode cJ6_bitCount_0f7a4 45 = .ok (.iushr, 1) := by decide +kernel
theorem dJ6_bitCount_0f7a4_46 : decode cJ6_bitCount_0f7a4 46 = .ok (.iadd, 1) := by decide +kernel
theorem dJ6_bitCount_0f7a4_47 : decode cJ6_bitCount_0f7a4 47 = .ok (.istore_n 0, 1) := by decide +kernel
theorem dJ6_bitCount_0f7a4_48 : decode cJ6_bitCount_0f7a4 48 = .ok (.iload_n 0, 1) := by decide +kernel
theorem dJ6_bitCount_0f7a4_49 : decode cJ6_bitCount_0f7a4 49 = .ok (.bipush 63, 2) := by decide +kernel
theorem dJ6_bitCount_0f7a4_51 : decode cJ6_bitCount_0f7a4 51 = .ok (.iand, 1) := by decide +kernel
theorem dJ6_bitCount_0f7a4_52 : decode cJ6_bitCount_0f7a4 52 = .ok (.ireturn, 1) := by decide +kernel
theorem dJ9_abs_0f7a4_0 : decode cJ9_abs_0f7a4 0 = .ok (.iload_n 0, 1) := by decide +kernel
theorem dJ9_abs_0f7a4_1 : decode cJ9_abs_0f7a4 1 = .ok (.ifCond .ge 8, 3) := by decide +kernel
theorem dJ9_abs_0f7a4_4 : decode cJ9_abs_0f7a4 4 = .ok (.iload_n 0, 1) := by decide +kernel
theorem dJ9_abs_0f7a4_5 : decode cJ9_abs_0f7a4 5 = .ok (.ineg, 1) := by decide +kernel
theorem dJ9_abs_0f7a4_6 : decode cJ9_abs_0f7a4 6 = .ok (.goto 4, 3) := by decide +kernel
theorem dJ9_abs_0f7a4_9 : decode cJ9_abs_0f7a4 9 = .ok (.iload_n 0, 1) := by decide +kernel
theorem dJ9_abs_0f7a4_10 : decode cJ9_abs_0f7a4 10 = .ok (.ireturn, 1) := by decide +kernel
theorem dJ9_max_7cf53_0 : decode cJ9_max_7cf53 0 = .ok (.iload_n 0, 1) := by decide +kernel
theorem dJ9_max_7cf53_1 : decode cJ9_max_7cf53 1 = .ok (.iload_n 1, 1) := by decide +kernel
theorem dJ9_max_7cf53_2 : decode cJ9_max_7cf53 2 = .ok (.if_icmp .lt 7, 3) := by decide +kernel
theorem dJ9_max_7cf53_5 : decode cJ9_max_7cf53 5 = .ok (.iload_n 0, 1) := by decide +kernel
theorem dJ9_max_7cf53_6 : decode cJ9_max_7cf53 6 = .ok (.goto 4, 3) := by decide +kernel
theorem dJ9_max_7cf53_9 : decode cJ9_max_7cf53 9 = .ok (.iload_n 1, 1) := by decide +kernel
theorem dJ9_max_7cf53_10 : decode cJ9_max_7cf53 10 = .ok (.ireturn, 1) := by decide +kernel
theorem dJ9_min_7cf53_0 : decode cJ9_min_7cf53 0 = .ok (.iload_n 0, 1) := by decide +kernel
theorem dJ9_min_7cf53_1 : decode cJ9_min_7cf53 1 = .ok (.iload_n 1, 1) := by decide +kernel
theorem dJ9_min_7cf53_2 : decode cJ9_min_7cf53 2 = .ok (.if_icmp .gt 7, 3) := by decide +kernel
theorem dJ9_min_7cf53_5 : decode cJ9_min_7cf53 5 = .ok (.iload_n 0, 1) := by decide +kernel
theorem dJ9_min_7cf53_6 : decode cJ9_min_7cf53 6 = .ok (.goto 4, 3) := by decide +kernel
theorem dJ9_min_7cf53_9 : decode cJ9_min_7cf53 9 = .ok (.iload_n 1, 1) := by decide +kernel
theorem dJ9_min_7cf53_10 : decode cJ9_min_7cf53 10 = .ok (.ireturn, 1) := by decide +kernel
theorem dJ9_min_f86c9_0 : decode cJ9_min_f86c9 0 = .ok (.lload_n 0, 1) := by decide +kernel
theorem dJ9_min_f86c9_1 : decode cJ9_min_f86c9 1 = .ok (.lload_n 2, 1) := by decide +kernel
theorem dJ9_min_f86c9_2 : decode cJ9_min_f86c9 2 = .ok (.lcmp, 1) := by decide +kernel
theorem dJ9_min_f86c9_3 : decode cJ9_min_f86c9 3 = .ok (.ifCond .gt 7, 3) := by decide +kernel
theorem dJ9_min_f86c9_6 : decode cJ9_min_f86c9 6 = .ok (.lload_n 0, 1) := by decide +kernel
theorem dJ9_min_f86c9_7 : decode cJ9_min_f86c9 7 = .ok (.goto 4, 3) := by decide +kernel
theorem dJ9_min_f86c9_10 : decode cJ9_min_f86c9 10 = .ok (.lload_n 2, 1) := by decide +kernel
theorem dJ9_min_f86c9_11 : decode cJ9_min_f86c9 11 = .ok (.lreturn, 1) := by decide +kernel
