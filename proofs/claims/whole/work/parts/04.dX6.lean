set_option maxRecDepth 20000 in
theorem ggX6_init_X5_init : GoodIn wsX6_init wsX5_init := goodIn_r _ [31, 32, 2, 3, 33, 34, 35, 36, 37, 18, 19, 38, 39, 22, 23, 40, 41, 42, 43, 44, 45, 46, 47, 48, 49, 50, 51, 52, 53, 54, 55, 56, 57, 58, 59, 60, 79, 80, 81, 82, 83, 84, 85, 86, 87, 88, 104, 105, 106, 107, 108, 109, 110, 111, 112] (by decide +kernel) (by decide +kernel)
set_option maxRecDepth 20000 in
theorem gX6_init_X5_init : GoodIn wsX6_init (wsX5_init) := ggX6_init_X5_init
set_option maxRecDepth 20000 in
theorem ggX6_init_X1_init : GoodIn wsX6_init wsX1_init := goodIn_r _ [62, 63, 2, 3, 33, 64, 65, 66, 97, 98, 99, 100] (by decide +kernel) (by decide +kernel)
set_option maxRecDepth 20000 in
theorem gX6_init_X1_init_n21 : GoodIn wsX6_init (wsX1_init) := ggX6_init_X1_init
set_option maxRecDepth 20000 in
theorem ggX6_init_X3_init : GoodIn wsX6_init wsX3_init := goodIn_r _ [68, 69, 2, 3, 33, 70, 101, 102, 103] (by decide +kernel) (by decide +kernel)
set_option maxRecDepth 20000 in
theorem gX6_init_X3_init_n28 : GoodIn wsX6_init (wsX3_init) := ggX6_init_X3_init
set_option maxRecDepth 20000 in
theorem ggX6_init_X0_init : GoodIn wsX6_init wsX0_init := goodIn_r _ [48, 49, 2, 3, 33, 50, 51, 52, 53, 104, 105, 106, 107] (by decide +kernel) (by decide +kernel)
set_option maxRecDepth 20000 in
theorem gX6_init_X0_init : GoodIn wsX6_init (wsX0_init) := ggX6_init_X0_init
set_option maxRecDepth 20000 in
theorem ggX6_init_X4_init : GoodIn wsX6_init wsX4_init := goodIn_r _ [55, 56, 2, 3, 33, 57, 58, 59, 60, 108, 109, 110, 111, 112] (by decide +kernel) (by decide +kernel)
set_option maxRecDepth 20000 in
theorem gX6_init_X4_init_n42 : GoodIn wsX6_init (wsX4_init) := ggX6_init_X4_init
set_option maxRecDepth 20000 in
theorem ggX6_init_X2_init : GoodIn wsX6_init wsX2_init := goodIn_r _ [74, 75, 2, 3, 33, 76, 77, 78, 113, 114, 115] (by decide +kernel) (by decide +kernel)
set_option maxRecDepth 20000 in
theorem gX6_init_X2_init : GoodIn wsX6_init (wsX2_init) := ggX6_init_X2_init
theorem dX6_init_0 : decode cX6_init 0 = .ok (.aload_n 0, 1) := by decide +kernel
theorem dX6_init_1 : decode cX6_init 1 = .ok (.invokespecial 1, 3) := by decide +kernel
theorem dX6_init_4 : decode cX6_init 4 = .ok (.aload_n 0, 1) := by decide +kernel
theorem dX6_init_5 : decode cX6_init 5 = .ok (.new 7, 3) := by decide +kernel
theorem dX6_init_8 : decode cX6_init 8 = .ok (.dup, 1) := by decide +kernel
theorem dX6_init_9 : decode cX6_init 9 = .ok (.invokespecial 9, 3) := by decide +kernel
theorem dX6_init_12 : decode cX6_init 12 = .ok (.putfield 10, 3) := by decide +kernel
theorem dX6_init_15 : decode cX6_init 15 = .ok (.aload_n 0, 1) := by decide +kernel
theorem dX6_init_16 : decode cX6_init 16 = .ok (.new 7, 3) := by decide +kernel
theorem dX6_init_19 : decode cX6_init 19 = .ok (.dup, 1) := by decide +kernel
theorem dX6_init_20 : decode cX6_init 20 = .ok (.invokespecial 9, 3) := by decide +kernel
theorem dX6_init_23 : decode cX6_init 23 = .ok (.putfield 16, 3) := by decide +kernel
theorem dX6_init_26 : decode cX6_init 26 = .ok (.aload_n 0, 1) := by decide +kernel
theorem dX6_init_27 : decode cX6_init 27 = .ok (.new 19, 3) := by decide +kernel
theorem dX6_init_30 : decode cX6_init 30 = .ok (.dup, 1) := by decide +kernel
theorem dX6_init_31 : decode cX6_init 31 = .ok (.invokespecial 21, 3) := by decide +kernel
theorem dX6_init_34 : decode cX6_init 34 = .ok (.putfield 22, 3) := by decide +kernel
theorem dX6_init_37 : decode cX6_init 37 = .ok (.aload_n 0, 1) := by decide +kernel
theorem dX6_init_38 : decode cX6_init 38 = .ok (.new 26, 3) := by decide +kernel
theorem dX6_init_41 : decode cX6_init 41 = .ok (.dup, 1) := by decide +kernel
theorem dX6_init_42 : decode cX6_init 42 = .ok (.invokespecial 28, 3) := by decide +kernel
theorem dX6_init_45 : decode cX6_init 45 = .ok (.putfield 29, 3) := by decide +kernel
theorem dX6_init_48 : decode cX6_init 48 = .ok (.aload_n 0, 1) := by decide +kernel
theorem dX6_init_49 : decode cX6_init 49 = .ok (.new 33, 3) := by decide +kernel
theorem dX6_init_52 : decode cX6_init 52 = .ok (.dup, 1) := by decide +kernel
theorem dX6_init_53 : decode cX6_init 53 = .ok (.invokespecial 35, 3) := by decide +kernel
theorem dX6_init_56 : decode cX6_init 56 = .ok (.putfield 36, 3) := by decide +kernel
theorem dX6_init_59 : decode cX6_init 59 = .ok (.aload_n 0, 1) := by decide +kernel
theorem dX6_init_60 : decode cX6_init 60 = .ok (.new 40, 3) := by decide +kernel
theorem dX6_init_63 : decode cX6_init 63 = .ok (.dup, 1) := by decide +kernel
theorem dX6_init_64 : decode cX6_init 64 = .ok (.invokespecial 42, 3) := by decide +kernel
theorem dX6_init_67 : decode cX6_init 67 = .ok (.putfield 43, 3) := by decide +kernel
theorem dX6_init_70 : decode cX6_init 70 = .ok (.aload_n 0, 1) := by decide +kernel
theorem dX6_init_71 : decode cX6_init 71 = .ok (.new 47, 3) := by decide +kernel
theorem dX6_init_74 : decode cX6_init 74 = .ok (.dup, 1) := by decide +kernel
theorem dX6_init_75 : decode cX6_init 75 = .ok (.invokespecial 49, 3) := by decide +kernel
theorem dX6_init_78 : decode cX6_init 78 = .ok (.putfield 50, 3) := by decide +kernel
theorem dX6_init_81 : decode cX6_init 81 = .ok (.return_, 1) := by decide +kernel
set_option maxRecDepth 20000 in
theorem ggX6_lives_X6_isWithin : GoodIn wsX6_lives wsX6_isWithin := goodIn_r _ [8] (by decide +kernel) (by decide +kernel)
set_option maxRecDepth 20000 in
theorem gX6_lives_X6_isWithin : GoodIn wsX6_lives (va_wsS RX6 56 yX6_isWithin wsX6_isWithin) := goodIn_app (goodIn_of _ (by decide +kernel)) ggX6_lives_X6_isWithin
theorem dX6_lives_0 : decode cX6_lives 0 = .ok (.iload_n 1, 1) := by decide +kernel
theorem dX6_lives_1 : decode cX6_lives 1 = .ok (.i2l, 1) := by decide +kernel
theorem dX6_lives_2 : decode cX6_lives 2 = .ok (.lconst 0, 1) := by decide +kernel
theorem dX6_lives_3 : decode cX6_lives 3 = .ok (.ldc2_w 54, 3) := by decide +kernel
theorem dX6_lives_6 : decode cX6_lives 6 = .ok (.invokestatic 56, 3) := by decide +kernel
theorem dX6_lives_9 : decode cX6_lives 9 = .ok (.ifCond .eq 15, 3) := by decide +kernel
theorem dX6_lives_12 : decode cX6_lives 12 = .ok (.iload_n 2, 1) := by decide +kernel
theorem dX6_lives_13 : decode cX6_lives 13 = .ok (.i2l, 1) := by decide +kernel
theorem dX6_lives_14 : decode cX6_lives 14 = .ok (.lconst 1, 1) := by decide +kernel
theorem dX6_lives_15 : decode cX6_lives 15 = .ok (.ldc2_w 60, 3) := by decide +kernel
theorem dX6_lives_18 : decode cX6_lives 18 = .ok (.invokestatic 56, 3) := by decide +kernel
theorem dX6_lives_21 : decode cX6_lives 21 = .ok (.ifCond .ne 5, 3) := by decide +kernel
theorem dX6_lives_24 : decode cX6_lives 24 = .ok (.iconst (-1), 1) := by decide +kernel
theorem dX6_lives_25 : decode cX6_lives 25 = .ok (.ireturn, 1) := by decide +kernel
theorem dX6_lives_26 : decode cX6_lives 26 = .ok (.aload_n 0, 1) := by decide +kernel
theorem dX6_lives_27 : decode cX6_lives 27 = .ok (.getfield 10, 3) := by decide +kernel
theorem dX6_lives_30 : decode cX6_lives 30 = .ok (.getfield 62, 3) := by decide +kernel
theorem dX6_lives_33 : decode cX6_lives 33 = .ok (.iload_n 1, 1) := by decide +kernel
theorem dX6_lives_34 : decode cX6_lives 34 = .ok (.iaload, 1) := by decide +kernel
theorem dX6_lives_35 : decode cX6_lives 35 = .ok (.istore_n 3, 1) := by decide +kernel
theorem dX6_lives_36 : decode cX6_lives 36 = .ok (.aload_n 0, 1) := by decide +kernel
theorem dX6_lives_37 : decode cX6_lives 37 = .ok (.getfield 10, 3) := by decide +kernel
theorem dX6_lives_40 : decode cX6_lives 40 = .ok (.getfield 62, 3) := by decide +kernel
theorem dX6_lives_43 : decode cX6_lives 43 = .ok (.iload_n 1, 1) := by decide +kernel
theorem dX6_lives_44 : decode cX6_lives 44 = .ok (.iload_n 2, 1) := by decide +kernel
theorem dX6_lives_45 : decode cX6_lives 45 = .ok (.iastore, 1) := by decide +kernel
theorem dX6_lives_46 : decode cX6_lives 46 = .ok (.iload_n 3, 1) := by decide +kernel
theorem dX6_lives_47 : decode cX6_lives 47 = .ok (.ireturn, 1) := by decide +kernel
set_option maxRecDepth 20000 in
theorem ggX6_set_X6_isWithin : GoodIn wsX6_set wsX6_isWithin := goodIn_r _ [9] (by decide +kernel) (by decide +kernel)
set_option maxRecDepth 20000 in
theorem gX6_set_X6_isWithin : GoodIn wsX6_set (va_wsS RX6 56 yX6_isWithin wsX6_isWithin) := goodIn_app (goodIn_of _ (by decide +kernel)) ggX6_set_X6_isWithin
theorem dX6_set_0 : decode cX6_set 0 = .ok (.iload_n 1, 1) := by decide +kernel
theorem dX6_set_1 : decode cX6_set 1 = .ok (.ifCond .ne 33, 3) := by decide +kernel
theorem dX6_set_4 : decode cX6_set 4 = .ok (.iload_n 2, 1) := by decide +kernel
theorem dX6_set_5 : decode cX6_set 5 = .ok (.i2l, 1) := by decide +kernel
theorem dX6_set_6 : decode cX6_set 6 = .ok (.lconst 0, 1) := by decide +kernel
theorem dX6_set_7 : decode cX6_set 7 = .ok (.ldc2_w 66, 3) := by decide +kernel
theorem dX6_set_10 : decode cX6_set 10 = .ok (.invokestatic 56, 3) := by decide +kernel
theorem dX6_set_13 : decode cX6_set 13 = .ok (.ifCond .eq 21, 3) := by decide +kernel
theorem dX6_set_16 : decode cX6_set 16 = .ok (.aload_n 0, 1) := by decide +kernel
theorem dX6_set_17 : decode cX6_set 17 = .ok (.getfield 10, 3) := by decide +kernel
theorem dX6_set_20 : decode cX6_set 20 = .ok (.getfield 68, 3) := by decide +kernel
theorem dX6_set_23 : decode cX6_set 23 = .ok (.istore_n 3, 1) := by decide +kernel
theorem dX6_set_24 : decode cX6_set 24 = .ok (.aload_n 0, 1) := by decide +kernel
theorem dX6_set_25 : decode cX6_set 25 = .ok (.getfield 10, 3) := by decide +kernel
theorem dX6_set_28 : decode cX6_set 28 = .ok (.iload_n 2, 1) := by decide +kernel
theorem dX6_set_29 : decode cX6_set 29 = .ok (.putfield 68, 3) := by decide +kernel
theorem dX6_set_32 : decode cX6_set 32 = .ok (.iload_n 3, 1) := by decide +kernel
theorem dX6_set_33 : decode cX6_set 33 = .ok (.ireturn, 1) := by decide +kernel
theorem dX6_set_34 : decode cX6_set 34 = .ok (.iload_n 1, 1) := by decide +kernel
theorem dX6_set_35 : decode cX6_set 35 = .ok (.iconst 1, 1) := by decide +kernel
theorem dX6_set_36 : decode cX6_set 36 = .ok (.if_icmp .ne 33, 3) := by decide +kernel
theorem dX6_set_39 : decode cX6_set 39 = .ok (.iload_n 2, 1) := by decide +kernel
theorem dX6_set_40 : decode cX6_set 40 = .ok (.i2l, 1) := by decide +kernel
theorem dX6_set_41 : decode cX6_set 41 = .ok (.lconst 0, 1) := by decide +kernel
theorem dX6_set_42 : decode cX6_set 42 = .ok (.ldc2_w 72, 3) := by decide +kernel
theorem dX6_set_45 : decode cX6_set 45 = .ok (.invokestatic 56, 3) := by decide +kernel
theorem dX6_set_48 : decode cX6_set 48 = .ok (.ifCond .eq 21, 3) := by decide +kernel
theorem dX6_set_51 : decode cX6_set 51 = .ok (.aload_n 0, 1) := by decide +kernel
theorem dX6_set_52 : decode cX6_set 52 = .ok (.getfield 10, 3) := by decide +kernel
theorem dX6_set_55 : decode cX6_set 55 = .ok (.getfield 74, 3) := by decide +kernel
theorem dX6_set_58 : decode cX6_set 58 = .ok (.istore_n 3, 1) := by decide +kernel
theorem dX6_set_59 : decode cX6_set 59 = .ok (.aload_n 0, 1) := by decide +kernel
theorem dX6_set_60 : decode cX6_set 60 = .ok (.getfield 10, 3) := by decide +kernel
theorem dX6_set_63 : decode cX6_set 63 = .ok (.iload_n 2, 1) := by decide +kernel
theorem dX6_set_64 : decode cX6_set 64 = .ok (.putfield 74, 3) := by decide +kernel
theorem dX6_set_67 : decode cX6_set 67 = .ok (.iload_n 3, 1) := by decide +kernel
theorem dX6_set_68 : decode cX6_set 68 = .ok (.ireturn, 1) := by decide +kernel
theorem dX6_set_69 : decode cX6_set 69 = .ok (.iconst (-1), 1) := by decide +kernel
theorem dX6_set_70 : decode cX6_set 70 = .ok (.ireturn, 1) := by decide +kernel
set_option maxRecDepth 20000 in
theorem ggX6_will_X6_isYear : GoodIn wsX6_will wsX6_isYear := goodIn_r _ [9, 10, 11, 12, 8, 13] (by decide +kernel) (by decide +kernel)
set_option maxRecDepth 20000 in
theorem gX6_will_X6_isYear : GoodIn wsX6_will (va_wsS RX6 77 yX6_isYear wsX6_isYear) := goodIn_app (goodIn_of _ (by decide +kernel)) ggX6_will_X6_isYear
set_option maxRecDepth 20000 in
theorem ggX6_will_X6_isWithin : GoodIn wsX6_will wsX6_isWithin := goodIn_r _ [13] (by decide +kernel) (by decide +kernel)
set_option maxRecDepth 20000 in
theorem gX6_will_X6_isWithin : GoodIn wsX6_will (va_wsS RX6 56 yX6_isWithin wsX6_isWithin) := goodIn_app (goodIn_of _ (by decide +kernel)) ggX6_will_X6_isWithin
set_option maxRecDepth 20000 in
theorem ggX6_will_X4_hasRoomFor : GoodIn wsX6_will wsX4_hasRoomFor := goodIn_r _ [18, 19, 47, 48, 49, 50, 51] (by decide +kernel) (by decide +kernel)
set_option maxRecDepth 20000 in
theorem gX6_will_X4_hasRoomFor : GoodIn wsX6_will (wsV RX6 86 RX4 yX4_hasRoomFor wsX4_hasRoomFor) := goodIn_app (goodIn_of _ (by decide +kernel)) ggX6_will_X4_hasRoomFor
set_option maxRecDepth 20000 in
theorem ggX6_will_X4_add : GoodIn wsX6_will wsX4_add := goodIn_r _ [23, 24, 19, 25, 26, 27, 28, 15, 16, 17, 18, 47, 48, 49, 50, 51] (by decide +kernel) (by decide +kernel)
set_option maxRecDepth 20000 in
theorem gX6_will_X4_add : GoodIn wsX6_will (wsV RX6 89 RX4 yX4_add wsX4_add) := goodIn_app (goodIn_of _ (by decide +kernel)) ggX6_will_X4_add
theorem dX6_will_0 : decode cX6_will 0 = .ok (.iload_n 1, 1) := by decide +kernel
theorem dX6_will_1 : decode cX6_will 1 = .ok (.invokestatic 77, 3) := by decide +kernel
theorem dX6_will_4 : decode cX6_will 4 = .ok (.ifCond .eq 38, 3) := by decide +kernel
theorem dX6_will_7 : decode cX6_will 7 = .ok (.iload_n 2, 1) := by decide +kernel
theorem dX6_will_8 : decode cX6_will 8 = .ok (.i2l, 1) := by decide +kernel
theorem dX6_will_9 : decode cX6_will 9 = .ok (.lconst 0, 1) := by decide +kernel
theorem dX6_will_10 : decode cX6_will 10 = .ok (.ldc2_w 54, 3) := by decide +kernel
theorem dX6_will_13 : decode cX6_will 13 = .ok (.invokestatic 56, 3) := by decide +kernel
theorem dX6_will_16 : decode cX6_will 16 = .ok (.ifCond .eq 26, 3) := by decide +kernel
theorem dX6_will_19 : decode cX6_will 19 = .ok (.iload_n 3, 1) := by decide +kernel
theorem dX6_will_20 : decode cX6_will 20 = .ok (.i2l, 1) := by decide +kernel
theorem dX6_will_21 : decode cX6_will 21 = .ok (.lconst 0, 1) := by decide +kernel
theorem dX6_will_22 : decode cX6_will 22 = .ok (.lconst 1, 1) := by decide +kernel
theorem dX6_will_23 : decode cX6_will 23 = .ok (.invokestatic 56, 3) := by decide +kernel
theorem dX6_will_26 : decode cX6_will 26 = .ok (.ifCond .eq 16, 3) := by decide +kernel
theorem dX6_will_29 : decode cX6_will 29 = .ok (.iload 4, 2) := by decide +kernel
theorem dX6_will_31 : decode cX6_will 31 = .ok (.i2l, 1) := by decide +kernel
theorem dX6_will_32 : decode cX6_will 32 = .ok (.lconst 0, 1) := by decide +kernel
theorem dX6_will_33 : decode cX6_will 33 = .ok (.ldc2_w 81, 3) := by decide +kernel
theorem dX6_will_36 : decode cX6_will 36 = .ok (.invokestatic 56, 3) := by decide +kernel
theorem dX6_will_39 : decode cX6_will 39 = .ok (.ifCond .ne 5, 3) := by decide +kernel
theorem dX6_will_42 : decode cX6_will 42 = .ok (.iconst (-1), 1) := by decide +kernel
theorem dX6_will_43 : decode cX6_will 43 = .ok (.ireturn, 1) := by decide +kernel
theorem dX6_will_44 : decode cX6_will 44 = .ok (.aload_n 0, 1) := by decide +kernel
theorem dX6_will_45 : decode cX6_will 45 = .ok (.getfield 10, 3) := by decide +kernel
theorem dX6_will_48 : decode cX6_will 48 = .ok (.getfield 83, 3) := by decide +kernel
theorem dX6_will_51 : decode cX6_will 51 = .ok (.iconst 1, 1) := by decide +kernel
theorem dX6_will_52 : decode cX6_will 52 = .ok (.invokevirtual 86, 3) := by decide +kernel
theorem dX6_will_55 : decode cX6_will 55 = .ok (.ifCond .ne 6, 3) := by decide +kernel
theorem dX6_will_58 : decode cX6_will 58 = .ok (.bipush (-3), 2) := by decide +kernel
theorem dX6_will_60 : decode cX6_will 60 = .ok (.ireturn, 1) := by decide +kernel
theorem dX6_will_61 : decode cX6_will 61 = .ok (.aload_n 0, 1) := by decide +kernel
theorem dX6_will_62 : decode cX6_will 62 = .ok (.getfield 10, 3) := by decide +kernel
theorem dX6_will_65 : decode cX6_will 65 = .ok (.getfield 83, 3) := by decide +kernel
theorem dX6_will_68 : decode cX6_will 68 = .ok (.iload_n 1, 1) := by decide +kernel
theorem dX6_will_69 : decode cX6_will 69 = .ok (.iload_n 2, 1) := by decide +kernel
theorem dX6_will_70 : decode cX6_will 70 = .ok (.iload_n 3, 1) := by decide +kernel
theorem dX6_will_71 : decode cX6_will 71 = .ok (.iload 4, 2) := by decide +kernel
theorem dX6_will_73 : decode cX6_will 73 = .ok (.invokevirtual 89, 3) := by decide +kernel
theorem dX6_will_76 : decode cX6_will 76 = .ok (.aload_n 0, 1) := by decide +kernel
theorem dX6_will_77 : decode cX6_will 77 = .ok (.getfield 10, 3) := by decide +kernel
theorem dX6_will_80 : decode cX6_will 80 = .ok (.getfield 83, 3) := by decide +kernel
theorem dX6_will_83 : decode cX6_will 83 = .ok (.getfield 93, 3) := by decide +kernel
theorem dX6_will_86 : decode cX6_will 86 = .ok (.iconst 1, 1) := by decide +kernel
theorem dX6_will_87 : decode cX6_will 87 = .ok (.isub, 1) := by decide +kernel
theorem dX6_will_88 : decode cX6_will 88 = .ok (.ireturn, 1) := by decide +kernel
set_option maxRecDepth 20000 in
theorem ggX6_had_X4_has : GoodIn wsX6_had wsX4_has := goodIn_r _ [10, 11, 34, 35, 36, 37, 38] (by decide +kernel) (by decide +kernel)
set_option maxRecDepth 20000 in
theorem gX6_had_X4_has : GoodIn wsX6_had (wsV RX6 96 RX4 yX4_has wsX4_has) := goodIn_app (goodIn_of _ (by decide +kernel)) ggX6_had_X4_has
set_option maxRecDepth 20000 in
theorem ggX6_had_X6_isWithin : GoodIn wsX6_had wsX6_isWithin := goodIn_r _ [15] (by decide +kernel) (by decide +kernel)
set_option maxRecDepth 20000 in
theorem gX6_had_X6_isWithin : GoodIn wsX6_had (va_wsS RX6 56 yX6_isWithin wsX6_isWithin) := goodIn_app (goodIn_of _ (by decide +kernel)) ggX6_had_X6_isWithin
theorem dX6_had_0 : decode cX6_had 0 = .ok (.aload_n 0, 1) := by decide +kernel
theorem dX6_had_1 : decode cX6_had 1 = .ok (.getfield 10, 3) := by decide +kernel
theorem dX6_had_4 : decode cX6_had 4 = .ok (.getfield 83, 3) := by decide +kernel
theorem dX6_had_7 : decode cX6_had 7 = .ok (.iload_n 1, 1) := by decide +kernel
theorem dX6_had_8 : decode cX6_had 8 = .ok (.invokevirtual 96, 3) := by decide +kernel
theorem dX6_had_11 : decode cX6_had 11 = .ok (.ifCond .eq 27, 3) := by decide +kernel
theorem dX6_had_14 : decode cX6_had 14 = .ok (.iload_n 2, 1) := by decide +kernel
theorem dX6_had_15 : decode cX6_had 15 = .ok (.i2l, 1) := by decide +kernel
theorem dX6_had_16 : decode cX6_had 16 = .ok (.lconst 0, 1) := by decide +kernel
theorem dX6_had_17 : decode cX6_had 17 = .ok (.ldc2_w 99, 3) := by decide +kernel
theorem dX6_had_20 : decode cX6_had 20 = .ok (.invokestatic 56, 3) := by decide +kernel
theorem dX6_had_23 : decode cX6_had 23 = .ok (.ifCond .eq 15, 3) := by decide +kernel
theorem dX6_had_26 : decode cX6_had 26 = .ok (.iload_n 3, 1) := by decide +kernel
theorem dX6_had_27 : decode cX6_had 27 = .ok (.i2l, 1) := by decide +kernel
theorem dX6_had_28 : decode cX6_had 28 = .ok (.lconst 0, 1) := by decide +kernel
theorem dX6_had_29 : decode cX6_had 29 = .ok (.ldc2_w 81, 3) := by decide +kernel
theorem dX6_had_32 : decode cX6_had 32 = .ok (.invokestatic 56, 3) := by decide +kernel
theorem dX6_had_35 : decode cX6_had 35 = .ok (.ifCond .ne 5, 3) := by decide +kernel
theorem dX6_had_38 : decode cX6_had 38 = .ok (.iconst (-1), 1) := by decide +kernel
theorem dX6_had_39 : decode cX6_had 39 = .ok (.ireturn, 1) := by decide +kernel
theorem dX6_had_40 : decode cX6_had 40 = .ok (.iload_n 1, 1) := by decide +kernel
theorem dX6_had_41 : decode cX6_had 41 = .ok (.iconst 4, 1) := by decide +kernel
theorem dX6_had_42 : decode cX6_had 42 = .ok (.imul, 1) := by decide +kernel
theorem dX6_had_43 : decode cX6_had 43 = .ok (.iload_n 2, 1) := by decide +kernel
theorem dX6_had_44 : decode cX6_had 44 = .ok (.iadd, 1) := by decide +kernel
theorem dX6_had_45 : decode cX6_had 45 = .ok (.istore 4, 2) := by decide +kernel
theorem dX6_had_47 : decode cX6_had 47 = .ok (.aload_n 0, 1) := by decide +kernel
theorem dX6_had_48 : decode cX6_had 48 = .ok (.getfield 10, 3) := by decide +kernel
theorem dX6_had_51 : decode cX6_had 51 = .ok (.getfield 83, 3) := by decide +kernel
theorem dX6_had_54 : decode cX6_had 54 = .ok (.getfield 101, 3) := by decide +kernel
theorem dX6_had_57 : decode cX6_had 57 = .ok (.iload 4, 2) := by decide +kernel
theorem dX6_had_59 : decode cX6_had 59 = .ok (.iaload, 1) := by decide +kernel
theorem dX6_had_60 : decode cX6_had 60 = .ok (.istore 5, 2) := by decide +kernel
theorem dX6_had_62 : decode cX6_had 62 = .ok (.aload_n 0, 1) := by decide +kernel
theorem dX6_had_63 : decode cX6_had 63 = .ok (.getfield 10, 3) := by decide +kernel
theorem dX6_had_66 : decode cX6_had 66 = .ok (.getfield 83, 3) := by decide +kernel
theorem dX6_had_69 : decode cX6_had 69 = .ok (.getfield 101, 3) := by decide +kernel
theorem dX6_had_72 : decode cX6_had 72 = .ok (.iload 4, 2) := by decide +kernel
theorem dX6_had_74 : decode cX6_had 74 = .ok (.iload_n 3, 1) := by decide +kernel
theorem dX6_had_75 : decode cX6_had 75 = .ok (.iastore, 1) := by decide +kernel
theorem dX6_had_76 : decode cX6_had 76 = .ok (.iload 5, 2) := by decide +kernel
theorem dX6_had_78 : decode cX6_had 78 = .ok (.ireturn, 1) := by decide +kernel
set_option maxRecDepth 20000 in
theorem ggX6_told_X4_has : GoodIn wsX6_told wsX4_has := goodIn_r _ [10, 11, 71, 72, 73, 74, 75] (by decide +kernel) (by decide +kernel)
set_option maxRecDepth 20000 in
theorem gX6_told_X4_has : GoodIn wsX6_told (wsV RX6 96 RX4 yX4_has wsX4_has) := goodIn_app (goodIn_of _ (by decide +kernel)) ggX6_told_X4_has
set_option maxRecDepth 20000 in
theorem ggX6_told_X5_seen : GoodIn wsX6_told wsX5_seen := goodIn_r _ [16, 17, 18, 19, 20, 21, 61, 62, 63, 64, 65, 66, 67, 68, 69, 70, 76, 77, 78, 79, 71, 72, 73, 74, 75] (by decide +kernel) (by decide +kernel)
set_option maxRecDepth 20000 in
theorem gX6_told_X5_seen : GoodIn wsX6_told (wsV RX6 113 RX5 yX5_seen wsX5_seen) := goodIn_app (goodIn_of _ (by decide +kernel)) ggX6_told_X5_seen
set_option maxRecDepth 20000 in
theorem ggX6_told_X5_sworn : GoodIn wsX6_told wsX5_sworn := goodIn_r _ [25, 17, 26, 27, 28, 13, 14, 15, 16, 18, 19, 20, 21, 61, 62, 63, 64, 65, 66, 67, 68, 69, 70, 76, 77, 78, 79, 71, 72, 73, 74, 75] (by decide +kernel) (by decide +kernel)
set_option maxRecDepth 20000 in
theorem gX6_told_X5_sworn : GoodIn wsX6_told (wsV RX6 117 RX5 yX5_sworn wsX5_sworn) := goodIn_app (goodIn_of _ (by decide +kernel)) ggX6_told_X5_sworn
set_option maxRecDepth 20000 in
theorem ggX6_told_X5_isInBook : GoodIn wsX6_told wsX5_isInBook := goodIn_r _ [32, 17, 33, 34, 23, 24, 15, 25, 26, 27, 28, 13, 14, 16, 18, 19, 20, 21, 61, 62, 63, 64, 65, 66, 67, 68, 69, 70, 76, 77, 78, 79, 71, 72, 73, 74, 75] (by decide +kernel) (by decide +kernel)
set_option maxRecDepth 20000 in
theorem gX6_told_X5_isInBook : GoodIn wsX6_told (wsV RX6 120 RX5 yX5_isInBook wsX5_isInBook) := goodIn_app (goodIn_of _ (by decide +kernel)) ggX6_told_X5_isInBook
set_option maxRecDepth 20000 in
theorem ggX6_told_X5_weight : GoodIn wsX6_told wsX5_weight := goodIn_r _ [38, 39, 40, 19, 41, 42, 43, 44, 15, 45, 46, 34, 23, 24, 25, 17, 26, 27, 28, 13, 14, 16, 18, 20, 21, 61, 62, 63, 64, 65, 66, 67, 68, 69, 70, 71, 72, 73, 74, 75, 76, 77, 78, 79] (by decide +kernel) (by decide +kernel)
set_option maxRecDepth 20000 in
theorem gX6_told_X5_weight : GoodIn wsX6_told (wsV RX6 124 RX5 yX5_weight wsX5_weight) := goodIn_app (goodIn_of _ (by decide +kernel)) ggX6_told_X5_weight
set_option maxRecDepth 20000 in
theorem ggX6_told_X5_kind : GoodIn wsX6_told wsX5_kind := goodIn_r _ [50, 19, 51, 52, 30, 31, 15, 32, 17, 33, 34, 23, 24, 25, 26, 27, 28, 13, 14, 16, 18, 20, 21, 42, 43, 44, 45, 46, 61, 62, 63, 64, 65, 66, 67, 68, 69, 70, 71, 72, 73, 74, 75, 76, 77, 78, 79] (by decide +kernel) (by decide +kernel)
set_option maxRecDepth 20000 in
theorem gX6_told_X5_kind : GoodIn wsX6_told (wsV RX6 127 RX5 yX5_kind wsX5_kind) := goodIn_app (goodIn_of _ (by decide +kernel)) ggX6_told_X5_kind
theorem dX6_told_0 : decode cX6_told 0 = .ok (.aload_n 0, 1) := by decide +kernel
theorem dX6_told_1 : decode cX6_told 1 = .ok (.getfield 10, 3) := by decide +kernel
theorem dX6_told_4 : decode cX6_told 4 = .ok (.getfield 83, 3) := by decide +kernel
theorem dX6_told_7 : decode cX6_told 7 = .ok (.iload_n 1, 1) := by decide +kernel
theorem dX6_told_8 : decode cX6_told 8 = .ok (.invokevirtual 96, 3) := by decide +kernel
theorem dX6_told_11 : decode cX6_told 11 = .ok (.ifCond .ne 5, 3) := by decide +kernel
theorem dX6_told_14 : decode cX6_told 14 = .ok (.iconst (-1), 1) := by decide +kernel
theorem dX6_told_15 : decode cX6_told 15 = .ok (.ireturn, 1) := by decide +kernel
theorem dX6_told_16 : decode cX6_told 16 = .ok (.aload_n 0, 1) := by decide +kernel
theorem dX6_told_17 : decode cX6_told 17 = .ok (.getfield 10, 3) := by decide +kernel
theorem dX6_told_20 : decode cX6_told 20 = .ok (.getfield 83, 3) := by decide +kernel
theorem dX6_told_23 : decode cX6_told 23 = .ok (.getfield 104, 3) := by decide +kernel
theorem dX6_told_26 : decode cX6_told 26 = .ok (.iload_n 1, 1) := by decide +kernel
theorem dX6_told_27 : decode cX6_told 27 = .ok (.iaload, 1) := by decide +kernel
theorem dX6_told_28 : decode cX6_told 28 = .ok (.istore_n 3, 1) := by decide +kernel
theorem dX6_told_29 : decode cX6_told 29 = .ok (.iload_n 2, 1) := by decide +kernel
theorem dX6_told_30 : decode cX6_told 30 = .ok (.tableswitch 131 0 7 #[46, 48, 61, 74, 84, 94, 112, 122], 46) := by decide +kernel
theorem dX6_told_76 : decode cX6_told 76 = .ok (.iload_n 3, 1) := by decide +kernel
theorem dX6_told_77 : decode cX6_told 77 = .ok (.ireturn, 1) := by decide +kernel
theorem dX6_told_78 : decode cX6_told 78 = .ok (.aload_n 0, 1) := by decide +kernel
theorem dX6_told_79 : decode cX6_told 79 = .ok (.getfield 10, 3) := by decide +kernel
theorem dX6_told_82 : decode cX6_told 82 = .ok (.getfield 83, 3) := by decide +kernel
theorem dX6_told_85 : decode cX6_told 85 = .ok (.getfield 107, 3) := by decide +kernel
theorem dX6_told_88 : decode cX6_told 88 = .ok (.iload_n 1, 1) := by decide +kernel
theorem dX6_told_89 : decode cX6_told 89 = .ok (.iaload, 1) := by decide +kernel
theorem dX6_told_90 : decode cX6_told 90 = .ok (.ireturn, 1) := by decide +kernel
theorem dX6_told_91 : decode cX6_told 91 = .ok (.aload_n 0, 1) := by decide +kernel
theorem dX6_told_92 : decode cX6_told 92 = .ok (.getfield 10, 3) := by decide +kernel
theorem dX6_told_95 : decode cX6_told 95 = .ok (.getfield 83, 3) := by decide +kernel
theorem dX6_told_98 : decode cX6_told 98 = .ok (.getfield 110, 3) := by decide +kernel
theorem dX6_told_101 : decode cX6_told 101 = .ok (.iload_n 1, 1) := by decide +kernel
theorem dX6_told_102 : decode cX6_told 102 = .ok (.iaload, 1) := by decide +kernel
theorem dX6_told_103 : decode cX6_told 103 = .ok (.ireturn, 1) := by decide +kernel
theorem dX6_told_104 : decode cX6_told 104 = .ok (.aload_n 0, 1) := by decide +kernel
theorem dX6_told_105 : decode cX6_told 105 = .ok (.getfield 10, 3) := by decide +kernel
theorem dX6_told_108 : decode cX6_told 108 = .ok (.iload_n 1, 1) := by decide +kernel
theorem dX6_told_109 : decode cX6_told 109 = .ok (.iload_n 3, 1) := by decide +kernel
theorem dX6_told_110 : decode cX6_told 110 = .ok (.invokevirtual 113, 3) := by decide +kernel
theorem dX6_told_113 : decode cX6_told 113 = .ok (.ireturn, 1) := by decide +kernel
theorem dX6_told_114 : decode cX6_told 114 = .ok (.aload_n 0, 1) := by decide +kernel
theorem dX6_told_115 : decode cX6_told 115 = .ok (.getfield 10, 3) := by decide +kernel
theorem dX6_told_118 : decode cX6_told 118 = .ok (.iload_n 1, 1) := by decide +kernel
theorem dX6_told_119 : decode cX6_told 119 = .ok (.iload_n 3, 1) := by decide +kernel
theorem dX6_told_120 : decode cX6_told 120 = .ok (.invokevirtual 117, 3) := by decide +kernel
theorem dX6_told_123 : decode cX6_told 123 = .ok (.ireturn, 1) := by decide +kernel
theorem dX6_told_124 : decode cX6_told 124 = .ok (.aload_n 0, 1) := by decide +kernel
theorem dX6_told_125 : decode cX6_told 125 = .ok (.getfield 10, 3) := by decide +kernel
theorem dX6_told_128 : decode cX6_told 128 = .ok (.iload_n 1, 1) := by decide +kernel
theorem dX6_told_129 : decode cX6_told 129 = .ok (.iload_n 3, 1) := by decide +kernel
theorem dX6_told_130 : decode cX6_told 130 = .ok (.invokevirtual 120, 3) := by decide +kernel
theorem dX6_told_133 : decode cX6_told 133 = .ok (.ifCond .eq 7, 3) := by decide +kernel
theorem dX6_told_136 : decode cX6_told 136 = .ok (.iconst 1, 1) := by decide +kernel
theorem dX6_told_137 : decode cX6_told 137 = .ok (.goto 4, 3) := by decide +kernel
theorem dX6_told_140 : decode cX6_told 140 = .ok (.iconst 0, 1) := by decide +kernel
theorem dX6_told_141 : decode cX6_told 141 = .ok (.ireturn, 1) := by decide +kernel
theorem dX6_told_142 : decode cX6_told 142 = .ok (.aload_n 0, 1) := by decide +kernel
theorem dX6_told_143 : decode cX6_told 143 = .ok (.getfield 10, 3) := by decide +kernel
theorem dX6_told_146 : decode cX6_told 146 = .ok (.iload_n 1, 1) := by decide +kernel
theorem dX6_told_147 : decode cX6_told 147 = .ok (.iload_n 3, 1) := by decide +kernel
theorem dX6_told_148 : decode cX6_told 148 = .ok (.invokevirtual 124, 3) := by decide +kernel
theorem dX6_told_151 : decode cX6_told 151 = .ok (.ireturn, 1) := by decide +kernel
theorem dX6_told_152 : decode cX6_told 152 = .ok (.aload_n 0, 1) := by decide +kernel
theorem dX6_told_153 : decode cX6_told 153 = .ok (.getfield 10, 3) := by decide +kernel
theorem dX6_told_156 : decode cX6_told 156 = .ok (.iload_n 1, 1) := by decide +kernel
theorem dX6_told_157 : decode cX6_told 157 = .ok (.invokevirtual 127, 3) := by decide +kernel
theorem dX6_told_160 : decode cX6_told 160 = .ok (.ireturn, 1) := by decide +kernel
theorem dX6_told_161 : decode cX6_told 161 = .ok (.iconst (-1), 1) := by decide +kernel
theorem dX6_told_162 : decode cX6_told 162 = .ok (.ireturn, 1) := by decide +kernel
set_option maxRecDepth 20000 in
theorem ggX6_burn_X4_has : GoodIn wsX6_burn wsX4_has := goodIn_r _ [8, 9, 45, 46, 47, 48, 49] (by decide +kernel) (by decide +kernel)
set_option maxRecDepth 20000 in
theorem gX6_burn_X4_has : GoodIn wsX6_burn (wsV RX6 96 RX4 yX4_has wsX4_has) := goodIn_app (goodIn_of _ (by decide +kernel)) ggX6_burn_X4_has
set_option maxRecDepth 20000 in
theorem ggX6_burn_X4_removeOne : GoodIn wsX6_burn wsX4_removeOne := goodIn_r _ [13, 9, 14, 5, 6, 7, 8, 15, 16, 17, 18, 19, 20, 21, 22, 23, 24, 25, 26, 45, 46, 47, 48, 49] (by decide +kernel) (by decide +kernel)
set_option maxRecDepth 20000 in
theorem gX6_burn_X4_removeOne : GoodIn wsX6_burn (wsV RX6 131 RX4 yX4_removeOne wsX4_removeOne) := goodIn_app (goodIn_of _ (by decide +kernel)) ggX6_burn_X4_removeOne
theorem dX6_burn_0 : decode cX6_burn 0 = .ok (.aload_n 0, 1) := by decide +kernel
theorem dX6_burn_1 : decode cX6_burn 1 = .ok (.getfield 10, 3) := by decide +kernel
theorem dX6_burn_4 : decode cX6_burn 4 = .ok (.getfield 83, 3) := by decide +kernel
theorem dX6_burn_7 : decode cX6_burn 7 = .ok (.iload_n 1, 1) := by decide +kernel
theorem dX6_burn_8 : decode cX6_burn 8 = .ok (.invokevirtual 96, 3) := by decide +kernel
theorem dX6_burn_11 : decode cX6_burn 11 = .ok (.ifCond .ne 5, 3) := by decide +kernel
theorem dX6_burn_14 : decode cX6_burn 14 = .ok (.iconst (-1), 1) := by decide +kernel
theorem dX6_burn_15 : decode cX6_burn 15 = .ok (.ireturn, 1) := by decide +kernel
theorem dX6_burn_16 : decode cX6_burn 16 = .ok (.aload_n 0, 1) := by decide +kernel
theorem dX6_burn_17 : decode cX6_burn 17 = .ok (.getfield 10, 3) := by decide +kernel
theorem dX6_burn_20 : decode cX6_burn 20 = .ok (.getfield 83, 3) := by decide +kernel
theorem dX6_burn_23 : decode cX6_burn 23 = .ok (.iload_n 1, 1) := by decide +kernel
theorem dX6_burn_24 : decode cX6_burn 24 = .ok (.invokevirtual 131, 3) := by decide +kernel
theorem dX6_burn_27 : decode cX6_burn 27 = .ok (.aload_n 0, 1) := by decide +kernel
theorem dX6_burn_28 : decode cX6_burn 28 = .ok (.getfield 10, 3) := by decide +kernel
theorem dX6_burn_31 : decode cX6_burn 31 = .ok (.getfield 83, 3) := by decide +kernel
theorem dX6_burn_34 : decode cX6_burn 34 = .ok (.getfield 93, 3) := by decide +kernel
theorem dX6_burn_37 : decode cX6_burn 37 = .ok (.ireturn, 1) := by decide +kernel
set_option maxRecDepth 20000 in
theorem ggX6_type_X6_isWithin : GoodIn wsX6_type wsX6_isWithin := goodIn_r _ [9] (by decide +kernel) (by decide +kernel)
set_option maxRecDepth 20000 in
theorem gX6_type_X6_isWithin : GoodIn wsX6_type (va_wsS RX6 56 yX6_isWithin wsX6_isWithin) := goodIn_app (goodIn_of _ (by decide +kernel)) ggX6_type_X6_isWithin
set_option maxRecDepth 20000 in
theorem ggX6_type_X6_byteOf : GoodIn wsX6_type wsX6_byteOf := goodIn_r _ [12, 13] (by decide +kernel) (by decide +kernel)
set_option maxRecDepth 20000 in
theorem gX6_type_X6_byteOf : GoodIn wsX6_type (va_wsS RX6 137 yX6_byteOf wsX6_byteOf) := goodIn_app (goodIn_of _ (by decide +kernel)) ggX6_type_X6_byteOf
set_option maxRecDepth 20000 in
theorem ggX6_type_X3_hasRoomFor : GoodIn wsX6_type wsX3_hasRoomFor := goodIn_r _ [18, 19, 34, 35, 36] (by decide +kernel) (by decide +kernel)
set_option maxRecDepth 20000 in
theorem gX6_type_X3_hasRoomFor : GoodIn wsX6_type (wsV RX6 145 RX3 yX3_hasRoomFor wsX3_hasRoomFor) := goodIn_app (goodIn_of _ (by decide +kernel)) ggX6_type_X3_hasRoomFor
set_option maxRecDepth 20000 in
theorem ggX6_type_X3_add : GoodIn wsX6_type wsX3_add := goodIn_r _ [23, 24, 19, 25, 15, 16, 17, 18, 34, 35, 36] (by decide +kernel) (by decide +kernel)
set_option maxRecDepth 20000 in
theorem gX6_type_X3_add : GoodIn wsX6_type (wsV RX6 146 RX3 yX3_add wsX3_add) := goodIn_app (goodIn_of _ (by decide +kernel)) ggX6_type_X3_add
theorem dX6_type_0 : decode cX6_type 0 = .ok (.iload_n 3, 1) := by decide +kernel
theorem dX6_type_1 : decode cX6_type 1 = .ok (.i2l, 1) := by decide +kernel
theorem dX6_type_2 : decode cX6_type 2 = .ok (.lconst 1, 1) := by decide +kernel
theorem dX6_type_3 : decode cX6_type 3 = .ok (.ldc2_w 135, 3) := by decide +kernel
theorem dX6_type_6 : decode cX6_type 6 = .ok (.invokestatic 56, 3) := by decide +kernel
theorem dX6_type_9 : decode cX6_type 9 = .ok (.ifCond .ne 5, 3) := by decide +kernel
theorem dX6_type_12 : decode cX6_type 12 = .ok (.iconst (-1), 1) := by decide +kernel
theorem dX6_type_13 : decode cX6_type 13 = .ok (.ireturn, 1) := by decide +kernel
theorem dX6_type_14 : decode cX6_type 14 = .ok (.iconst 0, 1) := by decide +kernel
theorem dX6_type_15 : decode cX6_type 15 = .ok (.istore 4, 2) := by decide +kernel
theorem dX6_type_17 : decode cX6_type 17 = .ok (.iload 4, 2) := by decide +kernel
theorem dX6_type_19 : decode cX6_type 19 = .ok (.iload_n 3, 1) := by decide +kernel
theorem dX6_type_20 : decode cX6_type 20 = .ok (.if_icmp .ge 30, 3) := by decide +kernel
theorem dX6_type_23 : decode cX6_type 23 = .ok (.lload_n 1, 1) := by decide +kernel
theorem dX6_type_24 : decode cX6_type 24 = .ok (.iload 4, 2) := by decide +kernel
theorem dX6_type_26 : decode cX6_type 26 = .ok (.invokestatic 137, 3) := by decide +kernel
theorem dX6_type_29 : decode cX6_type 29 = .ok (.i2l, 1) := by decide +kernel
theorem dX6_type_30 : decode cX6_type 30 = .ok (.ldc2_w 141, 3) := by decide +kernel
theorem dX6_type_33 : decode cX6_type 33 = .ok (.ldc2_w 143, 3) := by decide +kernel
theorem dX6_type_36 : decode cX6_type 36 = .ok (.invokestatic 56, 3) := by decide +kernel
theorem dX6_type_39 : decode cX6_type 39 = .ok (.ifCond .ne 5, 3) := by decide +kernel
theorem dX6_type_42 : decode cX6_type 42 = .ok (.iconst (-1), 1) := by decide +kernel
theorem dX6_type_43 : decode cX6_type 43 = .ok (.ireturn, 1) := by decide +kernel
theorem dX6_type_44 : decode cX6_type 44 = .ok (.iinc 4 1, 3) := by decide +kernel
theorem dX6_type_47 : decode cX6_type 47 = .ok (.goto (-30), 3) := by decide +kernel
theorem dX6_type_50 : decode cX6_type 50 = .ok (.aload_n 0, 1) := by decide +kernel
theorem dX6_type_51 : decode cX6_type 51 = .ok (.getfield 29, 3) := by decide +kernel
theorem dX6_type_54 : decode cX6_type 54 = .ok (.iload_n 3, 1) := by decide +kernel
theorem dX6_type_55 : decode cX6_type 55 = .ok (.invokevirtual 145, 3) := by decide +kernel
theorem dX6_type_58 : decode cX6_type 58 = .ok (.ifCond .ne 6, 3) := by decide +kernel
theorem dX6_type_61 : decode cX6_type 61 = .ok (.bipush (-3), 2) := by decide +kernel
theorem dX6_type_63 : decode cX6_type 63 = .ok (.ireturn, 1) := by decide +kernel
theorem dX6_type_64 : decode cX6_type 64 = .ok (.iload_n 3, 1) := by decide +kernel
theorem dX6_type_65 : decode cX6_type 65 = .ok (.iconst 1, 1) := by decide +kernel
theorem dX6_type_66 : decode cX6_type 66 = .ok (.isub, 1) := by decide +kernel
theorem dX6_type_67 : decode cX6_type 67 = .ok (.istore 4, 2) := by decide +kernel
theorem dX6_type_69 : decode cX6_type 69 = .ok (.iload 4, 2) := by decide +kernel
theorem dX6_type_71 : decode cX6_type 71 = .ok (.ifCond .lt 22, 3) := by decide +kernel
theorem dX6_type_74 : decode cX6_type 74 = .ok (.aload_n 0, 1) := by decide +kernel
theorem dX6_type_75 : decode cX6_type 75 = .ok (.getfield 29, 3) := by decide +kernel
theorem dX6_type_78 : decode cX6_type 78 = .ok (.lload_n 1, 1) := by decide +kernel
theorem dX6_type_79 : decode cX6_type 79 = .ok (.iload 4, 2) := by decide +kernel
theorem dX6_type_81 : decode cX6_type 81 = .ok (.invokestatic 137, 3) := by decide +kernel
theorem dX6_type_84 : decode cX6_type 84 = .ok (.invokevirtual 146, 3) := by decide +kernel
theorem dX6_type_87 : decode cX6_type 87 = .ok (.iinc 4 (-1), 3) := by decide +kernel
theorem dX6_type_90 : decode cX6_type 90 = .ok (.goto (-21), 3) := by decide +kernel
theorem dX6_type_93 : decode cX6_type 93 = .ok (.aload_n 0, 1) := by decide +kernel
theorem dX6_type_94 : decode cX6_type 94 = .ok (.getfield 29, 3) := by decide +kernel
theorem dX6_type_97 : decode cX6_type 97 = .ok (.getfield 148, 3) := by decide +kernel
theorem dX6_type_100 : decode cX6_type 100 = .ok (.ireturn, 1) := by decide +kernel
set_option maxRecDepth 20000 in
theorem ggX6_rules_X0_takeFrom : GoodIn wsX6_rules wsX0_takeFrom := goodIn_r _ [9, 10, 11, 12, 13, 14, 15, 16, 17, 90, 91, 92, 93] (by decide +kernel) (by decide +kernel)
set_option maxRecDepth 20000 in
theorem gX6_rules_X0_takeFrom : GoodIn wsX6_rules (wsV RX6 152 RX0 yX0_takeFrom wsX0_takeFrom) := goodIn_app (goodIn_of _ (by decide +kernel)) ggX6_rules_X0_takeFrom
set_option maxRecDepth 20000 in
theorem ggX6_rules_X3_readLaws : GoodIn wsX6_rules wsX3_readLaws := goodIn_r _ [22, 23, 24, 25, 26, 21, 27, 28, 29, 30, 31, 32, 33, 34, 35, 36, 37, 38, 39, 40, 41, 42, 43, 44, 45, 46, 47, 48, 49, 50, 51, 52, 53, 54, 55, 56, 57, 58, 59, 60, 61, 62, 8, 63, 10, 15, 16, 17, 64, 65, 66, 67, 94, 95, 96, 90, 91, 92, 93] (by decide +kernel) (by decide +kernel)
set_option maxRecDepth 20000 in
theorem gX6_rules_X3_readLaws : GoodIn wsX6_rules (wsV RX6 156 RX3 yX3_readLaws wsX3_readLaws) := goodIn_app (goodIn_of _ (by decide +kernel)) ggX6_rules_X3_readLaws
set_option maxRecDepth 20000 in
theorem ggX6_rules_X3_clear : GoodIn wsX6_rules wsX3_clear := goodIn_r _ [71, 37, 94, 95, 96] (by decide +kernel) (by decide +kernel)
set_option maxRecDepth 20000 in
theorem gX6_rules_X3_clear : GoodIn wsX6_rules (wsV RX6 160 RX3 yX3_clear wsX3_clear) := goodIn_app (goodIn_of _ (by decide +kernel)) ggX6_rules_X3_clear
theorem dX6_rules_0 : decode cX6_rules 0 = .ok (.aload_n 0, 1) := by decide +kernel
theorem dX6_rules_1 : decode cX6_rules 1 = .ok (.getfield 36, 3) := by decide +kernel
theorem dX6_rules_4 : decode cX6_rules 4 = .ok (.aload_n 0, 1) := by decide +kernel
theorem dX6_rules_5 : decode cX6_rules 5 = .ok (.getfield 10, 3) := by decide +kernel
theorem dX6_rules_8 : decode cX6_rules 8 = .ok (.getfield 149, 3) := by decide +kernel
theorem dX6_rules_11 : decode cX6_rules 11 = .ok (.invokevirtual 152, 3) := by decide +kernel
theorem dX6_rules_14 : decode cX6_rules 14 = .ok (.aload_n 0, 1) := by decide +kernel
theorem dX6_rules_15 : decode cX6_rules 15 = .ok (.getfield 29, 3) := by decide +kernel
theorem dX6_rules_18 : decode cX6_rules 18 = .ok (.aload_n 0, 1) := by decide +kernel
theorem dX6_rules_19 : decode cX6_rules 19 = .ok (.getfield 36, 3) := by decide +kernel
theorem dX6_rules_22 : decode cX6_rules 22 = .ok (.invokevirtual 156, 3) := by decide +kernel
theorem dX6_rules_25 : decode cX6_rules 25 = .ok (.istore_n 1, 1) := by decide +kernel
theorem dX6_rules_26 : decode cX6_rules 26 = .ok (.aload_n 0, 1) := by decide +kernel
theorem dX6_rules_27 : decode cX6_rules 27 = .ok (.getfield 29, 3) := by decide +kernel
theorem dX6_rules_30 : decode cX6_rules 30 = .ok (.invokevirtual 160, 3) := by decide +kernel
theorem dX6_rules_33 : decode cX6_rules 33 = .ok (.iload_n 1, 1) := by decide +kernel
theorem dX6_rules_34 : decode cX6_rules 34 = .ok (.ifCond .le 17, 3) := by decide +kernel
theorem dX6_rules_37 : decode cX6_rules 37 = .ok (.aload_n 0, 1) := by decide +kernel
theorem dX6_rules_38 : decode cX6_rules 38 = .ok (.getfield 10, 3) := by decide +kernel
theorem dX6_rules_41 : decode cX6_rules 41 = .ok (.getfield 149, 3) := by decide +kernel
theorem dX6_rules_44 : decode cX6_rules 44 = .ok (.aload_n 0, 1) := by decide +kernel
theorem dX6_rules_45 : decode cX6_rules 45 = .ok (.getfield 36, 3) := by decide +kernel
theorem dX6_rules_48 : decode cX6_rules 48 = .ok (.invokevirtual 152, 3) := by decide +kernel
theorem dX6_rules_51 : decode cX6_rules 51 = .ok (.iload_n 1, 1) := by decide +kernel
theorem dX6_rules_52 : decode cX6_rules 52 = .ok (.ireturn, 1) := by decide +kernel
set_option maxRecDepth 20000 in
theorem ggX6_rule_X6_isYear : GoodIn wsX6_rule wsX6_isYear := goodIn_r _ [10, 11, 12, 13, 9, 14] (by decide +kernel) (by decide +kernel)
set_option maxRecDepth 20000 in
theorem gX6_rule_X6_isYear : GoodIn wsX6_rule (va_wsS RX6 77 yX6_isYear wsX6_isYear) := goodIn_app (goodIn_of _ (by decide +kernel)) ggX6_rule_X6_isYear
theorem dX6_rule_0 : decode cX6_rule 0 = .ok (.iload_n 1, 1) := by decide +kernel
theorem dX6_rule_1 : decode cX6_rule 1 = .ok (.invokestatic 77, 3) := by decide +kernel
theorem dX6_rule_4 : decode cX6_rule 4 = .ok (.ifCond .ne 5, 3) := by decide +kernel
theorem dX6_rule_7 : decode cX6_rule 7 = .ok (.iconst (-1), 1) := by decide +kernel
theorem dX6_rule_8 : decode cX6_rule 8 = .ok (.ireturn, 1) := by decide +kernel
theorem dX6_rule_9 : decode cX6_rule 9 = .ok (.iload_n 2, 1) := by decide +kernel
theorem dX6_rule_10 : decode cX6_rule 10 = .ok (.tableswitch 82 0 3 #[30, 43, 56, 69], 30) := by decide +kernel
theorem dX6_rule_40 : decode cX6_rule 40 = .ok (.aload_n 0, 1) := by decide +kernel
theorem dX6_rule_41 : decode cX6_rule 41 = .ok (.getfield 10, 3) := by decide +kernel
theorem dX6_rule_44 : decode cX6_rule 44 = .ok (.getfield 149, 3) := by decide +kernel
theorem dX6_rule_47 : decode cX6_rule 47 = .ok (.getfield 163, 3) := by decide +kernel
theorem dX6_rule_50 : decode cX6_rule 50 = .ok (.iload_n 1, 1) := by decide +kernel
theorem dX6_rule_51 : decode cX6_rule 51 = .ok (.iaload, 1) := by decide +kernel
theorem dX6_rule_52 : decode cX6_rule 52 = .ok (.ireturn, 1) := by decide +kernel
theorem dX6_rule_53 : decode cX6_rule 53 = .ok (.aload_n 0, 1) := by decide +kernel
theorem dX6_rule_54 : decode cX6_rule 54 = .ok (.getfield 10, 3) := by decide +kernel
theorem dX6_rule_57 : decode cX6_rule 57 = .ok (.getfield 149, 3) := by decide +kernel
theorem dX6_rule_60 : decode cX6_rule 60 = .ok (.getfield 166, 3) := by decide +kernel
theorem dX6_rule_63 : decode cX6_rule 63 = .ok (.iload_n 1, 1) := by decide +kernel
theorem dX6_rule_64 : decode cX6_rule 64 = .ok (.iaload, 1) := by decide +kernel
theorem dX6_rule_65 : decode cX6_rule 65 = .ok (.ireturn, 1) := by decide +kernel
theorem dX6_rule_66 : decode cX6_rule 66 = .ok (.aload_n 0, 1) := by decide +kernel
theorem dX6_rule_67 : decode cX6_rule 67 = .ok (.getfield 10, 3) := by decide +kernel
theorem dX6_rule_70 : decode cX6_rule 70 = .ok (.getfield 149, 3) := by decide +kernel
theorem dX6_rule_73 : decode cX6_rule 73 = .ok (.getfield 169, 3) := by decide +kernel
theorem dX6_rule_76 : decode cX6_rule 76 = .ok (.iload_n 1, 1) := by decide +kernel
theorem dX6_rule_77 : decode cX6_rule 77 = .ok (.iaload, 1) := by decide +kernel
theorem dX6_rule_78 : decode cX6_rule 78 = .ok (.ireturn, 1) := by decide +kernel
theorem dX6_rule_79 : decode cX6_rule 79 = .ok (.aload_n 0, 1) := by decide +kernel
theorem dX6_rule_80 : decode cX6_rule 80 = .ok (.getfield 10, 3) := by decide +kernel
theorem dX6_rule_83 : decode cX6_rule 83 = .ok (.getfield 149, 3) := by decide +kernel
theorem dX6_rule_86 : decode cX6_rule 86 = .ok (.getfield 172, 3) := by decide +kernel
theorem dX6_rule_89 : decode cX6_rule 89 = .ok (.iload_n 1, 1) := by decide +kernel
theorem dX6_rule_90 : decode cX6_rule 90 = .ok (.iaload, 1) := by decide +kernel
theorem dX6_rule_91 : decode cX6_rule 91 = .ok (.ireturn, 1) := by decide +kernel
theorem dX6_rule_92 : decode cX6_rule 92 = .ok (.iconst (-1), 1) := by decide +kernel
theorem dX6_rule_93 : decode cX6_rule 93 = .ok (.ireturn, 1) := by decide +kernel
set_option maxRecDepth 20000 in
theorem ggX6_wills_X3_readWills : GoodIn wsX6_wills wsX3_readWills := goodIn_r _ [10, 11, 12, 13, 14, 9, 15, 16, 17, 18, 19, 20, 21, 22, 23, 24, 25, 26, 27, 28, 29, 30, 31, 32, 33, 34, 35, 36, 37, 38, 39, 40, 41, 42, 43, 44, 45, 46, 47, 48, 49, 50, 51, 52, 53, 54, 55, 56, 57, 58, 59, 60, 61, 62, 63, 64, 65, 66, 67, 68, 69, 70, 111, 112, 113, 96, 97, 98, 99, 100] (by decide +kernel) (by decide +kernel)
set_option maxRecDepth 20000 in
theorem gX6_wills_X3_readWills : GoodIn wsX6_wills (wsV RX6 175 RX3 yX3_readWills wsX3_readWills) := goodIn_app (goodIn_of _ (by decide +kernel)) ggX6_wills_X3_readWills
set_option maxRecDepth 20000 in
theorem ggX6_wills_X3_clear : GoodIn wsX6_wills wsX3_clear := goodIn_r _ [74, 24, 111, 112, 113] (by decide +kernel) (by decide +kernel)
set_option maxRecDepth 20000 in
theorem gX6_wills_X3_clear : GoodIn wsX6_wills (wsV RX6 160 RX3 yX3_clear wsX3_clear) := goodIn_app (goodIn_of _ (by decide +kernel)) ggX6_wills_X3_clear
set_option maxRecDepth 20000 in
theorem ggX6_wills_X4_hasRoomFor : GoodIn wsX6_wills wsX4_hasRoomFor := goodIn_r _ [56, 49, 96, 97, 98, 99, 100] (by decide +kernel) (by decide +kernel)
set_option maxRecDepth 20000 in
theorem gX6_wills_X4_hasRoomFor : GoodIn wsX6_wills (wsV RX6 86 RX4 yX4_hasRoomFor wsX4_hasRoomFor) := goodIn_app (goodIn_of _ (by decide +kernel)) ggX6_wills_X4_hasRoomFor
set_option maxRecDepth 20000 in
theorem ggX6_wills_X4_addAll : GoodIn wsX6_wills wsX4_addAll := goodIn_r _ [79, 49, 53, 54, 55, 46, 56, 80, 81, 82, 83, 48, 84, 85, 86, 87, 50, 51, 52, 96, 97, 98, 99, 100] (by decide +kernel) (by decide +kernel)
set_option maxRecDepth 20000 in
theorem gX6_wills_X4_addAll : GoodIn wsX6_wills (wsV RX6 179 RX4 yX4_addAll wsX4_addAll) := goodIn_app (goodIn_of _ (by decide +kernel)) ggX6_wills_X4_addAll
theorem dX6_wills_0 : decode cX6_wills 0 = .ok (.aload_n 0, 1) := by decide +kernel
theorem dX6_wills_1 : decode cX6_wills 1 = .ok (.getfield 43, 3) := by decide +kernel
theorem dX6_wills_4 : decode cX6_wills 4 = .ok (.iconst 0, 1) := by decide +kernel
theorem dX6_wills_5 : decode cX6_wills 5 = .ok (.putfield 93, 3) := by decide +kernel
theorem dX6_wills_8 : decode cX6_wills 8 = .ok (.aload_n 0, 1) := by decide +kernel
theorem dX6_wills_9 : decode cX6_wills 9 = .ok (.getfield 29, 3) := by decide +kernel
theorem dX6_wills_12 : decode cX6_wills 12 = .ok (.aload_n 0, 1) := by decide +kernel
theorem dX6_wills_13 : decode cX6_wills 13 = .ok (.getfield 43, 3) := by decide +kernel
theorem dX6_wills_16 : decode cX6_wills 16 = .ok (.invokevirtual 175, 3) := by decide +kernel
theorem dX6_wills_19 : decode cX6_wills 19 = .ok (.istore_n 1, 1) := by decide +kernel
theorem dX6_wills_20 : decode cX6_wills 20 = .ok (.aload_n 0, 1) := by decide +kernel
theorem dX6_wills_21 : decode cX6_wills 21 = .ok (.getfield 29, 3) := by decide +kernel
theorem dX6_wills_24 : decode cX6_wills 24 = .ok (.invokevirtual 160, 3) := by decide +kernel
theorem dX6_wills_27 : decode cX6_wills 27 = .ok (.iload_n 1, 1) := by decide +kernel
theorem dX6_wills_28 : decode cX6_wills 28 = .ok (.ifCond .gt 5, 3) := by decide +kernel
theorem dX6_wills_31 : decode cX6_wills 31 = .ok (.iload_n 1, 1) := by decide +kernel
theorem dX6_wills_32 : decode cX6_wills 32 = .ok (.ireturn, 1) := by decide +kernel
theorem dX6_wills_33 : decode cX6_wills 33 = .ok (.aload_n 0, 1) := by decide +kernel
theorem dX6_wills_34 : decode cX6_wills 34 = .ok (.getfield 10, 3) := by decide +kernel
theorem dX6_wills_37 : decode cX6_wills 37 = .ok (.getfield 83, 3) := by decide +kernel
theorem dX6_wills_40 : decode cX6_wills 40 = .ok (.aload_n 0, 1) := by decide +kernel
theorem dX6_wills_41 : decode cX6_wills 41 = .ok (.getfield 43, 3) := by decide +kernel
theorem dX6_wills_44 : decode cX6_wills 44 = .ok (.getfield 93, 3) := by decide +kernel
theorem dX6_wills_47 : decode cX6_wills 47 = .ok (.invokevirtual 86, 3) := by decide +kernel
theorem dX6_wills_50 : decode cX6_wills 50 = .ok (.ifCond .ne 6, 3) := by decide +kernel
theorem dX6_wills_53 : decode cX6_wills 53 = .ok (.bipush (-3), 2) := by decide +kernel
theorem dX6_wills_55 : decode cX6_wills 55 = .ok (.ireturn, 1) := by decide +kernel
theorem dX6_wills_56 : decode cX6_wills 56 = .ok (.aload_n 0, 1) := by decide +kernel
theorem dX6_wills_57 : decode cX6_wills 57 = .ok (.getfield 10, 3) := by decide +kernel
theorem dX6_wills_60 : decode cX6_wills 60 = .ok (.getfield 83, 3) := by decide +kernel
theorem dX6_wills_63 : decode cX6_wills 63 = .ok (.aload_n 0, 1) := by decide +kernel
theorem dX6_wills_64 : decode cX6_wills 64 = .ok (.getfield 43, 3) := by decide +kernel
theorem dX6_wills_67 : decode cX6_wills 67 = .ok (.invokevirtual 179, 3) := by decide +kernel
theorem dX6_wills_70 : decode cX6_wills 70 = .ok (.iload_n 1, 1) := by decide +kernel
theorem dX6_wills_71 : decode cX6_wills 71 = .ok (.ireturn, 1) := by decide +kernel
set_option maxRecDepth 20000 in
theorem ggX6_draw_X6_isYear : GoodIn wsX6_draw wsX6_isYear := goodIn_r _ [14, 15, 16, 17, 13, 18] (by decide +kernel) (by decide +kernel)
set_option maxRecDepth 20000 in
theorem gX6_draw_X6_isYear : GoodIn wsX6_draw (va_wsS RX6 77 yX6_isYear wsX6_isYear) := goodIn_app (goodIn_of _ (by decide +kernel)) ggX6_draw_X6_isYear
set_option maxRecDepth 20000 in
theorem ggX6_draw_X6_isWithin : GoodIn wsX6_draw wsX6_isWithin := goodIn_r _ [18] (by decide +kernel) (by decide +kernel)
set_option maxRecDepth 20000 in
theorem gX6_draw_X6_isWithin : GoodIn wsX6_draw (va_wsS RX6 56 yX6_isWithin wsX6_isWithin) := goodIn_app (goodIn_of _ (by decide +kernel)) ggX6_draw_X6_isWithin
set_option maxRecDepth 20000 in
theorem ggX6_draw_X4_hasRoomFor : GoodIn wsX6_draw wsX4_hasRoomFor := goodIn_r _ [23, 24, 52, 53, 54, 55, 56] (by decide +kernel) (by decide +kernel)
set_option maxRecDepth 20000 in
theorem gX6_draw_X4_hasRoomFor : GoodIn wsX6_draw (wsV RX6 86 RX4 yX4_hasRoomFor wsX4_hasRoomFor) := goodIn_app (goodIn_of _ (by decide +kernel)) ggX6_draw_X4_hasRoomFor
set_option maxRecDepth 20000 in
theorem ggX6_draw_X4_add : GoodIn wsX6_draw wsX4_add := goodIn_r _ [28, 29, 24, 30, 31, 32, 33, 20, 21, 22, 23, 52, 53, 54, 55, 56] (by decide +kernel) (by decide +kernel)
set_option maxRecDepth 20000 in
theorem gX6_draw_X4_add : GoodIn wsX6_draw (wsV RX6 89 RX4 yX4_add wsX4_add) := goodIn_app (goodIn_of _ (by decide +kernel)) ggX6_draw_X4_add
theorem dX6_draw_0 : decode cX6_draw 0 = .ok (.iload_n 3, 1) := by decide +kernel
theorem dX6_draw_1 : decode cX6_draw 1 = .ok (.invokestatic 77, 3) := by decide +kernel
theorem dX6_draw_4 : decode cX6_draw 4 = .ok (.ifCond .eq 16, 3) := by decide +kernel
theorem dX6_draw_7 : decode cX6_draw 7 = .ok (.iload 4, 2) := by decide +kernel
theorem dX6_draw_9 : decode cX6_draw 9 = .ok (.i2l, 1) := by decide +kernel
theorem dX6_draw_10 : decode cX6_draw 10 = .ok (.lconst 1, 1) := by decide +kernel
theorem dX6_draw_11 : decode cX6_draw 11 = .ok (.ldc2_w 183, 3) := by decide +kernel
theorem dX6_draw_14 : decode cX6_draw 14 = .ok (.invokestatic 56, 3) := by decide +kernel
theorem dX6_draw_17 : decode cX6_draw 17 = .ok (.ifCond .ne 5, 3) := by decide +kernel
theorem dX6_draw_20 : decode cX6_draw 20 = .ok (.iconst (-1), 1) := by decide +kernel
theorem dX6_draw_21 : decode cX6_draw 21 = .ok (.ireturn, 1) := by decide +kernel
theorem dX6_draw_22 : decode cX6_draw 22 = .ok (.aload_n 0, 1) := by decide +kernel
theorem dX6_draw_23 : decode cX6_draw 23 = .ok (.getfield 10, 3) := by decide +kernel
theorem dX6_draw_26 : decode cX6_draw 26 = .ok (.getfield 83, 3) := by decide +kernel
theorem dX6_draw_29 : decode cX6_draw 29 = .ok (.iload 4, 2) := by decide +kernel
theorem dX6_draw_31 : decode cX6_draw 31 = .ok (.invokevirtual 86, 3) := by decide +kernel
theorem dX6_draw_34 : decode cX6_draw 34 = .ok (.ifCond .ne 6, 3) := by decide +kernel
theorem dX6_draw_37 : decode cX6_draw 37 = .ok (.bipush (-3), 2) := by decide +kernel
theorem dX6_draw_39 : decode cX6_draw 39 = .ok (.ireturn, 1) := by decide +kernel
theorem dX6_draw_40 : decode cX6_draw 40 = .ok (.lload_n 1, 1) := by decide +kernel
theorem dX6_draw_41 : decode cX6_draw 41 = .ok (.lstore 5, 2) := by decide +kernel
theorem dX6_draw_43 : decode cX6_draw 43 = .ok (.iconst 0, 1) := by decide +kernel
theorem dX6_draw_44 : decode cX6_draw 44 = .ok (.istore 7, 2) := by decide +kernel
theorem dX6_draw_46 : decode cX6_draw 46 = .ok (.iload 7, 2) := by decide +kernel
theorem dX6_draw_48 : decode cX6_draw 48 = .ok (.iload 4, 2) := by decide +kernel
theorem dX6_draw_50 : decode cX6_draw 50 = .ok (.if_icmp .ge 79, 3) := by decide +kernel
theorem dX6_draw_53 : decode cX6_draw 53 = .ok (.lload 5, 2) := by decide +kernel
theorem dX6_draw_55 : decode cX6_draw 55 = .ok (.ldc2_w 185, 3) := by decide +kernel
theorem dX6_draw_58 : decode cX6_draw 58 = .ok (.lmul, 1) := by decide +kernel
theorem dX6_draw_59 : decode cX6_draw 59 = .ok (.ldc2_w 187, 3) := by decide +kernel
theorem dX6_draw_62 : decode cX6_draw 62 = .ok (.ladd, 1) := by decide +kernel
theorem dX6_draw_63 : decode cX6_draw 63 = .ok (.lstore 5, 2) := by decide +kernel
theorem dX6_draw_65 : decode cX6_draw 65 = .ok (.lload 5, 2) := by decide +kernel
theorem dX6_draw_67 : decode cX6_draw 67 = .ok (.bipush 33, 2) := by decide +kernel
theorem dX6_draw_69 : decode cX6_draw 69 = .ok (.lushr, 1) := by decide +kernel
theorem dX6_draw_70 : decode cX6_draw 70 = .ok (.lstore 8, 2) := by decide +kernel
theorem dX6_draw_72 : decode cX6_draw 72 = .ok (.lload 8, 2) := by decide +kernel
theorem dX6_draw_74 : decode cX6_draw 74 = .ok (.ldc2_w 189, 3) := by decide +kernel
theorem dX6_draw_77 : decode cX6_draw 77 = .ok (.ldiv, 1) := by decide +kernel
theorem dX6_draw_78 : decode cX6_draw 78 = .ok (.ldc2_w 191, 3) := by decide +kernel
theorem dX6_draw_81 : decode cX6_draw 81 = .ok (.lrem, 1) := by decide +kernel
theorem dX6_draw_82 : decode cX6_draw 82 = .ok (.l2i, 1) := by decide +kernel
theorem dX6_draw_83 : decode cX6_draw 83 = .ok (.istore 10, 2) := by decide +kernel
theorem dX6_draw_85 : decode cX6_draw 85 = .ok (.aload_n 0, 1) := by decide +kernel
theorem dX6_draw_86 : decode cX6_draw 86 = .ok (.getfield 10, 3) := by decide +kernel
theorem dX6_draw_89 : decode cX6_draw 89 = .ok (.getfield 83, 3) := by decide +kernel
theorem dX6_draw_92 : decode cX6_draw 92 = .ok (.iload_n 3, 1) := by decide +kernel
theorem dX6_draw_93 : decode cX6_draw 93 = .ok (.lload 8, 2) := by decide +kernel
theorem dX6_draw_95 : decode cX6_draw 95 = .ok (.ldc2_w 193, 3) := by decide +kernel
theorem dX6_draw_98 : decode cX6_draw 98 = .ok (.lrem, 1) := by decide +kernel
theorem dX6_draw_99 : decode cX6_draw 99 = .ok (.l2i, 1) := by decide +kernel
theorem dX6_draw_100 : decode cX6_draw 100 = .ok (.lload 8, 2) := by decide +kernel
theorem dX6_draw_102 : decode cX6_draw 102 = .ok (.ldc2_w 193, 3) := by decide +kernel
theorem dX6_draw_105 : decode cX6_draw 105 = .ok (.ldiv, 1) := by decide +kernel
theorem dX6_draw_106 : decode cX6_draw 106 = .ok (.ldc2_w 195, 3) := by decide +kernel
theorem dX6_draw_109 : decode cX6_draw 109 = .ok (.lrem, 1) := by decide +kernel
theorem dX6_draw_110 : decode cX6_draw 110 = .ok (.l2i, 1) := by decide +kernel
theorem dX6_draw_111 : decode cX6_draw 111 = .ok (.iload 10, 2) := by decide +kernel
theorem dX6_draw_113 : decode cX6_draw 113 = .ok (.iload 10, 2) := by decide +kernel
theorem dX6_draw_115 : decode cX6_draw 115 = .ok (.imul, 1) := by decide +kernel
theorem dX6_draw_116 : decode cX6_draw 116 = .ok (.sipush 10000, 3) := by decide +kernel
theorem dX6_draw_119 : decode cX6_draw 119 = .ok (.idiv, 1) := by decide +kernel
theorem dX6_draw_120 : decode cX6_draw 120 = .ok (.invokevirtual 89, 3) := by decide +kernel
theorem dX6_draw_123 : decode cX6_draw 123 = .ok (.iinc 7 1, 3) := by decide +kernel
theorem dX6_draw_126 : decode cX6_draw 126 = .ok (.goto (-80), 3) := by decide +kernel
theorem dX6_draw_129 : decode cX6_draw 129 = .ok (.aload_n 0, 1) := by decide +kernel
theorem dX6_draw_130 : decode cX6_draw 130 = .ok (.getfield 10, 3) := by decide +kernel
theorem dX6_draw_133 : decode cX6_draw 133 = .ok (.getfield 83, 3) := by decide +kernel
theorem dX6_draw_136 : decode cX6_draw 136 = .ok (.getfield 93, 3) := by decide +kernel
theorem dX6_draw_139 : decode cX6_draw 139 = .ok (.ireturn, 1) := by decide +kernel
set_option maxRecDepth 20000 in
theorem ggX6_people_X6_isYear : GoodIn wsX6_people wsX6_isYear := goodIn_r _ [9, 10, 11, 12, 8, 13] (by decide +kernel) (by decide +kernel)
set_option maxRecDepth 20000 in
theorem gX6_people_X6_isYear : GoodIn wsX6_people (va_wsS RX6 77 yX6_isYear wsX6_isYear) := goodIn_app (goodIn_of _ (by decide +kernel)) ggX6_people_X6_isYear
set_option maxRecDepth 20000 in
theorem ggX6_people_X6_isWithin : GoodIn wsX6_people wsX6_isWithin := goodIn_r _ [13] (by decide +kernel) (by decide +kernel)
set_option maxRecDepth 20000 in
theorem gX6_people_X6_isWithin : GoodIn wsX6_people (va_wsS RX6 56 yX6_isWithin wsX6_isWithin) := goodIn_app (goodIn_of _ (by decide +kernel)) ggX6_people_X6_isWithin
theorem dX6_people_0 : decode cX6_people 0 = .ok (.iload_n 1, 1) := by decide +kernel
theorem dX6_people_1 : decode cX6_people 1 = .ok (.invokestatic 77, 3) := by decide +kernel
theorem dX6_people_4 : decode cX6_people 4 = .ok (.ifCond .ne 5, 3) := by decide +kernel
theorem dX6_people_7 : decode cX6_people 7 = .ok (.iconst (-1), 1) := by decide +kernel
theorem dX6_people_8 : decode cX6_people 8 = .ok (.ireturn, 1) := by decide +kernel
theorem dX6_people_9 : decode cX6_people 9 = .ok (.iload_n 2, 1) := by decide +kernel
theorem dX6_people_10 : decode cX6_people 10 = .ok (.ifCond .ne 39, 3) := by decide +kernel
theorem dX6_people_13 : decode cX6_people 13 = .ok (.iload_n 3, 1) := by decide +kernel
theorem dX6_people_14 : decode cX6_people 14 = .ok (.i2l, 1) := by decide +kernel
theorem dX6_people_15 : decode cX6_people 15 = .ok (.lconst 1, 1) := by decide +kernel
theorem dX6_people_16 : decode cX6_people 16 = .ok (.ldc2_w 197, 3) := by decide +kernel
theorem dX6_people_19 : decode cX6_people 19 = .ok (.invokestatic 56, 3) := by decide +kernel
theorem dX6_people_22 : decode cX6_people 22 = .ok (.ifCond .eq 27, 3) := by decide +kernel
theorem dX6_people_25 : decode cX6_people 25 = .ok (.aload_n 0, 1) := by decide +kernel
theorem dX6_people_26 : decode cX6_people 26 = .ok (.getfield 10, 3) := by decide +kernel
theorem dX6_people_29 : decode cX6_people 29 = .ok (.getfield 199, 3) := by decide +kernel
theorem dX6_people_32 : decode cX6_people 32 = .ok (.iload_n 1, 1) := by decide +kernel
theorem dX6_people_33 : decode cX6_people 33 = .ok (.iaload, 1) := by decide +kernel
theorem dX6_people_34 : decode cX6_people 34 = .ok (.istore 4, 2) := by decide +kernel
theorem dX6_people_36 : decode cX6_people 36 = .ok (.aload_n 0, 1) := by decide +kernel
theorem dX6_people_37 : decode cX6_people 37 = .ok (.getfield 10, 3) := by decide +kernel
theorem dX6_people_40 : decode cX6_people 40 = .ok (.getfield 199, 3) := by decide +kernel
theorem dX6_people_43 : decode cX6_people 43 = .ok (.iload_n 1, 1) := by decide +kernel
theorem dX6_people_44 : decode cX6_people 44 = .ok (.iload_n 3, 1) := by decide +kernel
theorem dX6_people_45 : decode cX6_people 45 = .ok (.iastore, 1) := by decide +kernel
theorem dX6_people_46 : decode cX6_people 46 = .ok (.iload 4, 2) := by decide +kernel
theorem dX6_people_48 : decode cX6_people 48 = .ok (.ireturn, 1) := by decide +kernel
theorem dX6_people_49 : decode cX6_people 49 = .ok (.iload_n 2, 1) := by decide +kernel
theorem dX6_people_50 : decode cX6_people 50 = .ok (.iconst 1, 1) := by decide +kernel
theorem dX6_people_51 : decode cX6_people 51 = .ok (.if_icmp .ne 39, 3) := by decide +kernel
theorem dX6_people_54 : decode cX6_people 54 = .ok (.iload_n 3, 1) := by decide +kernel
theorem dX6_people_55 : decode cX6_people 55 = .ok (.i2l, 1) := by decide +kernel
theorem dX6_people_56 : decode cX6_people 56 = .ok (.lconst 1, 1) := by decide +kernel
theorem dX6_people_57 : decode cX6_people 57 = .ok (.ldc2_w 202, 3) := by decide +kernel
theorem dX6_people_60 : decode cX6_people 60 = .ok (.invokestatic 56, 3) := by decide +kernel
theorem dX6_people_63 : decode cX6_people 63 = .ok (.ifCond .eq 27, 3) := by decide +kernel
theorem dX6_people_66 : decode cX6_people 66 = .ok (.aload_n 0, 1) := by decide +kernel
theorem dX6_people_67 : decode cX6_people 67 = .ok (.getfield 10, 3) := by decide +kernel
theorem dX6_people_70 : decode cX6_people 70 = .ok (.getfield 204, 3) := by decide +kernel
theorem dX6_people_73 : decode cX6_people 73 = .ok (.iload_n 1, 1) := by decide +kernel
theorem dX6_people_74 : decode cX6_people 74 = .ok (.iaload, 1) := by decide +kernel
theorem dX6_people_75 : decode cX6_people 75 = .ok (.istore 4, 2) := by decide +kernel
theorem dX6_people_77 : decode cX6_people 77 = .ok (.aload_n 0, 1) := by decide +kernel
theorem dX6_people_78 : decode cX6_people 78 = .ok (.getfield 10, 3) := by decide +kernel
theorem dX6_people_81 : decode cX6_people 81 = .ok (.getfield 204, 3) := by decide +kernel
theorem dX6_people_84 : decode cX6_people 84 = .ok (.iload_n 1, 1) := by decide +kernel
theorem dX6_people_85 : decode cX6_people 85 = .ok (.iload_n 3, 1) := by decide +kernel
theorem dX6_people_86 : decode cX6_people 86 = .ok (.iastore, 1) := by decide +kernel
theorem dX6_people_87 : decode cX6_people 87 = .ok (.iload 4, 2) := by decide +kernel
theorem dX6_people_89 : decode cX6_people 89 = .ok (.ireturn, 1) := by decide +kernel
theorem dX6_people_90 : decode cX6_people 90 = .ok (.iconst (-1), 1) := by decide +kernel
theorem dX6_people_91 : decode cX6_people 91 = .ok (.ireturn, 1) := by decide +kernel
set_option maxRecDepth 20000 in
theorem ggX6_count_X5_howManyOfKind : GoodIn wsX6_count wsX5_howManyOfKind := goodIn_r _ [9, 10, 11, 12, 13, 14, 8, 15, 16, 17, 18, 19, 20, 21, 22, 23, 24, 25, 26, 27, 28, 29, 30, 31, 32, 33, 34, 35, 36, 37, 38, 39, 40, 72, 73, 74, 75, 76, 77, 78, 79, 80, 81, 82, 83, 84, 85, 86, 87, 88, 89, 90] (by decide +kernel) (by decide +kernel)
set_option maxRecDepth 20000 in
theorem gX6_count_X5_howManyOfKind : GoodIn wsX6_count (wsV RX6 207 RX5 yX5_howManyOfKind wsX5_howManyOfKind) := goodIn_app (goodIn_of _ (by decide +kernel)) ggX6_count_X5_howManyOfKind
set_option maxRecDepth 20000 in
theorem ggX6_count_X6_yearsWithShare : GoodIn wsX6_count wsX6_yearsWithShare := goodIn_r _ [45, 1, 46, 47, 48, 8, 49, 10, 11, 16, 17, 18, 19, 20, 21, 22, 23, 24, 25, 26, 27, 28, 29, 30, 31, 32, 33, 34, 35, 50, 51, 52, 53, 54, 55, 56, 36, 37, 38, 39, 40, 64, 65, 66, 67, 68, 69, 70, 71, 72, 73, 74, 75, 76, 77, 78, 79, 80, 81, 82, 83, 84, 85, 86, 87, 88, 89, 90] (by decide +kernel) (by decide +kernel)
set_option maxRecDepth 20000 in
theorem gX6_count_X6_yearsWithShare : GoodIn wsX6_count (wsV RX6 210 RX6 yX6_yearsWithShare wsX6_yearsWithShare) := goodIn_app (goodIn_of _ (by decide +kernel)) ggX6_count_X6_yearsWithShare
set_option maxRecDepth 20000 in
theorem ggX6_count_J6_bitCount_0f7a4 : GoodIn wsX6_count wsJ6_bitCount_0f7a4 := goodIn_r _ [60, 61, 62, 63] (by decide +kernel) (by decide +kernel)
set_option maxRecDepth 20000 in
theorem gX6_count_J6_bitCount_0f7a4 : GoodIn wsX6_count (va_wsS RX6 217 yJ6_bitCount_0f7a4 wsJ6_bitCount_0f7a4) := goodIn_app (goodIn_of _ (by decide +kernel)) ggX6_count_J6_bitCount_0f7a4
theorem dX6_count_0 : decode cX6_count 0 = .ok (.iload_n 1, 1) := by decide +kernel
theorem dX6_count_1 : decode cX6_count 1 = .ok (.tableswitch 75 0 5 #[39, 50, 50, 50, 59, 64], 39) := by decide +kernel
theorem dX6_count_40 : decode cX6_count 40 = .ok (.aload_n 0, 1) := by decide +kernel
theorem dX6_count_41 : decode cX6_count 41 = .ok (.getfield 10, 3) := by decide +kernel
theorem dX6_count_44 : decode cX6_count 44 = .ok (.getfield 83, 3) := by decide +kernel
theorem dX6_count_47 : decode cX6_count 47 = .ok (.getfield 93, 3) := by decide +kernel
theorem dX6_count_50 : decode cX6_count 50 = .ok (.ireturn, 1) := by decide +kernel
theorem dX6_count_51 : decode cX6_count 51 = .ok (.aload_n 0, 1) := by decide +kernel
theorem dX6_count_52 : decode cX6_count 52 = .ok (.getfield 10, 3) := by decide +kernel
theorem dX6_count_55 : decode cX6_count 55 = .ok (.iload_n 1, 1) := by decide +kernel
theorem dX6_count_56 : decode cX6_count 56 = .ok (.invokevirtual 207, 3) := by decide +kernel
theorem dX6_count_59 : decode cX6_count 59 = .ok (.ireturn, 1) := by decide +kernel
theorem dX6_count_60 : decode cX6_count 60 = .ok (.aload_n 0, 1) := by decide +kernel
theorem dX6_count_61 : decode cX6_count 61 = .ok (.invokevirtual 210, 3) := by decide +kernel
theorem dX6_count_64 : decode cX6_count 64 = .ok (.ireturn, 1) := by decide +kernel
theorem dX6_count_65 : decode cX6_count 65 = .ok (.aload_n 0, 1) := by decide +kernel
theorem dX6_count_66 : decode cX6_count 66 = .ok (.getfield 10, 3) := by decide +kernel
theorem dX6_count_69 : decode cX6_count 69 = .ok (.getfield 214, 3) := by decide +kernel
theorem dX6_count_72 : decode cX6_count 72 = .ok (.invokestatic 217, 3) := by decide +kernel
theorem dX6_count_75 : decode cX6_count 75 = .ok (.ireturn, 1) := by decide +kernel
theorem dX6_count_76 : decode cX6_count 76 = .ok (.iconst (-1), 1) := by decide +kernel
theorem dX6_count_77 : decode cX6_count 77 = .ok (.ireturn, 1) := by decide +kernel
set_option maxRecDepth 20000 in
theorem ggX6_yearsWithShare_X5_sumSworn : GoodIn wsX6_yearsWithShare wsX5_sumSworn := goodIn_r _ [6, 7, 8, 9, 10, 11, 12, 5, 13, 14, 15, 16, 17, 18, 19, 20, 21, 22, 23, 24, 25, 26, 27, 28, 29, 30, 31, 32, 33, 34, 35, 36, 37, 38, 39, 40, 49, 50, 51, 52, 53, 54, 55, 56, 57, 58, 59, 60, 61, 62, 63, 64, 65, 66, 67] (by decide +kernel) (by decide +kernel)
set_option maxRecDepth 20000 in
theorem gX6_yearsWithShare_X5_sumSworn : GoodIn wsX6_yearsWithShare (wsV RX6 222 RX5 yX5_sumSworn wsX5_sumSworn) := goodIn_app (goodIn_of _ (by decide +kernel)) ggX6_yearsWithShare_X5_sumSworn
theorem dX6_yearsWithShare_0 : decode cX6_yearsWithShare 0 = .ok (.iconst 0, 1) := by decide +kernel
theorem dX6_yearsWithShare_1 : decode cX6_yearsWithShare 1 = .ok (.istore_n 1, 1) := by decide +kernel
theorem dX6_yearsWithShare_2 : decode cX6_yearsWithShare 2 = .ok (.iconst 0, 1) := by decide +kernel
theorem dX6_yearsWithShare_3 : decode cX6_yearsWithShare 3 = .ok (.istore_n 2, 1) := by decide +kernel
theorem dX6_yearsWithShare_4 : decode cX6_yearsWithShare 4 = .ok (.iload_n 2, 1) := by decide +kernel
theorem dX6_yearsWithShare_5 : decode cX6_yearsWithShare 5 = .ok (.bipush 8, 2) := by decide +kernel
theorem dX6_yearsWithShare_7 : decode cX6_yearsWithShare 7 = .ok (.if_icmp .ge 26, 3) := by decide +kernel
theorem dX6_yearsWithShare_10 : decode cX6_yearsWithShare 10 = .ok (.aload_n 0, 1) := by decide +kernel
theorem dX6_yearsWithShare_11 : decode cX6_yearsWithShare 11 = .ok (.getfield 10, 3) := by decide +kernel
theorem dX6_yearsWithShare_14 : decode cX6_yearsWithShare 14 = .ok (.iload_n 2, 1) := by decide +kernel
theorem dX6_yearsWithShare_15 : decode cX6_yearsWithShare 15 = .ok (.iload_n 2, 1) := by decide +kernel
theorem dX6_yearsWithShare_16 : decode cX6_yearsWithShare 16 = .ok (.invokevirtual 222, 3) := by decide +kernel
theorem dX6_yearsWithShare_19 : decode cX6_yearsWithShare 19 = .ok (.lconst 0, 1) := by decide +kernel
theorem dX6_yearsWithShare_20 : decode cX6_yearsWithShare 20 = .ok (.lcmp, 1) := by decide +kernel
theorem dX6_yearsWithShare_21 : decode cX6_yearsWithShare 21 = .ok (.ifCond .le 6, 3) := by decide +kernel
theorem dX6_yearsWithShare_24 : decode cX6_yearsWithShare 24 = .ok (.iinc 1 1, 3) := by decide +kernel
theorem dX6_yearsWithShare_27 : decode cX6_yearsWithShare 27 = .ok (.iinc 2 1, 3) := by decide +kernel
theorem dX6_yearsWithShare_30 : decode cX6_yearsWithShare 30 = .ok (.goto (-26), 3) := by decide +kernel
theorem dX6_yearsWithShare_33 : decode cX6_yearsWithShare 33 = .ok (.iload_n 1, 1) := by decide +kernel
theorem dX6_yearsWithShare_34 : decode cX6_yearsWithShare 34 = .ok (.ireturn, 1) := by decide +kernel
set_option maxRecDepth 20000 in
theorem ggX6_total_X6_isYear : GoodIn wsX6_total wsX6_isYear := goodIn_r _ [6, 7, 8, 9, 5, 10] (by decide +kernel) (by decide +kernel)
set_option maxRecDepth 20000 in
theorem gX6_total_X6_isYear : GoodIn wsX6_total (va_wsS RX6 77 yX6_isYear wsX6_isYear) := goodIn_app (goodIn_of _ (by decide +kernel)) ggX6_total_X6_isYear
set_option maxRecDepth 20000 in
theorem ggX6_total_X6_isWithin : GoodIn wsX6_total wsX6_isWithin := goodIn_r _ [10] (by decide +kernel) (by decide +kernel)
set_option maxRecDepth 20000 in
theorem gX6_total_X6_isWithin : GoodIn wsX6_total (va_wsS RX6 56 yX6_isWithin wsX6_isWithin) := goodIn_app (goodIn_of _ (by decide +kernel)) ggX6_total_X6_isWithin
set_option maxRecDepth 20000 in
theorem ggX6_total_X5_sumSworn : GoodIn wsX6_total wsX5_sumSworn := goodIn_r _ [15, 16, 17, 18, 19, 20, 21, 14, 22, 23, 24, 25, 26, 27, 28, 29, 30, 31, 32, 33, 34, 35, 36, 37, 38, 39, 40, 41, 42, 43, 44, 45, 46, 47, 48, 49, 66, 67, 68, 69, 70, 71, 72, 73, 74, 75, 76, 77, 78, 79, 80, 81, 82, 83, 84] (by decide +kernel) (by decide +kernel)
set_option maxRecDepth 20000 in
theorem gX6_total_X5_sumSworn : GoodIn wsX6_total (wsV RX6 222 RX5 yX5_sumSworn wsX5_sumSworn) := goodIn_app (goodIn_of _ (by decide +kernel)) ggX6_total_X5_sumSworn
set_option maxRecDepth 20000 in
theorem ggX6_total_X5_sumUnseen : GoodIn wsX6_total wsX5_sumUnseen := goodIn_r _ [53, 16, 17, 18, 43, 44, 19, 20, 21, 14, 22, 23, 24, 25, 26, 27, 28, 29, 30, 31, 32, 33, 34, 35, 36, 37, 38, 39, 40, 41, 42, 45, 46, 47, 48, 49, 54, 55, 56, 57, 66, 67, 68, 69, 70, 71, 72, 73, 74, 75, 76, 77, 78, 79, 80, 81, 82, 83, 84] (by decide +kernel) (by decide +kernel)
set_option maxRecDepth 20000 in
theorem gX6_total_X5_sumUnseen : GoodIn wsX6_total (wsV RX6 228 RX5 yX5_sumUnseen wsX5_sumUnseen) := goodIn_app (goodIn_of _ (by decide +kernel)) ggX6_total_X5_sumUnseen
theorem dX6_total_0 : decode cX6_total 0 = .ok (.iload_n 1, 1) := by decide +kernel
theorem dX6_total_1 : decode cX6_total 1 = .ok (.invokestatic 77, 3) := by decide +kernel
theorem dX6_total_4 : decode cX6_total 4 = .ok (.ifCond .eq 13, 3) := by decide +kernel
theorem dX6_total_7 : decode cX6_total 7 = .ok (.iload_n 2, 1) := by decide +kernel
theorem dX6_total_8 : decode cX6_total 8 = .ok (.i2l, 1) := by decide +kernel
theorem dX6_total_9 : decode cX6_total 9 = .ok (.lconst 0, 1) := by decide +kernel
theorem dX6_total_10 : decode cX6_total 10 = .ok (.lconst 1, 1) := by decide +kernel
theorem dX6_total_11 : decode cX6_total 11 = .ok (.invokestatic 56, 3) := by decide +kernel
theorem dX6_total_14 : decode cX6_total 14 = .ok (.ifCond .ne 7, 3) := by decide +kernel
theorem dX6_total_17 : decode cX6_total 17 = .ok (.ldc2_w 226, 3) := by decide +kernel
theorem dX6_total_20 : decode cX6_total 20 = .ok (.lreturn, 1) := by decide +kernel
theorem dX6_total_21 : decode cX6_total 21 = .ok (.iload_n 2, 1) := by decide +kernel
theorem dX6_total_22 : decode cX6_total 22 = .ok (.ifCond .ne 15, 3) := by decide +kernel
theorem dX6_total_25 : decode cX6_total 25 = .ok (.aload_n 0, 1) := by decide +kernel
theorem dX6_total_26 : decode cX6_total 26 = .ok (.getfield 10, 3) := by decide +kernel
theorem dX6_total_29 : decode cX6_total 29 = .ok (.iload_n 1, 1) := by decide +kernel
theorem dX6_total_30 : decode cX6_total 30 = .ok (.iload_n 1, 1) := by decide +kernel
theorem dX6_total_31 : decode cX6_total 31 = .ok (.invokevirtual 222, 3) := by decide +kernel
theorem dX6_total_34 : decode cX6_total 34 = .ok (.goto 11, 3) := by decide +kernel
theorem dX6_total_37 : decode cX6_total 37 = .ok (.aload_n 0, 1) := by decide +kernel
theorem dX6_total_38 : decode cX6_total 38 = .ok (.getfield 10, 3) := by decide +kernel
theorem dX6_total_41 : decode cX6_total 41 = .ok (.iload_n 1, 1) := by decide +kernel
theorem dX6_total_42 : decode cX6_total 42 = .ok (.invokevirtual 228, 3) := by decide +kernel
theorem dX6_total_45 : decode cX6_total 45 = .ok (.lreturn, 1) := by decide +kernel
set_option maxRecDepth 20000 in
theorem ggX6_share_X6_isYear : GoodIn wsX6_share wsX6_isYear := goodIn_r _ [10, 11, 12, 13, 9, 14] (by decide +kernel) (by decide +kernel)
set_option maxRecDepth 20000 in
theorem gX6_share_X6_isYear : GoodIn wsX6_share (va_wsS RX6 77 yX6_isYear wsX6_isYear) := goodIn_app (goodIn_of _ (by decide +kernel)) ggX6_share_X6_isYear
set_option maxRecDepth 20000 in
theorem ggX6_share_X6_isTop : GoodIn wsX6_share wsX6_isTop := goodIn_r _ [17, 18, 12, 13, 9, 14] (by decide +kernel) (by decide +kernel)
set_option maxRecDepth 20000 in
theorem gX6_share_X6_isTop : GoodIn wsX6_share (va_wsS RX6 232 yX6_isTop wsX6_isTop) := goodIn_app (goodIn_of _ (by decide +kernel)) ggX6_share_X6_isTop
set_option maxRecDepth 20000 in
theorem ggX6_share_X6_isWithin : GoodIn wsX6_share wsX6_isWithin := goodIn_r _ [14] (by decide +kernel) (by decide +kernel)
set_option maxRecDepth 20000 in
theorem gX6_share_X6_isWithin : GoodIn wsX6_share (va_wsS RX6 56 yX6_isWithin wsX6_isWithin) := goodIn_app (goodIn_of _ (by decide +kernel)) ggX6_share_X6_isWithin
set_option maxRecDepth 20000 in
theorem ggX6_share_X1_gather : GoodIn wsX6_share wsX1_gather := goodIn_r _ [23, 24, 25, 26, 27, 28, 29, 30, 31, 32, 33, 34, 35, 36, 37, 38, 39, 40, 41, 42, 43, 44, 45, 46, 47, 48, 49, 50, 51, 52, 53, 54, 55, 56, 57, 58, 59, 60, 61, 62, 63, 64, 22, 65, 66, 67, 68, 105, 106, 107, 108, 109, 110, 111, 112, 113, 114, 115, 116, 117, 118, 119, 120, 121, 122, 123, 124, 125, 126, 127] (by decide +kernel) (by decide +kernel)
set_option maxRecDepth 20000 in
theorem gX6_share_X1_gather : GoodIn wsX6_share (wsV RX6 235 RX1 yX1_gather wsX1_gather) := goodIn_app (goodIn_of _ (by decide +kernel)) ggX6_share_X1_gather
set_option maxRecDepth 20000 in
theorem ggX6_share_X1_sumAll : GoodIn wsX6_share wsX1_sumAll := goodIn_r _ [72, 24, 67, 66, 68, 105, 106, 107, 108] (by decide +kernel) (by decide +kernel)
set_option maxRecDepth 20000 in
theorem gX6_share_X1_sumAll : GoodIn wsX6_share (wsV RX6 239 RX1 yX1_sumAll wsX1_sumAll) := goodIn_app (goodIn_of _ (by decide +kernel)) ggX6_share_X1_sumAll
set_option maxRecDepth 20000 in
theorem ggX6_share_X5_topRoom : GoodIn wsX6_share wsX5_topRoom := goodIn_r _ [76, 77, 109, 110, 111, 112, 113, 114, 115, 116, 117, 118] (by decide +kernel) (by decide +kernel)
set_option maxRecDepth 20000 in
theorem gX6_share_X5_topRoom : GoodIn wsX6_share (wsV RX6 244 RX5 yX5_topRoom wsX5_topRoom) := goodIn_app (goodIn_of _ (by decide +kernel)) ggX6_share_X5_topRoom
set_option maxRecDepth 20000 in
theorem ggX6_share_X1_sumTop : GoodIn wsX6_share wsX1_sumTop := goodIn_r _ [81, 24, 67, 82, 68, 83, 84, 85, 86, 66, 105, 106, 107, 108] (by decide +kernel) (by decide +kernel)
set_option maxRecDepth 20000 in
theorem gX6_share_X1_sumTop : GoodIn wsX6_share (wsV RX6 247 RX1 yX1_sumTop wsX1_sumTop) := goodIn_app (goodIn_of _ (by decide +kernel)) ggX6_share_X1_sumTop
set_option maxRecDepth 20000 in
theorem ggX6_share_X6_parts : GoodIn wsX6_share wsX6_parts := goodIn_r _ [89, 90, 91, 92, 9, 93] (by decide +kernel) (by decide +kernel)
set_option maxRecDepth 20000 in
theorem gX6_share_X6_parts : GoodIn wsX6_share (va_wsS RX6 253 yX6_parts wsX6_parts) := goodIn_app (goodIn_of _ (by decide +kernel)) ggX6_share_X6_parts
set_option maxRecDepth 20000 in
theorem ggX6_share_X6_commonDivisor : GoodIn wsX6_share wsX6_commonDivisor := goodIn_r _ [96] (by decide +kernel) (by decide +kernel)
set_option maxRecDepth 20000 in
theorem gX6_share_X6_commonDivisor : GoodIn wsX6_share (va_wsS RX6 257 yX6_commonDivisor wsX6_commonDivisor) := goodIn_app (goodIn_of _ (by decide +kernel)) ggX6_share_X6_commonDivisor
set_option maxRecDepth 20000 in
theorem ggX6_share_X6_divided : GoodIn wsX6_share wsX6_divided := goodIn_r _ [93] (by decide +kernel) (by decide +kernel)
set_option maxRecDepth 20000 in
theorem gX6_share_X6_divided : GoodIn wsX6_share (va_wsS RX6 261 yX6_divided wsX6_divided) := goodIn_app (goodIn_of _ (by decide +kernel)) ggX6_share_X6_divided
theorem dX6_share_0 : decode cX6_share 0 = .ok (.iload_n 1, 1) := by decide +kernel
theorem dX6_share_1 : decode cX6_share 1 = .ok (.invokestatic 77, 3) := by decide +kernel
theorem dX6_share_4 : decode cX6_share 4 = .ok (.ifCond .eq 22, 3) := by decide +kernel
theorem dX6_share_7 : decode cX6_share 7 = .ok (.iload_n 2, 1) := by decide +kernel
theorem dX6_share_8 : decode cX6_share 8 = .ok (.invokestatic 232, 3) := by decide +kernel
theorem dX6_share_11 : decode cX6_share 11 = .ok (.ifCond .eq 15, 3) := by decide +kernel
theorem dX6_share_14 : decode cX6_share 14 = .ok (.iload_n 3, 1) := by decide +kernel
theorem dX6_share_15 : decode cX6_share 15 = .ok (.i2l, 1) := by decide +kernel
theorem dX6_share_16 : decode cX6_share 16 = .ok (.lconst 0, 1) := by decide +kernel
theorem dX6_share_17 : decode cX6_share 17 = .ok (.ldc2_w 195, 3) := by decide +kernel
theorem dX6_share_20 : decode cX6_share 20 = .ok (.invokestatic 56, 3) := by decide +kernel
theorem dX6_share_23 : decode cX6_share 23 = .ok (.ifCond .ne 7, 3) := by decide +kernel
theorem dX6_share_26 : decode cX6_share 26 = .ok (.ldc2_w 226, 3) := by decide +kernel
theorem dX6_share_29 : decode cX6_share 29 = .ok (.lreturn, 1) := by decide +kernel
theorem dX6_share_30 : decode cX6_share 30 = .ok (.aload_n 0, 1) := by decide +kernel
theorem dX6_share_31 : decode cX6_share 31 = .ok (.getfield 22, 3) := by decide +kernel
theorem dX6_share_34 : decode cX6_share 34 = .ok (.aload_n 0, 1) := by decide +kernel
theorem dX6_share_35 : decode cX6_share 35 = .ok (.getfield 10, 3) := by decide +kernel
theorem dX6_share_38 : decode cX6_share 38 = .ok (.iload_n 1, 1) := by decide +kernel
theorem dX6_share_39 : decode cX6_share 39 = .ok (.iload_n 1, 1) := by decide +kernel
theorem dX6_share_40 : decode cX6_share 40 = .ok (.invokevirtual 235, 3) := by decide +kernel
theorem dX6_share_43 : decode cX6_share 43 = .ok (.aload_n 0, 1) := by decide +kernel
theorem dX6_share_44 : decode cX6_share 44 = .ok (.getfield 22, 3) := by decide +kernel
theorem dX6_share_47 : decode cX6_share 47 = .ok (.iconst (-1), 1) := by decide +kernel
theorem dX6_share_48 : decode cX6_share 48 = .ok (.invokevirtual 239, 3) := by decide +kernel
theorem dX6_share_51 : decode cX6_share 51 = .ok (.lstore 4, 2) := by decide +kernel
theorem dX6_share_53 : decode cX6_share 53 = .ok (.lload 4, 2) := by decide +kernel
theorem dX6_share_55 : decode cX6_share 55 = .ok (.lconst 0, 1) := by decide +kernel
theorem dX6_share_56 : decode cX6_share 56 = .ok (.lcmp, 1) := by decide +kernel
theorem dX6_share_57 : decode cX6_share 57 = .ok (.ifCond .ne 7, 3) := by decide +kernel
theorem dX6_share_60 : decode cX6_share 60 = .ok (.ldc2_w 242, 3) := by decide +kernel
theorem dX6_share_63 : decode cX6_share 63 = .ok (.lreturn, 1) := by decide +kernel
theorem dX6_share_64 : decode cX6_share 64 = .ok (.aload_n 0, 1) := by decide +kernel
theorem dX6_share_65 : decode cX6_share 65 = .ok (.getfield 22, 3) := by decide +kernel
theorem dX6_share_68 : decode cX6_share 68 = .ok (.aload_n 0, 1) := by decide +kernel
theorem dX6_share_69 : decode cX6_share 69 = .ok (.getfield 10, 3) := by decide +kernel
theorem dX6_share_72 : decode cX6_share 72 = .ok (.iload_n 1, 1) := by decide +kernel
theorem dX6_share_73 : decode cX6_share 73 = .ok (.iload_n 2, 1) := by decide +kernel
theorem dX6_share_74 : decode cX6_share 74 = .ok (.invokevirtual 244, 3) := by decide +kernel
theorem dX6_share_77 : decode cX6_share 77 = .ok (.iconst (-1), 1) := by decide +kernel
theorem dX6_share_78 : decode cX6_share 78 = .ok (.invokevirtual 247, 3) := by decide +kernel
theorem dX6_share_81 : decode cX6_share 81 = .ok (.lstore 6, 2) := by decide +kernel
theorem dX6_share_83 : decode cX6_share 83 = .ok (.ldc2_w 251, 3) := by decide +kernel
theorem dX6_share_86 : decode cX6_share 86 = .ok (.lload 4, 2) := by decide +kernel
theorem dX6_share_88 : decode cX6_share 88 = .ok (.lmul, 1) := by decide +kernel
theorem dX6_share_89 : decode cX6_share 89 = .ok (.lstore 8, 2) := by decide +kernel
theorem dX6_share_91 : decode cX6_share 91 = .ok (.iload_n 3, 1) := by decide +kernel
theorem dX6_share_92 : decode cX6_share 92 = .ok (.iconst 2, 1) := by decide +kernel
theorem dX6_share_93 : decode cX6_share 93 = .ok (.if_icmp .ne 12, 3) := by decide +kernel
theorem dX6_share_96 : decode cX6_share 96 = .ok (.lload 6, 2) := by decide +kernel
theorem dX6_share_98 : decode cX6_share 98 = .ok (.lload 4, 2) := by decide +kernel
theorem dX6_share_100 : decode cX6_share 100 = .ok (.invokestatic 253, 3) := by decide +kernel
theorem dX6_share_103 : decode cX6_share 103 = .ok (.i2l, 1) := by decide +kernel
theorem dX6_share_104 : decode cX6_share 104 = .ok (.lreturn, 1) := by decide +kernel
theorem dX6_share_105 : decode cX6_share 105 = .ok (.lload 6, 2) := by decide +kernel
theorem dX6_share_107 : decode cX6_share 107 = .ok (.lload 8, 2) := by decide +kernel
theorem dX6_share_109 : decode cX6_share 109 = .ok (.invokestatic 257, 3) := by decide +kernel
theorem dX6_share_112 : decode cX6_share 112 = .ok (.lstore 10, 2) := by decide +kernel
theorem dX6_share_114 : decode cX6_share 114 = .ok (.iload_n 3, 1) := by decide +kernel
theorem dX6_share_115 : decode cX6_share 115 = .ok (.ifCond .ne 8, 3) := by decide +kernel
theorem dX6_share_118 : decode cX6_share 118 = .ok (.lload 6, 2) := by decide +kernel
theorem dX6_share_120 : decode cX6_share 120 = .ok (.goto 5, 3) := by decide +kernel
theorem dX6_share_123 : decode cX6_share 123 = .ok (.lload 8, 2) := by decide +kernel
theorem dX6_share_125 : decode cX6_share 125 = .ok (.lload 10, 2) := by decide +kernel
theorem dX6_share_127 : decode cX6_share 127 = .ok (.invokestatic 261, 3) := by decide +kernel
theorem dX6_share_130 : decode cX6_share 130 = .ok (.lreturn, 1) := by decide +kernel
set_option maxRecDepth 20000 in
theorem ggX6_maker_X6_isYear : GoodIn wsX6_maker wsX6_isYear := goodIn_r _ [12, 13, 14, 15, 11, 16] (by decide +kernel) (by decide +kernel)
set_option maxRecDepth 20000 in
theorem gX6_maker_X6_isYear : GoodIn wsX6_maker (va_wsS RX6 77 yX6_isYear wsX6_isYear) := goodIn_app (goodIn_of _ (by decide +kernel)) ggX6_maker_X6_isYear
set_option maxRecDepth 20000 in
theorem ggX6_maker_X6_isTop : GoodIn wsX6_maker wsX6_isTop := goodIn_r _ [19, 20, 14, 15, 11, 16] (by decide +kernel) (by decide +kernel)
set_option maxRecDepth 20000 in
theorem gX6_maker_X6_isTop : GoodIn wsX6_maker (va_wsS RX6 232 yX6_isTop wsX6_isTop) := goodIn_app (goodIn_of _ (by decide +kernel)) ggX6_maker_X6_isTop
set_option maxRecDepth 20000 in
theorem ggX6_maker_X6_isWithin : GoodIn wsX6_maker wsX6_isWithin := goodIn_r _ [16] (by decide +kernel) (by decide +kernel)
set_option maxRecDepth 20000 in
theorem gX6_maker_X6_isWithin : GoodIn wsX6_maker (va_wsS RX6 56 yX6_isWithin wsX6_isWithin) := goodIn_app (goodIn_of _ (by decide +kernel)) ggX6_maker_X6_isWithin
set_option maxRecDepth 20000 in
theorem ggX6_maker_X1_gather : GoodIn wsX6_maker wsX1_gather := goodIn_r _ [25, 26, 27, 28, 29, 30, 31, 32, 33, 34, 35, 36, 37, 38, 39, 40, 41, 42, 43, 44, 45, 46, 47, 48, 49, 50, 51, 52, 53, 54, 55, 56, 57, 58, 59, 60, 61, 62, 63, 64, 65, 66, 24, 67, 68, 69, 70, 109, 110, 111, 112, 113, 114, 115, 116, 117, 118, 119, 120, 121, 122, 123, 124, 125, 126, 127, 128, 129, 130, 131] (by decide +kernel) (by decide +kernel)
set_option maxRecDepth 20000 in
theorem gX6_maker_X1_gather : GoodIn wsX6_maker (wsV RX6 235 RX1 yX1_gather wsX1_gather) := goodIn_app (goodIn_of _ (by decide +kernel)) ggX6_maker_X1_gather
set_option maxRecDepth 20000 in
theorem ggX6_maker_X5_topRoom : GoodIn wsX6_maker wsX5_topRoom := goodIn_r _ [74, 75, 113, 114, 115, 116, 117, 118, 119, 120, 121, 122] (by decide +kernel) (by decide +kernel)
set_option maxRecDepth 20000 in
theorem gX6_maker_X5_topRoom : GoodIn wsX6_maker (wsV RX6 244 RX5 yX5_topRoom wsX5_topRoom) := goodIn_app (goodIn_of _ (by decide +kernel)) ggX6_maker_X5_topRoom
set_option maxRecDepth 20000 in
theorem ggX6_maker_X1_partsOfTop : GoodIn wsX6_maker wsX1_partsOfTop := goodIn_r _ [79, 80, 81, 82, 24, 83, 26, 69, 68, 70, 84, 85, 86, 87, 88, 89, 90, 7, 91, 92, 11, 93, 94, 95, 96, 97, 109, 110, 111, 112] (by decide +kernel) (by decide +kernel)
set_option maxRecDepth 20000 in
theorem gX6_maker_X1_partsOfTop : GoodIn wsX6_maker (wsV RX6 264 RX1 yX1_partsOfTop wsX1_partsOfTop) := goodIn_app (goodIn_of _ (by decide +kernel)) ggX6_maker_X1_partsOfTop
set_option maxRecDepth 20000 in
theorem ggX6_maker_X6_noneAsZero : GoodIn wsX6_maker wsX6_noneAsZero := goodIn_r _ [100] (by decide +kernel) (by decide +kernel)
set_option maxRecDepth 20000 in
theorem gX6_maker_X6_noneAsZero : GoodIn wsX6_maker (va_wsS RX6 271 yX6_noneAsZero wsX6_noneAsZero) := goodIn_app (goodIn_of _ (by decide +kernel)) ggX6_maker_X6_noneAsZero
theorem dX6_maker_0 : decode cX6_maker 0 = .ok (.iload_n 1, 1) := by decide +kernel
theorem dX6_maker_1 : decode cX6_maker 1 = .ok (.invokestatic 77, 3) := by decide +kernel
theorem dX6_maker_4 : decode cX6_maker 4 = .ok (.ifCond .eq 20, 3) := by decide +kernel
theorem dX6_maker_7 : decode cX6_maker 7 = .ok (.iload_n 2, 1) := by decide +kernel
theorem dX6_maker_8 : decode cX6_maker 8 = .ok (.invokestatic 232, 3) := by decide +kernel
theorem dX6_maker_11 : decode cX6_maker 11 = .ok (.ifCond .eq 13, 3) := by decide +kernel
theorem dX6_maker_14 : decode cX6_maker 14 = .ok (.iload_n 3, 1) := by decide +kernel
theorem dX6_maker_15 : decode cX6_maker 15 = .ok (.i2l, 1) := by decide +kernel
theorem dX6_maker_16 : decode cX6_maker 16 = .ok (.lconst 0, 1) := by decide +kernel
theorem dX6_maker_17 : decode cX6_maker 17 = .ok (.lconst 1, 1) := by decide +kernel
theorem dX6_maker_18 : decode cX6_maker 18 = .ok (.invokestatic 56, 3) := by decide +kernel
theorem dX6_maker_21 : decode cX6_maker 21 = .ok (.ifCond .ne 5, 3) := by decide +kernel
theorem dX6_maker_24 : decode cX6_maker 24 = .ok (.iconst (-1), 1) := by decide +kernel
theorem dX6_maker_25 : decode cX6_maker 25 = .ok (.ireturn, 1) := by decide +kernel
theorem dX6_maker_26 : decode cX6_maker 26 = .ok (.aload_n 0, 1) := by decide +kernel
theorem dX6_maker_27 : decode cX6_maker 27 = .ok (.getfield 22, 3) := by decide +kernel
theorem dX6_maker_30 : decode cX6_maker 30 = .ok (.aload_n 0, 1) := by decide +kernel
theorem dX6_maker_31 : decode cX6_maker 31 = .ok (.getfield 10, 3) := by decide +kernel
theorem dX6_maker_34 : decode cX6_maker 34 = .ok (.iload_n 1, 1) := by decide +kernel
theorem dX6_maker_35 : decode cX6_maker 35 = .ok (.iload_n 1, 1) := by decide +kernel
theorem dX6_maker_36 : decode cX6_maker 36 = .ok (.invokevirtual 235, 3) := by decide +kernel
theorem dX6_maker_39 : decode cX6_maker 39 = .ok (.aload_n 0, 1) := by decide +kernel
theorem dX6_maker_40 : decode cX6_maker 40 = .ok (.getfield 10, 3) := by decide +kernel
theorem dX6_maker_43 : decode cX6_maker 43 = .ok (.iload_n 1, 1) := by decide +kernel
theorem dX6_maker_44 : decode cX6_maker 44 = .ok (.iload_n 2, 1) := by decide +kernel
theorem dX6_maker_45 : decode cX6_maker 45 = .ok (.invokevirtual 244, 3) := by decide +kernel
theorem dX6_maker_48 : decode cX6_maker 48 = .ok (.lstore 4, 2) := by decide +kernel
theorem dX6_maker_50 : decode cX6_maker 50 = .ok (.aload_n 0, 1) := by decide +kernel
theorem dX6_maker_51 : decode cX6_maker 51 = .ok (.getfield 22, 3) := by decide +kernel
theorem dX6_maker_54 : decode cX6_maker 54 = .ok (.lload 4, 2) := by decide +kernel
theorem dX6_maker_56 : decode cX6_maker 56 = .ok (.iconst (-1), 1) := by decide +kernel
theorem dX6_maker_57 : decode cX6_maker 57 = .ok (.invokevirtual 264, 3) := by decide +kernel
theorem dX6_maker_60 : decode cX6_maker 60 = .ok (.istore 6, 2) := by decide +kernel
theorem dX6_maker_62 : decode cX6_maker 62 = .ok (.iload 6, 2) := by decide +kernel
theorem dX6_maker_64 : decode cX6_maker 64 = .ok (.bipush (-4), 2) := by decide +kernel
theorem dX6_maker_66 : decode cX6_maker 66 = .ok (.if_icmp .ne 6, 3) := by decide +kernel
theorem dX6_maker_69 : decode cX6_maker 69 = .ok (.bipush (-4), 2) := by decide +kernel
theorem dX6_maker_71 : decode cX6_maker 71 = .ok (.ireturn, 1) := by decide +kernel
theorem dX6_maker_72 : decode cX6_maker 72 = .ok (.iconst (-1), 1) := by decide +kernel
theorem dX6_maker_73 : decode cX6_maker 73 = .ok (.istore 7, 2) := by decide +kernel
theorem dX6_maker_75 : decode cX6_maker 75 = .ok (.iconst (-1), 1) := by decide +kernel
theorem dX6_maker_76 : decode cX6_maker 76 = .ok (.istore 8, 2) := by decide +kernel
theorem dX6_maker_78 : decode cX6_maker 78 = .ok (.iconst 0, 1) := by decide +kernel
theorem dX6_maker_79 : decode cX6_maker 79 = .ok (.istore 9, 2) := by decide +kernel
theorem dX6_maker_81 : decode cX6_maker 81 = .ok (.iconst 0, 1) := by decide +kernel
theorem dX6_maker_82 : decode cX6_maker 82 = .ok (.istore 10, 2) := by decide +kernel
theorem dX6_maker_84 : decode cX6_maker 84 = .ok (.iload 10, 2) := by decide +kernel
theorem dX6_maker_86 : decode cX6_maker 86 = .ok (.aload_n 0, 1) := by decide +kernel
theorem dX6_maker_87 : decode cX6_maker 87 = .ok (.getfield 22, 3) := by decide +kernel
theorem dX6_maker_90 : decode cX6_maker 90 = .ok (.getfield 267, 3) := by decide +kernel
theorem dX6_maker_93 : decode cX6_maker 93 = .ok (.if_icmp .ge 80, 3) := by decide +kernel
theorem dX6_maker_96 : decode cX6_maker 96 = .ok (.aload_n 0, 1) := by decide +kernel
theorem dX6_maker_97 : decode cX6_maker 97 = .ok (.getfield 22, 3) := by decide +kernel
theorem dX6_maker_100 : decode cX6_maker 100 = .ok (.getfield 268, 3) := by decide +kernel
theorem dX6_maker_103 : decode cX6_maker 103 = .ok (.iload 10, 2) := by decide +kernel
theorem dX6_maker_105 : decode cX6_maker 105 = .ok (.iaload, 1) := by decide +kernel
theorem dX6_maker_106 : decode cX6_maker 106 = .ok (.istore 11, 2) := by decide +kernel
theorem dX6_maker_108 : decode cX6_maker 108 = .ok (.aload_n 0, 1) := by decide +kernel
theorem dX6_maker_109 : decode cX6_maker 109 = .ok (.getfield 22, 3) := by decide +kernel
theorem dX6_maker_112 : decode cX6_maker 112 = .ok (.lload 4, 2) := by decide +kernel
theorem dX6_maker_114 : decode cX6_maker 114 = .ok (.iload 11, 2) := by decide +kernel
theorem dX6_maker_116 : decode cX6_maker 116 = .ok (.invokevirtual 264, 3) := by decide +kernel
theorem dX6_maker_119 : decode cX6_maker 119 = .ok (.invokestatic 271, 3) := by decide +kernel
theorem dX6_maker_122 : decode cX6_maker 122 = .ok (.istore 12, 2) := by decide +kernel
theorem dX6_maker_124 : decode cX6_maker 124 = .ok (.iload 12, 2) := by decide +kernel
theorem dX6_maker_126 : decode cX6_maker 126 = .ok (.iload 6, 2) := by decide +kernel
theorem dX6_maker_128 : decode cX6_maker 128 = .ok (.isub, 1) := by decide +kernel
theorem dX6_maker_129 : decode cX6_maker 129 = .ok (.invokestatic 274, 3) := by decide +kernel
theorem dX6_maker_132 : decode cX6_maker 132 = .ok (.istore 13, 2) := by decide +kernel
theorem dX6_maker_134 : decode cX6_maker 134 = .ok (.iload 13, 2) := by decide +kernel
theorem dX6_maker_136 : decode cX6_maker 136 = .ok (.iload 8, 2) := by decide +kernel
theorem dX6_maker_138 : decode cX6_maker 138 = .ok (.if_icmp .gt 17, 3) := by decide +kernel
theorem dX6_maker_141 : decode cX6_maker 141 = .ok (.iload 13, 2) := by decide +kernel
theorem dX6_maker_143 : decode cX6_maker 143 = .ok (.iload 8, 2) := by decide +kernel
theorem dX6_maker_145 : decode cX6_maker 145 = .ok (.if_icmp .ne 22, 3) := by decide +kernel
theorem dX6_maker_148 : decode cX6_maker 148 = .ok (.iload 11, 2) := by decide +kernel
theorem dX6_maker_150 : decode cX6_maker 150 = .ok (.iload 7, 2) := by decide +kernel
theorem dX6_maker_152 : decode cX6_maker 152 = .ok (.if_icmp .ge 15, 3) := by decide +kernel
theorem dX6_maker_155 : decode cX6_maker 155 = .ok (.iload 11, 2) := by decide +kernel
theorem dX6_maker_157 : decode cX6_maker 157 = .ok (.istore 7, 2) := by decide +kernel
theorem dX6_maker_159 : decode cX6_maker 159 = .ok (.iload 13, 2) := by decide +kernel
theorem dX6_maker_161 : decode cX6_maker 161 = .ok (.istore 8, 2) := by decide +kernel
theorem dX6_maker_163 : decode cX6_maker 163 = .ok (.iload 12, 2) := by decide +kernel
theorem dX6_maker_165 : decode cX6_maker 165 = .ok (.istore 9, 2) := by decide +kernel
theorem dX6_maker_167 : decode cX6_maker 167 = .ok (.iinc 10 1, 3) := by decide +kernel
theorem dX6_maker_170 : decode cX6_maker 170 = .ok (.goto (-86), 3) := by decide +kernel
theorem dX6_maker_173 : decode cX6_maker 173 = .ok (.iload_n 3, 1) := by decide +kernel
theorem dX6_maker_174 : decode cX6_maker 174 = .ok (.ifCond .ne 8, 3) := by decide +kernel
theorem dX6_maker_177 : decode cX6_maker 177 = .ok (.iload 7, 2) := by decide +kernel
theorem dX6_maker_179 : decode cX6_maker 179 = .ok (.goto 5, 3) := by decide +kernel
theorem dX6_maker_182 : decode cX6_maker 182 = .ok (.iload 9, 2) := by decide +kernel
theorem dX6_maker_184 : decode cX6_maker 184 = .ok (.ireturn, 1) := by decide +kernel
set_option maxRecDepth 20000 in
theorem ggX6_span_X6_isYear : GoodIn wsX6_span wsX6_isYear := goodIn_r _ [15, 16, 17, 18, 14, 19] (by decide +kernel) (by decide +kernel)
set_option maxRecDepth 20000 in
theorem gX6_span_X6_isYear : GoodIn wsX6_span (va_wsS RX6 77 yX6_isYear wsX6_isYear) := goodIn_app (goodIn_of _ (by decide +kernel)) ggX6_span_X6_isYear
set_option maxRecDepth 20000 in
theorem ggX6_span_X6_isTop : GoodIn wsX6_span wsX6_isTop := goodIn_r _ [22, 23, 17, 18, 14, 19] (by decide +kernel) (by decide +kernel)
set_option maxRecDepth 20000 in
theorem gX6_span_X6_isTop : GoodIn wsX6_span (va_wsS RX6 232 yX6_isTop wsX6_isTop) := goodIn_app (goodIn_of _ (by decide +kernel)) ggX6_span_X6_isTop
set_option maxRecDepth 20000 in
theorem ggX6_span_X6_isWithin : GoodIn wsX6_span wsX6_isWithin := goodIn_r _ [19] (by decide +kernel) (by decide +kernel)
set_option maxRecDepth 20000 in
theorem gX6_span_X6_isWithin : GoodIn wsX6_span (va_wsS RX6 56 yX6_isWithin wsX6_isWithin) := goodIn_app (goodIn_of _ (by decide +kernel)) ggX6_span_X6_isWithin
set_option maxRecDepth 20000 in
theorem ggX6_span_X1_gather : GoodIn wsX6_span wsX1_gather := goodIn_r _ [28, 29, 30, 31, 32, 33, 34, 35, 36, 37, 38, 39, 40, 41, 42, 43, 44, 45, 46, 47, 48, 49, 50, 51, 52, 53, 54, 55, 56, 57, 58, 59, 60, 61, 62, 63, 64, 65, 66, 67, 68, 69, 27, 70, 71, 72, 73, 112, 113, 114, 115, 116, 117, 118, 119, 120, 121, 122, 123, 124, 125, 126, 127, 128, 129, 130, 131, 132, 133, 134] (by decide +kernel) (by decide +kernel)
set_option maxRecDepth 20000 in
theorem gX6_span_X1_gather : GoodIn wsX6_span (wsV RX6 235 RX1 yX1_gather wsX1_gather) := goodIn_app (goodIn_of _ (by decide +kernel)) ggX6_span_X1_gather
set_option maxRecDepth 20000 in
theorem ggX6_span_X5_topRoom : GoodIn wsX6_span wsX5_topRoom := goodIn_r _ [77, 78, 116, 117, 118, 119, 120, 121, 122, 123, 124, 125] (by decide +kernel) (by decide +kernel)
set_option maxRecDepth 20000 in
theorem gX6_span_X5_topRoom : GoodIn wsX6_span (wsV RX6 244 RX5 yX5_topRoom wsX5_topRoom) := goodIn_app (goodIn_of _ (by decide +kernel)) ggX6_span_X5_topRoom
set_option maxRecDepth 20000 in
theorem ggX6_span_X1_partsOfTop : GoodIn wsX6_span wsX1_partsOfTop := goodIn_r _ [82, 83, 84, 85, 27, 86, 29, 72, 71, 73, 87, 88, 89, 90, 91, 92, 93, 7, 94, 95, 14, 96, 97, 98, 99, 100, 112, 113, 114, 115] (by decide +kernel) (by decide +kernel)
set_option maxRecDepth 20000 in
theorem gX6_span_X1_partsOfTop : GoodIn wsX6_span (wsV RX6 264 RX1 yX1_partsOfTop wsX1_partsOfTop) := goodIn_app (goodIn_of _ (by decide +kernel)) ggX6_span_X1_partsOfTop
set_option maxRecDepth 20000 in
theorem ggX6_span_X6_noneAsZero : GoodIn wsX6_span wsX6_noneAsZero := goodIn_r _ [103] (by decide +kernel) (by decide +kernel)
set_option maxRecDepth 20000 in
theorem gX6_span_X6_noneAsZero : GoodIn wsX6_span (va_wsS RX6 271 yX6_noneAsZero wsX6_noneAsZero) := goodIn_app (goodIn_of _ (by decide +kernel)) ggX6_span_X6_noneAsZero
theorem dX6_span_0 : decode cX6_span 0 = .ok (.iload_n 1, 1) := by decide +kernel
theorem dX6_span_1 : decode cX6_span 1 = .ok (.invokestatic 77, 3) := by decide +kernel
theorem dX6_span_4 : decode cX6_span 4 = .ok (.ifCond .eq 20, 3) := by decide +kernel
theorem dX6_span_7 : decode cX6_span 7 = .ok (.iload_n 2, 1) := by decide +kernel
theorem dX6_span_8 : decode cX6_span 8 = .ok (.invokestatic 232, 3) := by decide +kernel
theorem dX6_span_11 : decode cX6_span 11 = .ok (.ifCond .eq 13, 3) := by decide +kernel
theorem dX6_span_14 : decode cX6_span 14 = .ok (.iload_n 3, 1) := by decide +kernel
theorem dX6_span_15 : decode cX6_span 15 = .ok (.i2l, 1) := by decide +kernel
theorem dX6_span_16 : decode cX6_span 16 = .ok (.lconst 0, 1) := by decide +kernel
theorem dX6_span_17 : decode cX6_span 17 = .ok (.lconst 1, 1) := by decide +kernel
theorem dX6_span_18 : decode cX6_span 18 = .ok (.invokestatic 56, 3) := by decide +kernel
theorem dX6_span_21 : decode cX6_span 21 = .ok (.ifCond .ne 5, 3) := by decide +kernel
theorem dX6_span_24 : decode cX6_span 24 = .ok (.iconst (-1), 1) := by decide +kernel
theorem dX6_span_25 : decode cX6_span 25 = .ok (.ireturn, 1) := by decide +kernel
theorem dX6_span_26 : decode cX6_span 26 = .ok (.aload_n 0, 1) := by decide +kernel
theorem dX6_span_27 : decode cX6_span 27 = .ok (.getfield 22, 3) := by decide +kernel
theorem dX6_span_30 : decode cX6_span 30 = .ok (.aload_n 0, 1) := by decide +kernel
theorem dX6_span_31 : decode cX6_span 31 = .ok (.getfield 10, 3) := by decide +kernel
theorem dX6_span_34 : decode cX6_span 34 = .ok (.iload_n 1, 1) := by decide +kernel
theorem dX6_span_35 : decode cX6_span 35 = .ok (.iload_n 1, 1) := by decide +kernel
theorem dX6_span_36 : decode cX6_span 36 = .ok (.invokevirtual 235, 3) := by decide +kernel
theorem dX6_span_39 : decode cX6_span 39 = .ok (.aload_n 0, 1) := by decide +kernel
theorem dX6_span_40 : decode cX6_span 40 = .ok (.getfield 10, 3) := by decide +kernel
theorem dX6_span_43 : decode cX6_span 43 = .ok (.iload_n 1, 1) := by decide +kernel
theorem dX6_span_44 : decode cX6_span 44 = .ok (.iload_n 2, 1) := by decide +kernel
theorem dX6_span_45 : decode cX6_span 45 = .ok (.invokevirtual 244, 3) := by decide +kernel
theorem dX6_span_48 : decode cX6_span 48 = .ok (.lstore 4, 2) := by decide +kernel
theorem dX6_span_50 : decode cX6_span 50 = .ok (.aload_n 0, 1) := by decide +kernel
theorem dX6_span_51 : decode cX6_span 51 = .ok (.getfield 22, 3) := by decide +kernel
theorem dX6_span_54 : decode cX6_span 54 = .ok (.lload 4, 2) := by decide +kernel
theorem dX6_span_56 : decode cX6_span 56 = .ok (.iconst (-1), 1) := by decide +kernel
theorem dX6_span_57 : decode cX6_span 57 = .ok (.invokevirtual 264, 3) := by decide +kernel
theorem dX6_span_60 : decode cX6_span 60 = .ok (.istore 6, 2) := by decide +kernel
theorem dX6_span_62 : decode cX6_span 62 = .ok (.iload 6, 2) := by decide +kernel
theorem dX6_span_64 : decode cX6_span 64 = .ok (.bipush (-4), 2) := by decide +kernel
theorem dX6_span_66 : decode cX6_span 66 = .ok (.if_icmp .ne 6, 3) := by decide +kernel
theorem dX6_span_69 : decode cX6_span 69 = .ok (.bipush (-4), 2) := by decide +kernel
theorem dX6_span_71 : decode cX6_span 71 = .ok (.ireturn, 1) := by decide +kernel
theorem dX6_span_72 : decode cX6_span 72 = .ok (.iload 6, 2) := by decide +kernel
theorem dX6_span_74 : decode cX6_span 74 = .ok (.istore 7, 2) := by decide +kernel
theorem dX6_span_76 : decode cX6_span 76 = .ok (.iconst 0, 1) := by decide +kernel
theorem dX6_span_77 : decode cX6_span 77 = .ok (.istore 8, 2) := by decide +kernel
theorem dX6_span_79 : decode cX6_span 79 = .ok (.iload 8, 2) := by decide +kernel
theorem dX6_span_81 : decode cX6_span 81 = .ok (.aload_n 0, 1) := by decide +kernel
theorem dX6_span_82 : decode cX6_span 82 = .ok (.getfield 22, 3) := by decide +kernel
theorem dX6_span_85 : decode cX6_span 85 = .ok (.getfield 267, 3) := by decide +kernel
theorem dX6_span_88 : decode cX6_span 88 = .ok (.if_icmp .ge 51, 3) := by decide +kernel
theorem dX6_span_91 : decode cX6_span 91 = .ok (.aload_n 0, 1) := by decide +kernel
theorem dX6_span_92 : decode cX6_span 92 = .ok (.getfield 22, 3) := by decide +kernel
theorem dX6_span_95 : decode cX6_span 95 = .ok (.lload 4, 2) := by decide +kernel
theorem dX6_span_97 : decode cX6_span 97 = .ok (.aload_n 0, 1) := by decide +kernel
theorem dX6_span_98 : decode cX6_span 98 = .ok (.getfield 22, 3) := by decide +kernel
theorem dX6_span_101 : decode cX6_span 101 = .ok (.getfield 268, 3) := by decide +kernel
theorem dX6_span_104 : decode cX6_span 104 = .ok (.iload 8, 2) := by decide +kernel
theorem dX6_span_106 : decode cX6_span 106 = .ok (.iaload, 1) := by decide +kernel
theorem dX6_span_107 : decode cX6_span 107 = .ok (.invokevirtual 264, 3) := by decide +kernel
theorem dX6_span_110 : decode cX6_span 110 = .ok (.invokestatic 271, 3) := by decide +kernel
theorem dX6_span_113 : decode cX6_span 113 = .ok (.istore 9, 2) := by decide +kernel
theorem dX6_span_115 : decode cX6_span 115 = .ok (.iload 6, 2) := by decide +kernel
theorem dX6_span_117 : decode cX6_span 117 = .ok (.iload 9, 2) := by decide +kernel
theorem dX6_span_119 : decode cX6_span 119 = .ok (.invokestatic 279, 3) := by decide +kernel
theorem dX6_span_122 : decode cX6_span 122 = .ok (.istore 6, 2) := by decide +kernel
theorem dX6_span_124 : decode cX6_span 124 = .ok (.iload 7, 2) := by decide +kernel
theorem dX6_span_126 : decode cX6_span 126 = .ok (.iload 9, 2) := by decide +kernel
theorem dX6_span_128 : decode cX6_span 128 = .ok (.invokestatic 282, 3) := by decide +kernel
theorem dX6_span_131 : decode cX6_span 131 = .ok (.istore 7, 2) := by decide +kernel
theorem dX6_span_133 : decode cX6_span 133 = .ok (.iinc 8 1, 3) := by decide +kernel
theorem dX6_span_136 : decode cX6_span 136 = .ok (.goto (-57), 3) := by decide +kernel
theorem dX6_span_139 : decode cX6_span 139 = .ok (.iload_n 3, 1) := by decide +kernel
theorem dX6_span_140 : decode cX6_span 140 = .ok (.ifCond .ne 8, 3) := by decide +kernel
theorem dX6_span_143 : decode cX6_span 143 = .ok (.iload 6, 2) := by decide +kernel
theorem dX6_span_145 : decode cX6_span 145 = .ok (.goto 5, 3) := by decide +kernel
theorem dX6_span_148 : decode cX6_span 148 = .ok (.iload 7, 2) := by decide +kernel
theorem dX6_span_150 : decode cX6_span 150 = .ok (.ireturn, 1) := by decide +kernel
set_option maxRecDepth 20000 in
theorem ggX6_smooth_X6_isYear : GoodIn wsX6_smooth wsX6_isYear := goodIn_r _ [14, 15, 16, 17, 13, 18] (by decide +kernel) (by decide +kernel)
set_option maxRecDepth 20000 in
theorem gX6_smooth_X6_isYear : GoodIn wsX6_smooth (va_wsS RX6 77 yX6_isYear wsX6_isYear) := goodIn_app (goodIn_of _ (by decide +kernel)) ggX6_smooth_X6_isYear
set_option maxRecDepth 20000 in
theorem ggX6_smooth_X6_isTop : GoodIn wsX6_smooth wsX6_isTop := goodIn_r _ [21, 22, 16, 17, 13, 18] (by decide +kernel) (by decide +kernel)
set_option maxRecDepth 20000 in
theorem gX6_smooth_X6_isTop : GoodIn wsX6_smooth (va_wsS RX6 232 yX6_isTop wsX6_isTop) := goodIn_app (goodIn_of _ (by decide +kernel)) ggX6_smooth_X6_isTop
set_option maxRecDepth 20000 in
theorem ggX6_smooth_X6_isWithin : GoodIn wsX6_smooth wsX6_isWithin := goodIn_r _ [18] (by decide +kernel) (by decide +kernel)
set_option maxRecDepth 20000 in
theorem gX6_smooth_X6_isWithin : GoodIn wsX6_smooth (va_wsS RX6 56 yX6_isWithin wsX6_isWithin) := goodIn_app (goodIn_of _ (by decide +kernel)) ggX6_smooth_X6_isWithin
set_option maxRecDepth 20000 in
theorem ggX6_smooth_X1_gather : GoodIn wsX6_smooth wsX1_gather := goodIn_r _ [27, 28, 29, 30, 31, 32, 33, 34, 35, 36, 37, 38, 39, 40, 41, 42, 43, 44, 45, 46, 47, 48, 49, 50, 51, 52, 53, 54, 55, 56, 57, 58, 59, 60, 61, 62, 63, 64, 65, 66, 67, 68, 26, 69, 70, 71, 72, 105, 106, 107, 108, 109, 110, 111, 112, 113, 114, 115, 116, 117, 118, 119, 120, 121, 122, 123, 124, 125, 126, 127] (by decide +kernel) (by decide +kernel)
set_option maxRecDepth 20000 in
theorem gX6_smooth_X1_gather : GoodIn wsX6_smooth (wsV RX6 235 RX1 yX1_gather wsX1_gather) := goodIn_app (goodIn_of _ (by decide +kernel)) ggX6_smooth_X1_gather
set_option maxRecDepth 20000 in
theorem ggX6_smooth_X5_topRoom : GoodIn wsX6_smooth wsX5_topRoom := goodIn_r _ [76, 77, 109, 110, 111, 112, 113, 114, 115, 116, 117, 118] (by decide +kernel) (by decide +kernel)
set_option maxRecDepth 20000 in
theorem gX6_smooth_X5_topRoom : GoodIn wsX6_smooth (wsV RX6 244 RX5 yX5_topRoom wsX5_topRoom) := goodIn_app (goodIn_of _ (by decide +kernel)) ggX6_smooth_X5_topRoom
set_option maxRecDepth 20000 in
theorem ggX6_smooth_X1_sumTop : GoodIn wsX6_smooth wsX1_sumTop := goodIn_r _ [81, 28, 71, 82, 72, 83, 84, 4, 85, 70, 105, 106, 107, 108] (by decide +kernel) (by decide +kernel)
set_option maxRecDepth 20000 in
theorem gX6_smooth_X1_sumTop : GoodIn wsX6_smooth (wsV RX6 247 RX1 yX1_sumTop wsX1_sumTop) := goodIn_app (goodIn_of _ (by decide +kernel)) ggX6_smooth_X1_sumTop
set_option maxRecDepth 20000 in
theorem ggX6_smooth_X1_sumAll : GoodIn wsX6_smooth wsX1_sumAll := goodIn_r _ [89, 28, 71, 70, 72, 105, 106, 107, 108] (by decide +kernel) (by decide +kernel)
set_option maxRecDepth 20000 in
theorem gX6_smooth_X1_sumAll : GoodIn wsX6_smooth (wsV RX6 239 RX1 yX1_sumAll wsX1_sumAll) := goodIn_app (goodIn_of _ (by decide +kernel)) ggX6_smooth_X1_sumAll
set_option maxRecDepth 20000 in
theorem ggX6_smooth_X6_parts : GoodIn wsX6_smooth wsX6_parts := goodIn_r _ [92, 93, 94, 95, 13, 96] (by decide +kernel) (by decide +kernel)
set_option maxRecDepth 20000 in
theorem gX6_smooth_X6_parts : GoodIn wsX6_smooth (va_wsS RX6 253 yX6_parts wsX6_parts) := goodIn_app (goodIn_of _ (by decide +kernel)) ggX6_smooth_X6_parts
theorem dX6_smooth_0 : decode cX6_smooth 0 = .ok (.iload_n 1, 1) := by decide +kernel
theorem dX6_smooth_1 : decode cX6_smooth 1 = .ok (.invokestatic 77, 3) := by decide +kernel
theorem dX6_smooth_4 : decode cX6_smooth 4 = .ok (.ifCond .eq 22, 3) := by decide +kernel
theorem dX6_smooth_7 : decode cX6_smooth 7 = .ok (.iload_n 2, 1) := by decide +kernel
theorem dX6_smooth_8 : decode cX6_smooth 8 = .ok (.invokestatic 232, 3) := by decide +kernel
theorem dX6_smooth_11 : decode cX6_smooth 11 = .ok (.ifCond .eq 15, 3) := by decide +kernel
theorem dX6_smooth_14 : decode cX6_smooth 14 = .ok (.iload_n 3, 1) := by decide +kernel
theorem dX6_smooth_15 : decode cX6_smooth 15 = .ok (.i2l, 1) := by decide +kernel
theorem dX6_smooth_16 : decode cX6_smooth 16 = .ok (.lconst 0, 1) := by decide +kernel
theorem dX6_smooth_17 : decode cX6_smooth 17 = .ok (.ldc2_w 99, 3) := by decide +kernel
theorem dX6_smooth_20 : decode cX6_smooth 20 = .ok (.invokestatic 56, 3) := by decide +kernel
theorem dX6_smooth_23 : decode cX6_smooth 23 = .ok (.ifCond .ne 5, 3) := by decide +kernel
theorem dX6_smooth_26 : decode cX6_smooth 26 = .ok (.iconst (-1), 1) := by decide +kernel
theorem dX6_smooth_27 : decode cX6_smooth 27 = .ok (.ireturn, 1) := by decide +kernel
theorem dX6_smooth_28 : decode cX6_smooth 28 = .ok (.lconst 0, 1) := by decide +kernel
theorem dX6_smooth_29 : decode cX6_smooth 29 = .ok (.lstore 4, 2) := by decide +kernel
theorem dX6_smooth_31 : decode cX6_smooth 31 = .ok (.lconst 0, 1) := by decide +kernel
theorem dX6_smooth_32 : decode cX6_smooth 32 = .ok (.lstore 6, 2) := by decide +kernel
theorem dX6_smooth_34 : decode cX6_smooth 34 = .ok (.iload_n 1, 1) := by decide +kernel
theorem dX6_smooth_35 : decode cX6_smooth 35 = .ok (.iload_n 3, 1) := by decide +kernel
theorem dX6_smooth_36 : decode cX6_smooth 36 = .ok (.iadd, 1) := by decide +kernel
theorem dX6_smooth_37 : decode cX6_smooth 37 = .ok (.bipush 7, 2) := by decide +kernel
theorem dX6_smooth_39 : decode cX6_smooth 39 = .ok (.invokestatic 279, 3) := by decide +kernel
theorem dX6_smooth_42 : decode cX6_smooth 42 = .ok (.istore 8, 2) := by decide +kernel
theorem dX6_smooth_44 : decode cX6_smooth 44 = .ok (.iload_n 1, 1) := by decide +kernel
theorem dX6_smooth_45 : decode cX6_smooth 45 = .ok (.iload_n 3, 1) := by decide +kernel
theorem dX6_smooth_46 : decode cX6_smooth 46 = .ok (.isub, 1) := by decide +kernel
theorem dX6_smooth_47 : decode cX6_smooth 47 = .ok (.iconst 0, 1) := by decide +kernel
theorem dX6_smooth_48 : decode cX6_smooth 48 = .ok (.invokestatic 282, 3) := by decide +kernel
theorem dX6_smooth_51 : decode cX6_smooth 51 = .ok (.istore 9, 2) := by decide +kernel
theorem dX6_smooth_53 : decode cX6_smooth 53 = .ok (.iload 9, 2) := by decide +kernel
theorem dX6_smooth_55 : decode cX6_smooth 55 = .ok (.iload 8, 2) := by decide +kernel
theorem dX6_smooth_57 : decode cX6_smooth 57 = .ok (.if_icmp .gt 60, 3) := by decide +kernel
theorem dX6_smooth_60 : decode cX6_smooth 60 = .ok (.aload_n 0, 1) := by decide +kernel
theorem dX6_smooth_61 : decode cX6_smooth 61 = .ok (.getfield 22, 3) := by decide +kernel
theorem dX6_smooth_64 : decode cX6_smooth 64 = .ok (.aload_n 0, 1) := by decide +kernel
theorem dX6_smooth_65 : decode cX6_smooth 65 = .ok (.getfield 10, 3) := by decide +kernel
theorem dX6_smooth_68 : decode cX6_smooth 68 = .ok (.iload 9, 2) := by decide +kernel
theorem dX6_smooth_70 : decode cX6_smooth 70 = .ok (.iload 9, 2) := by decide +kernel
theorem dX6_smooth_72 : decode cX6_smooth 72 = .ok (.invokevirtual 235, 3) := by decide +kernel
theorem dX6_smooth_75 : decode cX6_smooth 75 = .ok (.lload 4, 2) := by decide +kernel
theorem dX6_smooth_77 : decode cX6_smooth 77 = .ok (.aload_n 0, 1) := by decide +kernel
theorem dX6_smooth_78 : decode cX6_smooth 78 = .ok (.getfield 22, 3) := by decide +kernel
theorem dX6_smooth_81 : decode cX6_smooth 81 = .ok (.aload_n 0, 1) := by decide +kernel
theorem dX6_smooth_82 : decode cX6_smooth 82 = .ok (.getfield 10, 3) := by decide +kernel
theorem dX6_smooth_85 : decode cX6_smooth 85 = .ok (.iload 9, 2) := by decide +kernel
theorem dX6_smooth_87 : decode cX6_smooth 87 = .ok (.iload_n 2, 1) := by decide +kernel
theorem dX6_smooth_88 : decode cX6_smooth 88 = .ok (.invokevirtual 244, 3) := by decide +kernel
theorem dX6_smooth_91 : decode cX6_smooth 91 = .ok (.iconst (-1), 1) := by decide +kernel
theorem dX6_smooth_92 : decode cX6_smooth 92 = .ok (.invokevirtual 247, 3) := by decide +kernel
theorem dX6_smooth_95 : decode cX6_smooth 95 = .ok (.ladd, 1) := by decide +kernel
theorem dX6_smooth_96 : decode cX6_smooth 96 = .ok (.lstore 4, 2) := by decide +kernel
theorem dX6_smooth_98 : decode cX6_smooth 98 = .ok (.lload 6, 2) := by decide +kernel
theorem dX6_smooth_100 : decode cX6_smooth 100 = .ok (.aload_n 0, 1) := by decide +kernel
theorem dX6_smooth_101 : decode cX6_smooth 101 = .ok (.getfield 22, 3) := by decide +kernel
theorem dX6_smooth_104 : decode cX6_smooth 104 = .ok (.iconst (-1), 1) := by decide +kernel
theorem dX6_smooth_105 : decode cX6_smooth 105 = .ok (.invokevirtual 239, 3) := by decide +kernel
theorem dX6_smooth_108 : decode cX6_smooth 108 = .ok (.ladd, 1) := by decide +kernel
theorem dX6_smooth_109 : decode cX6_smooth 109 = .ok (.lstore 6, 2) := by decide +kernel
theorem dX6_smooth_111 : decode cX6_smooth 111 = .ok (.iinc 9 1, 3) := by decide +kernel
theorem dX6_smooth_114 : decode cX6_smooth 114 = .ok (.goto (-61), 3) := by decide +kernel
theorem dX6_smooth_117 : decode cX6_smooth 117 = .ok (.lload 6, 2) := by decide +kernel
theorem dX6_smooth_119 : decode cX6_smooth 119 = .ok (.lconst 0, 1) := by decide +kernel
theorem dX6_smooth_120 : decode cX6_smooth 120 = .ok (.lcmp, 1) := by decide +kernel
theorem dX6_smooth_121 : decode cX6_smooth 121 = .ok (.ifCond .ne 8, 3) := by decide +kernel
theorem dX6_smooth_124 : decode cX6_smooth 124 = .ok (.bipush (-4), 2) := by decide +kernel
theorem dX6_smooth_126 : decode cX6_smooth 126 = .ok (.goto 10, 3) := by decide +kernel
theorem dX6_smooth_129 : decode cX6_smooth 129 = .ok (.lload 4, 2) := by decide +kernel
theorem dX6_smooth_131 : decode cX6_smooth 131 = .ok (.lload 6, 2) := by decide +kernel
theorem dX6_smooth_133 : decode cX6_smooth 133 = .ok (.invokestatic 253, 3) := by decide +kernel
theorem dX6_smooth_136 : decode cX6_smooth 136 = .ok (.ireturn, 1) := by decide +kernel
set_option maxRecDepth 20000 in
theorem ggX6_jump_X6_isTop : GoodIn wsX6_jump wsX6_isTop := goodIn_r _ [8, 9, 10, 11, 7, 12] (by decide +kernel) (by decide +kernel)
set_option maxRecDepth 20000 in
theorem gX6_jump_X6_isTop : GoodIn wsX6_jump (va_wsS RX6 232 yX6_isTop wsX6_isTop) := goodIn_app (goodIn_of _ (by decide +kernel)) ggX6_jump_X6_isTop
set_option maxRecDepth 20000 in
theorem ggX6_jump_X6_isWithin : GoodIn wsX6_jump wsX6_isWithin := goodIn_r _ [12] (by decide +kernel) (by decide +kernel)
set_option maxRecDepth 20000 in
theorem gX6_jump_X6_isWithin : GoodIn wsX6_jump (va_wsS RX6 56 yX6_isWithin wsX6_isWithin) := goodIn_app (goodIn_of _ (by decide +kernel)) ggX6_jump_X6_isWithin
set_option maxRecDepth 20000 in
theorem ggX6_jump_X6_partsOfYear : GoodIn wsX6_jump wsX6_partsOfYear := goodIn_r _ [16, 17, 18, 19, 20, 21, 22, 23, 24, 25, 26, 27, 28, 29, 30, 31, 32, 33, 34, 35, 36, 37, 38, 39, 40, 41, 42, 43, 44, 45, 46, 47, 48, 49, 50, 51, 52, 53, 54, 55, 56, 57, 58, 59, 60, 61, 62, 63, 64, 65, 66, 67, 68, 69, 70, 71, 72, 73, 74, 75, 76, 77, 78, 79, 80, 81, 82, 83, 84, 85, 86, 87, 88, 3, 89, 90, 7, 91, 92, 93, 94, 95, 96, 97, 98, 99, 100, 101, 102, 103, 104, 105, 106, 107, 108, 109, 110, 111, 112, 113, 114, 115, 116, 117, 118, 119, 120, 121, 122, 123, 124, 125, 126] (by decide +kernel) (by decide +kernel)
set_option maxRecDepth 20000 in
theorem gX6_jump_X6_partsOfYear : GoodIn wsX6_jump (wsV RX6 285 RX6 yX6_partsOfYear wsX6_partsOfYear) := goodIn_app (goodIn_of _ (by decide +kernel)) ggX6_jump_X6_partsOfYear
theorem dX6_jump_0 : decode cX6_jump 0 = .ok (.iload_n 1, 1) := by decide +kernel
theorem dX6_jump_1 : decode cX6_jump 1 = .ok (.invokestatic 232, 3) := by decide +kernel
theorem dX6_jump_4 : decode cX6_jump 4 = .ok (.ifCond .eq 13, 3) := by decide +kernel
theorem dX6_jump_7 : decode cX6_jump 7 = .ok (.iload_n 2, 1) := by decide +kernel
theorem dX6_jump_8 : decode cX6_jump 8 = .ok (.i2l, 1) := by decide +kernel
theorem dX6_jump_9 : decode cX6_jump 9 = .ok (.lconst 0, 1) := by decide +kernel
theorem dX6_jump_10 : decode cX6_jump 10 = .ok (.lconst 1, 1) := by decide +kernel
theorem dX6_jump_11 : decode cX6_jump 11 = .ok (.invokestatic 56, 3) := by decide +kernel
theorem dX6_jump_14 : decode cX6_jump 14 = .ok (.ifCond .ne 5, 3) := by decide +kernel
theorem dX6_jump_17 : decode cX6_jump 17 = .ok (.iconst (-1), 1) := by decide +kernel
theorem dX6_jump_18 : decode cX6_jump 18 = .ok (.ireturn, 1) := by decide +kernel
theorem dX6_jump_19 : decode cX6_jump 19 = .ok (.bipush (-4), 2) := by decide +kernel
theorem dX6_jump_21 : decode cX6_jump 21 = .ok (.istore_n 3, 1) := by decide +kernel
theorem dX6_jump_22 : decode cX6_jump 22 = .ok (.bipush (-4), 2) := by decide +kernel
theorem dX6_jump_24 : decode cX6_jump 24 = .ok (.istore 4, 2) := by decide +kernel
theorem dX6_jump_26 : decode cX6_jump 26 = .ok (.aload_n 0, 1) := by decide +kernel
theorem dX6_jump_27 : decode cX6_jump 27 = .ok (.iconst 0, 1) := by decide +kernel
theorem dX6_jump_28 : decode cX6_jump 28 = .ok (.iconst 0, 1) := by decide +kernel
theorem dX6_jump_29 : decode cX6_jump 29 = .ok (.iload_n 1, 1) := by decide +kernel
theorem dX6_jump_30 : decode cX6_jump 30 = .ok (.invokevirtual 285, 3) := by decide +kernel
theorem dX6_jump_33 : decode cX6_jump 33 = .ok (.istore 5, 2) := by decide +kernel
theorem dX6_jump_35 : decode cX6_jump 35 = .ok (.iconst 0, 1) := by decide +kernel
theorem dX6_jump_36 : decode cX6_jump 36 = .ok (.istore 6, 2) := by decide +kernel
theorem dX6_jump_38 : decode cX6_jump 38 = .ok (.iload 6, 2) := by decide +kernel
theorem dX6_jump_40 : decode cX6_jump 40 = .ok (.bipush 7, 2) := by decide +kernel
theorem dX6_jump_42 : decode cX6_jump 42 = .ok (.if_icmp .ge 68, 3) := by decide +kernel
theorem dX6_jump_45 : decode cX6_jump 45 = .ok (.aload_n 0, 1) := by decide +kernel
theorem dX6_jump_46 : decode cX6_jump 46 = .ok (.iload 6, 2) := by decide +kernel
theorem dX6_jump_48 : decode cX6_jump 48 = .ok (.iconst 1, 1) := by decide +kernel
theorem dX6_jump_49 : decode cX6_jump 49 = .ok (.iadd, 1) := by decide +kernel
theorem dX6_jump_50 : decode cX6_jump 50 = .ok (.iload 6, 2) := by decide +kernel
theorem dX6_jump_52 : decode cX6_jump 52 = .ok (.iconst 1, 1) := by decide +kernel
theorem dX6_jump_53 : decode cX6_jump 53 = .ok (.iadd, 1) := by decide +kernel
theorem dX6_jump_54 : decode cX6_jump 54 = .ok (.iload_n 1, 1) := by decide +kernel
theorem dX6_jump_55 : decode cX6_jump 55 = .ok (.invokevirtual 285, 3) := by decide +kernel
theorem dX6_jump_58 : decode cX6_jump 58 = .ok (.istore 7, 2) := by decide +kernel
theorem dX6_jump_60 : decode cX6_jump 60 = .ok (.iload 5, 2) := by decide +kernel
theorem dX6_jump_62 : decode cX6_jump 62 = .ok (.bipush (-4), 2) := by decide +kernel
theorem dX6_jump_64 : decode cX6_jump 64 = .ok (.if_icmp .eq 36, 3) := by decide +kernel
theorem dX6_jump_67 : decode cX6_jump 67 = .ok (.iload 7, 2) := by decide +kernel
theorem dX6_jump_69 : decode cX6_jump 69 = .ok (.bipush (-4), 2) := by decide +kernel
theorem dX6_jump_71 : decode cX6_jump 71 = .ok (.if_icmp .eq 29, 3) := by decide +kernel
theorem dX6_jump_74 : decode cX6_jump 74 = .ok (.iload 7, 2) := by decide +kernel
theorem dX6_jump_76 : decode cX6_jump 76 = .ok (.iload 5, 2) := by decide +kernel
theorem dX6_jump_78 : decode cX6_jump 78 = .ok (.isub, 1) := by decide +kernel
theorem dX6_jump_79 : decode cX6_jump 79 = .ok (.invokestatic 274, 3) := by decide +kernel
theorem dX6_jump_82 : decode cX6_jump 82 = .ok (.iload 4, 2) := by decide +kernel
theorem dX6_jump_84 : decode cX6_jump 84 = .ok (.if_icmp .le 16, 3) := by decide +kernel
theorem dX6_jump_87 : decode cX6_jump 87 = .ok (.iload 6, 2) := by decide +kernel
theorem dX6_jump_89 : decode cX6_jump 89 = .ok (.istore_n 3, 1) := by decide +kernel
theorem dX6_jump_90 : decode cX6_jump 90 = .ok (.iload 7, 2) := by decide +kernel
theorem dX6_jump_92 : decode cX6_jump 92 = .ok (.iload 5, 2) := by decide +kernel
theorem dX6_jump_94 : decode cX6_jump 94 = .ok (.isub, 1) := by decide +kernel
theorem dX6_jump_95 : decode cX6_jump 95 = .ok (.invokestatic 274, 3) := by decide +kernel
theorem dX6_jump_98 : decode cX6_jump 98 = .ok (.istore 4, 2) := by decide +kernel
theorem dX6_jump_100 : decode cX6_jump 100 = .ok (.iload 7, 2) := by decide +kernel
theorem dX6_jump_102 : decode cX6_jump 102 = .ok (.istore 5, 2) := by decide +kernel
theorem dX6_jump_104 : decode cX6_jump 104 = .ok (.iinc 6 1, 3) := by decide +kernel
theorem dX6_jump_107 : decode cX6_jump 107 = .ok (.goto (-69), 3) := by decide +kernel
theorem dX6_jump_110 : decode cX6_jump 110 = .ok (.iload_n 2, 1) := by decide +kernel
theorem dX6_jump_111 : decode cX6_jump 111 = .ok (.ifCond .ne 7, 3) := by decide +kernel
theorem dX6_jump_114 : decode cX6_jump 114 = .ok (.iload_n 3, 1) := by decide +kernel
theorem dX6_jump_115 : decode cX6_jump 115 = .ok (.goto 5, 3) := by decide +kernel
theorem dX6_jump_118 : decode cX6_jump 118 = .ok (.iload 4, 2) := by decide +kernel
theorem dX6_jump_120 : decode cX6_jump 120 = .ok (.ireturn, 1) := by decide +kernel
set_option maxRecDepth 20000 in
theorem ggX6_partsOfYear_X1_gather : GoodIn wsX6_partsOfYear wsX1_gather := goodIn_r _ [7, 8, 9, 10, 11, 12, 13, 14, 15, 16, 17, 18, 19, 20, 21, 22, 23, 24, 25, 26, 27, 28, 29, 30, 31, 32, 33, 34, 35, 36, 37, 38, 39, 40, 41, 42, 43, 44, 45, 46, 47, 48, 6, 49, 50, 51, 52, 90, 91, 92, 93, 94, 95, 96, 97, 98, 99, 100, 101, 102, 103, 104, 105, 106, 107, 108, 109, 110, 111, 112] (by decide +kernel) (by decide +kernel)
set_option maxRecDepth 20000 in
theorem gX6_partsOfYear_X1_gather : GoodIn wsX6_partsOfYear (wsV RX6 235 RX1 yX1_gather wsX1_gather) := goodIn_app (goodIn_of _ (by decide +kernel)) ggX6_partsOfYear_X1_gather
set_option maxRecDepth 20000 in
theorem ggX6_partsOfYear_X5_topRoom : GoodIn wsX6_partsOfYear wsX5_topRoom := goodIn_r _ [56, 57, 94, 95, 96, 97, 98, 99, 100, 101, 102, 103] (by decide +kernel) (by decide +kernel)
set_option maxRecDepth 20000 in
theorem gX6_partsOfYear_X5_topRoom : GoodIn wsX6_partsOfYear (wsV RX6 244 RX5 yX5_topRoom wsX5_topRoom) := goodIn_app (goodIn_of _ (by decide +kernel)) ggX6_partsOfYear_X5_topRoom
set_option maxRecDepth 20000 in
theorem ggX6_partsOfYear_X1_partsOfTop : GoodIn wsX6_partsOfYear wsX1_partsOfTop := goodIn_r _ [61, 62, 63, 64, 6, 65, 8, 51, 50, 52, 66, 67, 68, 69, 70, 71, 72, 73, 74, 75, 76, 77, 78, 79, 80, 81, 90, 91, 92, 93] (by decide +kernel) (by decide +kernel)
set_option maxRecDepth 20000 in
theorem gX6_partsOfYear_X1_partsOfTop : GoodIn wsX6_partsOfYear (wsV RX6 264 RX1 yX1_partsOfTop wsX1_partsOfTop) := goodIn_app (goodIn_of _ (by decide +kernel)) ggX6_partsOfYear_X1_partsOfTop
theorem dX6_partsOfYear_0 : decode cX6_partsOfYear 0 = .ok (.aload_n 0, 1) := by decide +kernel
theorem dX6_partsOfYear_1 : decode cX6_partsOfYear 1 = .ok (.getfield 22, 3) := by decide +kernel
theorem dX6_partsOfYear_4 : decode cX6_partsOfYear 4 = .ok (.aload_n 0, 1) := by decide +kernel
theorem dX6_partsOfYear_5 : decode cX6_partsOfYear 5 = .ok (.getfield 10, 3) := by decide +kernel
theorem dX6_partsOfYear_8 : decode cX6_partsOfYear 8 = .ok (.iload_n 1, 1) := by decide +kernel
theorem dX6_partsOfYear_9 : decode cX6_partsOfYear 9 = .ok (.iload_n 2, 1) := by decide +kernel
theorem dX6_partsOfYear_10 : decode cX6_partsOfYear 10 = .ok (.invokevirtual 235, 3) := by decide +kernel
theorem dX6_partsOfYear_13 : decode cX6_partsOfYear 13 = .ok (.aload_n 0, 1) := by decide +kernel
theorem dX6_partsOfYear_14 : decode cX6_partsOfYear 14 = .ok (.getfield 22, 3) := by decide +kernel
theorem dX6_partsOfYear_17 : decode cX6_partsOfYear 17 = .ok (.aload_n 0, 1) := by decide +kernel
theorem dX6_partsOfYear_18 : decode cX6_partsOfYear 18 = .ok (.getfield 10, 3) := by decide +kernel
theorem dX6_partsOfYear_21 : decode cX6_partsOfYear 21 = .ok (.iload_n 1, 1) := by decide +kernel
theorem dX6_partsOfYear_22 : decode cX6_partsOfYear 22 = .ok (.iload_n 3, 1) := by decide +kernel
theorem dX6_partsOfYear_23 : decode cX6_partsOfYear 23 = .ok (.invokevirtual 244, 3) := by decide +kernel
theorem dX6_partsOfYear_26 : decode cX6_partsOfYear 26 = .ok (.iconst (-1), 1) := by decide +kernel
theorem dX6_partsOfYear_27 : decode cX6_partsOfYear 27 = .ok (.invokevirtual 264, 3) := by decide +kernel
theorem dX6_partsOfYear_30 : decode cX6_partsOfYear 30 = .ok (.ireturn, 1) := by decide +kernel
set_option maxRecDepth 20000 in
theorem ggX6_alone_X6_isYear : GoodIn wsX6_alone wsX6_isYear := goodIn_r _ [5, 6, 7, 8, 4, 9] (by decide +kernel) (by decide +kernel)
set_option maxRecDepth 20000 in
theorem gX6_alone_X6_isYear : GoodIn wsX6_alone (va_wsS RX6 77 yX6_isYear wsX6_isYear) := goodIn_app (goodIn_of _ (by decide +kernel)) ggX6_alone_X6_isYear
set_option maxRecDepth 20000 in
theorem ggX6_alone_X6_isTop : GoodIn wsX6_alone wsX6_isTop := goodIn_r _ [12, 13, 7, 8, 4, 9] (by decide +kernel) (by decide +kernel)
set_option maxRecDepth 20000 in
theorem gX6_alone_X6_isTop : GoodIn wsX6_alone (va_wsS RX6 232 yX6_isTop wsX6_isTop) := goodIn_app (goodIn_of _ (by decide +kernel)) ggX6_alone_X6_isTop
set_option maxRecDepth 20000 in
theorem ggX6_alone_X6_partsOfYear : GoodIn wsX6_alone wsX6_partsOfYear := goodIn_r _ [17, 18, 19, 20, 21, 22, 23, 24, 25, 26, 27, 28, 29, 30, 31, 32, 33, 34, 35, 36, 37, 38, 39, 40, 41, 42, 43, 44, 45, 46, 47, 48, 49, 50, 51, 52, 53, 54, 55, 56, 57, 58, 59, 60, 61, 62, 63, 64, 65, 66, 67, 68, 69, 70, 71, 72, 73, 74, 75, 76, 77, 78, 79, 80, 81, 82, 83, 84, 85, 86, 87, 88, 89, 90, 91, 92, 4, 93, 94, 95, 96, 97, 101, 102, 103, 104, 105, 106, 107, 108, 109, 110, 111, 112, 113, 114, 115, 116, 117, 118, 119, 120, 121, 122, 123, 124, 125, 126, 127, 128, 129, 130, 131] (by decide +kernel) (by decide +kernel)
set_option maxRecDepth 20000 in
theorem gX6_alone_X6_partsOfYear : GoodIn wsX6_alone (wsV RX6 285 RX6 yX6_partsOfYear wsX6_partsOfYear) := goodIn_app (goodIn_of _ (by decide +kernel)) ggX6_alone_X6_partsOfYear
set_option maxRecDepth 20000 in
theorem ggX6_alone_X6_noneAsZero : GoodIn wsX6_alone wsX6_noneAsZero := goodIn_r _ [100] (by decide +kernel) (by decide +kernel)
set_option maxRecDepth 20000 in
theorem gX6_alone_X6_noneAsZero : GoodIn wsX6_alone (va_wsS RX6 271 yX6_noneAsZero wsX6_noneAsZero) := goodIn_app (goodIn_of _ (by decide +kernel)) ggX6_alone_X6_noneAsZero
theorem dX6_alone_0 : decode cX6_alone 0 = .ok (.iload_n 1, 1) := by decide +kernel
theorem dX6_alone_1 : decode cX6_alone 1 = .ok (.invokestatic 77, 3) := by decide +kernel
theorem dX6_alone_4 : decode cX6_alone 4 = .ok (.ifCond .eq 17, 3) := by decide +kernel
theorem dX6_alone_7 : decode cX6_alone 7 = .ok (.iload_n 2, 1) := by decide +kernel
theorem dX6_alone_8 : decode cX6_alone 8 = .ok (.invokestatic 77, 3) := by decide +kernel
theorem dX6_alone_11 : decode cX6_alone 11 = .ok (.ifCond .eq 10, 3) := by decide +kernel
theorem dX6_alone_14 : decode cX6_alone 14 = .ok (.iload_n 3, 1) := by decide +kernel
theorem dX6_alone_15 : decode cX6_alone 15 = .ok (.invokestatic 232, 3) := by decide +kernel
theorem dX6_alone_18 : decode cX6_alone 18 = .ok (.ifCond .ne 7, 3) := by decide +kernel
theorem dX6_alone_21 : decode cX6_alone 21 = .ok (.ldc2_w 289, 3) := by decide +kernel
theorem dX6_alone_24 : decode cX6_alone 24 = .ok (.lreturn, 1) := by decide +kernel
theorem dX6_alone_25 : decode cX6_alone 25 = .ok (.aload_n 0, 1) := by decide +kernel
theorem dX6_alone_26 : decode cX6_alone 26 = .ok (.iload_n 1, 1) := by decide +kernel
theorem dX6_alone_27 : decode cX6_alone 27 = .ok (.iload_n 2, 1) := by decide +kernel
theorem dX6_alone_28 : decode cX6_alone 28 = .ok (.iload_n 3, 1) := by decide +kernel
theorem dX6_alone_29 : decode cX6_alone 29 = .ok (.invokevirtual 285, 3) := by decide +kernel
theorem dX6_alone_32 : decode cX6_alone 32 = .ok (.invokestatic 271, 3) := by decide +kernel
theorem dX6_alone_35 : decode cX6_alone 35 = .ok (.aload_n 0, 1) := by decide +kernel
theorem dX6_alone_36 : decode cX6_alone 36 = .ok (.iload_n 1, 1) := by decide +kernel
theorem dX6_alone_37 : decode cX6_alone 37 = .ok (.iload_n 1, 1) := by decide +kernel
theorem dX6_alone_38 : decode cX6_alone 38 = .ok (.iload_n 3, 1) := by decide +kernel
theorem dX6_alone_39 : decode cX6_alone 39 = .ok (.invokevirtual 285, 3) := by decide +kernel
theorem dX6_alone_42 : decode cX6_alone 42 = .ok (.invokestatic 271, 3) := by decide +kernel
theorem dX6_alone_45 : decode cX6_alone 45 = .ok (.isub, 1) := by decide +kernel
theorem dX6_alone_46 : decode cX6_alone 46 = .ok (.i2l, 1) := by decide +kernel
theorem dX6_alone_47 : decode cX6_alone 47 = .ok (.lreturn, 1) := by decide +kernel
set_option maxRecDepth 20000 in
theorem ggX6_bounds_X6_isYear : GoodIn wsX6_bounds wsX6_isYear := goodIn_r _ [7, 8, 9, 10, 6, 11] (by decide +kernel) (by decide +kernel)
set_option maxRecDepth 20000 in
theorem gX6_bounds_X6_isYear : GoodIn wsX6_bounds (va_wsS RX6 77 yX6_isYear wsX6_isYear) := goodIn_app (goodIn_of _ (by decide +kernel)) ggX6_bounds_X6_isYear
set_option maxRecDepth 20000 in
theorem ggX6_bounds_X6_isTop : GoodIn wsX6_bounds wsX6_isTop := goodIn_r _ [14, 15, 9, 10, 6, 11] (by decide +kernel) (by decide +kernel)
set_option maxRecDepth 20000 in
theorem gX6_bounds_X6_isTop : GoodIn wsX6_bounds (va_wsS RX6 232 yX6_isTop wsX6_isTop) := goodIn_app (goodIn_of _ (by decide +kernel)) ggX6_bounds_X6_isTop
set_option maxRecDepth 20000 in
theorem ggX6_bounds_X6_isWithin : GoodIn wsX6_bounds wsX6_isWithin := goodIn_r _ [11] (by decide +kernel) (by decide +kernel)
set_option maxRecDepth 20000 in
theorem gX6_bounds_X6_isWithin : GoodIn wsX6_bounds (va_wsS RX6 56 yX6_isWithin wsX6_isWithin) := goodIn_app (goodIn_of _ (by decide +kernel)) ggX6_bounds_X6_isWithin
set_option maxRecDepth 20000 in
theorem ggX6_bounds_X1_gather : GoodIn wsX6_bounds wsX1_gather := goodIn_r _ [20, 21, 22, 23, 24, 25, 26, 27, 28, 29, 30, 31, 32, 33, 34, 35, 36, 37, 38, 39, 40, 41, 42, 43, 44, 45, 46, 47, 48, 49, 50, 51, 52, 53, 54, 55, 56, 57, 58, 59, 60, 61, 19, 62, 63, 64, 65, 111, 112, 113, 114, 115, 116, 117, 118, 119, 120, 121, 122, 123, 124, 125, 126, 127, 128, 129, 130, 131, 132, 133] (by decide +kernel) (by decide +kernel)
set_option maxRecDepth 20000 in
theorem gX6_bounds_X1_gather : GoodIn wsX6_bounds (wsV RX6 235 RX1 yX1_gather wsX1_gather) := goodIn_app (goodIn_of _ (by decide +kernel)) ggX6_bounds_X1_gather
set_option maxRecDepth 20000 in
theorem ggX6_bounds_X5_sumUnseen : GoodIn wsX6_bounds wsX5_sumUnseen := goodIn_r _ [69, 43, 70, 71, 52, 53, 72, 26, 27, 28, 29, 30, 31, 32, 33, 34, 35, 36, 37, 38, 39, 40, 41, 42, 44, 45, 73, 48, 49, 50, 51, 54, 55, 56, 57, 58, 74, 75, 76, 77, 115, 116, 117, 118, 119, 120, 121, 122, 123, 124, 125, 126, 127, 128, 129, 130, 131, 132, 133] (by decide +kernel) (by decide +kernel)
set_option maxRecDepth 20000 in
theorem gX6_bounds_X5_sumUnseen : GoodIn wsX6_bounds (wsV RX6 228 RX5 yX5_sumUnseen wsX5_sumUnseen) := goodIn_app (goodIn_of _ (by decide +kernel)) ggX6_bounds_X5_sumUnseen
set_option maxRecDepth 20000 in
theorem ggX6_bounds_X1_sumAll : GoodIn wsX6_bounds wsX1_sumAll := goodIn_r _ [81, 21, 64, 63, 65, 111, 112, 113, 114] (by decide +kernel) (by decide +kernel)
set_option maxRecDepth 20000 in
theorem gX6_bounds_X1_sumAll : GoodIn wsX6_bounds (wsV RX6 239 RX1 yX1_sumAll wsX1_sumAll) := goodIn_app (goodIn_of _ (by decide +kernel)) ggX6_bounds_X1_sumAll
set_option maxRecDepth 20000 in
theorem ggX6_bounds_X5_topRoom : GoodIn wsX6_bounds wsX5_topRoom := goodIn_r _ [85, 86, 115, 116, 117, 118, 119, 120, 121, 122, 123, 124] (by decide +kernel) (by decide +kernel)
set_option maxRecDepth 20000 in
theorem gX6_bounds_X5_topRoom : GoodIn wsX6_bounds (wsV RX6 244 RX5 yX5_topRoom wsX5_topRoom) := goodIn_app (goodIn_of _ (by decide +kernel)) ggX6_bounds_X5_topRoom
set_option maxRecDepth 20000 in
theorem ggX6_bounds_X1_sumTop : GoodIn wsX6_bounds wsX1_sumTop := goodIn_r _ [90, 21, 64, 91, 65, 92, 93, 94, 95, 63, 111, 112, 113, 114] (by decide +kernel) (by decide +kernel)
set_option maxRecDepth 20000 in
theorem gX6_bounds_X1_sumTop : GoodIn wsX6_bounds (wsV RX6 247 RX1 yX1_sumTop wsX1_sumTop) := goodIn_app (goodIn_of _ (by decide +kernel)) ggX6_bounds_X1_sumTop
set_option maxRecDepth 20000 in
theorem ggX6_bounds_X6_parts : GoodIn wsX6_bounds wsX6_parts := goodIn_r _ [98, 99, 100, 101, 6, 102] (by decide +kernel) (by decide +kernel)
set_option maxRecDepth 20000 in
theorem gX6_bounds_X6_parts : GoodIn wsX6_bounds (va_wsS RX6 253 yX6_parts wsX6_parts) := goodIn_app (goodIn_of _ (by decide +kernel)) ggX6_bounds_X6_parts
theorem dX6_bounds_0 : decode cX6_bounds 0 = .ok (.iload_n 1, 1) := by decide +kernel
theorem dX6_bounds_1 : decode cX6_bounds 1 = .ok (.invokestatic 77, 3) := by decide +kernel
theorem dX6_bounds_4 : decode cX6_bounds 4 = .ok (.ifCond .eq 20, 3) := by decide +kernel
theorem dX6_bounds_7 : decode cX6_bounds 7 = .ok (.iload_n 2, 1) := by decide +kernel
theorem dX6_bounds_8 : decode cX6_bounds 8 = .ok (.invokestatic 232, 3) := by decide +kernel
theorem dX6_bounds_11 : decode cX6_bounds 11 = .ok (.ifCond .eq 13, 3) := by decide +kernel
theorem dX6_bounds_14 : decode cX6_bounds 14 = .ok (.iload_n 3, 1) := by decide +kernel
theorem dX6_bounds_15 : decode cX6_bounds 15 = .ok (.i2l, 1) := by decide +kernel
theorem dX6_bounds_16 : decode cX6_bounds 16 = .ok (.lconst 0, 1) := by decide +kernel
theorem dX6_bounds_17 : decode cX6_bounds 17 = .ok (.lconst 1, 1) := by decide +kernel
theorem dX6_bounds_18 : decode cX6_bounds 18 = .ok (.invokestatic 56, 3) := by decide +kernel
theorem dX6_bounds_21 : decode cX6_bounds 21 = .ok (.ifCond .ne 5, 3) := by decide +kernel
theorem dX6_bounds_24 : decode cX6_bounds 24 = .ok (.iconst (-1), 1) := by decide +kernel
theorem dX6_bounds_25 : decode cX6_bounds 25 = .ok (.ireturn, 1) := by decide +kernel
theorem dX6_bounds_26 : decode cX6_bounds 26 = .ok (.aload_n 0, 1) := by decide +kernel
theorem dX6_bounds_27 : decode cX6_bounds 27 = .ok (.getfield 22, 3) := by decide +kernel
theorem dX6_bounds_30 : decode cX6_bounds 30 = .ok (.aload_n 0, 1) := by decide +kernel
theorem dX6_bounds_31 : decode cX6_bounds 31 = .ok (.getfield 10, 3) := by decide +kernel
theorem dX6_bounds_34 : decode cX6_bounds 34 = .ok (.iload_n 1, 1) := by decide +kernel
theorem dX6_bounds_35 : decode cX6_bounds 35 = .ok (.iload_n 1, 1) := by decide +kernel
theorem dX6_bounds_36 : decode cX6_bounds 36 = .ok (.invokevirtual 235, 3) := by decide +kernel
theorem dX6_bounds_39 : decode cX6_bounds 39 = .ok (.aload_n 0, 1) := by decide +kernel
theorem dX6_bounds_40 : decode cX6_bounds 40 = .ok (.getfield 10, 3) := by decide +kernel
theorem dX6_bounds_43 : decode cX6_bounds 43 = .ok (.iload_n 1, 1) := by decide +kernel
theorem dX6_bounds_44 : decode cX6_bounds 44 = .ok (.invokevirtual 228, 3) := by decide +kernel
theorem dX6_bounds_47 : decode cX6_bounds 47 = .ok (.lstore 4, 2) := by decide +kernel
theorem dX6_bounds_49 : decode cX6_bounds 49 = .ok (.aload_n 0, 1) := by decide +kernel
theorem dX6_bounds_50 : decode cX6_bounds 50 = .ok (.getfield 22, 3) := by decide +kernel
theorem dX6_bounds_53 : decode cX6_bounds 53 = .ok (.iconst (-1), 1) := by decide +kernel
theorem dX6_bounds_54 : decode cX6_bounds 54 = .ok (.invokevirtual 239, 3) := by decide +kernel
theorem dX6_bounds_57 : decode cX6_bounds 57 = .ok (.lload 4, 2) := by decide +kernel
theorem dX6_bounds_59 : decode cX6_bounds 59 = .ok (.ladd, 1) := by decide +kernel
theorem dX6_bounds_60 : decode cX6_bounds 60 = .ok (.lstore 6, 2) := by decide +kernel
theorem dX6_bounds_62 : decode cX6_bounds 62 = .ok (.lload 6, 2) := by decide +kernel
theorem dX6_bounds_64 : decode cX6_bounds 64 = .ok (.lconst 0, 1) := by decide +kernel
theorem dX6_bounds_65 : decode cX6_bounds 65 = .ok (.lcmp, 1) := by decide +kernel
theorem dX6_bounds_66 : decode cX6_bounds 66 = .ok (.ifCond .ne 6, 3) := by decide +kernel
theorem dX6_bounds_69 : decode cX6_bounds 69 = .ok (.bipush (-4), 2) := by decide +kernel
theorem dX6_bounds_71 : decode cX6_bounds 71 = .ok (.ireturn, 1) := by decide +kernel
theorem dX6_bounds_72 : decode cX6_bounds 72 = .ok (.aload_n 0, 1) := by decide +kernel
theorem dX6_bounds_73 : decode cX6_bounds 73 = .ok (.getfield 22, 3) := by decide +kernel
theorem dX6_bounds_76 : decode cX6_bounds 76 = .ok (.aload_n 0, 1) := by decide +kernel
theorem dX6_bounds_77 : decode cX6_bounds 77 = .ok (.getfield 10, 3) := by decide +kernel
theorem dX6_bounds_80 : decode cX6_bounds 80 = .ok (.iload_n 1, 1) := by decide +kernel
theorem dX6_bounds_81 : decode cX6_bounds 81 = .ok (.iload_n 2, 1) := by decide +kernel
theorem dX6_bounds_82 : decode cX6_bounds 82 = .ok (.invokevirtual 244, 3) := by decide +kernel
theorem dX6_bounds_85 : decode cX6_bounds 85 = .ok (.iconst (-1), 1) := by decide +kernel
theorem dX6_bounds_86 : decode cX6_bounds 86 = .ok (.invokevirtual 247, 3) := by decide +kernel
theorem dX6_bounds_89 : decode cX6_bounds 89 = .ok (.lstore 8, 2) := by decide +kernel
theorem dX6_bounds_91 : decode cX6_bounds 91 = .ok (.iload_n 3, 1) := by decide +kernel
theorem dX6_bounds_92 : decode cX6_bounds 92 = .ok (.ifCond .ne 8, 3) := by decide +kernel
theorem dX6_bounds_95 : decode cX6_bounds 95 = .ok (.lload 8, 2) := by decide +kernel
theorem dX6_bounds_97 : decode cX6_bounds 97 = .ok (.goto 12, 3) := by decide +kernel
theorem dX6_bounds_100 : decode cX6_bounds 100 = .ok (.lload 8, 2) := by decide +kernel
theorem dX6_bounds_102 : decode cX6_bounds 102 = .ok (.ldc2_w 251, 3) := by decide +kernel
theorem dX6_bounds_105 : decode cX6_bounds 105 = .ok (.lload 4, 2) := by decide +kernel
theorem dX6_bounds_107 : decode cX6_bounds 107 = .ok (.lmul, 1) := by decide +kernel
theorem dX6_bounds_108 : decode cX6_bounds 108 = .ok (.ladd, 1) := by decide +kernel
theorem dX6_bounds_109 : decode cX6_bounds 109 = .ok (.lload 6, 2) := by decide +kernel
theorem dX6_bounds_111 : decode cX6_bounds 111 = .ok (.invokestatic 253, 3) := by decide +kernel
theorem dX6_bounds_114 : decode cX6_bounds 114 = .ok (.ireturn, 1) := by decide +kernel
set_option maxRecDepth 20000 in
theorem ggX6_heap_X6_isWithin : GoodIn wsX6_heap wsX6_isWithin := goodIn_r _ [13] (by decide +kernel) (by decide +kernel)
set_option maxRecDepth 20000 in
theorem gX6_heap_X6_isWithin : GoodIn wsX6_heap (va_wsS RX6 56 yX6_isWithin wsX6_isWithin) := goodIn_app (goodIn_of _ (by decide +kernel)) ggX6_heap_X6_isWithin
set_option maxRecDepth 20000 in
theorem ggX6_heap_X5_howManyNearLine : GoodIn wsX6_heap wsX5_howManyNearLine := goodIn_r _ [18, 19, 20, 21, 22, 23, 24, 25, 26, 17, 27, 28, 29, 30, 31, 32, 33, 34, 35, 11, 12, 13, 52, 53, 54, 55, 56, 57, 58, 59, 60, 61, 62, 63, 64, 65, 66, 67, 68, 69, 70] (by decide +kernel) (by decide +kernel)
set_option maxRecDepth 20000 in
theorem gX6_heap_X5_howManyNearLine : GoodIn wsX6_heap (wsV RX6 293 RX5 yX5_howManyNearLine wsX5_howManyNearLine) := goodIn_app (goodIn_of _ (by decide +kernel)) ggX6_heap_X5_howManyNearLine
set_option maxRecDepth 20000 in
theorem ggX6_heap_X0_greatestKeen : GoodIn wsX6_heap wsX0_greatestKeen := goodIn_r _ [40, 41, 42, 43, 6, 7, 8, 67, 68, 69, 70] (by decide +kernel) (by decide +kernel)
set_option maxRecDepth 20000 in
theorem gX6_heap_X0_greatestKeen : GoodIn wsX6_heap (wsV RX6 296 RX0 yX0_greatestKeen wsX0_greatestKeen) := goodIn_app (goodIn_of _ (by decide +kernel)) ggX6_heap_X0_greatestKeen
theorem dX6_heap_0 : decode cX6_heap 0 = .ok (.iload_n 1, 1) := by decide +kernel
theorem dX6_heap_1 : decode cX6_heap 1 = .ok (.i2l, 1) := by decide +kernel
theorem dX6_heap_2 : decode cX6_heap 2 = .ok (.lconst 1, 1) := by decide +kernel
theorem dX6_heap_3 : decode cX6_heap 3 = .ok (.ldc2_w 291, 3) := by decide +kernel
theorem dX6_heap_6 : decode cX6_heap 6 = .ok (.invokestatic 56, 3) := by decide +kernel
theorem dX6_heap_9 : decode cX6_heap 9 = .ok (.ifCond .eq 27, 3) := by decide +kernel
theorem dX6_heap_12 : decode cX6_heap 12 = .ok (.iload_n 2, 1) := by decide +kernel
theorem dX6_heap_13 : decode cX6_heap 13 = .ok (.i2l, 1) := by decide +kernel
theorem dX6_heap_14 : decode cX6_heap 14 = .ok (.lconst 1, 1) := by decide +kernel
theorem dX6_heap_15 : decode cX6_heap 15 = .ok (.ldc2_w 202, 3) := by decide +kernel
theorem dX6_heap_18 : decode cX6_heap 18 = .ok (.invokestatic 56, 3) := by decide +kernel
theorem dX6_heap_21 : decode cX6_heap 21 = .ok (.ifCond .eq 15, 3) := by decide +kernel
theorem dX6_heap_24 : decode cX6_heap 24 = .ok (.iload_n 3, 1) := by decide +kernel
theorem dX6_heap_25 : decode cX6_heap 25 = .ok (.i2l, 1) := by decide +kernel
theorem dX6_heap_26 : decode cX6_heap 26 = .ok (.lconst 0, 1) := by decide +kernel
theorem dX6_heap_27 : decode cX6_heap 27 = .ok (.ldc2_w 99, 3) := by decide +kernel
theorem dX6_heap_30 : decode cX6_heap 30 = .ok (.invokestatic 56, 3) := by decide +kernel
theorem dX6_heap_33 : decode cX6_heap 33 = .ok (.ifCond .ne 5, 3) := by decide +kernel
theorem dX6_heap_36 : decode cX6_heap 36 = .ok (.iconst (-1), 1) := by decide +kernel
theorem dX6_heap_37 : decode cX6_heap 37 = .ok (.ireturn, 1) := by decide +kernel
theorem dX6_heap_38 : decode cX6_heap 38 = .ok (.aload_n 0, 1) := by decide +kernel
theorem dX6_heap_39 : decode cX6_heap 39 = .ok (.getfield 10, 3) := by decide +kernel
theorem dX6_heap_42 : decode cX6_heap 42 = .ok (.iload_n 1, 1) := by decide +kernel
theorem dX6_heap_43 : decode cX6_heap 43 = .ok (.iload_n 2, 1) := by decide +kernel
theorem dX6_heap_44 : decode cX6_heap 44 = .ok (.ineg, 1) := by decide +kernel
theorem dX6_heap_45 : decode cX6_heap 45 = .ok (.iconst 0, 1) := by decide +kernel
theorem dX6_heap_46 : decode cX6_heap 46 = .ok (.invokevirtual 293, 3) := by decide +kernel
theorem dX6_heap_49 : decode cX6_heap 49 = .ok (.istore 4, 2) := by decide +kernel
theorem dX6_heap_51 : decode cX6_heap 51 = .ok (.aload_n 0, 1) := by decide +kernel
theorem dX6_heap_52 : decode cX6_heap 52 = .ok (.getfield 10, 3) := by decide +kernel
theorem dX6_heap_55 : decode cX6_heap 55 = .ok (.iload_n 1, 1) := by decide +kernel
theorem dX6_heap_56 : decode cX6_heap 56 = .ok (.iconst 1, 1) := by decide +kernel
theorem dX6_heap_57 : decode cX6_heap 57 = .ok (.iload_n 2, 1) := by decide +kernel
theorem dX6_heap_58 : decode cX6_heap 58 = .ok (.invokevirtual 293, 3) := by decide +kernel
theorem dX6_heap_61 : decode cX6_heap 61 = .ok (.istore 5, 2) := by decide +kernel
theorem dX6_heap_63 : decode cX6_heap 63 = .ok (.iload 4, 2) := by decide +kernel
theorem dX6_heap_65 : decode cX6_heap 65 = .ok (.iload 5, 2) := by decide +kernel
theorem dX6_heap_67 : decode cX6_heap 67 = .ok (.isub, 1) := by decide +kernel
theorem dX6_heap_68 : decode cX6_heap 68 = .ok (.iconst 0, 1) := by decide +kernel
theorem dX6_heap_69 : decode cX6_heap 69 = .ok (.invokestatic 282, 3) := by decide +kernel
theorem dX6_heap_72 : decode cX6_heap 72 = .ok (.istore 6, 2) := by decide +kernel
theorem dX6_heap_74 : decode cX6_heap 74 = .ok (.iload_n 3, 1) := by decide +kernel
theorem dX6_heap_75 : decode cX6_heap 75 = .ok (.tableswitch 46 0 2 #[25, 28, 43], 25) := by decide +kernel
theorem dX6_heap_100 : decode cX6_heap 100 = .ok (.iload 6, 2) := by decide +kernel
theorem dX6_heap_102 : decode cX6_heap 102 = .ok (.ireturn, 1) := by decide +kernel
theorem dX6_heap_103 : decode cX6_heap 103 = .ok (.iload 6, 2) := by decide +kernel
theorem dX6_heap_105 : decode cX6_heap 105 = .ok (.aload_n 0, 1) := by decide +kernel
theorem dX6_heap_106 : decode cX6_heap 106 = .ok (.getfield 10, 3) := by decide +kernel
theorem dX6_heap_109 : decode cX6_heap 109 = .ok (.getfield 149, 3) := by decide +kernel
theorem dX6_heap_112 : decode cX6_heap 112 = .ok (.iload_n 1, 1) := by decide +kernel
theorem dX6_heap_113 : decode cX6_heap 113 = .ok (.invokevirtual 296, 3) := by decide +kernel
theorem dX6_heap_116 : decode cX6_heap 116 = .ok (.imul, 1) := by decide +kernel
theorem dX6_heap_117 : decode cX6_heap 117 = .ok (.ireturn, 1) := by decide +kernel
theorem dX6_heap_118 : decode cX6_heap 118 = .ok (.iload 4, 2) := by decide +kernel
theorem dX6_heap_120 : decode cX6_heap 120 = .ok (.ireturn, 1) := by decide +kernel
theorem dX6_heap_121 : decode cX6_heap 121 = .ok (.iload 5, 2) := by decide +kernel
theorem dX6_heap_123 : decode cX6_heap 123 = .ok (.ireturn, 1) := by decide +kernel
set_option maxRecDepth 20000 in
theorem ggX6_beside_X6_isYear : GoodIn wsX6_beside wsX6_isYear := goodIn_r _ [9, 10, 11, 12, 8, 13] (by decide +kernel) (by decide +kernel)
set_option maxRecDepth 20000 in
theorem gX6_beside_X6_isYear : GoodIn wsX6_beside (va_wsS RX6 77 yX6_isYear wsX6_isYear) := goodIn_app (goodIn_of _ (by decide +kernel)) ggX6_beside_X6_isYear
set_option maxRecDepth 20000 in
theorem ggX6_beside_X6_isWithin : GoodIn wsX6_beside wsX6_isWithin := goodIn_r _ [13] (by decide +kernel) (by decide +kernel)
set_option maxRecDepth 20000 in
theorem gX6_beside_X6_isWithin : GoodIn wsX6_beside (va_wsS RX6 56 yX6_isWithin wsX6_isWithin) := goodIn_app (goodIn_of _ (by decide +kernel)) ggX6_beside_X6_isWithin
theorem dX6_beside_0 : decode cX6_beside 0 = .ok (.iload_n 1, 1) := by decide +kernel
theorem dX6_beside_1 : decode cX6_beside 1 = .ok (.invokestatic 77, 3) := by decide +kernel
theorem dX6_beside_4 : decode cX6_beside 4 = .ok (.ifCond .eq 26, 3) := by decide +kernel
theorem dX6_beside_7 : decode cX6_beside 7 = .ok (.lload_n 2, 1) := by decide +kernel
theorem dX6_beside_8 : decode cX6_beside 8 = .ok (.lconst 0, 1) := by decide +kernel
theorem dX6_beside_9 : decode cX6_beside 9 = .ok (.ldc2_w 299, 3) := by decide +kernel
theorem dX6_beside_12 : decode cX6_beside 12 = .ok (.invokestatic 56, 3) := by decide +kernel
theorem dX6_beside_15 : decode cX6_beside 15 = .ok (.ifCond .eq 15, 3) := by decide +kernel
theorem dX6_beside_18 : decode cX6_beside 18 = .ok (.lload 4, 2) := by decide +kernel
theorem dX6_beside_20 : decode cX6_beside 20 = .ok (.lload_n 2, 1) := by decide +kernel
theorem dX6_beside_21 : decode cX6_beside 21 = .ok (.ldc2_w 299, 3) := by decide +kernel
theorem dX6_beside_24 : decode cX6_beside 24 = .ok (.invokestatic 56, 3) := by decide +kernel
theorem dX6_beside_27 : decode cX6_beside 27 = .ok (.ifCond .ne 5, 3) := by decide +kernel
theorem dX6_beside_30 : decode cX6_beside 30 = .ok (.iconst (-1), 1) := by decide +kernel
theorem dX6_beside_31 : decode cX6_beside 31 = .ok (.ireturn, 1) := by decide +kernel
theorem dX6_beside_32 : decode cX6_beside 32 = .ok (.aload_n 0, 1) := by decide +kernel
theorem dX6_beside_33 : decode cX6_beside 33 = .ok (.getfield 10, 3) := by decide +kernel
theorem dX6_beside_36 : decode cX6_beside 36 = .ok (.getfield 301, 3) := by decide +kernel
theorem dX6_beside_39 : decode cX6_beside 39 = .ok (.iload_n 1, 1) := by decide +kernel
theorem dX6_beside_40 : decode cX6_beside 40 = .ok (.lload_n 2, 1) := by decide +kernel
theorem dX6_beside_41 : decode cX6_beside 41 = .ok (.lastore, 1) := by decide +kernel
theorem dX6_beside_42 : decode cX6_beside 42 = .ok (.aload_n 0, 1) := by decide +kernel
theorem dX6_beside_43 : decode cX6_beside 43 = .ok (.getfield 10, 3) := by decide +kernel
theorem dX6_beside_46 : decode cX6_beside 46 = .ok (.getfield 305, 3) := by decide +kernel
theorem dX6_beside_49 : decode cX6_beside 49 = .ok (.iload_n 1, 1) := by decide +kernel
theorem dX6_beside_50 : decode cX6_beside 50 = .ok (.lload 4, 2) := by decide +kernel
theorem dX6_beside_52 : decode cX6_beside 52 = .ok (.lastore, 1) := by decide +kernel
theorem dX6_beside_53 : decode cX6_beside 53 = .ok (.aload_n 0, 1) := by decide +kernel
theorem dX6_beside_54 : decode cX6_beside 54 = .ok (.getfield 10, 3) := by decide +kernel
theorem dX6_beside_57 : decode cX6_beside 57 = .ok (.dup, 1) := by decide +kernel
theorem dX6_beside_58 : decode cX6_beside 58 = .ok (.getfield 214, 3) := by decide +kernel
theorem dX6_beside_61 : decode cX6_beside 61 = .ok (.iconst 1, 1) := by decide +kernel
theorem dX6_beside_62 : decode cX6_beside 62 = .ok (.iload_n 1, 1) := by decide +kernel
theorem dX6_beside_63 : decode cX6_beside 63 = .ok (.ishl, 1) := by decide +kernel
theorem dX6_beside_64 : decode cX6_beside 64 = .ok (.ior, 1) := by decide +kernel
theorem dX6_beside_65 : decode cX6_beside 65 = .ok (.putfield 214, 3) := by decide +kernel
theorem dX6_beside_68 : decode cX6_beside 68 = .ok (.iconst 1, 1) := by decide +kernel
theorem dX6_beside_69 : decode cX6_beside 69 = .ok (.ireturn, 1) := by decide +kernel
set_option maxRecDepth 20000 in
theorem ggX6_fights_X5_isFighting : GoodIn wsX6_fights wsX5_isFighting := goodIn_r _ [7, 8, 9, 10, 11, 12, 6, 13, 14, 15, 16, 17, 18, 19, 20, 21, 22, 23, 24, 25, 26, 27, 28, 29, 30, 31, 32, 33, 34, 35, 36, 37, 38, 39, 40, 41, 42, 43, 44, 45, 46, 47, 48, 49, 50, 51, 52, 53, 54, 55, 64, 65, 66, 67, 68, 69, 70, 71, 72, 73, 74, 75, 76, 77, 78, 79, 80, 81, 82] (by decide +kernel) (by decide +kernel)
set_option maxRecDepth 20000 in
theorem gX6_fights_X5_isFighting : GoodIn wsX6_fights (wsV RX6 308 RX5 yX5_isFighting wsX5_isFighting) := goodIn_app (goodIn_of _ (by decide +kernel)) ggX6_fights_X5_isFighting
theorem dX6_fights_0 : decode cX6_fights 0 = .ok (.iconst 0, 1) := by decide +kernel
theorem dX6_fights_1 : decode cX6_fights 1 = .ok (.istore_n 1, 1) := by decide +kernel
theorem dX6_fights_2 : decode cX6_fights 2 = .ok (.iconst 0, 1) := by decide +kernel
theorem dX6_fights_3 : decode cX6_fights 3 = .ok (.istore_n 2, 1) := by decide +kernel
theorem dX6_fights_4 : decode cX6_fights 4 = .ok (.iload_n 2, 1) := by decide +kernel
theorem dX6_fights_5 : decode cX6_fights 5 = .ok (.bipush 8, 2) := by decide +kernel
theorem dX6_fights_7 : decode cX6_fights 7 = .ok (.if_icmp .ge 41, 3) := by decide +kernel
theorem dX6_fights_10 : decode cX6_fights 10 = .ok (.aload_n 0, 1) := by decide +kernel
theorem dX6_fights_11 : decode cX6_fights 11 = .ok (.getfield 10, 3) := by decide +kernel
theorem dX6_fights_14 : decode cX6_fights 14 = .ok (.getfield 214, 3) := by decide +kernel
theorem dX6_fights_17 : decode cX6_fights 17 = .ok (.iload_n 2, 1) := by decide +kernel
theorem dX6_fights_18 : decode cX6_fights 18 = .ok (.ishr, 1) := by decide +kernel
theorem dX6_fights_19 : decode cX6_fights 19 = .ok (.iconst 1, 1) := by decide +kernel
theorem dX6_fights_20 : decode cX6_fights 20 = .ok (.iand, 1) := by decide +kernel
theorem dX6_fights_21 : decode cX6_fights 21 = .ok (.iconst 1, 1) := by decide +kernel
theorem dX6_fights_22 : decode cX6_fights 22 = .ok (.if_icmp .ne 20, 3) := by decide +kernel
theorem dX6_fights_25 : decode cX6_fights 25 = .ok (.aload_n 0, 1) := by decide +kernel
theorem dX6_fights_26 : decode cX6_fights 26 = .ok (.getfield 10, 3) := by decide +kernel
theorem dX6_fights_29 : decode cX6_fights 29 = .ok (.iload_n 2, 1) := by decide +kernel
theorem dX6_fights_30 : decode cX6_fights 30 = .ok (.invokevirtual 308, 3) := by decide +kernel
theorem dX6_fights_33 : decode cX6_fights 33 = .ok (.ifCond .eq 9, 3) := by decide +kernel
theorem dX6_fights_36 : decode cX6_fights 36 = .ok (.iload_n 1, 1) := by decide +kernel
theorem dX6_fights_37 : decode cX6_fights 37 = .ok (.iconst 1, 1) := by decide +kernel
theorem dX6_fights_38 : decode cX6_fights 38 = .ok (.iload_n 2, 1) := by decide +kernel
theorem dX6_fights_39 : decode cX6_fights 39 = .ok (.ishl, 1) := by decide +kernel
theorem dX6_fights_40 : decode cX6_fights 40 = .ok (.ior, 1) := by decide +kernel
theorem dX6_fights_41 : decode cX6_fights 41 = .ok (.istore_n 1, 1) := by decide +kernel
theorem dX6_fights_42 : decode cX6_fights 42 = .ok (.iinc 2 1, 3) := by decide +kernel
theorem dX6_fights_45 : decode cX6_fights 45 = .ok (.goto (-41), 3) := by decide +kernel
theorem dX6_fights_48 : decode cX6_fights 48 = .ok (.iload_n 1, 1) := by decide +kernel
theorem dX6_fights_49 : decode cX6_fights 49 = .ok (.ireturn, 1) := by decide +kernel
set_option maxRecDepth 20000 in
theorem ggX6_fall_X6_isYear : GoodIn wsX6_fall wsX6_isYear := goodIn_r _ [8, 9, 10, 11, 7, 12] (by decide +kernel) (by decide +kernel)
set_option maxRecDepth 20000 in
theorem gX6_fall_X6_isYear : GoodIn wsX6_fall (va_wsS RX6 77 yX6_isYear wsX6_isYear) := goodIn_app (goodIn_of _ (by decide +kernel)) ggX6_fall_X6_isYear
set_option maxRecDepth 20000 in
theorem ggX6_fall_X6_isWithin : GoodIn wsX6_fall wsX6_isWithin := goodIn_r _ [12] (by decide +kernel) (by decide +kernel)
set_option maxRecDepth 20000 in
theorem gX6_fall_X6_isWithin : GoodIn wsX6_fall (va_wsS RX6 56 yX6_isWithin wsX6_isWithin) := goodIn_app (goodIn_of _ (by decide +kernel)) ggX6_fall_X6_isWithin
set_option maxRecDepth 20000 in
theorem ggX6_fall_X5_sumSworn : GoodIn wsX6_fall wsX5_sumSworn := goodIn_r _ [17, 18, 19, 20, 21, 22, 23, 16, 24, 25, 26, 27, 28, 29, 30, 31, 32, 33, 34, 35, 36, 37, 38, 39, 40, 41, 42, 43, 44, 45, 46, 47, 48, 49, 50, 51, 63, 64, 65, 66, 67, 68, 69, 70, 71, 72, 73, 74, 75, 76, 77, 78, 79, 80, 81] (by decide +kernel) (by decide +kernel)
set_option maxRecDepth 20000 in
theorem gX6_fall_X5_sumSworn : GoodIn wsX6_fall (wsV RX6 222 RX5 yX5_sumSworn wsX5_sumSworn) := goodIn_app (goodIn_of _ (by decide +kernel)) ggX6_fall_X5_sumSworn
set_option maxRecDepth 20000 in
theorem ggX6_fall_X6_divided : GoodIn wsX6_fall wsX6_divided := goodIn_r _ [54] (by decide +kernel) (by decide +kernel)
set_option maxRecDepth 20000 in
theorem gX6_fall_X6_divided : GoodIn wsX6_fall (va_wsS RX6 261 yX6_divided wsX6_divided) := goodIn_app (goodIn_of _ (by decide +kernel)) ggX6_fall_X6_divided
theorem dX6_fall_0 : decode cX6_fall 0 = .ok (.iload_n 1, 1) := by decide +kernel
theorem dX6_fall_1 : decode cX6_fall 1 = .ok (.invokestatic 77, 3) := by decide +kernel
theorem dX6_fall_4 : decode cX6_fall 4 = .ok (.ifCond .eq 27, 3) := by decide +kernel
theorem dX6_fall_7 : decode cX6_fall 7 = .ok (.iload_n 2, 1) := by decide +kernel
theorem dX6_fall_8 : decode cX6_fall 8 = .ok (.invokestatic 77, 3) := by decide +kernel
theorem dX6_fall_11 : decode cX6_fall 11 = .ok (.ifCond .eq 20, 3) := by decide +kernel
theorem dX6_fall_14 : decode cX6_fall 14 = .ok (.iload_n 1, 1) := by decide +kernel
theorem dX6_fall_15 : decode cX6_fall 15 = .ok (.iload_n 2, 1) := by decide +kernel
theorem dX6_fall_16 : decode cX6_fall 16 = .ok (.if_icmp .eq 15, 3) := by decide +kernel
theorem dX6_fall_19 : decode cX6_fall 19 = .ok (.iload_n 3, 1) := by decide +kernel
theorem dX6_fall_20 : decode cX6_fall 20 = .ok (.i2l, 1) := by decide +kernel
theorem dX6_fall_21 : decode cX6_fall 21 = .ok (.lconst 0, 1) := by decide +kernel
theorem dX6_fall_22 : decode cX6_fall 22 = .ok (.ldc2_w 195, 3) := by decide +kernel
theorem dX6_fall_25 : decode cX6_fall 25 = .ok (.invokestatic 56, 3) := by decide +kernel
theorem dX6_fall_28 : decode cX6_fall 28 = .ok (.ifCond .ne 7, 3) := by decide +kernel
theorem dX6_fall_31 : decode cX6_fall 31 = .ok (.ldc2_w 289, 3) := by decide +kernel
theorem dX6_fall_34 : decode cX6_fall 34 = .ok (.lreturn, 1) := by decide +kernel
theorem dX6_fall_35 : decode cX6_fall 35 = .ok (.aload_n 0, 1) := by decide +kernel
theorem dX6_fall_36 : decode cX6_fall 36 = .ok (.getfield 10, 3) := by decide +kernel
theorem dX6_fall_39 : decode cX6_fall 39 = .ok (.iload_n 1, 1) := by decide +kernel
theorem dX6_fall_40 : decode cX6_fall 40 = .ok (.iload_n 1, 1) := by decide +kernel
theorem dX6_fall_41 : decode cX6_fall 41 = .ok (.invokevirtual 222, 3) := by decide +kernel
theorem dX6_fall_44 : decode cX6_fall 44 = .ok (.lstore 4, 2) := by decide +kernel
theorem dX6_fall_46 : decode cX6_fall 46 = .ok (.aload_n 0, 1) := by decide +kernel
theorem dX6_fall_47 : decode cX6_fall 47 = .ok (.getfield 10, 3) := by decide +kernel
theorem dX6_fall_50 : decode cX6_fall 50 = .ok (.iload_n 1, 1) := by decide +kernel
theorem dX6_fall_51 : decode cX6_fall 51 = .ok (.iload_n 2, 1) := by decide +kernel
theorem dX6_fall_52 : decode cX6_fall 52 = .ok (.invokevirtual 222, 3) := by decide +kernel
theorem dX6_fall_55 : decode cX6_fall 55 = .ok (.lstore 6, 2) := by decide +kernel
theorem dX6_fall_57 : decode cX6_fall 57 = .ok (.lload 6, 2) := by decide +kernel
theorem dX6_fall_59 : decode cX6_fall 59 = .ok (.aload_n 0, 1) := by decide +kernel
theorem dX6_fall_60 : decode cX6_fall 60 = .ok (.getfield 10, 3) := by decide +kernel
theorem dX6_fall_63 : decode cX6_fall 63 = .ok (.getfield 204, 3) := by decide +kernel
theorem dX6_fall_66 : decode cX6_fall 66 = .ok (.iload_n 2, 1) := by decide +kernel
theorem dX6_fall_67 : decode cX6_fall 67 = .ok (.iaload, 1) := by decide +kernel
theorem dX6_fall_68 : decode cX6_fall 68 = .ok (.i2l, 1) := by decide +kernel
theorem dX6_fall_69 : decode cX6_fall 69 = .ok (.lmul, 1) := by decide +kernel
theorem dX6_fall_70 : decode cX6_fall 70 = .ok (.aload_n 0, 1) := by decide +kernel
theorem dX6_fall_71 : decode cX6_fall 71 = .ok (.getfield 10, 3) := by decide +kernel
theorem dX6_fall_74 : decode cX6_fall 74 = .ok (.getfield 204, 3) := by decide +kernel
theorem dX6_fall_77 : decode cX6_fall 77 = .ok (.iload_n 1, 1) := by decide +kernel
theorem dX6_fall_78 : decode cX6_fall 78 = .ok (.iaload, 1) := by decide +kernel
theorem dX6_fall_79 : decode cX6_fall 79 = .ok (.i2l, 1) := by decide +kernel
theorem dX6_fall_80 : decode cX6_fall 80 = .ok (.invokestatic 261, 3) := by decide +kernel
theorem dX6_fall_83 : decode cX6_fall 83 = .ok (.lstore 8, 2) := by decide +kernel
theorem dX6_fall_85 : decode cX6_fall 85 = .ok (.iload_n 3, 1) := by decide +kernel
theorem dX6_fall_86 : decode cX6_fall 86 = .ok (.lookupswitch 38 #[(0, 26), (1, 32)], 26) := by decide +kernel
theorem dX6_fall_112 : decode cX6_fall 112 = .ok (.lload 6, 2) := by decide +kernel
theorem dX6_fall_114 : decode cX6_fall 114 = .ok (.lload 4, 2) := by decide +kernel
theorem dX6_fall_116 : decode cX6_fall 116 = .ok (.lsub, 1) := by decide +kernel
theorem dX6_fall_117 : decode cX6_fall 117 = .ok (.lreturn, 1) := by decide +kernel
theorem dX6_fall_118 : decode cX6_fall 118 = .ok (.lload 8, 2) := by decide +kernel
theorem dX6_fall_120 : decode cX6_fall 120 = .ok (.lload 6, 2) := by decide +kernel
theorem dX6_fall_122 : decode cX6_fall 122 = .ok (.lsub, 1) := by decide +kernel
theorem dX6_fall_123 : decode cX6_fall 123 = .ok (.lreturn, 1) := by decide +kernel
theorem dX6_fall_124 : decode cX6_fall 124 = .ok (.aload_n 0, 1) := by decide +kernel
theorem dX6_fall_125 : decode cX6_fall 125 = .ok (.getfield 10, 3) := by decide +kernel
theorem dX6_fall_128 : decode cX6_fall 128 = .ok (.iload_n 2, 1) := by decide +kernel
theorem dX6_fall_129 : decode cX6_fall 129 = .ok (.iload_n 2, 1) := by decide +kernel
theorem dX6_fall_130 : decode cX6_fall 130 = .ok (.invokevirtual 222, 3) := by decide +kernel
theorem dX6_fall_133 : decode cX6_fall 133 = .ok (.lload 8, 2) := by decide +kernel
theorem dX6_fall_135 : decode cX6_fall 135 = .ok (.lsub, 1) := by decide +kernel
theorem dX6_fall_136 : decode cX6_fall 136 = .ok (.lreturn, 1) := by decide +kernel
set_option maxRecDepth 20000 in
theorem ggX6_image_X5_takeFrom : GoodIn wsX6_image wsX5_takeFrom := goodIn_r _ [8, 9, 10, 11, 12, 13, 14, 15, 16, 17, 18, 19, 20, 21, 22, 23, 24, 25, 26, 27, 28, 29, 30, 31, 32, 33, 34, 35, 36, 37, 38, 39, 40, 41, 42, 43, 44, 45, 46, 47, 56, 57, 58, 59, 60, 61, 62, 63, 64, 65, 66, 67, 68, 69, 70, 71, 72, 73, 74] (by decide +kernel) (by decide +kernel)
set_option maxRecDepth 20000 in
theorem gX6_image_X5_takeFrom : GoodIn wsX6_image (wsV RX6 311 RX5 yX5_takeFrom wsX5_takeFrom) := goodIn_app (goodIn_of _ (by decide +kernel)) ggX6_image_X5_takeFrom
theorem dX6_image_0 : decode cX6_image 0 = .ok (.aload_n 0, 1) := by decide +kernel
theorem dX6_image_1 : decode cX6_image 1 = .ok (.getfield 16, 3) := by decide +kernel
theorem dX6_image_4 : decode cX6_image 4 = .ok (.aload_n 0, 1) := by decide +kernel
theorem dX6_image_5 : decode cX6_image 5 = .ok (.getfield 10, 3) := by decide +kernel
theorem dX6_image_8 : decode cX6_image 8 = .ok (.invokevirtual 311, 3) := by decide +kernel
theorem dX6_image_11 : decode cX6_image 11 = .ok (.aload_n 0, 1) := by decide +kernel
theorem dX6_image_12 : decode cX6_image 12 = .ok (.iconst 1, 1) := by decide +kernel
theorem dX6_image_13 : decode cX6_image 13 = .ok (.putfield 314, 3) := by decide +kernel
theorem dX6_image_16 : decode cX6_image 16 = .ok (.iconst 1, 1) := by decide +kernel
theorem dX6_image_17 : decode cX6_image 17 = .ok (.ireturn, 1) := by decide +kernel
set_option maxRecDepth 20000 in
theorem ggX6_restore_X5_takeFrom : GoodIn wsX6_restore wsX5_takeFrom := goodIn_r _ [8, 9, 10, 11, 12, 13, 14, 15, 16, 17, 18, 19, 20, 21, 22, 23, 24, 25, 26, 27, 28, 29, 30, 31, 32, 33, 34, 35, 36, 37, 38, 39, 40, 41, 42, 43, 44, 45, 46, 47, 56, 57, 58, 59, 60, 61, 62, 63, 64, 65, 66, 67, 68, 69, 70, 71, 72, 73, 74] (by decide +kernel) (by decide +kernel)
set_option maxRecDepth 20000 in
theorem gX6_restore_X5_takeFrom : GoodIn wsX6_restore (wsV RX6 311 RX5 yX5_takeFrom wsX5_takeFrom) := goodIn_app (goodIn_of _ (by decide +kernel)) ggX6_restore_X5_takeFrom
theorem dX6_restore_0 : decode cX6_restore 0 = .ok (.aload_n 0, 1) := by decide +kernel
theorem dX6_restore_1 : decode cX6_restore 1 = .ok (.getfield 314, 3) := by decide +kernel
theorem dX6_restore_4 : decode cX6_restore 4 = .ok (.ifCond .ne 6, 3) := by decide +kernel
theorem dX6_restore_7 : decode cX6_restore 7 = .ok (.bipush (-4), 2) := by decide +kernel
theorem dX6_restore_9 : decode cX6_restore 9 = .ok (.ireturn, 1) := by decide +kernel
theorem dX6_restore_10 : decode cX6_restore 10 = .ok (.aload_n 0, 1) := by decide +kernel
theorem dX6_restore_11 : decode cX6_restore 11 = .ok (.getfield 10, 3) := by decide +kernel
theorem dX6_restore_14 : decode cX6_restore 14 = .ok (.aload_n 0, 1) := by decide +kernel
theorem dX6_restore_15 : decode cX6_restore 15 = .ok (.getfield 16, 3) := by decide +kernel
theorem dX6_restore_18 : decode cX6_restore 18 = .ok (.invokevirtual 311, 3) := by decide +kernel
theorem dX6_restore_21 : decode cX6_restore 21 = .ok (.iconst 1, 1) := by decide +kernel
theorem dX6_restore_22 : decode cX6_restore 22 = .ok (.ireturn, 1) := by decide +kernel
set_option maxRecDepth 20000 in
theorem ggX6_book_X6_isYear : GoodIn wsX6_book wsX6_isYear := goodIn_r _ [9, 10, 11, 12, 8, 13] (by decide +kernel) (by decide +kernel)
set_option maxRecDepth 20000 in
theorem gX6_book_X6_isYear : GoodIn wsX6_book (va_wsS RX6 77 yX6_isYear wsX6_isYear) := goodIn_app (goodIn_of _ (by decide +kernel)) ggX6_book_X6_isYear
set_option maxRecDepth 20000 in
theorem ggX6_book_X6_isSheet : GoodIn wsX6_book wsX6_isSheet := goodIn_r _ [16, 17, 11, 12, 8, 13] (by decide +kernel) (by decide +kernel)
set_option maxRecDepth 20000 in
theorem gX6_book_X6_isSheet : GoodIn wsX6_book (va_wsS RX6 318 yX6_isSheet wsX6_isSheet) := goodIn_app (goodIn_of _ (by decide +kernel)) ggX6_book_X6_isSheet
set_option maxRecDepth 20000 in
theorem ggX6_book_X6_isLane : GoodIn wsX6_book wsX6_isLane := goodIn_r _ [20, 21, 11, 12, 8, 13] (by decide +kernel) (by decide +kernel)
set_option maxRecDepth 20000 in
theorem gX6_book_X6_isLane : GoodIn wsX6_book (va_wsS RX6 321 yX6_isLane wsX6_isLane) := goodIn_app (goodIn_of _ (by decide +kernel)) ggX6_book_X6_isLane
set_option maxRecDepth 20000 in
theorem ggX6_book_X5_howManyInBook : GoodIn wsX6_book wsX5_howManyInBook := goodIn_r _ [26, 27, 28, 29, 30, 31, 32, 25, 33, 34, 35, 36, 37, 38, 39, 40, 41, 42, 43, 44, 45, 46, 47, 48, 82, 83, 84, 85, 86, 87, 88, 89, 90, 91, 92, 93, 94, 95, 96, 97, 98, 99, 100] (by decide +kernel) (by decide +kernel)
set_option maxRecDepth 20000 in
theorem gX6_book_X5_howManyInBook : GoodIn wsX6_book (wsV RX6 324 RX5 yX5_howManyInBook wsX5_howManyInBook) := goodIn_app (goodIn_of _ (by decide +kernel)) ggX6_book_X5_howManyInBook
set_option maxRecDepth 20000 in
theorem ggX6_book_X2_refusal : GoodIn wsX6_book wsX2_refusal := goodIn_r _ [53, 54, 55, 56, 57, 52, 58, 59, 60, 61, 62, 63, 101, 102, 103] (by decide +kernel) (by decide +kernel)
set_option maxRecDepth 20000 in
theorem gX6_book_X2_refusal : GoodIn wsX6_book (wsV RX6 327 RX2 yX2_refusal wsX2_refusal) := goodIn_app (goodIn_of _ (by decide +kernel)) ggX6_book_X2_refusal
set_option maxRecDepth 20000 in
theorem ggX6_book_X5_isInBook : GoodIn wsX6_book wsX5_isInBook := goodIn_r _ [33, 34, 35, 36, 37, 38, 25, 39, 40, 41, 42, 43, 44, 45, 46, 27, 47, 48, 82, 83, 84, 85, 86, 87, 88, 89, 90, 91, 97, 98, 99, 100, 92, 93, 94, 95, 96] (by decide +kernel) (by decide +kernel)
set_option maxRecDepth 20000 in
theorem gX6_book_X5_isInBook : GoodIn wsX6_book (wsV RX6 120 RX5 yX5_isInBook wsX5_isInBook) := goodIn_app (goodIn_of _ (by decide +kernel)) ggX6_book_X5_isInBook
set_option maxRecDepth 20000 in
theorem ggX6_book_X5_sworn : GoodIn wsX6_book wsX5_sworn := goodIn_r _ [39, 34, 40, 41, 42, 43, 44, 25, 45, 46, 27, 47, 48, 82, 83, 84, 85, 86, 87, 88, 89, 90, 91, 97, 98, 99, 100, 92, 93, 94, 95, 96] (by decide +kernel) (by decide +kernel)
set_option maxRecDepth 20000 in
theorem gX6_book_X5_sworn : GoodIn wsX6_book (wsV RX6 117 RX5 yX5_sworn wsX5_sworn) := goodIn_app (goodIn_of _ (by decide +kernel)) ggX6_book_X5_sworn
set_option maxRecDepth 20000 in
theorem ggX6_book_X2_put : GoodIn wsX6_book wsX2_put := goodIn_r _ [69, 70, 54, 59, 60, 61, 52, 62, 63, 71, 72, 73, 101, 102, 103] (by decide +kernel) (by decide +kernel)
set_option maxRecDepth 20000 in
theorem gX6_book_X2_put : GoodIn wsX6_book (wsV RX6 331 RX2 yX2_put wsX2_put) := goodIn_app (goodIn_of _ (by decide +kernel)) ggX6_book_X2_put
theorem dX6_book_0 : decode cX6_book 0 = .ok (.iload_n 1, 1) := by decide +kernel
theorem dX6_book_1 : decode cX6_book 1 = .ok (.invokestatic 77, 3) := by decide +kernel
theorem dX6_book_4 : decode cX6_book 4 = .ok (.ifCond .eq 17, 3) := by decide +kernel
theorem dX6_book_7 : decode cX6_book 7 = .ok (.iload_n 2, 1) := by decide +kernel
theorem dX6_book_8 : decode cX6_book 8 = .ok (.invokestatic 318, 3) := by decide +kernel
theorem dX6_book_11 : decode cX6_book 11 = .ok (.ifCond .eq 10, 3) := by decide +kernel
theorem dX6_book_14 : decode cX6_book 14 = .ok (.iload_n 3, 1) := by decide +kernel
theorem dX6_book_15 : decode cX6_book 15 = .ok (.invokestatic 321, 3) := by decide +kernel
theorem dX6_book_18 : decode cX6_book 18 = .ok (.ifCond .ne 5, 3) := by decide +kernel
theorem dX6_book_21 : decode cX6_book 21 = .ok (.iconst (-1), 1) := by decide +kernel
theorem dX6_book_22 : decode cX6_book 22 = .ok (.ireturn, 1) := by decide +kernel
theorem dX6_book_23 : decode cX6_book 23 = .ok (.aload_n 0, 1) := by decide +kernel
theorem dX6_book_24 : decode cX6_book 24 = .ok (.getfield 10, 3) := by decide +kernel
theorem dX6_book_27 : decode cX6_book 27 = .ok (.iload_n 1, 1) := by decide +kernel
theorem dX6_book_28 : decode cX6_book 28 = .ok (.invokevirtual 324, 3) := by decide +kernel
theorem dX6_book_31 : decode cX6_book 31 = .ok (.istore 5, 2) := by decide +kernel
theorem dX6_book_33 : decode cX6_book 33 = .ok (.aload_n 0, 1) := by decide +kernel
theorem dX6_book_34 : decode cX6_book 34 = .ok (.getfield 50, 3) := by decide +kernel
theorem dX6_book_37 : decode cX6_book 37 = .ok (.iload_n 2, 1) := by decide +kernel
theorem dX6_book_38 : decode cX6_book 38 = .ok (.iload_n 3, 1) := by decide +kernel
theorem dX6_book_39 : decode cX6_book 39 = .ok (.iload 4, 2) := by decide +kernel
theorem dX6_book_41 : decode cX6_book 41 = .ok (.iload 5, 2) := by decide +kernel
theorem dX6_book_43 : decode cX6_book 43 = .ok (.invokevirtual 327, 3) := by decide +kernel
theorem dX6_book_46 : decode cX6_book 46 = .ok (.istore 6, 2) := by decide +kernel
theorem dX6_book_48 : decode cX6_book 48 = .ok (.iload 6, 2) := by decide +kernel
theorem dX6_book_50 : decode cX6_book 50 = .ok (.ifCond .eq 6, 3) := by decide +kernel
theorem dX6_book_53 : decode cX6_book 53 = .ok (.iload 6, 2) := by decide +kernel
theorem dX6_book_55 : decode cX6_book 55 = .ok (.ireturn, 1) := by decide +kernel
theorem dX6_book_56 : decode cX6_book 56 = .ok (.iload 4, 2) := by decide +kernel
theorem dX6_book_58 : decode cX6_book 58 = .ok (.istore 7, 2) := by decide +kernel
theorem dX6_book_60 : decode cX6_book 60 = .ok (.iconst 0, 1) := by decide +kernel
theorem dX6_book_61 : decode cX6_book 61 = .ok (.istore 8, 2) := by decide +kernel
theorem dX6_book_63 : decode cX6_book 63 = .ok (.iload 8, 2) := by decide +kernel
theorem dX6_book_65 : decode cX6_book 65 = .ok (.aload_n 0, 1) := by decide +kernel
theorem dX6_book_66 : decode cX6_book 66 = .ok (.getfield 10, 3) := by decide +kernel
theorem dX6_book_69 : decode cX6_book 69 = .ok (.getfield 83, 3) := by decide +kernel
theorem dX6_book_72 : decode cX6_book 72 = .ok (.getfield 93, 3) := by decide +kernel
theorem dX6_book_75 : decode cX6_book 75 = .ok (.if_icmp .ge 62, 3) := by decide +kernel
theorem dX6_book_78 : decode cX6_book 78 = .ok (.aload_n 0, 1) := by decide +kernel
theorem dX6_book_79 : decode cX6_book 79 = .ok (.getfield 10, 3) := by decide +kernel
theorem dX6_book_82 : decode cX6_book 82 = .ok (.getfield 83, 3) := by decide +kernel
theorem dX6_book_85 : decode cX6_book 85 = .ok (.getfield 104, 3) := by decide +kernel
theorem dX6_book_88 : decode cX6_book 88 = .ok (.iload 8, 2) := by decide +kernel
theorem dX6_book_90 : decode cX6_book 90 = .ok (.iaload, 1) := by decide +kernel
theorem dX6_book_91 : decode cX6_book 91 = .ok (.iload_n 1, 1) := by decide +kernel
theorem dX6_book_92 : decode cX6_book 92 = .ok (.if_icmp .ne 39, 3) := by decide +kernel
theorem dX6_book_95 : decode cX6_book 95 = .ok (.aload_n 0, 1) := by decide +kernel
theorem dX6_book_96 : decode cX6_book 96 = .ok (.getfield 10, 3) := by decide +kernel
theorem dX6_book_99 : decode cX6_book 99 = .ok (.iload 8, 2) := by decide +kernel
theorem dX6_book_101 : decode cX6_book 101 = .ok (.iload_n 1, 1) := by decide +kernel
theorem dX6_book_102 : decode cX6_book 102 = .ok (.invokevirtual 120, 3) := by decide +kernel
theorem dX6_book_105 : decode cX6_book 105 = .ok (.ifCond .eq 26, 3) := by decide +kernel
theorem dX6_book_108 : decode cX6_book 108 = .ok (.aload_n 0, 1) := by decide +kernel
theorem dX6_book_109 : decode cX6_book 109 = .ok (.getfield 50, 3) := by decide +kernel
theorem dX6_book_112 : decode cX6_book 112 = .ok (.iload_n 2, 1) := by decide +kernel
theorem dX6_book_113 : decode cX6_book 113 = .ok (.iload 7, 2) := by decide +kernel
theorem dX6_book_115 : decode cX6_book 115 = .ok (.aload_n 0, 1) := by decide +kernel
theorem dX6_book_116 : decode cX6_book 116 = .ok (.getfield 10, 3) := by decide +kernel
theorem dX6_book_119 : decode cX6_book 119 = .ok (.iload 8, 2) := by decide +kernel
theorem dX6_book_121 : decode cX6_book 121 = .ok (.iload_n 1, 1) := by decide +kernel
theorem dX6_book_122 : decode cX6_book 122 = .ok (.invokevirtual 117, 3) := by decide +kernel
theorem dX6_book_125 : decode cX6_book 125 = .ok (.invokevirtual 331, 3) := by decide +kernel
theorem dX6_book_128 : decode cX6_book 128 = .ok (.iinc 7 1, 3) := by decide +kernel
theorem dX6_book_131 : decode cX6_book 131 = .ok (.iinc 8 1, 3) := by decide +kernel
theorem dX6_book_134 : decode cX6_book 134 = .ok (.goto (-71), 3) := by decide +kernel
theorem dX6_book_137 : decode cX6_book 137 = .ok (.iload 5, 2) := by decide +kernel
theorem dX6_book_139 : decode cX6_book 139 = .ok (.ireturn, 1) := by decide +kernel
set_option maxRecDepth 20000 in
theorem ggX6_crowds_X6_isSheet : GoodIn wsX6_crowds wsX6_isSheet := goodIn_r _ [8, 9, 10, 11, 7, 12] (by decide +kernel) (by decide +kernel)
set_option maxRecDepth 20000 in
theorem gX6_crowds_X6_isSheet : GoodIn wsX6_crowds (va_wsS RX6 318 yX6_isSheet wsX6_isSheet) := goodIn_app (goodIn_of _ (by decide +kernel)) ggX6_crowds_X6_isSheet
set_option maxRecDepth 20000 in
theorem ggX6_crowds_X6_isLane : GoodIn wsX6_crowds wsX6_isLane := goodIn_r _ [15, 16, 10, 11, 7, 12] (by decide +kernel) (by decide +kernel)
set_option maxRecDepth 20000 in
theorem gX6_crowds_X6_isLane : GoodIn wsX6_crowds (va_wsS RX6 321 yX6_isLane wsX6_isLane) := goodIn_app (goodIn_of _ (by decide +kernel)) ggX6_crowds_X6_isLane
set_option maxRecDepth 20000 in
theorem ggX6_crowds_X2_refusal : GoodIn wsX6_crowds wsX2_refusal := goodIn_r _ [21, 22, 23, 24, 25, 20, 26, 27, 28, 29, 30, 31, 55, 56, 57] (by decide +kernel) (by decide +kernel)
set_option maxRecDepth 20000 in
theorem gX6_crowds_X2_refusal : GoodIn wsX6_crowds (wsV RX6 327 RX2 yX2_refusal wsX2_refusal) := goodIn_app (goodIn_of _ (by decide +kernel)) ggX6_crowds_X2_refusal
set_option maxRecDepth 20000 in
theorem ggX6_crowds_X2_at : GoodIn wsX6_crowds wsX2_at := goodIn_r _ [35, 36, 27, 28, 29, 20, 30, 31, 55, 56, 57] (by decide +kernel) (by decide +kernel)
set_option maxRecDepth 20000 in
theorem gX6_crowds_X2_at : GoodIn wsX6_crowds (wsV RX6 335 RX2 yX2_at wsX2_at) := goodIn_app (goodIn_of _ (by decide +kernel)) ggX6_crowds_X2_at
set_option maxRecDepth 20000 in
theorem ggX6_crowds_X6_isWithin : GoodIn wsX6_crowds wsX6_isWithin := goodIn_r _ [12] (by decide +kernel) (by decide +kernel)
set_option maxRecDepth 20000 in
theorem gX6_crowds_X6_isWithin : GoodIn wsX6_crowds (va_wsS RX6 56 yX6_isWithin wsX6_isWithin) := goodIn_app (goodIn_of _ (by decide +kernel)) ggX6_crowds_X6_isWithin
theorem dX6_crowds_0 : decode cX6_crowds 0 = .ok (.iload_n 1, 1) := by decide +kernel
theorem dX6_crowds_1 : decode cX6_crowds 1 = .ok (.invokestatic 318, 3) := by decide +kernel
theorem dX6_crowds_4 : decode cX6_crowds 4 = .ok (.ifCond .eq 10, 3) := by decide +kernel
theorem dX6_crowds_7 : decode cX6_crowds 7 = .ok (.iload_n 2, 1) := by decide +kernel
theorem dX6_crowds_8 : decode cX6_crowds 8 = .ok (.invokestatic 321, 3) := by decide +kernel
theorem dX6_crowds_11 : decode cX6_crowds 11 = .ok (.ifCond .ne 5, 3) := by decide +kernel
theorem dX6_crowds_14 : decode cX6_crowds 14 = .ok (.iconst (-1), 1) := by decide +kernel
theorem dX6_crowds_15 : decode cX6_crowds 15 = .ok (.ireturn, 1) := by decide +kernel
theorem dX6_crowds_16 : decode cX6_crowds 16 = .ok (.aload_n 0, 1) := by decide +kernel
theorem dX6_crowds_17 : decode cX6_crowds 17 = .ok (.getfield 50, 3) := by decide +kernel
theorem dX6_crowds_20 : decode cX6_crowds 20 = .ok (.iload_n 1, 1) := by decide +kernel
theorem dX6_crowds_21 : decode cX6_crowds 21 = .ok (.iload_n 2, 1) := by decide +kernel
theorem dX6_crowds_22 : decode cX6_crowds 22 = .ok (.iload_n 3, 1) := by decide +kernel
theorem dX6_crowds_23 : decode cX6_crowds 23 = .ok (.bipush 8, 2) := by decide +kernel
theorem dX6_crowds_25 : decode cX6_crowds 25 = .ok (.invokevirtual 327, 3) := by decide +kernel
theorem dX6_crowds_28 : decode cX6_crowds 28 = .ok (.istore 4, 2) := by decide +kernel
theorem dX6_crowds_30 : decode cX6_crowds 30 = .ok (.iload 4, 2) := by decide +kernel
theorem dX6_crowds_32 : decode cX6_crowds 32 = .ok (.ifCond .eq 6, 3) := by decide +kernel
theorem dX6_crowds_35 : decode cX6_crowds 35 = .ok (.iload 4, 2) := by decide +kernel
theorem dX6_crowds_37 : decode cX6_crowds 37 = .ok (.ireturn, 1) := by decide +kernel
theorem dX6_crowds_38 : decode cX6_crowds 38 = .ok (.iconst 0, 1) := by decide +kernel
theorem dX6_crowds_39 : decode cX6_crowds 39 = .ok (.istore 5, 2) := by decide +kernel
theorem dX6_crowds_41 : decode cX6_crowds 41 = .ok (.iload 5, 2) := by decide +kernel
theorem dX6_crowds_43 : decode cX6_crowds 43 = .ok (.bipush 8, 2) := by decide +kernel
theorem dX6_crowds_45 : decode cX6_crowds 45 = .ok (.if_icmp .ge 35, 3) := by decide +kernel
theorem dX6_crowds_48 : decode cX6_crowds 48 = .ok (.aload_n 0, 1) := by decide +kernel
theorem dX6_crowds_49 : decode cX6_crowds 49 = .ok (.getfield 50, 3) := by decide +kernel
theorem dX6_crowds_52 : decode cX6_crowds 52 = .ok (.iload_n 1, 1) := by decide +kernel
theorem dX6_crowds_53 : decode cX6_crowds 53 = .ok (.iload_n 3, 1) := by decide +kernel
theorem dX6_crowds_54 : decode cX6_crowds 54 = .ok (.iload 5, 2) := by decide +kernel
theorem dX6_crowds_56 : decode cX6_crowds 56 = .ok (.iadd, 1) := by decide +kernel
theorem dX6_crowds_57 : decode cX6_crowds 57 = .ok (.invokevirtual 335, 3) := by decide +kernel
theorem dX6_crowds_60 : decode cX6_crowds 60 = .ok (.i2l, 1) := by decide +kernel
theorem dX6_crowds_61 : decode cX6_crowds 61 = .ok (.lconst 1, 1) := by decide +kernel
theorem dX6_crowds_62 : decode cX6_crowds 62 = .ok (.ldc2_w 197, 3) := by decide +kernel
theorem dX6_crowds_65 : decode cX6_crowds 65 = .ok (.invokestatic 56, 3) := by decide +kernel
theorem dX6_crowds_68 : decode cX6_crowds 68 = .ok (.ifCond .ne 6, 3) := by decide +kernel
theorem dX6_crowds_71 : decode cX6_crowds 71 = .ok (.bipush (-2), 2) := by decide +kernel
theorem dX6_crowds_73 : decode cX6_crowds 73 = .ok (.ireturn, 1) := by decide +kernel
theorem dX6_crowds_74 : decode cX6_crowds 74 = .ok (.iinc 5 1, 3) := by decide +kernel
theorem dX6_crowds_77 : decode cX6_crowds 77 = .ok (.goto (-36), 3) := by decide +kernel
theorem dX6_crowds_80 : decode cX6_crowds 80 = .ok (.iconst 0, 1) := by decide +kernel
theorem dX6_crowds_81 : decode cX6_crowds 81 = .ok (.istore 5, 2) := by decide +kernel
theorem dX6_crowds_83 : decode cX6_crowds 83 = .ok (.iload 5, 2) := by decide +kernel
theorem dX6_crowds_85 : decode cX6_crowds 85 = .ok (.bipush 8, 2) := by decide +kernel
theorem dX6_crowds_87 : decode cX6_crowds 87 = .ok (.if_icmp .ge 31, 3) := by decide +kernel
theorem dX6_crowds_90 : decode cX6_crowds 90 = .ok (.aload_n 0, 1) := by decide +kernel
theorem dX6_crowds_91 : decode cX6_crowds 91 = .ok (.getfield 10, 3) := by decide +kernel
theorem dX6_crowds_94 : decode cX6_crowds 94 = .ok (.getfield 199, 3) := by decide +kernel
theorem dX6_crowds_97 : decode cX6_crowds 97 = .ok (.iload 5, 2) := by decide +kernel
theorem dX6_crowds_99 : decode cX6_crowds 99 = .ok (.aload_n 0, 1) := by decide +kernel
theorem dX6_crowds_100 : decode cX6_crowds 100 = .ok (.getfield 50, 3) := by decide +kernel
theorem dX6_crowds_103 : decode cX6_crowds 103 = .ok (.iload_n 1, 1) := by decide +kernel
theorem dX6_crowds_104 : decode cX6_crowds 104 = .ok (.iload_n 3, 1) := by decide +kernel
theorem dX6_crowds_105 : decode cX6_crowds 105 = .ok (.iload 5, 2) := by decide +kernel
theorem dX6_crowds_107 : decode cX6_crowds 107 = .ok (.iadd, 1) := by decide +kernel
theorem dX6_crowds_108 : decode cX6_crowds 108 = .ok (.invokevirtual 335, 3) := by decide +kernel
theorem dX6_crowds_111 : decode cX6_crowds 111 = .ok (.iastore, 1) := by decide +kernel
theorem dX6_crowds_112 : decode cX6_crowds 112 = .ok (.iinc 5 1, 3) := by decide +kernel
theorem dX6_crowds_115 : decode cX6_crowds 115 = .ok (.goto (-32), 3) := by decide +kernel
theorem dX6_crowds_118 : decode cX6_crowds 118 = .ok (.bipush 8, 2) := by decide +kernel
theorem dX6_crowds_120 : decode cX6_crowds 120 = .ok (.ireturn, 1) := by decide +kernel
set_option maxRecDepth 20000 in
theorem ggX6_sheet_X6_isSheet : GoodIn wsX6_sheet wsX6_isSheet := goodIn_r _ [5, 6, 7, 8, 4, 9] (by decide +kernel) (by decide +kernel)
set_option maxRecDepth 20000 in
theorem gX6_sheet_X6_isSheet : GoodIn wsX6_sheet (va_wsS RX6 318 yX6_isSheet wsX6_isSheet) := goodIn_app (goodIn_of _ (by decide +kernel)) ggX6_sheet_X6_isSheet
set_option maxRecDepth 20000 in
theorem ggX6_sheet_X6_isLane : GoodIn wsX6_sheet wsX6_isLane := goodIn_r _ [12, 13, 7, 8, 4, 9] (by decide +kernel) (by decide +kernel)
set_option maxRecDepth 20000 in
theorem gX6_sheet_X6_isLane : GoodIn wsX6_sheet (va_wsS RX6 321 yX6_isLane wsX6_isLane) := goodIn_app (goodIn_of _ (by decide +kernel)) ggX6_sheet_X6_isLane
set_option maxRecDepth 20000 in
theorem ggX6_sheet_X2_hold : GoodIn wsX6_sheet wsX2_hold := goodIn_r _ [18, 19, 20, 21, 30, 31, 32] (by decide +kernel) (by decide +kernel)
set_option maxRecDepth 20000 in
theorem gX6_sheet_X2_hold : GoodIn wsX6_sheet (wsV RX6 338 RX2 yX2_hold wsX2_hold) := goodIn_app (goodIn_of _ (by decide +kernel)) ggX6_sheet_X2_hold
theorem dX6_sheet_0 : decode cX6_sheet 0 = .ok (.iload_n 1, 1) := by decide +kernel
theorem dX6_sheet_1 : decode cX6_sheet 1 = .ok (.invokestatic 318, 3) := by decide +kernel
theorem dX6_sheet_4 : decode cX6_sheet 4 = .ok (.ifCond .eq 16, 3) := by decide +kernel
theorem dX6_sheet_7 : decode cX6_sheet 7 = .ok (.iload_n 2, 1) := by decide +kernel
theorem dX6_sheet_8 : decode cX6_sheet 8 = .ok (.invokestatic 321, 3) := by decide +kernel
theorem dX6_sheet_11 : decode cX6_sheet 11 = .ok (.ifCond .eq 9, 3) := by decide +kernel
theorem dX6_sheet_14 : decode cX6_sheet 14 = .ok (.iload_n 3, 1) := by decide +kernel
theorem dX6_sheet_15 : decode cX6_sheet 15 = .ok (.bipush 24, 2) := by decide +kernel
theorem dX6_sheet_17 : decode cX6_sheet 17 = .ok (.if_icmp .le 5, 3) := by decide +kernel
theorem dX6_sheet_20 : decode cX6_sheet 20 = .ok (.iconst (-1), 1) := by decide +kernel
theorem dX6_sheet_21 : decode cX6_sheet 21 = .ok (.ireturn, 1) := by decide +kernel
theorem dX6_sheet_22 : decode cX6_sheet 22 = .ok (.iload_n 3, 1) := by decide +kernel
theorem dX6_sheet_23 : decode cX6_sheet 23 = .ok (.ifCond .ge 6, 3) := by decide +kernel
theorem dX6_sheet_26 : decode cX6_sheet 26 = .ok (.bipush (-14), 2) := by decide +kernel
theorem dX6_sheet_28 : decode cX6_sheet 28 = .ok (.ireturn, 1) := by decide +kernel
theorem dX6_sheet_29 : decode cX6_sheet 29 = .ok (.aload_n 0, 1) := by decide +kernel
theorem dX6_sheet_30 : decode cX6_sheet 30 = .ok (.getfield 50, 3) := by decide +kernel
theorem dX6_sheet_33 : decode cX6_sheet 33 = .ok (.iload_n 1, 1) := by decide +kernel
theorem dX6_sheet_34 : decode cX6_sheet 34 = .ok (.iload_n 2, 1) := by decide +kernel
theorem dX6_sheet_35 : decode cX6_sheet 35 = .ok (.iload_n 3, 1) := by decide +kernel
theorem dX6_sheet_36 : decode cX6_sheet 36 = .ok (.invokevirtual 338, 3) := by decide +kernel
theorem dX6_sheet_39 : decode cX6_sheet 39 = .ok (.iload_n 3, 1) := by decide +kernel
theorem dX6_sheet_40 : decode cX6_sheet 40 = .ok (.ireturn, 1) := by decide +kernel
set_option maxRecDepth 20000 in
theorem ggX6_drop_X6_isSheet : GoodIn wsX6_drop wsX6_isSheet := goodIn_r _ [6, 7, 8, 9, 5, 10] (by decide +kernel) (by decide +kernel)
set_option maxRecDepth 20000 in
theorem gX6_drop_X6_isSheet : GoodIn wsX6_drop (va_wsS RX6 318 yX6_isSheet wsX6_isSheet) := goodIn_app (goodIn_of _ (by decide +kernel)) ggX6_drop_X6_isSheet
set_option maxRecDepth 20000 in
theorem ggX6_drop_X2_holdsRow : GoodIn wsX6_drop wsX2_holdsRow := goodIn_r _ [15, 16, 30, 31, 32] (by decide +kernel) (by decide +kernel)
set_option maxRecDepth 20000 in
theorem gX6_drop_X2_holdsRow : GoodIn wsX6_drop (wsV RX6 341 RX2 yX2_holdsRow wsX2_holdsRow) := goodIn_app (goodIn_of _ (by decide +kernel)) ggX6_drop_X2_holdsRow
set_option maxRecDepth 20000 in
theorem ggX6_drop_X2_holdNothing : GoodIn wsX6_drop wsX2_holdNothing := goodIn_r _ [20, 16, 21, 30, 31, 32] (by decide +kernel) (by decide +kernel)
set_option maxRecDepth 20000 in
theorem gX6_drop_X2_holdNothing : GoodIn wsX6_drop (wsV RX6 346 RX2 yX2_holdNothing wsX2_holdNothing) := goodIn_app (goodIn_of _ (by decide +kernel)) ggX6_drop_X2_holdNothing
theorem dX6_drop_0 : decode cX6_drop 0 = .ok (.iload_n 1, 1) := by decide +kernel
theorem dX6_drop_1 : decode cX6_drop 1 = .ok (.invokestatic 318, 3) := by decide +kernel
theorem dX6_drop_4 : decode cX6_drop 4 = .ok (.ifCond .ne 5, 3) := by decide +kernel
theorem dX6_drop_7 : decode cX6_drop 7 = .ok (.iconst (-1), 1) := by decide +kernel
theorem dX6_drop_8 : decode cX6_drop 8 = .ok (.ireturn, 1) := by decide +kernel
theorem dX6_drop_9 : decode cX6_drop 9 = .ok (.aload_n 0, 1) := by decide +kernel
theorem dX6_drop_10 : decode cX6_drop 10 = .ok (.getfield 50, 3) := by decide +kernel
theorem dX6_drop_13 : decode cX6_drop 13 = .ok (.iload_n 1, 1) := by decide +kernel
theorem dX6_drop_14 : decode cX6_drop 14 = .ok (.invokevirtual 341, 3) := by decide +kernel
theorem dX6_drop_17 : decode cX6_drop 17 = .ok (.ifCond .ne 6, 3) := by decide +kernel
theorem dX6_drop_20 : decode cX6_drop 20 = .ok (.bipush (-11), 2) := by decide +kernel
theorem dX6_drop_22 : decode cX6_drop 22 = .ok (.ireturn, 1) := by decide +kernel
theorem dX6_drop_23 : decode cX6_drop 23 = .ok (.aload_n 0, 1) := by decide +kernel
theorem dX6_drop_24 : decode cX6_drop 24 = .ok (.getfield 50, 3) := by decide +kernel
theorem dX6_drop_27 : decode cX6_drop 27 = .ok (.getfield 344, 3) := by decide +kernel
theorem dX6_drop_30 : decode cX6_drop 30 = .ok (.iload_n 1, 1) := by decide +kernel
theorem dX6_drop_31 : decode cX6_drop 31 = .ok (.iaload, 1) := by decide +kernel
theorem dX6_drop_32 : decode cX6_drop 32 = .ok (.istore_n 2, 1) := by decide +kernel
theorem dX6_drop_33 : decode cX6_drop 33 = .ok (.aload_n 0, 1) := by decide +kernel
theorem dX6_drop_34 : decode cX6_drop 34 = .ok (.getfield 50, 3) := by decide +kernel
theorem dX6_drop_37 : decode cX6_drop 37 = .ok (.iload_n 1, 1) := by decide +kernel
theorem dX6_drop_38 : decode cX6_drop 38 = .ok (.invokevirtual 346, 3) := by decide +kernel
theorem dX6_drop_41 : decode cX6_drop 41 = .ok (.iload_n 2, 1) := by decide +kernel
theorem dX6_drop_42 : decode cX6_drop 42 = .ok (.ireturn, 1) := by decide +kernel
set_option maxRecDepth 20000 in
theorem ggX6_item_X6_isSheet : GoodIn wsX6_item wsX6_isSheet := goodIn_r _ [5, 6, 7, 8, 4, 9] (by decide +kernel) (by decide +kernel)
set_option maxRecDepth 20000 in
theorem gX6_item_X6_isSheet : GoodIn wsX6_item (va_wsS RX6 318 yX6_isSheet wsX6_isSheet) := goodIn_app (goodIn_of _ (by decide +kernel)) ggX6_item_X6_isSheet
set_option maxRecDepth 20000 in
theorem ggX6_item_X6_isLane : GoodIn wsX6_item wsX6_isLane := goodIn_r _ [12, 13, 7, 8, 4, 9] (by decide +kernel) (by decide +kernel)
set_option maxRecDepth 20000 in
theorem gX6_item_X6_isLane : GoodIn wsX6_item (va_wsS RX6 321 yX6_isLane wsX6_isLane) := goodIn_app (goodIn_of _ (by decide +kernel)) ggX6_item_X6_isLane
set_option maxRecDepth 20000 in
theorem ggX6_item_X2_refusal : GoodIn wsX6_item wsX2_refusal := goodIn_r _ [18, 19, 20, 21, 22, 17, 23, 24, 25, 26, 27, 28, 45, 46, 47] (by decide +kernel) (by decide +kernel)
set_option maxRecDepth 20000 in
theorem gX6_item_X2_refusal : GoodIn wsX6_item (wsV RX6 327 RX2 yX2_refusal wsX2_refusal) := goodIn_app (goodIn_of _ (by decide +kernel)) ggX6_item_X2_refusal
set_option maxRecDepth 20000 in
theorem ggX6_item_X2_put : GoodIn wsX6_item wsX2_put := goodIn_r _ [32, 33, 19, 24, 25, 26, 17, 27, 28, 34, 35, 36, 45, 46, 47] (by decide +kernel) (by decide +kernel)
set_option maxRecDepth 20000 in
theorem gX6_item_X2_put : GoodIn wsX6_item (wsV RX6 331 RX2 yX2_put wsX2_put) := goodIn_app (goodIn_of _ (by decide +kernel)) ggX6_item_X2_put
theorem dX6_item_0 : decode cX6_item 0 = .ok (.iload_n 1, 1) := by decide +kernel
theorem dX6_item_1 : decode cX6_item 1 = .ok (.invokestatic 318, 3) := by decide +kernel
theorem dX6_item_4 : decode cX6_item 4 = .ok (.ifCond .eq 10, 3) := by decide +kernel
theorem dX6_item_7 : decode cX6_item 7 = .ok (.iload_n 2, 1) := by decide +kernel
theorem dX6_item_8 : decode cX6_item 8 = .ok (.invokestatic 321, 3) := by decide +kernel
theorem dX6_item_11 : decode cX6_item 11 = .ok (.ifCond .ne 5, 3) := by decide +kernel
theorem dX6_item_14 : decode cX6_item 14 = .ok (.iconst (-1), 1) := by decide +kernel
theorem dX6_item_15 : decode cX6_item 15 = .ok (.ireturn, 1) := by decide +kernel
theorem dX6_item_16 : decode cX6_item 16 = .ok (.aload_n 0, 1) := by decide +kernel
theorem dX6_item_17 : decode cX6_item 17 = .ok (.getfield 50, 3) := by decide +kernel
theorem dX6_item_20 : decode cX6_item 20 = .ok (.iload_n 1, 1) := by decide +kernel
theorem dX6_item_21 : decode cX6_item 21 = .ok (.iload_n 2, 1) := by decide +kernel
theorem dX6_item_22 : decode cX6_item 22 = .ok (.iload_n 3, 1) := by decide +kernel
theorem dX6_item_23 : decode cX6_item 23 = .ok (.iconst 1, 1) := by decide +kernel
theorem dX6_item_24 : decode cX6_item 24 = .ok (.invokevirtual 327, 3) := by decide +kernel
theorem dX6_item_27 : decode cX6_item 27 = .ok (.istore 5, 2) := by decide +kernel
theorem dX6_item_29 : decode cX6_item 29 = .ok (.iload 5, 2) := by decide +kernel
theorem dX6_item_31 : decode cX6_item 31 = .ok (.ifCond .eq 6, 3) := by decide +kernel
theorem dX6_item_34 : decode cX6_item 34 = .ok (.iload 5, 2) := by decide +kernel
theorem dX6_item_36 : decode cX6_item 36 = .ok (.ireturn, 1) := by decide +kernel
theorem dX6_item_37 : decode cX6_item 37 = .ok (.aload_n 0, 1) := by decide +kernel
theorem dX6_item_38 : decode cX6_item 38 = .ok (.getfield 50, 3) := by decide +kernel
theorem dX6_item_41 : decode cX6_item 41 = .ok (.iload_n 1, 1) := by decide +kernel
theorem dX6_item_42 : decode cX6_item 42 = .ok (.iload_n 3, 1) := by decide +kernel
theorem dX6_item_43 : decode cX6_item 43 = .ok (.iload 4, 2) := by decide +kernel
theorem dX6_item_45 : decode cX6_item 45 = .ok (.invokevirtual 331, 3) := by decide +kernel
theorem dX6_item_48 : decode cX6_item 48 = .ok (.iconst 1, 1) := by decide +kernel
theorem dX6_item_49 : decode cX6_item 49 = .ok (.ireturn, 1) := by decide +kernel
set_option maxRecDepth 20000 in
theorem ggX6_copy_X6_isSheet : GoodIn wsX6_copy wsX6_isSheet := goodIn_r _ [6, 7, 8, 9, 5, 10] (by decide +kernel) (by decide +kernel)
set_option maxRecDepth 20000 in
theorem gX6_copy_X6_isSheet : GoodIn wsX6_copy (va_wsS RX6 318 yX6_isSheet wsX6_isSheet) := goodIn_app (goodIn_of _ (by decide +kernel)) ggX6_copy_X6_isSheet
set_option maxRecDepth 20000 in
theorem ggX6_copy_X2_holdsRow : GoodIn wsX6_copy wsX2_holdsRow := goodIn_r _ [15, 16, 39, 40, 41] (by decide +kernel) (by decide +kernel)
set_option maxRecDepth 20000 in
theorem gX6_copy_X2_holdsRow : GoodIn wsX6_copy (wsV RX6 341 RX2 yX2_holdsRow wsX2_holdsRow) := goodIn_app (goodIn_of _ (by decide +kernel)) ggX6_copy_X2_holdsRow
set_option maxRecDepth 20000 in
theorem ggX6_copy_X2_hasItems : GoodIn wsX6_copy wsX2_hasItems := goodIn_r _ [20, 21, 39, 40, 41] (by decide +kernel) (by decide +kernel)
set_option maxRecDepth 20000 in
theorem gX6_copy_X2_hasItems : GoodIn wsX6_copy (wsV RX6 352 RX2 yX2_hasItems wsX2_hasItems) := goodIn_app (goodIn_of _ (by decide +kernel)) ggX6_copy_X2_hasItems
set_option maxRecDepth 20000 in
theorem ggX6_copy_X2_move : GoodIn wsX6_copy wsX2_move := goodIn_r _ [25, 26, 27, 28, 29, 30, 39, 40, 41] (by decide +kernel) (by decide +kernel)
set_option maxRecDepth 20000 in
theorem gX6_copy_X2_move : GoodIn wsX6_copy (wsV RX6 356 RX2 yX2_move wsX2_move) := goodIn_app (goodIn_of _ (by decide +kernel)) ggX6_copy_X2_move
theorem dX6_copy_0 : decode cX6_copy 0 = .ok (.iload_n 1, 1) := by decide +kernel
theorem dX6_copy_1 : decode cX6_copy 1 = .ok (.invokestatic 318, 3) := by decide +kernel
theorem dX6_copy_4 : decode cX6_copy 4 = .ok (.ifCond .eq 10, 3) := by decide +kernel
theorem dX6_copy_7 : decode cX6_copy 7 = .ok (.iload_n 3, 1) := by decide +kernel
theorem dX6_copy_8 : decode cX6_copy 8 = .ok (.invokestatic 318, 3) := by decide +kernel
theorem dX6_copy_11 : decode cX6_copy 11 = .ok (.ifCond .ne 5, 3) := by decide +kernel
theorem dX6_copy_14 : decode cX6_copy 14 = .ok (.iconst (-1), 1) := by decide +kernel
theorem dX6_copy_15 : decode cX6_copy 15 = .ok (.ireturn, 1) := by decide +kernel
theorem dX6_copy_16 : decode cX6_copy 16 = .ok (.aload_n 0, 1) := by decide +kernel
theorem dX6_copy_17 : decode cX6_copy 17 = .ok (.getfield 50, 3) := by decide +kernel
theorem dX6_copy_20 : decode cX6_copy 20 = .ok (.iload_n 1, 1) := by decide +kernel
theorem dX6_copy_21 : decode cX6_copy 21 = .ok (.invokevirtual 341, 3) := by decide +kernel
theorem dX6_copy_24 : decode cX6_copy 24 = .ok (.ifCond .eq 14, 3) := by decide +kernel
theorem dX6_copy_27 : decode cX6_copy 27 = .ok (.aload_n 0, 1) := by decide +kernel
theorem dX6_copy_28 : decode cX6_copy 28 = .ok (.getfield 50, 3) := by decide +kernel
theorem dX6_copy_31 : decode cX6_copy 31 = .ok (.iload_n 3, 1) := by decide +kernel
theorem dX6_copy_32 : decode cX6_copy 32 = .ok (.invokevirtual 341, 3) := by decide +kernel
theorem dX6_copy_35 : decode cX6_copy 35 = .ok (.ifCond .ne 6, 3) := by decide +kernel
theorem dX6_copy_38 : decode cX6_copy 38 = .ok (.bipush (-11), 2) := by decide +kernel
theorem dX6_copy_40 : decode cX6_copy 40 = .ok (.ireturn, 1) := by decide +kernel
theorem dX6_copy_41 : decode cX6_copy 41 = .ok (.aload_n 0, 1) := by decide +kernel
theorem dX6_copy_42 : decode cX6_copy 42 = .ok (.getfield 50, 3) := by decide +kernel
theorem dX6_copy_45 : decode cX6_copy 45 = .ok (.getfield 349, 3) := by decide +kernel
theorem dX6_copy_48 : decode cX6_copy 48 = .ok (.iload_n 1, 1) := by decide +kernel
theorem dX6_copy_49 : decode cX6_copy 49 = .ok (.iaload, 1) := by decide +kernel
theorem dX6_copy_50 : decode cX6_copy 50 = .ok (.aload_n 0, 1) := by decide +kernel
theorem dX6_copy_51 : decode cX6_copy 51 = .ok (.getfield 50, 3) := by decide +kernel
theorem dX6_copy_54 : decode cX6_copy 54 = .ok (.getfield 349, 3) := by decide +kernel
theorem dX6_copy_57 : decode cX6_copy 57 = .ok (.iload_n 3, 1) := by decide +kernel
theorem dX6_copy_58 : decode cX6_copy 58 = .ok (.iaload, 1) := by decide +kernel
theorem dX6_copy_59 : decode cX6_copy 59 = .ok (.if_icmp .eq 6, 3) := by decide +kernel
theorem dX6_copy_62 : decode cX6_copy 62 = .ok (.bipush (-12), 2) := by decide +kernel
theorem dX6_copy_64 : decode cX6_copy 64 = .ok (.ireturn, 1) := by decide +kernel
theorem dX6_copy_65 : decode cX6_copy 65 = .ok (.aload_n 0, 1) := by decide +kernel
theorem dX6_copy_66 : decode cX6_copy 66 = .ok (.getfield 50, 3) := by decide +kernel
theorem dX6_copy_69 : decode cX6_copy 69 = .ok (.iload_n 1, 1) := by decide +kernel
theorem dX6_copy_70 : decode cX6_copy 70 = .ok (.iload_n 2, 1) := by decide +kernel
theorem dX6_copy_71 : decode cX6_copy 71 = .ok (.iload 5, 2) := by decide +kernel
theorem dX6_copy_73 : decode cX6_copy 73 = .ok (.invokevirtual 352, 3) := by decide +kernel
theorem dX6_copy_76 : decode cX6_copy 76 = .ok (.ifCond .eq 18, 3) := by decide +kernel
theorem dX6_copy_79 : decode cX6_copy 79 = .ok (.aload_n 0, 1) := by decide +kernel
theorem dX6_copy_80 : decode cX6_copy 80 = .ok (.getfield 50, 3) := by decide +kernel
theorem dX6_copy_83 : decode cX6_copy 83 = .ok (.iload_n 3, 1) := by decide +kernel
theorem dX6_copy_84 : decode cX6_copy 84 = .ok (.iload 4, 2) := by decide +kernel
theorem dX6_copy_86 : decode cX6_copy 86 = .ok (.iload 5, 2) := by decide +kernel
theorem dX6_copy_88 : decode cX6_copy 88 = .ok (.invokevirtual 352, 3) := by decide +kernel
theorem dX6_copy_91 : decode cX6_copy 91 = .ok (.ifCond .ne 6, 3) := by decide +kernel
theorem dX6_copy_94 : decode cX6_copy 94 = .ok (.bipush (-13), 2) := by decide +kernel
theorem dX6_copy_96 : decode cX6_copy 96 = .ok (.ireturn, 1) := by decide +kernel
theorem dX6_copy_97 : decode cX6_copy 97 = .ok (.aload_n 0, 1) := by decide +kernel
theorem dX6_copy_98 : decode cX6_copy 98 = .ok (.getfield 50, 3) := by decide +kernel
theorem dX6_copy_101 : decode cX6_copy 101 = .ok (.iload_n 1, 1) := by decide +kernel
theorem dX6_copy_102 : decode cX6_copy 102 = .ok (.iload_n 2, 1) := by decide +kernel
theorem dX6_copy_103 : decode cX6_copy 103 = .ok (.iload_n 3, 1) := by decide +kernel
theorem dX6_copy_104 : decode cX6_copy 104 = .ok (.iload 4, 2) := by decide +kernel
theorem dX6_copy_106 : decode cX6_copy 106 = .ok (.iload 5, 2) := by decide +kernel
theorem dX6_copy_108 : decode cX6_copy 108 = .ok (.invokevirtual 356, 3) := by decide +kernel
theorem dX6_copy_111 : decode cX6_copy 111 = .ok (.iload 5, 2) := by decide +kernel
theorem dX6_copy_113 : decode cX6_copy 113 = .ok (.ireturn, 1) := by decide +kernel
theorem dX6_isWithin_0 : decode cX6_isWithin 0 = .ok (.lload_n 2, 1) := by decide +kernel
theorem dX6_isWithin_1 : decode cX6_isWithin 1 = .ok (.lload_n 0, 1) := by decide +kernel
theorem dX6_isWithin_2 : decode cX6_isWithin 2 = .ok (.lcmp, 1) := by decide +kernel
theorem dX6_isWithin_3 : decode cX6_isWithin 3 = .ok (.ifCond .gt 14, 3) := by decide +kernel
theorem dX6_isWithin_6 : decode cX6_isWithin 6 = .ok (.lload_n 0, 1) := by decide +kernel
theorem dX6_isWithin_7 : decode cX6_isWithin 7 = .ok (.lload 4, 2) := by decide +kernel
theorem dX6_isWithin_9 : decode cX6_isWithin 9 = .ok (.lcmp, 1) := by decide +kernel
theorem dX6_isWithin_10 : decode cX6_isWithin 10 = .ok (.ifCond .gt 7, 3) := by decide +kernel
theorem dX6_isWithin_13 : decode cX6_isWithin 13 = .ok (.iconst 1, 1) := by decide +kernel
theorem dX6_isWithin_14 : decode cX6_isWithin 14 = .ok (.goto 4, 3) := by decide +kernel
theorem dX6_isWithin_17 : decode cX6_isWithin 17 = .ok (.iconst 0, 1) := by decide +kernel
theorem dX6_isWithin_18 : decode cX6_isWithin 18 = .ok (.ireturn, 1) := by decide +kernel
set_option maxRecDepth 20000 in
theorem ggX6_isYear_X6_isWithin : GoodIn wsX6_isYear wsX6_isWithin := goodIn_r _ [5] (by decide +kernel) (by decide +kernel)
set_option maxRecDepth 20000 in
theorem gX6_isYear_X6_isWithin : GoodIn wsX6_isYear (va_wsS RX6 56 yX6_isWithin wsX6_isWithin) := goodIn_app (goodIn_of _ (by decide +kernel)) ggX6_isYear_X6_isWithin
theorem dX6_isYear_0 : decode cX6_isYear 0 = .ok (.iload_n 0, 1) := by decide +kernel
theorem dX6_isYear_1 : decode cX6_isYear 1 = .ok (.i2l, 1) := by decide +kernel
theorem dX6_isYear_2 : decode cX6_isYear 2 = .ok (.lconst 0, 1) := by decide +kernel
theorem dX6_isYear_3 : decode cX6_isYear 3 = .ok (.ldc2_w 360, 3) := by decide +kernel
theorem dX6_isYear_6 : decode cX6_isYear 6 = .ok (.invokestatic 56, 3) := by decide +kernel
theorem dX6_isYear_9 : decode cX6_isYear 9 = .ok (.ireturn, 1) := by decide +kernel
set_option maxRecDepth 20000 in
theorem ggX6_isTop_X6_isWithin : GoodIn wsX6_isTop wsX6_isWithin := goodIn_r _ [5] (by decide +kernel) (by decide +kernel)
set_option maxRecDepth 20000 in
theorem gX6_isTop_X6_isWithin : GoodIn wsX6_isTop (va_wsS RX6 56 yX6_isWithin wsX6_isWithin) := goodIn_app (goodIn_of _ (by decide +kernel)) ggX6_isTop_X6_isWithin
theorem dX6_isTop_0 : decode cX6_isTop 0 = .ok (.iload_n 0, 1) := by decide +kernel
theorem dX6_isTop_1 : decode cX6_isTop 1 = .ok (.i2l, 1) := by decide +kernel
theorem dX6_isTop_2 : decode cX6_isTop 2 = .ok (.lconst 1, 1) := by decide +kernel
theorem dX6_isTop_3 : decode cX6_isTop 3 = .ok (.ldc2_w 362, 3) := by decide +kernel
theorem dX6_isTop_6 : decode cX6_isTop 6 = .ok (.invokestatic 56, 3) := by decide +kernel
theorem dX6_isTop_9 : decode cX6_isTop 9 = .ok (.ireturn, 1) := by decide +kernel
set_option maxRecDepth 20000 in
theorem ggX6_isSheet_X6_isWithin : GoodIn wsX6_isSheet wsX6_isWithin := goodIn_r _ [5] (by decide +kernel) (by decide +kernel)
set_option maxRecDepth 20000 in
theorem gX6_isSheet_X6_isWithin : GoodIn wsX6_isSheet (va_wsS RX6 56 yX6_isWithin wsX6_isWithin) := goodIn_app (goodIn_of _ (by decide +kernel)) ggX6_isSheet_X6_isWithin
theorem dX6_isSheet_0 : decode cX6_isSheet 0 = .ok (.iload_n 0, 1) := by decide +kernel
theorem dX6_isSheet_1 : decode cX6_isSheet 1 = .ok (.i2l, 1) := by decide +kernel
theorem dX6_isSheet_2 : decode cX6_isSheet 2 = .ok (.lconst 0, 1) := by decide +kernel
theorem dX6_isSheet_3 : decode cX6_isSheet 3 = .ok (.ldc2_w 99, 3) := by decide +kernel
theorem dX6_isSheet_6 : decode cX6_isSheet 6 = .ok (.invokestatic 56, 3) := by decide +kernel
theorem dX6_isSheet_9 : decode cX6_isSheet 9 = .ok (.ireturn, 1) := by decide +kernel
set_option maxRecDepth 20000 in
theorem ggX6_isLane_X6_isWithin : GoodIn wsX6_isLane wsX6_isWithin := goodIn_r _ [5] (by decide +kernel) (by decide +kernel)
set_option maxRecDepth 20000 in
theorem gX6_isLane_X6_isWithin : GoodIn wsX6_isLane (va_wsS RX6 56 yX6_isWithin wsX6_isWithin) := goodIn_app (goodIn_of _ (by decide +kernel)) ggX6_isLane_X6_isWithin
theorem dX6_isLane_0 : decode cX6_isLane 0 = .ok (.iload_n 0, 1) := by decide +kernel
theorem dX6_isLane_1 : decode cX6_isLane 1 = .ok (.i2l, 1) := by decide +kernel
theorem dX6_isLane_2 : decode cX6_isLane 2 = .ok (.lconst 0, 1) := by decide +kernel
theorem dX6_isLane_3 : decode cX6_isLane 3 = .ok (.ldc2_w 195, 3) := by decide +kernel
theorem dX6_isLane_6 : decode cX6_isLane 6 = .ok (.invokestatic 56, 3) := by decide +kernel
theorem dX6_isLane_9 : decode cX6_isLane 9 = .ok (.ireturn, 1) := by decide +kernel
theorem dX6_byteOf_0 : decode cX6_byteOf 0 = .ok (.lload_n 0, 1) := by decide +kernel
theorem dX6_byteOf_1 : decode cX6_byteOf 1 = .ok (.bipush 8, 2) := by decide +kernel
theorem dX6_byteOf_3 : decode cX6_byteOf 3 = .ok (.iload_n 2, 1) := by decide +kernel
theorem dX6_byteOf_4 : decode cX6_byteOf 4 = .ok (.imul, 1) := by decide +kernel
theorem dX6_byteOf_5 : decode cX6_byteOf 5 = .ok (.lushr, 1) := by decide +kernel
theorem dX6_byteOf_6 : decode cX6_byteOf 6 = .ok (.ldc2_w 291, 3) := by decide +kernel
theorem dX6_byteOf_9 : decode cX6_byteOf 9 = .ok (.land, 1) := by decide +kernel
theorem dX6_byteOf_10 : decode cX6_byteOf 10 = .ok (.l2i, 1) := by decide +kernel
theorem dX6_byteOf_11 : decode cX6_byteOf 11 = .ok (.ireturn, 1) := by decide +kernel
theorem dX6_noneAsZero_0 : decode cX6_noneAsZero 0 = .ok (.iload_n 0, 1) := by decide +kernel
theorem dX6_noneAsZero_1 : decode cX6_noneAsZero 1 = .ok (.bipush (-4), 2) := by decide +kernel
theorem dX6_noneAsZero_3 : decode cX6_noneAsZero 3 = .ok (.if_icmp .ne 7, 3) := by decide +kernel
theorem dX6_noneAsZero_6 : decode cX6_noneAsZero 6 = .ok (.iconst 0, 1) := by decide +kernel
theorem dX6_noneAsZero_7 : decode cX6_noneAsZero 7 = .ok (.goto 4, 3) := by decide +kernel
theorem dX6_noneAsZero_10 : decode cX6_noneAsZero 10 = .ok (.iload_n 0, 1) := by decide +kernel
theorem dX6_noneAsZero_11 : decode cX6_noneAsZero 11 = .ok (.ireturn, 1) := by decide +kernel
theorem dX6_divided_0 : decode cX6_divided 0 = .ok (.lload_n 2, 1) := by decide +kernel
theorem dX6_divided_1 : decode cX6_divided 1 = .ok (.lconst 0, 1) := by decide +kernel
theorem dX6_divided_2 : decode cX6_divided 2 = .ok (.lcmp, 1) := by decide +kernel
theorem dX6_divided_3 : decode cX6_divided 3 = .ok (.ifCond .ne 7, 3) := by decide +kernel
theorem dX6_divided_6 : decode cX6_divided 6 = .ok (.lconst 0, 1) := by decide +kernel
theorem dX6_divided_7 : decode cX6_divided 7 = .ok (.goto 6, 3) := by decide +kernel
theorem dX6_divided_10 : decode cX6_divided 10 = .ok (.lload_n 0, 1) := by decide +kernel
theorem dX6_divided_11 : decode cX6_divided 11 = .ok (.lload_n 2, 1) := by decide +kernel
theorem dX6_divided_12 : decode cX6_divided 12 = .ok (.ldiv, 1) := by decide +kernel
theorem dX6_divided_13 : decode cX6_divided 13 = .ok (.lreturn, 1) := by decide +kernel
set_option maxRecDepth 20000 in
theorem ggX6_parts_X6_divided : GoodIn wsX6_parts wsX6_divided := goodIn_r _ [5] (by decide +kernel) (by decide +kernel)
set_option maxRecDepth 20000 in
theorem gX6_parts_X6_divided : GoodIn wsX6_parts (va_wsS RX6 261 yX6_divided wsX6_divided) := goodIn_app (goodIn_of _ (by decide +kernel)) ggX6_parts_X6_divided
theorem dX6_parts_0 : decode cX6_parts 0 = .ok (.lload_n 0, 1) := by decide +kernel
theorem dX6_parts_1 : decode cX6_parts 1 = .ok (.ldc2_w 191, 3) := by decide +kernel
theorem dX6_parts_4 : decode cX6_parts 4 = .ok (.lmul, 1) := by decide +kernel
theorem dX6_parts_5 : decode cX6_parts 5 = .ok (.lload_n 2, 1) := by decide +kernel
theorem dX6_parts_6 : decode cX6_parts 6 = .ok (.invokestatic 261, 3) := by decide +kernel
theorem dX6_parts_9 : decode cX6_parts 9 = .ok (.l2i, 1) := by decide +kernel
theorem dX6_parts_10 : decode cX6_parts 10 = .ok (.ireturn, 1) := by decide +kernel
theorem dX6_commonDivisor_0 : decode cX6_commonDivisor 0 = .ok (.lload_n 0, 1) := by decide +kernel
theorem dX6_commonDivisor_1 : decode cX6_commonDivisor 1 = .ok (.lstore 4, 2) := by decide +kernel
theorem dX6_commonDivisor_3 : decode cX6_commonDivisor 3 = .ok (.lload_n 2, 1) := by decide +kernel
theorem dX6_commonDivisor_4 : decode cX6_commonDivisor 4 = .ok (.lstore 6, 2) := by decide +kernel
theorem dX6_commonDivisor_6 : decode cX6_commonDivisor 6 = .ok (.iconst 0, 1) := by decide +kernel
theorem dX6_commonDivisor_7 : decode cX6_commonDivisor 7 = .ok (.istore 8, 2) := by decide +kernel
theorem dX6_commonDivisor_9 : decode cX6_commonDivisor 9 = .ok (.iload 8, 2) := by decide +kernel
theorem dX6_commonDivisor_11 : decode cX6_commonDivisor 11 = .ok (.bipush 100, 2) := by decide +kernel
theorem dX6_commonDivisor_13 : decode cX6_commonDivisor 13 = .ok (.if_icmp .ge 31, 3) := by decide +kernel
theorem dX6_commonDivisor_16 : decode cX6_commonDivisor 16 = .ok (.lload 6, 2) := by decide +kernel
theorem dX6_commonDivisor_18 : decode cX6_commonDivisor 18 = .ok (.lconst 0, 1) := by decide +kernel
theorem dX6_commonDivisor_19 : decode cX6_commonDivisor 19 = .ok (.lcmp, 1) := by decide +kernel
theorem dX6_commonDivisor_20 : decode cX6_commonDivisor 20 = .ok (.ifCond .eq 24, 3) := by decide +kernel
theorem dX6_commonDivisor_23 : decode cX6_commonDivisor 23 = .ok (.lload 4, 2) := by decide +kernel
theorem dX6_commonDivisor_25 : decode cX6_commonDivisor 25 = .ok (.lload 6, 2) := by decide +kernel
theorem dX6_commonDivisor_27 : decode cX6_commonDivisor 27 = .ok (.lrem, 1) := by decide +kernel
theorem dX6_commonDivisor_28 : decode cX6_commonDivisor 28 = .ok (.lstore 9, 2) := by decide +kernel
theorem dX6_commonDivisor_30 : decode cX6_commonDivisor 30 = .ok (.lload 6, 2) := by decide +kernel
theorem dX6_commonDivisor_32 : decode cX6_commonDivisor 32 = .ok (.lstore 4, 2) := by decide +kernel
theorem dX6_commonDivisor_34 : decode cX6_commonDivisor 34 = .ok (.lload 9, 2) := by decide +kernel
theorem dX6_commonDivisor_36 : decode cX6_commonDivisor 36 = .ok (.lstore 6, 2) := by decide +kernel
theorem dX6_commonDivisor_38 : decode cX6_commonDivisor 38 = .ok (.iinc 8 1, 3) := by decide +kernel
theorem dX6_commonDivisor_41 : decode cX6_commonDivisor 41 = .ok (.goto (-32), 3) := by decide +kernel
theorem dX6_commonDivisor_44 : decode cX6_commonDivisor 44 = .ok (.lload 4, 2) := by decide +kernel
theorem dX6_commonDivisor_46 : decode cX6_commonDivisor 46 = .ok (.lreturn, 1) := by decide +kernel
