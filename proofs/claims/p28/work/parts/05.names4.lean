set_option maxRecDepth 20000 in
theorem ggX7_init_X1_init : GoodIn wsX7_init wsX1_init := goodIn_r _ [32, 33, 2, 3, 34, 35, 36, 37, 38, 39, 40, 41, 42, 43, 79, 80, 81, 82, 83, 84, 85, 86, 87, 88, 89, 90, 91] (by decide +kernel) (by decide +kernel)
set_option maxRecDepth 20000 in
theorem gX7_init_X1_init_n9 : GoodIn wsX7_init (wsX1_init) := ggX7_init_X1_init
set_option maxRecDepth 20000 in
theorem ggX7_init_X2_init : GoodIn wsX7_init wsX2_init := goodIn_r _ [46, 47, 2, 3, 48, 49, 5, 6, 31, 32, 33, 34, 35, 36, 37, 38, 39, 40, 41, 42, 43, 101, 102, 79, 80, 81, 82, 83, 84, 85, 86, 87, 88, 89, 90, 91] (by decide +kernel) (by decide +kernel)
set_option maxRecDepth 20000 in
theorem gX7_init_X2_init : GoodIn wsX7_init (wsX2_init) := ggX7_init_X2_init
set_option maxRecDepth 20000 in
theorem ggX7_init_X5_init : GoodIn wsX7_init wsX5_init := goodIn_r _ [51, 52, 2, 3, 53, 54, 103, 104] (by decide +kernel) (by decide +kernel)
set_option maxRecDepth 20000 in
theorem gX7_init_X5_init_n32 : GoodIn wsX7_init (wsX5_init) := ggX7_init_X5_init
set_option maxRecDepth 20000 in
theorem ggX7_init_X3_init : GoodIn wsX7_init wsX3_init := goodIn_r _ [57, 58, 2, 3, 34, 59, 60, 39, 61, 62, 63, 105, 106, 107, 108, 109, 110, 111, 112] (by decide +kernel) (by decide +kernel)
set_option maxRecDepth 20000 in
theorem gX7_init_X3_init : GoodIn wsX7_init (wsX3_init) := ggX7_init_X3_init
set_option maxRecDepth 20000 in
theorem ggX7_init_X6_init : GoodIn wsX7_init wsX6_init := goodIn_r _ [65, 66, 2, 3, 67, 5, 6, 68, 34, 69, 31, 32, 33, 35, 36, 37, 38, 39, 40, 41, 42, 43, 79, 80, 81, 82, 83, 84, 85, 86, 87, 88, 89, 90, 91, 113, 114] (by decide +kernel) (by decide +kernel)
set_option maxRecDepth 20000 in
theorem gX7_init_X6_init_n48 : GoodIn wsX7_init (wsX6_init) := ggX7_init_X6_init
set_option maxRecDepth 20000 in
theorem ggX7_init_X4_init : GoodIn wsX7_init wsX4_init := goodIn_r _ [72, 73, 2, 3, 34, 74, 75, 76, 39, 77, 78, 115, 116, 117, 118] (by decide +kernel) (by decide +kernel)
set_option maxRecDepth 20000 in
theorem gX7_init_X4_init : GoodIn wsX7_init (wsX4_init) := ggX7_init_X4_init
theorem dX7_init_0 : decode cX7_init 0 = .ok (.aload_n 0, 1) := by decide +kernel
theorem dX7_init_1 : decode cX7_init 1 = .ok (.invokespecial 1, 3) := by decide +kernel
theorem dX7_init_4 : decode cX7_init 4 = .ok (.aload_n 0, 1) := by decide +kernel
theorem dX7_init_5 : decode cX7_init 5 = .ok (.new 7, 3) := by decide +kernel
theorem dX7_init_8 : decode cX7_init 8 = .ok (.dup, 1) := by decide +kernel
theorem dX7_init_9 : decode cX7_init 9 = .ok (.invokespecial 9, 3) := by decide +kernel
theorem dX7_init_12 : decode cX7_init 12 = .ok (.putfield 10, 3) := by decide +kernel
theorem dX7_init_15 : decode cX7_init 15 = .ok (.aload_n 0, 1) := by decide +kernel
theorem dX7_init_16 : decode cX7_init 16 = .ok (.new 7, 3) := by decide +kernel
theorem dX7_init_19 : decode cX7_init 19 = .ok (.dup, 1) := by decide +kernel
theorem dX7_init_20 : decode cX7_init 20 = .ok (.invokespecial 9, 3) := by decide +kernel
theorem dX7_init_23 : decode cX7_init 23 = .ok (.putfield 16, 3) := by decide +kernel
theorem dX7_init_26 : decode cX7_init 26 = .ok (.aload_n 0, 1) := by decide +kernel
theorem dX7_init_27 : decode cX7_init 27 = .ok (.iconst 0, 1) := by decide +kernel
theorem dX7_init_28 : decode cX7_init 28 = .ok (.putfield 19, 3) := by decide +kernel
theorem dX7_init_31 : decode cX7_init 31 = .ok (.aload_n 0, 1) := by decide +kernel
theorem dX7_init_32 : decode cX7_init 32 = .ok (.new 23, 3) := by decide +kernel
theorem dX7_init_35 : decode cX7_init 35 = .ok (.dup, 1) := by decide +kernel
theorem dX7_init_36 : decode cX7_init 36 = .ok (.invokespecial 25, 3) := by decide +kernel
theorem dX7_init_39 : decode cX7_init 39 = .ok (.putfield 26, 3) := by decide +kernel
theorem dX7_init_42 : decode cX7_init 42 = .ok (.aload_n 0, 1) := by decide +kernel
theorem dX7_init_43 : decode cX7_init 43 = .ok (.new 30, 3) := by decide +kernel
theorem dX7_init_46 : decode cX7_init 46 = .ok (.dup, 1) := by decide +kernel
theorem dX7_init_47 : decode cX7_init 47 = .ok (.invokespecial 32, 3) := by decide +kernel
theorem dX7_init_50 : decode cX7_init 50 = .ok (.putfield 33, 3) := by decide +kernel
theorem dX7_init_53 : decode cX7_init 53 = .ok (.aload_n 0, 1) := by decide +kernel
theorem dX7_init_54 : decode cX7_init 54 = .ok (.new 37, 3) := by decide +kernel
theorem dX7_init_57 : decode cX7_init 57 = .ok (.dup, 1) := by decide +kernel
theorem dX7_init_58 : decode cX7_init 58 = .ok (.aload_n 0, 1) := by decide +kernel
theorem dX7_init_59 : decode cX7_init 59 = .ok (.getfield 33, 3) := by decide +kernel
theorem dX7_init_62 : decode cX7_init 62 = .ok (.invokespecial 39, 3) := by decide +kernel
theorem dX7_init_65 : decode cX7_init 65 = .ok (.putfield 42, 3) := by decide +kernel
theorem dX7_init_68 : decode cX7_init 68 = .ok (.aload_n 0, 1) := by decide +kernel
theorem dX7_init_69 : decode cX7_init 69 = .ok (.new 46, 3) := by decide +kernel
theorem dX7_init_72 : decode cX7_init 72 = .ok (.dup, 1) := by decide +kernel
theorem dX7_init_73 : decode cX7_init 73 = .ok (.invokespecial 48, 3) := by decide +kernel
theorem dX7_init_76 : decode cX7_init 76 = .ok (.putfield 49, 3) := by decide +kernel
theorem dX7_init_79 : decode cX7_init 79 = .ok (.aload_n 0, 1) := by decide +kernel
theorem dX7_init_80 : decode cX7_init 80 = .ok (.new 53, 3) := by decide +kernel
theorem dX7_init_83 : decode cX7_init 83 = .ok (.dup, 1) := by decide +kernel
theorem dX7_init_84 : decode cX7_init 84 = .ok (.aload_n 0, 1) := by decide +kernel
theorem dX7_init_85 : decode cX7_init 85 = .ok (.getfield 10, 3) := by decide +kernel
theorem dX7_init_88 : decode cX7_init 88 = .ok (.invokespecial 55, 3) := by decide +kernel
theorem dX7_init_91 : decode cX7_init 91 = .ok (.putfield 58, 3) := by decide +kernel
theorem dX7_init_94 : decode cX7_init 94 = .ok (.aload_n 0, 1) := by decide +kernel
theorem dX7_init_95 : decode cX7_init 95 = .ok (.new 53, 3) := by decide +kernel
theorem dX7_init_98 : decode cX7_init 98 = .ok (.dup, 1) := by decide +kernel
theorem dX7_init_99 : decode cX7_init 99 = .ok (.aload_n 0, 1) := by decide +kernel
theorem dX7_init_100 : decode cX7_init 100 = .ok (.getfield 10, 3) := by decide +kernel
theorem dX7_init_103 : decode cX7_init 103 = .ok (.invokespecial 55, 3) := by decide +kernel
theorem dX7_init_106 : decode cX7_init 106 = .ok (.putfield 62, 3) := by decide +kernel
theorem dX7_init_109 : decode cX7_init 109 = .ok (.return_, 1) := by decide +kernel
set_option maxRecDepth 20000 in
theorem ggX7_addPerson_X7_isRank : GoodIn wsX7_addPerson wsX7_isRank := goodIn_r _ [7] (by decide +kernel) (by decide +kernel)
set_option maxRecDepth 20000 in
theorem gX7_addPerson_X7_isRank : GoodIn wsX7_addPerson (va_wsS RX7 65 yX7_isRank wsX7_isRank) := goodIn_app (goodIn_of _ (by decide +kernel)) ggX7_addPerson_X7_isRank
set_option maxRecDepth 20000 in
theorem ggX7_addPerson_X2_record : GoodIn wsX7_addPerson wsX2_record := goodIn_r _ [12, 13, 14, 15, 16, 17, 11, 18, 19, 20, 21, 22, 23, 24, 25, 26, 27, 28, 29, 30, 31, 32, 33, 34, 35, 36, 37, 38, 39, 40, 67, 68, 54, 55, 56, 57, 58, 59, 60, 61, 62, 63, 64, 65, 66] (by decide +kernel) (by decide +kernel)
set_option maxRecDepth 20000 in
theorem gX7_addPerson_X2_record : GoodIn wsX7_addPerson (wsV RX7 73 RX2 yX2_record wsX2_record) := goodIn_app (goodIn_of _ (by decide +kernel)) ggX7_addPerson_X2_record
set_option maxRecDepth 20000 in
theorem ggX7_addPerson_X1_admit : GoodIn wsX7_addPerson wsX1_admit := goodIn_r _ [44, 24, 29, 54, 55, 56, 57, 58, 59, 60, 61, 62, 63, 64, 65, 66] (by decide +kernel) (by decide +kernel)
set_option maxRecDepth 20000 in
theorem gX7_addPerson_X1_admit : GoodIn wsX7_addPerson (wsV RX7 76 RX1 yX1_admit wsX1_admit) := goodIn_app (goodIn_of _ (by decide +kernel)) ggX7_addPerson_X1_admit
theorem dX7_addPerson_0 : decode cX7_addPerson 0 = .ok (.iload_n 1, 1) := by decide +kernel
theorem dX7_addPerson_1 : decode cX7_addPerson 1 = .ok (.invokestatic 65, 3) := by decide +kernel
theorem dX7_addPerson_4 : decode cX7_addPerson 4 = .ok (.ifCond .ne 6, 3) := by decide +kernel
theorem dX7_addPerson_7 : decode cX7_addPerson 7 = .ok (.bipush (-2), 2) := by decide +kernel
theorem dX7_addPerson_9 : decode cX7_addPerson 9 = .ok (.ireturn, 1) := by decide +kernel
theorem dX7_addPerson_10 : decode cX7_addPerson 10 = .ok (.aload_n 0, 1) := by decide +kernel
theorem dX7_addPerson_11 : decode cX7_addPerson 11 = .ok (.getfield 10, 3) := by decide +kernel
theorem dX7_addPerson_14 : decode cX7_addPerson 14 = .ok (.getfield 69, 3) := by decide +kernel
theorem dX7_addPerson_17 : decode cX7_addPerson 17 = .ok (.bipush 6, 2) := by decide +kernel
theorem dX7_addPerson_19 : decode cX7_addPerson 19 = .ok (.if_icmp .lt 6, 3) := by decide +kernel
theorem dX7_addPerson_22 : decode cX7_addPerson 22 = .ok (.bipush (-3), 2) := by decide +kernel
theorem dX7_addPerson_24 : decode cX7_addPerson 24 = .ok (.ireturn, 1) := by decide +kernel
theorem dX7_addPerson_25 : decode cX7_addPerson 25 = .ok (.aload_n 0, 1) := by decide +kernel
theorem dX7_addPerson_26 : decode cX7_addPerson 26 = .ok (.getfield 26, 3) := by decide +kernel
theorem dX7_addPerson_29 : decode cX7_addPerson 29 = .ok (.aload_n 0, 1) := by decide +kernel
theorem dX7_addPerson_30 : decode cX7_addPerson 30 = .ok (.getfield 10, 3) := by decide +kernel
theorem dX7_addPerson_33 : decode cX7_addPerson 33 = .ok (.invokevirtual 73, 3) := by decide +kernel
theorem dX7_addPerson_36 : decode cX7_addPerson 36 = .ok (.aload_n 0, 1) := by decide +kernel
theorem dX7_addPerson_37 : decode cX7_addPerson 37 = .ok (.getfield 10, 3) := by decide +kernel
theorem dX7_addPerson_40 : decode cX7_addPerson 40 = .ok (.iload_n 1, 1) := by decide +kernel
theorem dX7_addPerson_41 : decode cX7_addPerson 41 = .ok (.invokevirtual 76, 3) := by decide +kernel
theorem dX7_addPerson_44 : decode cX7_addPerson 44 = .ok (.ireturn, 1) := by decide +kernel
set_option maxRecDepth 20000 in
theorem ggX7_setRank_X1_isPerson : GoodIn wsX7_setRank wsX1_isPerson := goodIn_r _ [8, 9, 54, 55, 56, 57, 58, 59, 60, 61, 62, 63, 64, 65, 66] (by decide +kernel) (by decide +kernel)
set_option maxRecDepth 20000 in
theorem gX7_setRank_X1_isPerson : GoodIn wsX7_setRank (wsV RX7 80 RX1 yX1_isPerson wsX1_isPerson) := goodIn_app (goodIn_of _ (by decide +kernel)) ggX7_setRank_X1_isPerson
set_option maxRecDepth 20000 in
theorem ggX7_setRank_X7_isRank : GoodIn wsX7_setRank wsX7_isRank := goodIn_r _ [13] (by decide +kernel) (by decide +kernel)
set_option maxRecDepth 20000 in
theorem gX7_setRank_X7_isRank : GoodIn wsX7_setRank (va_wsS RX7 65 yX7_isRank wsX7_isRank) := goodIn_app (goodIn_of _ (by decide +kernel)) ggX7_setRank_X7_isRank
set_option maxRecDepth 20000 in
theorem ggX7_setRank_X2_record : GoodIn wsX7_setRank wsX2_record := goodIn_r _ [18, 19, 20, 21, 22, 23, 17, 24, 25, 26, 27, 7, 28, 9, 29, 30, 31, 32, 33, 34, 35, 36, 37, 38, 39, 40, 41, 42, 43, 44, 67, 68, 54, 55, 56, 57, 58, 59, 60, 61, 62, 63, 64, 65, 66] (by decide +kernel) (by decide +kernel)
set_option maxRecDepth 20000 in
theorem gX7_setRank_X2_record : GoodIn wsX7_setRank (wsV RX7 73 RX2 yX2_record wsX2_record) := goodIn_app (goodIn_of _ (by decide +kernel)) ggX7_setRank_X2_record
theorem dX7_setRank_0 : decode cX7_setRank 0 = .ok (.aload_n 0, 1) := by decide +kernel
theorem dX7_setRank_1 : decode cX7_setRank 1 = .ok (.getfield 10, 3) := by decide +kernel
theorem dX7_setRank_4 : decode cX7_setRank 4 = .ok (.iload_n 1, 1) := by decide +kernel
theorem dX7_setRank_5 : decode cX7_setRank 5 = .ok (.invokevirtual 80, 3) := by decide +kernel
theorem dX7_setRank_8 : decode cX7_setRank 8 = .ok (.ifCond .ne 5, 3) := by decide +kernel
theorem dX7_setRank_11 : decode cX7_setRank 11 = .ok (.iconst (-1), 1) := by decide +kernel
theorem dX7_setRank_12 : decode cX7_setRank 12 = .ok (.ireturn, 1) := by decide +kernel
theorem dX7_setRank_13 : decode cX7_setRank 13 = .ok (.iload_n 2, 1) := by decide +kernel
theorem dX7_setRank_14 : decode cX7_setRank 14 = .ok (.invokestatic 65, 3) := by decide +kernel
theorem dX7_setRank_17 : decode cX7_setRank 17 = .ok (.ifCond .ne 6, 3) := by decide +kernel
theorem dX7_setRank_20 : decode cX7_setRank 20 = .ok (.bipush (-2), 2) := by decide +kernel
theorem dX7_setRank_22 : decode cX7_setRank 22 = .ok (.ireturn, 1) := by decide +kernel
theorem dX7_setRank_23 : decode cX7_setRank 23 = .ok (.aload_n 0, 1) := by decide +kernel
theorem dX7_setRank_24 : decode cX7_setRank 24 = .ok (.getfield 10, 3) := by decide +kernel
theorem dX7_setRank_27 : decode cX7_setRank 27 = .ok (.getfield 83, 3) := by decide +kernel
theorem dX7_setRank_30 : decode cX7_setRank 30 = .ok (.iload_n 1, 1) := by decide +kernel
theorem dX7_setRank_31 : decode cX7_setRank 31 = .ok (.iaload, 1) := by decide +kernel
theorem dX7_setRank_32 : decode cX7_setRank 32 = .ok (.istore_n 3, 1) := by decide +kernel
theorem dX7_setRank_33 : decode cX7_setRank 33 = .ok (.iload_n 3, 1) := by decide +kernel
theorem dX7_setRank_34 : decode cX7_setRank 34 = .ok (.iload_n 2, 1) := by decide +kernel
theorem dX7_setRank_35 : decode cX7_setRank 35 = .ok (.if_icmp .ne 6, 3) := by decide +kernel
theorem dX7_setRank_38 : decode cX7_setRank 38 = .ok (.bipush (-5), 2) := by decide +kernel
theorem dX7_setRank_40 : decode cX7_setRank 40 = .ok (.ireturn, 1) := by decide +kernel
theorem dX7_setRank_41 : decode cX7_setRank 41 = .ok (.aload_n 0, 1) := by decide +kernel
theorem dX7_setRank_42 : decode cX7_setRank 42 = .ok (.getfield 26, 3) := by decide +kernel
theorem dX7_setRank_45 : decode cX7_setRank 45 = .ok (.aload_n 0, 1) := by decide +kernel
theorem dX7_setRank_46 : decode cX7_setRank 46 = .ok (.getfield 10, 3) := by decide +kernel
theorem dX7_setRank_49 : decode cX7_setRank 49 = .ok (.invokevirtual 73, 3) := by decide +kernel
theorem dX7_setRank_52 : decode cX7_setRank 52 = .ok (.aload_n 0, 1) := by decide +kernel
theorem dX7_setRank_53 : decode cX7_setRank 53 = .ok (.getfield 10, 3) := by decide +kernel
theorem dX7_setRank_56 : decode cX7_setRank 56 = .ok (.getfield 83, 3) := by decide +kernel
theorem dX7_setRank_59 : decode cX7_setRank 59 = .ok (.iload_n 1, 1) := by decide +kernel
theorem dX7_setRank_60 : decode cX7_setRank 60 = .ok (.iload_n 2, 1) := by decide +kernel
theorem dX7_setRank_61 : decode cX7_setRank 61 = .ok (.iastore, 1) := by decide +kernel
theorem dX7_setRank_62 : decode cX7_setRank 62 = .ok (.iload_n 3, 1) := by decide +kernel
theorem dX7_setRank_63 : decode cX7_setRank 63 = .ok (.ireturn, 1) := by decide +kernel
set_option maxRecDepth 20000 in
theorem ggX7_setTolerance_X0_areTolerance : GoodIn wsX7_setTolerance wsX0_areTolerance := goodIn_r _ [8, 9, 10, 11, 7, 12, 13, 14, 15, 16, 17, 18, 19, 20, 21] (by decide +kernel) (by decide +kernel)
set_option maxRecDepth 20000 in
theorem gX7_setTolerance_X0_areTolerance : GoodIn wsX7_setTolerance (va_wsS RX7 87 yX0_areTolerance wsX0_areTolerance) := goodIn_app (goodIn_of _ (by decide +kernel)) ggX7_setTolerance_X0_areTolerance
set_option maxRecDepth 20000 in
theorem ggX7_setTolerance_X2_record : GoodIn wsX7_setTolerance wsX2_record := goodIn_r _ [26, 27, 28, 29, 30, 31, 25, 32, 33, 34, 35, 36, 37, 38, 39, 40, 41, 42, 43, 44, 45, 46, 47, 48, 49, 50, 51, 52, 53, 54, 78, 79, 65, 66, 67, 68, 69, 70, 71, 72, 73, 74, 75, 76, 77] (by decide +kernel) (by decide +kernel)
set_option maxRecDepth 20000 in
theorem gX7_setTolerance_X2_record : GoodIn wsX7_setTolerance (wsV RX7 73 RX2 yX2_record wsX2_record) := goodIn_app (goodIn_of _ (by decide +kernel)) ggX7_setTolerance_X2_record
set_option maxRecDepth 20000 in
theorem ggX7_setTolerance_X0_toFloat : GoodIn wsX7_setTolerance wsX0_toFloat := goodIn_r _ [18, 19, 20, 21, 13, 14, 7, 15] (by decide +kernel) (by decide +kernel)
set_option maxRecDepth 20000 in
theorem gX7_setTolerance_X0_toFloat : GoodIn wsX7_setTolerance (va_wsS RX7 95 yX0_toFloat wsX0_toFloat) := goodIn_app (goodIn_of _ (by decide +kernel)) ggX7_setTolerance_X0_toFloat
theorem dX7_setTolerance_0 : decode cX7_setTolerance 0 = .ok (.iload_n 1, 1) := by decide +kernel
theorem dX7_setTolerance_1 : decode cX7_setTolerance 1 = .ok (.invokestatic 87, 3) := by decide +kernel
theorem dX7_setTolerance_4 : decode cX7_setTolerance 4 = .ok (.ifCond .ne 6, 3) := by decide +kernel
theorem dX7_setTolerance_7 : decode cX7_setTolerance 7 = .ok (.bipush (-2), 2) := by decide +kernel
theorem dX7_setTolerance_9 : decode cX7_setTolerance 9 = .ok (.ireturn, 1) := by decide +kernel
theorem dX7_setTolerance_10 : decode cX7_setTolerance 10 = .ok (.iload_n 1, 1) := by decide +kernel
theorem dX7_setTolerance_11 : decode cX7_setTolerance 11 = .ok (.aload_n 0, 1) := by decide +kernel
theorem dX7_setTolerance_12 : decode cX7_setTolerance 12 = .ok (.getfield 10, 3) := by decide +kernel
theorem dX7_setTolerance_15 : decode cX7_setTolerance 15 = .ok (.getfield 92, 3) := by decide +kernel
theorem dX7_setTolerance_18 : decode cX7_setTolerance 18 = .ok (.if_icmp .ne 6, 3) := by decide +kernel
theorem dX7_setTolerance_21 : decode cX7_setTolerance 21 = .ok (.bipush (-5), 2) := by decide +kernel
theorem dX7_setTolerance_23 : decode cX7_setTolerance 23 = .ok (.ireturn, 1) := by decide +kernel
theorem dX7_setTolerance_24 : decode cX7_setTolerance 24 = .ok (.aload_n 0, 1) := by decide +kernel
theorem dX7_setTolerance_25 : decode cX7_setTolerance 25 = .ok (.getfield 26, 3) := by decide +kernel
theorem dX7_setTolerance_28 : decode cX7_setTolerance 28 = .ok (.aload_n 0, 1) := by decide +kernel
theorem dX7_setTolerance_29 : decode cX7_setTolerance 29 = .ok (.getfield 10, 3) := by decide +kernel
theorem dX7_setTolerance_32 : decode cX7_setTolerance 32 = .ok (.invokevirtual 73, 3) := by decide +kernel
theorem dX7_setTolerance_35 : decode cX7_setTolerance 35 = .ok (.aload_n 0, 1) := by decide +kernel
theorem dX7_setTolerance_36 : decode cX7_setTolerance 36 = .ok (.getfield 10, 3) := by decide +kernel
theorem dX7_setTolerance_39 : decode cX7_setTolerance 39 = .ok (.iload_n 1, 1) := by decide +kernel
theorem dX7_setTolerance_40 : decode cX7_setTolerance 40 = .ok (.putfield 92, 3) := by decide +kernel
theorem dX7_setTolerance_43 : decode cX7_setTolerance 43 = .ok (.aload_n 0, 1) := by decide +kernel
theorem dX7_setTolerance_44 : decode cX7_setTolerance 44 = .ok (.getfield 10, 3) := by decide +kernel
theorem dX7_setTolerance_47 : decode cX7_setTolerance 47 = .ok (.iload_n 1, 1) := by decide +kernel
theorem dX7_setTolerance_48 : decode cX7_setTolerance 48 = .ok (.invokestatic 95, 3) := by decide +kernel
theorem dX7_setTolerance_51 : decode cX7_setTolerance 51 = .ok (.putfield 99, 3) := by decide +kernel
theorem dX7_setTolerance_54 : decode cX7_setTolerance 54 = .ok (.iconst 1, 1) := by decide +kernel
theorem dX7_setTolerance_55 : decode cX7_setTolerance 55 = .ok (.ireturn, 1) := by decide +kernel
set_option maxRecDepth 20000 in
theorem ggX7_nail_X1_isPerson : GoodIn wsX7_nail wsX1_isPerson := goodIn_r _ [7, 8, 93, 94, 95, 96, 97, 98, 99, 100, 101, 102, 103, 104, 105] (by decide +kernel) (by decide +kernel)
set_option maxRecDepth 20000 in
theorem gX7_nail_X1_isPerson : GoodIn wsX7_nail (wsV RX7 80 RX1 yX1_isPerson wsX1_isPerson) := goodIn_app (goodIn_of _ (by decide +kernel)) ggX7_nail_X1_isPerson
set_option maxRecDepth 20000 in
theorem ggX7_nail_X7_isWord : GoodIn wsX7_nail wsX7_isWord := goodIn_r _ [12] (by decide +kernel) (by decide +kernel)
set_option maxRecDepth 20000 in
theorem gX7_nail_X7_isWord : GoodIn wsX7_nail (va_wsS RX7 103 yX7_isWord wsX7_isWord) := goodIn_app (goodIn_of _ (by decide +kernel)) ggX7_nail_X7_isWord
set_option maxRecDepth 20000 in
theorem ggX7_nail_X0_areNumber : GoodIn wsX7_nail wsX0_areNumber := goodIn_r _ [16, 17, 18, 19, 20, 15, 21, 22, 23, 24, 25, 26, 27, 28, 29, 30] (by decide +kernel) (by decide +kernel)
set_option maxRecDepth 20000 in
theorem gX7_nail_X0_areNumber : GoodIn wsX7_nail (va_wsS RX7 106 yX0_areNumber wsX0_areNumber) := goodIn_app (goodIn_of _ (by decide +kernel)) ggX7_nail_X0_areNumber
set_option maxRecDepth 20000 in
theorem ggX7_nail_X0_areStrength : GoodIn wsX7_nail wsX0_areStrength := goodIn_r _ [33, 34, 35, 19, 20, 15, 21, 22, 23, 24, 25, 26, 27, 28, 29, 30] (by decide +kernel) (by decide +kernel)
set_option maxRecDepth 20000 in
theorem gX7_nail_X0_areStrength : GoodIn wsX7_nail (va_wsS RX7 109 yX0_areStrength wsX0_areStrength) := goodIn_app (goodIn_of _ (by decide +kernel)) ggX7_nail_X0_areStrength
set_option maxRecDepth 20000 in
theorem ggX7_nail_X1_hasRoomAfter : GoodIn wsX7_nail wsX1_hasRoomAfter := goodIn_r _ [39, 40, 41, 42, 43, 6, 44, 45, 46, 47, 48, 49, 93, 94, 95, 96, 97, 98, 99, 100, 101, 102, 103, 104, 105] (by decide +kernel) (by decide +kernel)
set_option maxRecDepth 20000 in
theorem gX7_nail_X1_hasRoomAfter : GoodIn wsX7_nail (wsV RX7 112 RX1 yX1_hasRoomAfter wsX1_hasRoomAfter) := goodIn_app (goodIn_of _ (by decide +kernel)) ggX7_nail_X1_hasRoomAfter
set_option maxRecDepth 20000 in
theorem ggX7_nail_X2_record : GoodIn wsX7_nail wsX2_record := goodIn_r _ [54, 55, 56, 57, 58, 59, 53, 60, 61, 62, 63, 6, 64, 8, 65, 66, 67, 40, 68, 69, 70, 71, 72, 73, 74, 75, 76, 77, 78, 49, 106, 107, 93, 94, 95, 96, 97, 98, 99, 100, 101, 102, 103, 104, 105] (by decide +kernel) (by decide +kernel)
set_option maxRecDepth 20000 in
theorem gX7_nail_X2_record : GoodIn wsX7_nail (wsV RX7 73 RX2 yX2_record wsX2_record) := goodIn_app (goodIn_of _ (by decide +kernel)) ggX7_nail_X2_record
set_option maxRecDepth 20000 in
theorem ggX7_nail_X0_toFloat : GoodIn wsX7_nail wsX0_toFloat := goodIn_r _ [27, 28, 29, 30, 22, 23, 15, 24] (by decide +kernel) (by decide +kernel)
set_option maxRecDepth 20000 in
theorem gX7_nail_X0_toFloat : GoodIn wsX7_nail (va_wsS RX7 95 yX0_toFloat wsX0_toFloat) := goodIn_app (goodIn_of _ (by decide +kernel)) ggX7_nail_X0_toFloat
set_option maxRecDepth 20000 in
theorem ggX7_nail_X1_hang : GoodIn wsX7_nail wsX1_hang := goodIn_r _ [83, 40, 73, 74, 75, 76, 77, 78, 49, 93, 94, 95, 96, 97, 98, 99, 100, 101, 102, 103, 104, 105] (by decide +kernel) (by decide +kernel)
set_option maxRecDepth 20000 in
theorem gX7_nail_X1_hang : GoodIn wsX7_nail (wsV RX7 115 RX1 yX1_hang wsX1_hang) := goodIn_app (goodIn_of _ (by decide +kernel)) ggX7_nail_X1_hang
theorem dX7_nail_0 : decode cX7_nail 0 = .ok (.aload_n 0, 1) := by decide +kernel
theorem dX7_nail_1 : decode cX7_nail 1 = .ok (.getfield 10, 3) := by decide +kernel
theorem dX7_nail_4 : decode cX7_nail 4 = .ok (.iload_n 1, 1) := by decide +kernel
theorem dX7_nail_5 : decode cX7_nail 5 = .ok (.invokevirtual 80, 3) := by decide +kernel
theorem dX7_nail_8 : decode cX7_nail 8 = .ok (.ifCond .eq 10, 3) := by decide +kernel
theorem dX7_nail_11 : decode cX7_nail 11 = .ok (.iload_n 2, 1) := by decide +kernel
theorem dX7_nail_12 : decode cX7_nail 12 = .ok (.invokestatic 103, 3) := by decide +kernel
theorem dX7_nail_15 : decode cX7_nail 15 = .ok (.ifCond .ne 5, 3) := by decide +kernel
theorem dX7_nail_18 : decode cX7_nail 18 = .ok (.iconst (-1), 1) := by decide +kernel
theorem dX7_nail_19 : decode cX7_nail 19 = .ok (.ireturn, 1) := by decide +kernel
theorem dX7_nail_20 : decode cX7_nail 20 = .ok (.iload_n 3, 1) := by decide +kernel
theorem dX7_nail_21 : decode cX7_nail 21 = .ok (.invokestatic 106, 3) := by decide +kernel
theorem dX7_nail_24 : decode cX7_nail 24 = .ok (.ifCond .eq 11, 3) := by decide +kernel
theorem dX7_nail_27 : decode cX7_nail 27 = .ok (.iload 4, 2) := by decide +kernel
theorem dX7_nail_29 : decode cX7_nail 29 = .ok (.invokestatic 109, 3) := by decide +kernel
theorem dX7_nail_32 : decode cX7_nail 32 = .ok (.ifCond .ne 6, 3) := by decide +kernel
theorem dX7_nail_35 : decode cX7_nail 35 = .ok (.bipush (-2), 2) := by decide +kernel
theorem dX7_nail_37 : decode cX7_nail 37 = .ok (.ireturn, 1) := by decide +kernel
theorem dX7_nail_38 : decode cX7_nail 38 = .ok (.aload_n 0, 1) := by decide +kernel
theorem dX7_nail_39 : decode cX7_nail 39 = .ok (.getfield 10, 3) := by decide +kernel
theorem dX7_nail_42 : decode cX7_nail 42 = .ok (.iconst 0, 1) := by decide +kernel
theorem dX7_nail_43 : decode cX7_nail 43 = .ok (.invokevirtual 112, 3) := by decide +kernel
theorem dX7_nail_46 : decode cX7_nail 46 = .ok (.ifCond .ne 6, 3) := by decide +kernel
theorem dX7_nail_49 : decode cX7_nail 49 = .ok (.bipush (-3), 2) := by decide +kernel
theorem dX7_nail_51 : decode cX7_nail 51 = .ok (.ireturn, 1) := by decide +kernel
theorem dX7_nail_52 : decode cX7_nail 52 = .ok (.aload_n 0, 1) := by decide +kernel
theorem dX7_nail_53 : decode cX7_nail 53 = .ok (.getfield 26, 3) := by decide +kernel
theorem dX7_nail_56 : decode cX7_nail 56 = .ok (.aload_n 0, 1) := by decide +kernel
theorem dX7_nail_57 : decode cX7_nail 57 = .ok (.getfield 10, 3) := by decide +kernel
theorem dX7_nail_60 : decode cX7_nail 60 = .ok (.invokevirtual 73, 3) := by decide +kernel
theorem dX7_nail_63 : decode cX7_nail 63 = .ok (.aload_n 0, 1) := by decide +kernel
theorem dX7_nail_64 : decode cX7_nail 64 = .ok (.getfield 10, 3) := by decide +kernel
theorem dX7_nail_67 : decode cX7_nail 67 = .ok (.iload_n 1, 1) := by decide +kernel
theorem dX7_nail_68 : decode cX7_nail 68 = .ok (.iload_n 2, 1) := by decide +kernel
theorem dX7_nail_69 : decode cX7_nail 69 = .ok (.bipush (-5), 2) := by decide +kernel
theorem dX7_nail_71 : decode cX7_nail 71 = .ok (.fconst 1, 1) := by decide +kernel
theorem dX7_nail_72 : decode cX7_nail 72 = .ok (.iload_n 3, 1) := by decide +kernel
theorem dX7_nail_73 : decode cX7_nail 73 = .ok (.invokestatic 95, 3) := by decide +kernel
theorem dX7_nail_76 : decode cX7_nail 76 = .ok (.iload 4, 2) := by decide +kernel
theorem dX7_nail_78 : decode cX7_nail 78 = .ok (.invokestatic 95, 3) := by decide +kernel
theorem dX7_nail_81 : decode cX7_nail 81 = .ok (.invokevirtual 115, 3) := by decide +kernel
theorem dX7_nail_84 : decode cX7_nail 84 = .ok (.ireturn, 1) := by decide +kernel
set_option maxRecDepth 20000 in
theorem ggX7_nailLink_X1_isPerson : GoodIn wsX7_nailLink wsX1_isPerson := goodIn_r _ [7, 8, 93, 94, 95, 96, 97, 98, 99, 100, 101, 102, 103, 104, 105] (by decide +kernel) (by decide +kernel)
set_option maxRecDepth 20000 in
theorem gX7_nailLink_X1_isPerson : GoodIn wsX7_nailLink (wsV RX7 80 RX1 yX1_isPerson wsX1_isPerson) := goodIn_app (goodIn_of _ (by decide +kernel)) ggX7_nailLink_X1_isPerson
set_option maxRecDepth 20000 in
theorem ggX7_nailLink_X7_isWord : GoodIn wsX7_nailLink wsX7_isWord := goodIn_r _ [12] (by decide +kernel) (by decide +kernel)
set_option maxRecDepth 20000 in
theorem gX7_nailLink_X7_isWord : GoodIn wsX7_nailLink (va_wsS RX7 103 yX7_isWord wsX7_isWord) := goodIn_app (goodIn_of _ (by decide +kernel)) ggX7_nailLink_X7_isWord
set_option maxRecDepth 20000 in
theorem ggX7_nailLink_X0_areNumber : GoodIn wsX7_nailLink wsX0_areNumber := goodIn_r _ [16, 17, 18, 19, 20, 15, 21, 22, 23, 24, 25, 26, 27, 28, 29, 30] (by decide +kernel) (by decide +kernel)
set_option maxRecDepth 20000 in
theorem gX7_nailLink_X0_areNumber : GoodIn wsX7_nailLink (va_wsS RX7 106 yX0_areNumber wsX0_areNumber) := goodIn_app (goodIn_of _ (by decide +kernel)) ggX7_nailLink_X0_areNumber
set_option maxRecDepth 20000 in
theorem ggX7_nailLink_X0_areStrength : GoodIn wsX7_nailLink wsX0_areStrength := goodIn_r _ [33, 34, 35, 19, 20, 15, 21, 22, 23, 24, 25, 26, 27, 28, 29, 30] (by decide +kernel) (by decide +kernel)
set_option maxRecDepth 20000 in
theorem gX7_nailLink_X0_areStrength : GoodIn wsX7_nailLink (va_wsS RX7 109 yX0_areStrength wsX0_areStrength) := goodIn_app (goodIn_of _ (by decide +kernel)) ggX7_nailLink_X0_areStrength
set_option maxRecDepth 20000 in
theorem ggX7_nailLink_X1_hasRoomAfter : GoodIn wsX7_nailLink wsX1_hasRoomAfter := goodIn_r _ [39, 40, 41, 42, 43, 6, 44, 45, 46, 47, 48, 49, 93, 94, 95, 96, 97, 98, 99, 100, 101, 102, 103, 104, 105] (by decide +kernel) (by decide +kernel)
set_option maxRecDepth 20000 in
theorem gX7_nailLink_X1_hasRoomAfter : GoodIn wsX7_nailLink (wsV RX7 112 RX1 yX1_hasRoomAfter wsX1_hasRoomAfter) := goodIn_app (goodIn_of _ (by decide +kernel)) ggX7_nailLink_X1_hasRoomAfter
set_option maxRecDepth 20000 in
theorem ggX7_nailLink_X2_record : GoodIn wsX7_nailLink wsX2_record := goodIn_r _ [54, 55, 56, 57, 58, 59, 53, 60, 61, 62, 63, 6, 64, 8, 65, 66, 67, 40, 68, 69, 70, 71, 72, 73, 74, 75, 76, 77, 78, 49, 106, 107, 93, 94, 95, 96, 97, 98, 99, 100, 101, 102, 103, 104, 105] (by decide +kernel) (by decide +kernel)
set_option maxRecDepth 20000 in
theorem gX7_nailLink_X2_record : GoodIn wsX7_nailLink (wsV RX7 73 RX2 yX2_record wsX2_record) := goodIn_app (goodIn_of _ (by decide +kernel)) ggX7_nailLink_X2_record
set_option maxRecDepth 20000 in
theorem ggX7_nailLink_X0_toFloat : GoodIn wsX7_nailLink wsX0_toFloat := goodIn_r _ [27, 28, 29, 30, 22, 23, 15, 24] (by decide +kernel) (by decide +kernel)
set_option maxRecDepth 20000 in
theorem gX7_nailLink_X0_toFloat : GoodIn wsX7_nailLink (va_wsS RX7 95 yX0_toFloat wsX0_toFloat) := goodIn_app (goodIn_of _ (by decide +kernel)) ggX7_nailLink_X0_toFloat
set_option maxRecDepth 20000 in
theorem ggX7_nailLink_X1_hang : GoodIn wsX7_nailLink wsX1_hang := goodIn_r _ [83, 40, 73, 74, 75, 76, 77, 78, 49, 93, 94, 95, 96, 97, 98, 99, 100, 101, 102, 103, 104, 105] (by decide +kernel) (by decide +kernel)
set_option maxRecDepth 20000 in
theorem gX7_nailLink_X1_hang : GoodIn wsX7_nailLink (wsV RX7 115 RX1 yX1_hang wsX1_hang) := goodIn_app (goodIn_of _ (by decide +kernel)) ggX7_nailLink_X1_hang
theorem dX7_nailLink_0 : decode cX7_nailLink 0 = .ok (.aload_n 0, 1) := by decide +kernel
theorem dX7_nailLink_1 : decode cX7_nailLink 1 = .ok (.getfield 10, 3) := by decide +kernel
theorem dX7_nailLink_4 : decode cX7_nailLink 4 = .ok (.iload_n 1, 1) := by decide +kernel
theorem dX7_nailLink_5 : decode cX7_nailLink 5 = .ok (.invokevirtual 80, 3) := by decide +kernel
theorem dX7_nailLink_8 : decode cX7_nailLink 8 = .ok (.ifCond .eq 17, 3) := by decide +kernel
theorem dX7_nailLink_11 : decode cX7_nailLink 11 = .ok (.iload_n 2, 1) := by decide +kernel
theorem dX7_nailLink_12 : decode cX7_nailLink 12 = .ok (.invokestatic 103, 3) := by decide +kernel
theorem dX7_nailLink_15 : decode cX7_nailLink 15 = .ok (.ifCond .eq 10, 3) := by decide +kernel
theorem dX7_nailLink_18 : decode cX7_nailLink 18 = .ok (.iload_n 3, 1) := by decide +kernel
theorem dX7_nailLink_19 : decode cX7_nailLink 19 = .ok (.invokestatic 103, 3) := by decide +kernel
theorem dX7_nailLink_22 : decode cX7_nailLink 22 = .ok (.ifCond .ne 5, 3) := by decide +kernel
theorem dX7_nailLink_25 : decode cX7_nailLink 25 = .ok (.iconst (-1), 1) := by decide +kernel
theorem dX7_nailLink_26 : decode cX7_nailLink 26 = .ok (.ireturn, 1) := by decide +kernel
theorem dX7_nailLink_27 : decode cX7_nailLink 27 = .ok (.iload 4, 2) := by decide +kernel
theorem dX7_nailLink_29 : decode cX7_nailLink 29 = .ok (.invokestatic 106, 3) := by decide +kernel
theorem dX7_nailLink_32 : decode cX7_nailLink 32 = .ok (.ifCond .eq 24, 3) := by decide +kernel
theorem dX7_nailLink_35 : decode cX7_nailLink 35 = .ok (.iload 5, 2) := by decide +kernel
theorem dX7_nailLink_37 : decode cX7_nailLink 37 = .ok (.invokestatic 106, 3) := by decide +kernel
theorem dX7_nailLink_40 : decode cX7_nailLink 40 = .ok (.ifCond .eq 16, 3) := by decide +kernel
theorem dX7_nailLink_43 : decode cX7_nailLink 43 = .ok (.iload 6, 2) := by decide +kernel
theorem dX7_nailLink_45 : decode cX7_nailLink 45 = .ok (.invokestatic 109, 3) := by decide +kernel
theorem dX7_nailLink_48 : decode cX7_nailLink 48 = .ok (.ifCond .eq 8, 3) := by decide +kernel
theorem dX7_nailLink_51 : decode cX7_nailLink 51 = .ok (.iload_n 2, 1) := by decide +kernel
theorem dX7_nailLink_52 : decode cX7_nailLink 52 = .ok (.iload_n 3, 1) := by decide +kernel
theorem dX7_nailLink_53 : decode cX7_nailLink 53 = .ok (.if_icmp .ne 6, 3) := by decide +kernel
theorem dX7_nailLink_56 : decode cX7_nailLink 56 = .ok (.bipush (-2), 2) := by decide +kernel
theorem dX7_nailLink_58 : decode cX7_nailLink 58 = .ok (.ireturn, 1) := by decide +kernel
theorem dX7_nailLink_59 : decode cX7_nailLink 59 = .ok (.aload_n 0, 1) := by decide +kernel
theorem dX7_nailLink_60 : decode cX7_nailLink 60 = .ok (.getfield 10, 3) := by decide +kernel
theorem dX7_nailLink_63 : decode cX7_nailLink 63 = .ok (.iconst 0, 1) := by decide +kernel
theorem dX7_nailLink_64 : decode cX7_nailLink 64 = .ok (.invokevirtual 112, 3) := by decide +kernel
theorem dX7_nailLink_67 : decode cX7_nailLink 67 = .ok (.ifCond .ne 6, 3) := by decide +kernel
theorem dX7_nailLink_70 : decode cX7_nailLink 70 = .ok (.bipush (-3), 2) := by decide +kernel
theorem dX7_nailLink_72 : decode cX7_nailLink 72 = .ok (.ireturn, 1) := by decide +kernel
theorem dX7_nailLink_73 : decode cX7_nailLink 73 = .ok (.aload_n 0, 1) := by decide +kernel
theorem dX7_nailLink_74 : decode cX7_nailLink 74 = .ok (.getfield 26, 3) := by decide +kernel
theorem dX7_nailLink_77 : decode cX7_nailLink 77 = .ok (.aload_n 0, 1) := by decide +kernel
theorem dX7_nailLink_78 : decode cX7_nailLink 78 = .ok (.getfield 10, 3) := by decide +kernel
theorem dX7_nailLink_81 : decode cX7_nailLink 81 = .ok (.invokevirtual 73, 3) := by decide +kernel
theorem dX7_nailLink_84 : decode cX7_nailLink 84 = .ok (.aload_n 0, 1) := by decide +kernel
theorem dX7_nailLink_85 : decode cX7_nailLink 85 = .ok (.getfield 10, 3) := by decide +kernel
theorem dX7_nailLink_88 : decode cX7_nailLink 88 = .ok (.iload_n 1, 1) := by decide +kernel
theorem dX7_nailLink_89 : decode cX7_nailLink 89 = .ok (.iload_n 2, 1) := by decide +kernel
theorem dX7_nailLink_90 : decode cX7_nailLink 90 = .ok (.iload_n 3, 1) := by decide +kernel
theorem dX7_nailLink_91 : decode cX7_nailLink 91 = .ok (.iload 4, 2) := by decide +kernel
theorem dX7_nailLink_93 : decode cX7_nailLink 93 = .ok (.invokestatic 95, 3) := by decide +kernel
theorem dX7_nailLink_96 : decode cX7_nailLink 96 = .ok (.iload 5, 2) := by decide +kernel
theorem dX7_nailLink_98 : decode cX7_nailLink 98 = .ok (.invokestatic 95, 3) := by decide +kernel
theorem dX7_nailLink_101 : decode cX7_nailLink 101 = .ok (.iload 6, 2) := by decide +kernel
theorem dX7_nailLink_103 : decode cX7_nailLink 103 = .ok (.invokestatic 95, 3) := by decide +kernel
theorem dX7_nailLink_106 : decode cX7_nailLink 106 = .ok (.invokevirtual 115, 3) := by decide +kernel
theorem dX7_nailLink_109 : decode cX7_nailLink 109 = .ok (.ireturn, 1) := by decide +kernel
set_option maxRecDepth 20000 in
theorem ggX7_tear_X1_isOrder : GoodIn wsX7_tear wsX1_isOrder := goodIn_r _ [9, 10, 68, 69, 70, 71, 72, 73, 74, 75, 76, 77, 78, 79, 80] (by decide +kernel) (by decide +kernel)
set_option maxRecDepth 20000 in
theorem gX7_tear_X1_isOrder : GoodIn wsX7_tear (wsV RX7 119 RX1 yX1_isOrder wsX1_isOrder) := goodIn_app (goodIn_of _ (by decide +kernel)) ggX7_tear_X1_isOrder
set_option maxRecDepth 20000 in
theorem ggX7_tear_X1_hangs : GoodIn wsX7_tear wsX1_hangs := goodIn_r _ [14, 15, 68, 69, 70, 71, 72, 73, 74, 75, 76, 77, 78, 79, 80] (by decide +kernel) (by decide +kernel)
set_option maxRecDepth 20000 in
theorem gX7_tear_X1_hangs : GoodIn wsX7_tear (wsV RX7 122 RX1 yX1_hangs wsX1_hangs) := goodIn_app (goodIn_of _ (by decide +kernel)) ggX7_tear_X1_hangs
set_option maxRecDepth 20000 in
theorem ggX7_tear_X2_record : GoodIn wsX7_tear wsX2_record := goodIn_r _ [20, 21, 22, 23, 24, 25, 19, 26, 27, 28, 29, 8, 30, 31, 32, 33, 34, 10, 35, 36, 37, 38, 39, 40, 41, 42, 43, 44, 45, 15, 81, 82, 68, 69, 70, 71, 72, 73, 74, 75, 76, 77, 78, 79, 80] (by decide +kernel) (by decide +kernel)
set_option maxRecDepth 20000 in
theorem gX7_tear_X2_record : GoodIn wsX7_tear (wsV RX7 73 RX2 yX2_record wsX2_record) := goodIn_app (goodIn_of _ (by decide +kernel)) ggX7_tear_X2_record
set_option maxRecDepth 20000 in
theorem ggX7_tear_X1_hangingFor : GoodIn wsX7_tear wsX1_hangingFor := goodIn_r _ [49, 10, 50, 51, 52, 8, 53, 54, 55, 56, 57, 41, 58, 12, 13, 14, 15, 68, 69, 70, 71, 72, 73, 74, 75, 76, 77, 78, 79, 80] (by decide +kernel) (by decide +kernel)
set_option maxRecDepth 20000 in
theorem gX7_tear_X1_hangingFor : GoodIn wsX7_tear (wsV RX7 131 RX1 yX1_hangingFor wsX1_hangingFor) := goodIn_app (goodIn_of _ (by decide +kernel)) ggX7_tear_X1_hangingFor
theorem dX7_tear_0 : decode cX7_tear 0 = .ok (.aload_n 0, 1) := by decide +kernel
theorem dX7_tear_1 : decode cX7_tear 1 = .ok (.getfield 10, 3) := by decide +kernel
theorem dX7_tear_4 : decode cX7_tear 4 = .ok (.iload_n 1, 1) := by decide +kernel
theorem dX7_tear_5 : decode cX7_tear 5 = .ok (.invokevirtual 119, 3) := by decide +kernel
theorem dX7_tear_8 : decode cX7_tear 8 = .ok (.ifCond .ne 5, 3) := by decide +kernel
theorem dX7_tear_11 : decode cX7_tear 11 = .ok (.iconst (-1), 1) := by decide +kernel
theorem dX7_tear_12 : decode cX7_tear 12 = .ok (.ireturn, 1) := by decide +kernel
theorem dX7_tear_13 : decode cX7_tear 13 = .ok (.aload_n 0, 1) := by decide +kernel
theorem dX7_tear_14 : decode cX7_tear 14 = .ok (.getfield 10, 3) := by decide +kernel
theorem dX7_tear_17 : decode cX7_tear 17 = .ok (.iload_n 1, 1) := by decide +kernel
theorem dX7_tear_18 : decode cX7_tear 18 = .ok (.invokevirtual 122, 3) := by decide +kernel
theorem dX7_tear_21 : decode cX7_tear 21 = .ok (.ifCond .ne 6, 3) := by decide +kernel
theorem dX7_tear_24 : decode cX7_tear 24 = .ok (.bipush (-5), 2) := by decide +kernel
theorem dX7_tear_26 : decode cX7_tear 26 = .ok (.ireturn, 1) := by decide +kernel
theorem dX7_tear_27 : decode cX7_tear 27 = .ok (.aload_n 0, 1) := by decide +kernel
theorem dX7_tear_28 : decode cX7_tear 28 = .ok (.getfield 26, 3) := by decide +kernel
theorem dX7_tear_31 : decode cX7_tear 31 = .ok (.aload_n 0, 1) := by decide +kernel
theorem dX7_tear_32 : decode cX7_tear 32 = .ok (.getfield 10, 3) := by decide +kernel
theorem dX7_tear_35 : decode cX7_tear 35 = .ok (.invokevirtual 73, 3) := by decide +kernel
theorem dX7_tear_38 : decode cX7_tear 38 = .ok (.aload_n 0, 1) := by decide +kernel
theorem dX7_tear_39 : decode cX7_tear 39 = .ok (.getfield 10, 3) := by decide +kernel
theorem dX7_tear_42 : decode cX7_tear 42 = .ok (.getfield 125, 3) := by decide +kernel
theorem dX7_tear_45 : decode cX7_tear 45 = .ok (.iload_n 1, 1) := by decide +kernel
theorem dX7_tear_46 : decode cX7_tear 46 = .ok (.iconst 3, 1) := by decide +kernel
theorem dX7_tear_47 : decode cX7_tear 47 = .ok (.iastore, 1) := by decide +kernel
theorem dX7_tear_48 : decode cX7_tear 48 = .ok (.aload_n 0, 1) := by decide +kernel
theorem dX7_tear_49 : decode cX7_tear 49 = .ok (.getfield 10, 3) := by decide +kernel
theorem dX7_tear_52 : decode cX7_tear 52 = .ok (.aload_n 0, 1) := by decide +kernel
theorem dX7_tear_53 : decode cX7_tear 53 = .ok (.getfield 10, 3) := by decide +kernel
theorem dX7_tear_56 : decode cX7_tear 56 = .ok (.getfield 128, 3) := by decide +kernel
theorem dX7_tear_59 : decode cX7_tear 59 = .ok (.iload_n 1, 1) := by decide +kernel
theorem dX7_tear_60 : decode cX7_tear 60 = .ok (.iaload, 1) := by decide +kernel
theorem dX7_tear_61 : decode cX7_tear 61 = .ok (.invokevirtual 131, 3) := by decide +kernel
theorem dX7_tear_64 : decode cX7_tear 64 = .ok (.ireturn, 1) := by decide +kernel
set_option maxRecDepth 20000 in
theorem ggX7_hammer_X1_isOrder : GoodIn wsX7_hammer wsX1_isOrder := goodIn_r _ [10, 11, 61, 62, 63, 64, 65, 66, 67, 68, 69, 70, 71, 72, 73] (by decide +kernel) (by decide +kernel)
set_option maxRecDepth 20000 in
theorem gX7_hammer_X1_isOrder : GoodIn wsX7_hammer (wsV RX7 119 RX1 yX1_isOrder wsX1_isOrder) := goodIn_app (goodIn_of _ (by decide +kernel)) ggX7_hammer_X1_isOrder
set_option maxRecDepth 20000 in
theorem ggX7_hammer_X1_hangs : GoodIn wsX7_hammer wsX1_hangs := goodIn_r _ [15, 16, 61, 62, 63, 64, 65, 66, 67, 68, 69, 70, 71, 72, 73] (by decide +kernel) (by decide +kernel)
set_option maxRecDepth 20000 in
theorem gX7_hammer_X1_hangs : GoodIn wsX7_hammer (wsV RX7 122 RX1 yX1_hangs wsX1_hangs) := goodIn_app (goodIn_of _ (by decide +kernel)) ggX7_hammer_X1_hangs
set_option maxRecDepth 20000 in
theorem ggX7_hammer_X2_record : GoodIn wsX7_hammer wsX2_record := goodIn_r _ [21, 22, 23, 24, 25, 26, 20, 27, 28, 29, 30, 9, 31, 32, 33, 34, 35, 11, 36, 37, 38, 39, 40, 41, 42, 43, 44, 45, 46, 16, 74, 75, 61, 62, 63, 64, 65, 66, 67, 68, 69, 70, 71, 72, 73] (by decide +kernel) (by decide +kernel)
set_option maxRecDepth 20000 in
theorem gX7_hammer_X2_record : GoodIn wsX7_hammer (wsV RX7 73 RX2 yX2_record wsX2_record) := goodIn_app (goodIn_of _ (by decide +kernel)) ggX7_hammer_X2_record
set_option maxRecDepth 20000 in
theorem ggX7_hammer_X1_hundredthsOfStrength : GoodIn wsX7_hammer wsX1_hundredthsOfStrength := goodIn_r _ [50, 46, 51, 61, 62, 63, 64, 65, 66, 67, 68, 69, 70, 71, 72, 73] (by decide +kernel) (by decide +kernel)
set_option maxRecDepth 20000 in
theorem gX7_hammer_X1_hundredthsOfStrength : GoodIn wsX7_hammer (wsV RX7 140 RX1 yX1_hundredthsOfStrength wsX1_hundredthsOfStrength) := goodIn_app (goodIn_of _ (by decide +kernel)) ggX7_hammer_X1_hundredthsOfStrength
theorem dX7_hammer_0 : decode cX7_hammer 0 = .ok (.aload_n 0, 1) := by decide +kernel
theorem dX7_hammer_1 : decode cX7_hammer 1 = .ok (.getfield 10, 3) := by decide +kernel
theorem dX7_hammer_4 : decode cX7_hammer 4 = .ok (.iload_n 1, 1) := by decide +kernel
theorem dX7_hammer_5 : decode cX7_hammer 5 = .ok (.invokevirtual 119, 3) := by decide +kernel
theorem dX7_hammer_8 : decode cX7_hammer 8 = .ok (.ifCond .ne 5, 3) := by decide +kernel
theorem dX7_hammer_11 : decode cX7_hammer 11 = .ok (.iconst (-1), 1) := by decide +kernel
theorem dX7_hammer_12 : decode cX7_hammer 12 = .ok (.ireturn, 1) := by decide +kernel
theorem dX7_hammer_13 : decode cX7_hammer 13 = .ok (.aload_n 0, 1) := by decide +kernel
theorem dX7_hammer_14 : decode cX7_hammer 14 = .ok (.getfield 10, 3) := by decide +kernel
theorem dX7_hammer_17 : decode cX7_hammer 17 = .ok (.iload_n 1, 1) := by decide +kernel
theorem dX7_hammer_18 : decode cX7_hammer 18 = .ok (.invokevirtual 122, 3) := by decide +kernel
theorem dX7_hammer_21 : decode cX7_hammer 21 = .ok (.ifCond .ne 6, 3) := by decide +kernel
theorem dX7_hammer_24 : decode cX7_hammer 24 = .ok (.bipush (-4), 2) := by decide +kernel
theorem dX7_hammer_26 : decode cX7_hammer 26 = .ok (.ireturn, 1) := by decide +kernel
theorem dX7_hammer_27 : decode cX7_hammer 27 = .ok (.aload_n 0, 1) := by decide +kernel
theorem dX7_hammer_28 : decode cX7_hammer 28 = .ok (.getfield 26, 3) := by decide +kernel
theorem dX7_hammer_31 : decode cX7_hammer 31 = .ok (.aload_n 0, 1) := by decide +kernel
theorem dX7_hammer_32 : decode cX7_hammer 32 = .ok (.getfield 10, 3) := by decide +kernel
theorem dX7_hammer_35 : decode cX7_hammer 35 = .ok (.invokevirtual 73, 3) := by decide +kernel
theorem dX7_hammer_38 : decode cX7_hammer 38 = .ok (.aload_n 0, 1) := by decide +kernel
theorem dX7_hammer_39 : decode cX7_hammer 39 = .ok (.getfield 10, 3) := by decide +kernel
theorem dX7_hammer_42 : decode cX7_hammer 42 = .ok (.getfield 134, 3) := by decide +kernel
theorem dX7_hammer_45 : decode cX7_hammer 45 = .ok (.iload_n 1, 1) := by decide +kernel
theorem dX7_hammer_46 : decode cX7_hammer 46 = .ok (.faload, 1) := by decide +kernel
theorem dX7_hammer_47 : decode cX7_hammer 47 = .ok (.fstore_n 2, 1) := by decide +kernel
theorem dX7_hammer_48 : decode cX7_hammer 48 = .ok (.aload_n 0, 1) := by decide +kernel
theorem dX7_hammer_49 : decode cX7_hammer 49 = .ok (.getfield 10, 3) := by decide +kernel
theorem dX7_hammer_52 : decode cX7_hammer 52 = .ok (.getfield 134, 3) := by decide +kernel
theorem dX7_hammer_55 : decode cX7_hammer 55 = .ok (.iload_n 1, 1) := by decide +kernel
theorem dX7_hammer_56 : decode cX7_hammer 56 = .ok (.fload_n 2, 1) := by decide +kernel
theorem dX7_hammer_57 : decode cX7_hammer 57 = .ok (.ldc 138, 2) := by decide +kernel
theorem dX7_hammer_59 : decode cX7_hammer 59 = .ok (.fload_n 2, 1) := by decide +kernel
theorem dX7_hammer_60 : decode cX7_hammer 60 = .ok (.fsub, 1) := by decide +kernel
theorem dX7_hammer_61 : decode cX7_hammer 61 = .ok (.ldc 139, 2) := by decide +kernel
theorem dX7_hammer_63 : decode cX7_hammer 63 = .ok (.fmul, 1) := by decide +kernel
theorem dX7_hammer_64 : decode cX7_hammer 64 = .ok (.fadd, 1) := by decide +kernel
theorem dX7_hammer_65 : decode cX7_hammer 65 = .ok (.fastore, 1) := by decide +kernel
theorem dX7_hammer_66 : decode cX7_hammer 66 = .ok (.aload_n 0, 1) := by decide +kernel
theorem dX7_hammer_67 : decode cX7_hammer 67 = .ok (.getfield 10, 3) := by decide +kernel
theorem dX7_hammer_70 : decode cX7_hammer 70 = .ok (.iload_n 1, 1) := by decide +kernel
theorem dX7_hammer_71 : decode cX7_hammer 71 = .ok (.invokevirtual 140, 3) := by decide +kernel
theorem dX7_hammer_74 : decode cX7_hammer 74 = .ok (.ireturn, 1) := by decide +kernel
set_option maxRecDepth 20000 in
theorem ggX7_storm_X0_areForce : GoodIn wsX7_storm wsX0_areForce := goodIn_r _ [7, 8, 9, 10, 11, 6, 12, 13, 14, 15, 16, 17, 18, 19, 20, 21] (by decide +kernel) (by decide +kernel)
set_option maxRecDepth 20000 in
theorem gX7_storm_X0_areForce : GoodIn wsX7_storm (va_wsS RX7 143 yX0_areForce wsX0_areForce) := goodIn_app (goodIn_of _ (by decide +kernel)) ggX7_storm_X0_areForce
set_option maxRecDepth 20000 in
theorem ggX7_storm_X2_record : GoodIn wsX7_storm wsX2_record := goodIn_r _ [26, 27, 28, 29, 30, 31, 25, 32, 33, 34, 35, 36, 37, 38, 39, 40, 41, 42, 43, 44, 45, 46, 47, 48, 49, 50, 51, 52, 53, 54, 80, 81, 82, 83, 84, 85, 86, 87, 88, 89, 90, 91, 92, 93, 94] (by decide +kernel) (by decide +kernel)
set_option maxRecDepth 20000 in
theorem gX7_storm_X2_record : GoodIn wsX7_storm (wsV RX7 73 RX2 yX2_record wsX2_record) := goodIn_app (goodIn_of _ (by decide +kernel)) ggX7_storm_X2_record
set_option maxRecDepth 20000 in
theorem ggX7_storm_X0_toFloat : GoodIn wsX7_storm wsX0_toFloat := goodIn_r _ [18, 19, 20, 21, 13, 14, 6, 15] (by decide +kernel) (by decide +kernel)
set_option maxRecDepth 20000 in
theorem gX7_storm_X0_toFloat : GoodIn wsX7_storm (va_wsS RX7 95 yX0_toFloat wsX0_toFloat) := goodIn_app (goodIn_of _ (by decide +kernel)) ggX7_storm_X0_toFloat
set_option maxRecDepth 20000 in
theorem ggX7_storm_X6_blow : GoodIn wsX7_storm wsX6_blow := goodIn_r _ [60, 61, 62, 63, 64, 65, 66, 67, 68, 69, 36, 70, 54, 95, 96, 82, 83, 84, 85, 86, 87, 88, 89, 90, 91, 92, 93, 94] (by decide +kernel) (by decide +kernel)
set_option maxRecDepth 20000 in
theorem gX7_storm_X6_blow : GoodIn wsX7_storm (wsV RX7 146 RX6 yX6_blow wsX6_blow) := goodIn_app (goodIn_of _ (by decide +kernel)) ggX7_storm_X6_blow
theorem dX7_storm_0 : decode cX7_storm 0 = .ok (.iload_n 1, 1) := by decide +kernel
theorem dX7_storm_1 : decode cX7_storm 1 = .ok (.invokestatic 143, 3) := by decide +kernel
theorem dX7_storm_4 : decode cX7_storm 4 = .ok (.ifCond .ne 6, 3) := by decide +kernel
theorem dX7_storm_7 : decode cX7_storm 7 = .ok (.bipush (-2), 2) := by decide +kernel
theorem dX7_storm_9 : decode cX7_storm 9 = .ok (.ireturn, 1) := by decide +kernel
theorem dX7_storm_10 : decode cX7_storm 10 = .ok (.aload_n 0, 1) := by decide +kernel
theorem dX7_storm_11 : decode cX7_storm 11 = .ok (.getfield 26, 3) := by decide +kernel
theorem dX7_storm_14 : decode cX7_storm 14 = .ok (.aload_n 0, 1) := by decide +kernel
theorem dX7_storm_15 : decode cX7_storm 15 = .ok (.getfield 10, 3) := by decide +kernel
theorem dX7_storm_18 : decode cX7_storm 18 = .ok (.invokevirtual 73, 3) := by decide +kernel
theorem dX7_storm_21 : decode cX7_storm 21 = .ok (.aload_n 0, 1) := by decide +kernel
theorem dX7_storm_22 : decode cX7_storm 22 = .ok (.getfield 49, 3) := by decide +kernel
theorem dX7_storm_25 : decode cX7_storm 25 = .ok (.aload_n 0, 1) := by decide +kernel
theorem dX7_storm_26 : decode cX7_storm 26 = .ok (.getfield 10, 3) := by decide +kernel
theorem dX7_storm_29 : decode cX7_storm 29 = .ok (.iload_n 1, 1) := by decide +kernel
theorem dX7_storm_30 : decode cX7_storm 30 = .ok (.invokestatic 95, 3) := by decide +kernel
theorem dX7_storm_33 : decode cX7_storm 33 = .ok (.invokevirtual 146, 3) := by decide +kernel
theorem dX7_storm_36 : decode cX7_storm 36 = .ok (.ireturn, 1) := by decide +kernel
set_option maxRecDepth 20000 in
theorem ggX7_value_X7_isWord : GoodIn wsX7_value wsX7_isWord := goodIn_r _ [7] (by decide +kernel) (by decide +kernel)
set_option maxRecDepth 20000 in
theorem gX7_value_X7_isWord : GoodIn wsX7_value (va_wsS RX7 103 yX7_isWord wsX7_isWord) := goodIn_app (goodIn_of _ (by decide +kernel)) ggX7_value_X7_isWord
set_option maxRecDepth 20000 in
theorem ggX7_value_X7_noFloat : GoodIn wsX7_value wsX7_noFloat := goodIn_r _ [10, 11] (by decide +kernel) (by decide +kernel)
set_option maxRecDepth 20000 in
theorem gX7_value_X7_noFloat : GoodIn wsX7_value (va_wsS RX7 187 yX7_noFloat wsX7_noFloat) := goodIn_app (goodIn_of _ (by decide +kernel)) ggX7_value_X7_noFloat
set_option maxRecDepth 20000 in
theorem ggX7_value_X4_settle : GoodIn wsX7_value wsX4_settle := goodIn_r _ [16, 17, 18, 19, 20, 21, 22, 15, 23, 24, 25, 26, 27, 28, 29, 30, 31, 32, 33, 34, 35, 36, 37, 38, 39, 40, 41, 42, 43, 44, 45, 46, 47, 48, 49, 50, 51, 52, 53, 54, 55, 65, 66, 67, 68, 69, 70, 71, 72, 73, 74, 75, 76, 77, 78, 79, 80, 81] (by decide +kernel) (by decide +kernel)
set_option maxRecDepth 20000 in
theorem gX7_value_X4_settle : GoodIn wsX7_value (wsV RX7 191 RX4 yX4_settle wsX4_settle) := goodIn_app (goodIn_of _ (by decide +kernel)) ggX7_value_X4_settle
theorem dX7_value_0 : decode cX7_value 0 = .ok (.iload_n 1, 1) := by decide +kernel
theorem dX7_value_1 : decode cX7_value 1 = .ok (.invokestatic 103, 3) := by decide +kernel
theorem dX7_value_4 : decode cX7_value 4 = .ok (.ifCond .ne 7, 3) := by decide +kernel
theorem dX7_value_7 : decode cX7_value 7 = .ok (.invokestatic 187, 3) := by decide +kernel
theorem dX7_value_10 : decode cX7_value 10 = .ok (.freturn, 1) := by decide +kernel
theorem dX7_value_11 : decode cX7_value 11 = .ok (.aload_n 0, 1) := by decide +kernel
theorem dX7_value_12 : decode cX7_value 12 = .ok (.getfield 58, 3) := by decide +kernel
theorem dX7_value_15 : decode cX7_value 15 = .ok (.bipush (-5), 2) := by decide +kernel
theorem dX7_value_17 : decode cX7_value 17 = .ok (.invokevirtual 191, 3) := by decide +kernel
theorem dX7_value_20 : decode cX7_value 20 = .ok (.aload_n 0, 1) := by decide +kernel
theorem dX7_value_21 : decode cX7_value 21 = .ok (.getfield 58, 3) := by decide +kernel
theorem dX7_value_24 : decode cX7_value 24 = .ok (.getfield 195, 3) := by decide +kernel
theorem dX7_value_27 : decode cX7_value 27 = .ok (.iload_n 1, 1) := by decide +kernel
theorem dX7_value_28 : decode cX7_value 28 = .ok (.baload, 1) := by decide +kernel
theorem dX7_value_29 : decode cX7_value 29 = .ok (.ifCond .eq 15, 3) := by decide +kernel
theorem dX7_value_32 : decode cX7_value 32 = .ok (.aload_n 0, 1) := by decide +kernel
theorem dX7_value_33 : decode cX7_value 33 = .ok (.getfield 58, 3) := by decide +kernel
theorem dX7_value_36 : decode cX7_value 36 = .ok (.getfield 199, 3) := by decide +kernel
theorem dX7_value_39 : decode cX7_value 39 = .ok (.iload_n 1, 1) := by decide +kernel
theorem dX7_value_40 : decode cX7_value 40 = .ok (.faload, 1) := by decide +kernel
theorem dX7_value_41 : decode cX7_value 41 = .ok (.goto 6, 3) := by decide +kernel
theorem dX7_value_44 : decode cX7_value 44 = .ok (.invokestatic 187, 3) := by decide +kernel
theorem dX7_value_47 : decode cX7_value 47 = .ok (.freturn, 1) := by decide +kernel
set_option maxRecDepth 20000 in
theorem ggX7_valueOf_X1_isOrder : GoodIn wsX7_valueOf wsX1_isOrder := goodIn_r _ [7, 8, 68, 69, 70, 71, 72, 73, 74, 75, 76, 77, 78, 79, 80] (by decide +kernel) (by decide +kernel)
set_option maxRecDepth 20000 in
theorem gX7_valueOf_X1_isOrder : GoodIn wsX7_valueOf (wsV RX7 119 RX1 yX1_isOrder wsX1_isOrder) := goodIn_app (goodIn_of _ (by decide +kernel)) ggX7_valueOf_X1_isOrder
set_option maxRecDepth 20000 in
theorem ggX7_valueOf_X7_noFloat : GoodIn wsX7_valueOf wsX7_noFloat := goodIn_r _ [12, 13] (by decide +kernel) (by decide +kernel)
set_option maxRecDepth 20000 in
theorem gX7_valueOf_X7_noFloat : GoodIn wsX7_valueOf (va_wsS RX7 187 yX7_noFloat wsX7_noFloat) := goodIn_app (goodIn_of _ (by decide +kernel)) ggX7_valueOf_X7_noFloat
set_option maxRecDepth 20000 in
theorem ggX7_valueOf_X4_settle : GoodIn wsX7_valueOf wsX4_settle := goodIn_r _ [18, 19, 20, 21, 22, 23, 24, 17, 25, 26, 27, 28, 29, 30, 31, 6, 32, 33, 34, 35, 36, 37, 38, 39, 40, 41, 42, 43, 44, 45, 46, 47, 48, 49, 50, 51, 52, 53, 54, 55, 56, 81, 82, 83, 84, 68, 69, 70, 71, 72, 73, 74, 75, 76, 77, 78, 79, 80] (by decide +kernel) (by decide +kernel)
set_option maxRecDepth 20000 in
theorem gX7_valueOf_X4_settle : GoodIn wsX7_valueOf (wsV RX7 191 RX4 yX4_settle wsX4_settle) := goodIn_app (goodIn_of _ (by decide +kernel)) ggX7_valueOf_X4_settle
set_option maxRecDepth 20000 in
theorem ggX7_valueOf_X4_orderHasValue : GoodIn wsX7_valueOf wsX4_orderHasValue := goodIn_r _ [47, 26, 48, 20, 49, 50, 51, 52, 53, 17, 54, 55, 21, 56, 81, 82, 83, 84, 68, 69, 70, 71, 72, 73, 74, 75, 76, 77, 78, 79, 80] (by decide +kernel) (by decide +kernel)
set_option maxRecDepth 20000 in
theorem gX7_valueOf_X4_orderHasValue : GoodIn wsX7_valueOf (wsV RX7 202 RX4 yX4_orderHasValue wsX4_orderHasValue) := goodIn_app (goodIn_of _ (by decide +kernel)) ggX7_valueOf_X4_orderHasValue
set_option maxRecDepth 20000 in
theorem ggX7_valueOf_X4_orderValue : GoodIn wsX7_valueOf wsX4_orderValue := goodIn_r _ [54, 26, 48, 55, 21, 56, 81, 82, 83, 84, 68, 69, 70, 71, 72, 73, 74, 75, 76, 77, 78, 79, 80] (by decide +kernel) (by decide +kernel)
set_option maxRecDepth 20000 in
theorem gX7_valueOf_X4_orderValue : GoodIn wsX7_valueOf (wsV RX7 205 RX4 yX4_orderValue wsX4_orderValue) := goodIn_app (goodIn_of _ (by decide +kernel)) ggX7_valueOf_X4_orderValue
theorem dX7_valueOf_0 : decode cX7_valueOf 0 = .ok (.aload_n 0, 1) := by decide +kernel
theorem dX7_valueOf_1 : decode cX7_valueOf 1 = .ok (.getfield 10, 3) := by decide +kernel
theorem dX7_valueOf_4 : decode cX7_valueOf 4 = .ok (.iload_n 1, 1) := by decide +kernel
theorem dX7_valueOf_5 : decode cX7_valueOf 5 = .ok (.invokevirtual 119, 3) := by decide +kernel
theorem dX7_valueOf_8 : decode cX7_valueOf 8 = .ok (.ifCond .ne 7, 3) := by decide +kernel
theorem dX7_valueOf_11 : decode cX7_valueOf 11 = .ok (.invokestatic 187, 3) := by decide +kernel
theorem dX7_valueOf_14 : decode cX7_valueOf 14 = .ok (.freturn, 1) := by decide +kernel
theorem dX7_valueOf_15 : decode cX7_valueOf 15 = .ok (.aload_n 0, 1) := by decide +kernel
theorem dX7_valueOf_16 : decode cX7_valueOf 16 = .ok (.getfield 58, 3) := by decide +kernel
theorem dX7_valueOf_19 : decode cX7_valueOf 19 = .ok (.bipush (-5), 2) := by decide +kernel
theorem dX7_valueOf_21 : decode cX7_valueOf 21 = .ok (.invokevirtual 191, 3) := by decide +kernel
theorem dX7_valueOf_24 : decode cX7_valueOf 24 = .ok (.aload_n 0, 1) := by decide +kernel
theorem dX7_valueOf_25 : decode cX7_valueOf 25 = .ok (.getfield 58, 3) := by decide +kernel
theorem dX7_valueOf_28 : decode cX7_valueOf 28 = .ok (.iload_n 1, 1) := by decide +kernel
theorem dX7_valueOf_29 : decode cX7_valueOf 29 = .ok (.invokevirtual 202, 3) := by decide +kernel
theorem dX7_valueOf_32 : decode cX7_valueOf 32 = .ok (.ifCond .eq 14, 3) := by decide +kernel
theorem dX7_valueOf_35 : decode cX7_valueOf 35 = .ok (.aload_n 0, 1) := by decide +kernel
theorem dX7_valueOf_36 : decode cX7_valueOf 36 = .ok (.getfield 58, 3) := by decide +kernel
theorem dX7_valueOf_39 : decode cX7_valueOf 39 = .ok (.iload_n 1, 1) := by decide +kernel
theorem dX7_valueOf_40 : decode cX7_valueOf 40 = .ok (.invokevirtual 205, 3) := by decide +kernel
theorem dX7_valueOf_43 : decode cX7_valueOf 43 = .ok (.goto 6, 3) := by decide +kernel
theorem dX7_valueOf_46 : decode cX7_valueOf 46 = .ok (.invokestatic 187, 3) := by decide +kernel
theorem dX7_valueOf_49 : decode cX7_valueOf 49 = .ok (.freturn, 1) := by decide +kernel
set_option maxRecDepth 20000 in
theorem ggX7_word_X7_isWord : GoodIn wsX7_word wsX7_isWord := goodIn_r _ [8] (by decide +kernel) (by decide +kernel)
set_option maxRecDepth 20000 in
theorem gX7_word_X7_isWord : GoodIn wsX7_word (va_wsS RX7 103 yX7_isWord wsX7_isWord) := goodIn_app (goodIn_of _ (by decide +kernel)) ggX7_word_X7_isWord
set_option maxRecDepth 20000 in
theorem ggX7_word_X4_settle : GoodIn wsX7_word wsX4_settle := goodIn_r _ [13, 14, 15, 16, 17, 18, 19, 12, 20, 21, 22, 23, 24, 25, 26, 27, 28, 29, 30, 31, 32, 33, 34, 35, 36, 37, 38, 39, 40, 41, 42, 43, 44, 45, 46, 47, 48, 49, 50, 51, 52, 115, 116, 117, 118, 119, 120, 121, 122, 123, 124, 125, 126, 127, 128, 129, 130, 131] (by decide +kernel) (by decide +kernel)
set_option maxRecDepth 20000 in
theorem gX7_word_X4_settle : GoodIn wsX7_word (wsV RX7 191 RX4 yX4_settle wsX4_settle) := goodIn_app (goodIn_of _ (by decide +kernel)) ggX7_word_X4_settle
set_option maxRecDepth 20000 in
theorem ggX7_word_X1_hangingAt : GoodIn wsX7_word wsX1_hangingAt := goodIn_r _ [56, 57, 58, 59, 60, 27, 61, 62, 63, 25, 26, 28, 29, 119, 120, 121, 122, 123, 124, 125, 126, 127, 128, 129, 130, 131] (by decide +kernel) (by decide +kernel)
set_option maxRecDepth 20000 in
theorem gX7_word_X1_hangingAt : GoodIn wsX7_word (wsV RX7 211 RX1 yX1_hangingAt wsX1_hangingAt) := goodIn_app (goodIn_of _ (by decide +kernel)) ggX7_word_X1_hangingAt
set_option maxRecDepth 20000 in
theorem ggX7_word_X1_hangingFor : GoodIn wsX7_word wsX1_hangingFor := goodIn_r _ [67, 57, 68, 69, 70, 27, 71, 58, 59, 60, 61, 62, 63, 25, 26, 28, 29, 119, 120, 121, 122, 123, 124, 125, 126, 127, 128, 129, 130, 131] (by decide +kernel) (by decide +kernel)
set_option maxRecDepth 20000 in
theorem gX7_word_X1_hangingFor : GoodIn wsX7_word (wsV RX7 131 RX1 yX1_hangingFor wsX1_hangingFor) := goodIn_app (goodIn_of _ (by decide +kernel)) ggX7_word_X1_hangingFor
set_option maxRecDepth 20000 in
theorem ggX7_word_X7_oneIf : GoodIn wsX7_word wsX7_oneIf := goodIn_r _ [74] (by decide +kernel) (by decide +kernel)
set_option maxRecDepth 20000 in
theorem gX7_word_X7_oneIf : GoodIn wsX7_word (va_wsS RX7 215 yX7_oneIf wsX7_oneIf) := goodIn_app (goodIn_of _ (by decide +kernel)) ggX7_word_X7_oneIf
set_option maxRecDepth 20000 in
theorem ggX7_word_X4_topmostRival : GoodIn wsX7_word wsX4_topmostRival := goodIn_r _ [78, 14, 21, 22, 79, 59, 60, 27, 61, 62, 63, 25, 26, 28, 29, 80, 81, 82, 12, 83, 84, 30, 31, 32, 33, 34, 35, 40, 41, 42, 43, 44, 15, 45, 46, 47, 48, 49, 50, 51, 16, 52, 85, 86, 87, 88, 89, 115, 116, 117, 118, 119, 120, 121, 122, 123, 124, 125, 126, 127, 128, 129, 130, 131] (by decide +kernel) (by decide +kernel)
set_option maxRecDepth 20000 in
theorem gX7_word_X4_topmostRival : GoodIn wsX7_word (wsV RX7 219 RX4 yX4_topmostRival wsX4_topmostRival) := goodIn_app (goodIn_of _ (by decide +kernel)) ggX7_word_X4_topmostRival
set_option maxRecDepth 20000 in
theorem ggX7_word_X4_dependents : GoodIn wsX7_word wsX4_dependents := goodIn_r _ [93, 94, 95, 96, 12, 97, 98, 99, 100, 101, 14, 21, 44, 115, 116, 117, 118, 119, 120, 121, 122, 123, 124, 125, 126, 127, 128, 129, 130, 131] (by decide +kernel) (by decide +kernel)
set_option maxRecDepth 20000 in
theorem gX7_word_X4_dependents : GoodIn wsX7_word (wsV RX7 222 RX4 yX4_dependents wsX4_dependents) := goodIn_app (goodIn_of _ (by decide +kernel)) ggX7_word_X4_dependents
set_option maxRecDepth 20000 in
theorem ggX7_word_X4_linksToEnd : GoodIn wsX7_word wsX4_linksToEnd := goodIn_r _ [105, 98, 99, 100, 12, 101, 14, 21, 44, 115, 116, 117, 118, 119, 120, 121, 122, 123, 124, 125, 126, 127, 128, 129, 130, 131] (by decide +kernel) (by decide +kernel)
set_option maxRecDepth 20000 in
theorem gX7_word_X4_linksToEnd : GoodIn wsX7_word (wsV RX7 225 RX4 yX4_linksToEnd wsX4_linksToEnd) := goodIn_app (goodIn_of _ (by decide +kernel)) ggX7_word_X4_linksToEnd
theorem dX7_word_0 : decode cX7_word 0 = .ok (.iload_n 1, 1) := by decide +kernel
theorem dX7_word_1 : decode cX7_word 1 = .ok (.invokestatic 103, 3) := by decide +kernel
theorem dX7_word_4 : decode cX7_word 4 = .ok (.ifCond .ne 5, 3) := by decide +kernel
theorem dX7_word_7 : decode cX7_word 7 = .ok (.iconst (-1), 1) := by decide +kernel
theorem dX7_word_8 : decode cX7_word 8 = .ok (.ireturn, 1) := by decide +kernel
theorem dX7_word_9 : decode cX7_word 9 = .ok (.aload_n 0, 1) := by decide +kernel
theorem dX7_word_10 : decode cX7_word 10 = .ok (.getfield 58, 3) := by decide +kernel
theorem dX7_word_13 : decode cX7_word 13 = .ok (.bipush (-5), 2) := by decide +kernel
theorem dX7_word_15 : decode cX7_word 15 = .ok (.invokevirtual 191, 3) := by decide +kernel
theorem dX7_word_18 : decode cX7_word 18 = .ok (.iload_n 2, 1) := by decide +kernel
theorem dX7_word_19 : decode cX7_word 19 = .ok (.tableswitch 110 0 6 #[41, 51, 61, 70, 83, 92, 101], 41) := by decide +kernel
theorem dX7_word_60 : decode cX7_word 60 = .ok (.aload_n 0, 1) := by decide +kernel
theorem dX7_word_61 : decode cX7_word 61 = .ok (.getfield 58, 3) := by decide +kernel
theorem dX7_word_64 : decode cX7_word 64 = .ok (.getfield 208, 3) := by decide +kernel
theorem dX7_word_67 : decode cX7_word 67 = .ok (.iload_n 1, 1) := by decide +kernel
theorem dX7_word_68 : decode cX7_word 68 = .ok (.iaload, 1) := by decide +kernel
theorem dX7_word_69 : decode cX7_word 69 = .ok (.ireturn, 1) := by decide +kernel
theorem dX7_word_70 : decode cX7_word 70 = .ok (.aload_n 0, 1) := by decide +kernel
theorem dX7_word_71 : decode cX7_word 71 = .ok (.getfield 10, 3) := by decide +kernel
theorem dX7_word_74 : decode cX7_word 74 = .ok (.iload_n 1, 1) := by decide +kernel
theorem dX7_word_75 : decode cX7_word 75 = .ok (.iconst 0, 1) := by decide +kernel
theorem dX7_word_76 : decode cX7_word 76 = .ok (.invokevirtual 211, 3) := by decide +kernel
theorem dX7_word_79 : decode cX7_word 79 = .ok (.ireturn, 1) := by decide +kernel
theorem dX7_word_80 : decode cX7_word 80 = .ok (.aload_n 0, 1) := by decide +kernel
theorem dX7_word_81 : decode cX7_word 81 = .ok (.getfield 10, 3) := by decide +kernel
theorem dX7_word_84 : decode cX7_word 84 = .ok (.iload_n 1, 1) := by decide +kernel
theorem dX7_word_85 : decode cX7_word 85 = .ok (.invokevirtual 131, 3) := by decide +kernel
theorem dX7_word_88 : decode cX7_word 88 = .ok (.ireturn, 1) := by decide +kernel
theorem dX7_word_89 : decode cX7_word 89 = .ok (.aload_n 0, 1) := by decide +kernel
theorem dX7_word_90 : decode cX7_word 90 = .ok (.getfield 58, 3) := by decide +kernel
theorem dX7_word_93 : decode cX7_word 93 = .ok (.getfield 195, 3) := by decide +kernel
theorem dX7_word_96 : decode cX7_word 96 = .ok (.iload_n 1, 1) := by decide +kernel
theorem dX7_word_97 : decode cX7_word 97 = .ok (.baload, 1) := by decide +kernel
theorem dX7_word_98 : decode cX7_word 98 = .ok (.invokestatic 215, 3) := by decide +kernel
theorem dX7_word_101 : decode cX7_word 101 = .ok (.ireturn, 1) := by decide +kernel
theorem dX7_word_102 : decode cX7_word 102 = .ok (.aload_n 0, 1) := by decide +kernel
theorem dX7_word_103 : decode cX7_word 103 = .ok (.getfield 58, 3) := by decide +kernel
theorem dX7_word_106 : decode cX7_word 106 = .ok (.iload_n 1, 1) := by decide +kernel
theorem dX7_word_107 : decode cX7_word 107 = .ok (.invokevirtual 219, 3) := by decide +kernel
theorem dX7_word_110 : decode cX7_word 110 = .ok (.ireturn, 1) := by decide +kernel
theorem dX7_word_111 : decode cX7_word 111 = .ok (.aload_n 0, 1) := by decide +kernel
theorem dX7_word_112 : decode cX7_word 112 = .ok (.getfield 58, 3) := by decide +kernel
theorem dX7_word_115 : decode cX7_word 115 = .ok (.iload_n 1, 1) := by decide +kernel
theorem dX7_word_116 : decode cX7_word 116 = .ok (.invokevirtual 222, 3) := by decide +kernel
theorem dX7_word_119 : decode cX7_word 119 = .ok (.ireturn, 1) := by decide +kernel
theorem dX7_word_120 : decode cX7_word 120 = .ok (.aload_n 0, 1) := by decide +kernel
theorem dX7_word_121 : decode cX7_word 121 = .ok (.getfield 58, 3) := by decide +kernel
theorem dX7_word_124 : decode cX7_word 124 = .ok (.iload_n 1, 1) := by decide +kernel
theorem dX7_word_125 : decode cX7_word 125 = .ok (.invokevirtual 225, 3) := by decide +kernel
theorem dX7_word_128 : decode cX7_word 128 = .ok (.ireturn, 1) := by decide +kernel
theorem dX7_word_129 : decode cX7_word 129 = .ok (.bipush (-2), 2) := by decide +kernel
theorem dX7_word_131 : decode cX7_word 131 = .ok (.ireturn, 1) := by decide +kernel
set_option maxRecDepth 20000 in
theorem ggX7_hangsAt_X7_isWord : GoodIn wsX7_hangsAt wsX7_isWord := goodIn_r _ [5] (by decide +kernel) (by decide +kernel)
set_option maxRecDepth 20000 in
theorem gX7_hangsAt_X7_isWord : GoodIn wsX7_hangsAt (va_wsS RX7 103 yX7_isWord wsX7_isWord) := goodIn_app (goodIn_of _ (by decide +kernel)) ggX7_hangsAt_X7_isWord
set_option maxRecDepth 20000 in
theorem ggX7_hangsAt_X1_hangingAt : GoodIn wsX7_hangsAt wsX1_hangingAt := goodIn_r _ [10, 11, 12, 13, 14, 9, 15, 16, 17, 18, 19, 20, 21, 31, 32, 33, 34, 35, 36, 37, 38, 39, 40, 41, 42, 43] (by decide +kernel) (by decide +kernel)
set_option maxRecDepth 20000 in
theorem gX7_hangsAt_X1_hangingAt : GoodIn wsX7_hangsAt (wsV RX7 211 RX1 yX1_hangingAt wsX1_hangingAt) := goodIn_app (goodIn_of _ (by decide +kernel)) ggX7_hangsAt_X1_hangingAt
theorem dX7_hangsAt_0 : decode cX7_hangsAt 0 = .ok (.iload_n 1, 1) := by decide +kernel
theorem dX7_hangsAt_1 : decode cX7_hangsAt 1 = .ok (.invokestatic 103, 3) := by decide +kernel
theorem dX7_hangsAt_4 : decode cX7_hangsAt 4 = .ok (.ifCond .ne 5, 3) := by decide +kernel
theorem dX7_hangsAt_7 : decode cX7_hangsAt 7 = .ok (.iconst (-1), 1) := by decide +kernel
theorem dX7_hangsAt_8 : decode cX7_hangsAt 8 = .ok (.ireturn, 1) := by decide +kernel
theorem dX7_hangsAt_9 : decode cX7_hangsAt 9 = .ok (.iload_n 2, 1) := by decide +kernel
theorem dX7_hangsAt_10 : decode cX7_hangsAt 10 = .ok (.ifCond .ge 6, 3) := by decide +kernel
theorem dX7_hangsAt_13 : decode cX7_hangsAt 13 = .ok (.bipush (-2), 2) := by decide +kernel
theorem dX7_hangsAt_15 : decode cX7_hangsAt 15 = .ok (.ireturn, 1) := by decide +kernel
theorem dX7_hangsAt_16 : decode cX7_hangsAt 16 = .ok (.aload_n 0, 1) := by decide +kernel
theorem dX7_hangsAt_17 : decode cX7_hangsAt 17 = .ok (.getfield 10, 3) := by decide +kernel
theorem dX7_hangsAt_20 : decode cX7_hangsAt 20 = .ok (.iload_n 1, 1) := by decide +kernel
theorem dX7_hangsAt_21 : decode cX7_hangsAt 21 = .ok (.iload_n 2, 1) := by decide +kernel
theorem dX7_hangsAt_22 : decode cX7_hangsAt 22 = .ok (.invokevirtual 211, 3) := by decide +kernel
theorem dX7_hangsAt_25 : decode cX7_hangsAt 25 = .ok (.ireturn, 1) := by decide +kernel
set_option maxRecDepth 20000 in
theorem ggX7_order_X1_isOrder : GoodIn wsX7_order wsX1_isOrder := goodIn_r _ [9, 10, 98, 99, 100, 101, 102, 103, 104, 105, 106, 107, 108, 109, 110] (by decide +kernel) (by decide +kernel)
set_option maxRecDepth 20000 in
theorem gX7_order_X1_isOrder : GoodIn wsX7_order (wsV RX7 119 RX1 yX1_isOrder wsX1_isOrder) := goodIn_app (goodIn_of _ (by decide +kernel)) ggX7_order_X1_isOrder
set_option maxRecDepth 20000 in
theorem ggX7_order_X1_hangs : GoodIn wsX7_order wsX1_hangs := goodIn_r _ [14, 15, 98, 99, 100, 101, 102, 103, 104, 105, 106, 107, 108, 109, 110] (by decide +kernel) (by decide +kernel)
set_option maxRecDepth 20000 in
theorem gX7_order_X1_hangs : GoodIn wsX7_order (wsV RX7 122 RX1 yX1_hangs wsX1_hangs) := goodIn_app (goodIn_of _ (by decide +kernel)) ggX7_order_X1_hangs
set_option maxRecDepth 20000 in
theorem ggX7_order_X7_oneIf : GoodIn wsX7_order wsX7_oneIf := goodIn_r _ [19] (by decide +kernel) (by decide +kernel)
set_option maxRecDepth 20000 in
theorem gX7_order_X7_oneIf : GoodIn wsX7_order (va_wsS RX7 215 yX7_oneIf wsX7_oneIf) := goodIn_app (goodIn_of _ (by decide +kernel)) ggX7_order_X7_oneIf
set_option maxRecDepth 20000 in
theorem ggX7_order_X1_over : GoodIn wsX7_order wsX1_over := goodIn_r _ [23, 10, 24, 25, 26, 27, 8, 28, 29, 30, 31, 32, 33, 12, 13, 14, 15, 98, 99, 100, 101, 102, 103, 104, 105, 106, 107, 108, 109, 110] (by decide +kernel) (by decide +kernel)
set_option maxRecDepth 20000 in
theorem gX7_order_X1_over : GoodIn wsX7_order (wsV RX7 234 RX1 yX1_over wsX1_over) := goodIn_app (goodIn_of _ (by decide +kernel)) ggX7_order_X1_over
set_option maxRecDepth 20000 in
theorem ggX7_order_X1_beneath : GoodIn wsX7_order wsX1_beneath := goodIn_r _ [37, 24, 25, 26, 27, 8, 28, 29, 30, 31, 32, 33, 12, 13, 14, 15, 98, 99, 100, 101, 102, 103, 104, 105, 106, 107, 108, 109, 110] (by decide +kernel) (by decide +kernel)
set_option maxRecDepth 20000 in
theorem gX7_order_X1_beneath : GoodIn wsX7_order (wsV RX7 237 RX1 yX1_beneath wsX1_beneath) := goodIn_app (goodIn_of _ (by decide +kernel)) ggX7_order_X1_beneath
set_option maxRecDepth 20000 in
theorem ggX7_order_X1_hundredthsOfStrength : GoodIn wsX7_order wsX1_hundredthsOfStrength := goodIn_r _ [41, 42, 43, 98, 99, 100, 101, 102, 103, 104, 105, 106, 107, 108, 109, 110] (by decide +kernel) (by decide +kernel)
set_option maxRecDepth 20000 in
theorem gX7_order_X1_hundredthsOfStrength : GoodIn wsX7_order (wsV RX7 140 RX1 yX1_hundredthsOfStrength wsX1_hundredthsOfStrength) := goodIn_app (goodIn_of _ (by decide +kernel)) ggX7_order_X1_hundredthsOfStrength
set_option maxRecDepth 20000 in
theorem ggX7_order_X7_rules : GoodIn wsX7_order wsX7_rules := goodIn_r _ [47, 48, 49, 1, 3, 50, 51, 52, 53, 54, 55, 56, 57, 58, 59, 60, 61, 62, 63, 64, 65, 12, 13, 8, 14, 15, 66, 67, 68, 69, 70, 71, 72, 73, 74, 75, 76, 77, 78, 79, 80, 81, 82, 83, 84, 85, 86, 87, 88, 89, 90, 91, 92, 93, 94, 95, 96, 97, 111, 112, 113, 114, 98, 99, 100, 101, 102, 103, 104, 105, 106, 107, 108, 109, 110] (by decide +kernel) (by decide +kernel)
set_option maxRecDepth 20000 in
theorem gX7_order_X7_rules : GoodIn wsX7_order (wsV RX7 240 RX7 yX7_rules wsX7_rules) := goodIn_app (goodIn_of _ (by decide +kernel)) ggX7_order_X7_rules
theorem dX7_order_0 : decode cX7_order 0 = .ok (.aload_n 0, 1) := by decide +kernel
theorem dX7_order_1 : decode cX7_order 1 = .ok (.getfield 10, 3) := by decide +kernel
theorem dX7_order_4 : decode cX7_order 4 = .ok (.iload_n 1, 1) := by decide +kernel
theorem dX7_order_5 : decode cX7_order 5 = .ok (.invokevirtual 119, 3) := by decide +kernel
theorem dX7_order_8 : decode cX7_order 8 = .ok (.ifCond .ne 5, 3) := by decide +kernel
theorem dX7_order_11 : decode cX7_order 11 = .ok (.iconst (-1), 1) := by decide +kernel
theorem dX7_order_12 : decode cX7_order 12 = .ok (.ireturn, 1) := by decide +kernel
theorem dX7_order_13 : decode cX7_order 13 = .ok (.iload_n 2, 1) := by decide +kernel
theorem dX7_order_14 : decode cX7_order 14 = .ok (.tableswitch 156 0 7 #[46, 56, 66, 76, 88, 113, 138, 147], 46) := by decide +kernel
theorem dX7_order_60 : decode cX7_order 60 = .ok (.aload_n 0, 1) := by decide +kernel
theorem dX7_order_61 : decode cX7_order 61 = .ok (.getfield 10, 3) := by decide +kernel
theorem dX7_order_64 : decode cX7_order 64 = .ok (.getfield 228, 3) := by decide +kernel
theorem dX7_order_67 : decode cX7_order 67 = .ok (.iload_n 1, 1) := by decide +kernel
theorem dX7_order_68 : decode cX7_order 68 = .ok (.iaload, 1) := by decide +kernel
theorem dX7_order_69 : decode cX7_order 69 = .ok (.ireturn, 1) := by decide +kernel
theorem dX7_order_70 : decode cX7_order 70 = .ok (.aload_n 0, 1) := by decide +kernel
theorem dX7_order_71 : decode cX7_order 71 = .ok (.getfield 10, 3) := by decide +kernel
theorem dX7_order_74 : decode cX7_order 74 = .ok (.getfield 128, 3) := by decide +kernel
theorem dX7_order_77 : decode cX7_order 77 = .ok (.iload_n 1, 1) := by decide +kernel
theorem dX7_order_78 : decode cX7_order 78 = .ok (.iaload, 1) := by decide +kernel
theorem dX7_order_79 : decode cX7_order 79 = .ok (.ireturn, 1) := by decide +kernel
theorem dX7_order_80 : decode cX7_order 80 = .ok (.aload_n 0, 1) := by decide +kernel
theorem dX7_order_81 : decode cX7_order 81 = .ok (.getfield 10, 3) := by decide +kernel
theorem dX7_order_84 : decode cX7_order 84 = .ok (.getfield 231, 3) := by decide +kernel
theorem dX7_order_87 : decode cX7_order 87 = .ok (.iload_n 1, 1) := by decide +kernel
theorem dX7_order_88 : decode cX7_order 88 = .ok (.iaload, 1) := by decide +kernel
theorem dX7_order_89 : decode cX7_order 89 = .ok (.ireturn, 1) := by decide +kernel
theorem dX7_order_90 : decode cX7_order 90 = .ok (.aload_n 0, 1) := by decide +kernel
theorem dX7_order_91 : decode cX7_order 91 = .ok (.getfield 10, 3) := by decide +kernel
theorem dX7_order_94 : decode cX7_order 94 = .ok (.iload_n 1, 1) := by decide +kernel
theorem dX7_order_95 : decode cX7_order 95 = .ok (.invokevirtual 122, 3) := by decide +kernel
theorem dX7_order_98 : decode cX7_order 98 = .ok (.invokestatic 215, 3) := by decide +kernel
theorem dX7_order_101 : decode cX7_order 101 = .ok (.ireturn, 1) := by decide +kernel
theorem dX7_order_102 : decode cX7_order 102 = .ok (.aload_n 0, 1) := by decide +kernel
theorem dX7_order_103 : decode cX7_order 103 = .ok (.getfield 10, 3) := by decide +kernel
theorem dX7_order_106 : decode cX7_order 106 = .ok (.iload_n 1, 1) := by decide +kernel
theorem dX7_order_107 : decode cX7_order 107 = .ok (.invokevirtual 122, 3) := by decide +kernel
theorem dX7_order_110 : decode cX7_order 110 = .ok (.ifCond .eq 14, 3) := by decide +kernel
theorem dX7_order_113 : decode cX7_order 113 = .ok (.aload_n 0, 1) := by decide +kernel
theorem dX7_order_114 : decode cX7_order 114 = .ok (.getfield 10, 3) := by decide +kernel
theorem dX7_order_117 : decode cX7_order 117 = .ok (.iload_n 1, 1) := by decide +kernel
theorem dX7_order_118 : decode cX7_order 118 = .ok (.invokevirtual 234, 3) := by decide +kernel
theorem dX7_order_121 : decode cX7_order 121 = .ok (.goto 5, 3) := by decide +kernel
theorem dX7_order_124 : decode cX7_order 124 = .ok (.bipush (-5), 2) := by decide +kernel
theorem dX7_order_126 : decode cX7_order 126 = .ok (.ireturn, 1) := by decide +kernel
theorem dX7_order_127 : decode cX7_order 127 = .ok (.aload_n 0, 1) := by decide +kernel
theorem dX7_order_128 : decode cX7_order 128 = .ok (.getfield 10, 3) := by decide +kernel
theorem dX7_order_131 : decode cX7_order 131 = .ok (.iload_n 1, 1) := by decide +kernel
theorem dX7_order_132 : decode cX7_order 132 = .ok (.invokevirtual 122, 3) := by decide +kernel
theorem dX7_order_135 : decode cX7_order 135 = .ok (.ifCond .eq 14, 3) := by decide +kernel
theorem dX7_order_138 : decode cX7_order 138 = .ok (.aload_n 0, 1) := by decide +kernel
theorem dX7_order_139 : decode cX7_order 139 = .ok (.getfield 10, 3) := by decide +kernel
theorem dX7_order_142 : decode cX7_order 142 = .ok (.iload_n 1, 1) := by decide +kernel
theorem dX7_order_143 : decode cX7_order 143 = .ok (.invokevirtual 237, 3) := by decide +kernel
theorem dX7_order_146 : decode cX7_order 146 = .ok (.goto 5, 3) := by decide +kernel
theorem dX7_order_149 : decode cX7_order 149 = .ok (.bipush (-5), 2) := by decide +kernel
theorem dX7_order_151 : decode cX7_order 151 = .ok (.ireturn, 1) := by decide +kernel
theorem dX7_order_152 : decode cX7_order 152 = .ok (.aload_n 0, 1) := by decide +kernel
theorem dX7_order_153 : decode cX7_order 153 = .ok (.getfield 10, 3) := by decide +kernel
theorem dX7_order_156 : decode cX7_order 156 = .ok (.iload_n 1, 1) := by decide +kernel
theorem dX7_order_157 : decode cX7_order 157 = .ok (.invokevirtual 140, 3) := by decide +kernel
theorem dX7_order_160 : decode cX7_order 160 = .ok (.ireturn, 1) := by decide +kernel
theorem dX7_order_161 : decode cX7_order 161 = .ok (.aload_n 0, 1) := by decide +kernel
theorem dX7_order_162 : decode cX7_order 162 = .ok (.iload_n 1, 1) := by decide +kernel
theorem dX7_order_163 : decode cX7_order 163 = .ok (.invokevirtual 240, 3) := by decide +kernel
theorem dX7_order_166 : decode cX7_order 166 = .ok (.invokestatic 215, 3) := by decide +kernel
theorem dX7_order_169 : decode cX7_order 169 = .ok (.ireturn, 1) := by decide +kernel
theorem dX7_order_170 : decode cX7_order 170 = .ok (.bipush (-2), 2) := by decide +kernel
theorem dX7_order_172 : decode cX7_order 172 = .ok (.ireturn, 1) := by decide +kernel
set_option maxRecDepth 20000 in
theorem ggX7_real_X1_isOrder : GoodIn wsX7_real wsX1_isOrder := goodIn_r _ [9, 10, 25, 26, 27, 28, 29, 30, 31, 32, 33, 34, 35, 36, 37] (by decide +kernel) (by decide +kernel)
set_option maxRecDepth 20000 in
theorem gX7_real_X1_isOrder : GoodIn wsX7_real (wsV RX7 119 RX1 yX1_isOrder wsX1_isOrder) := goodIn_app (goodIn_of _ (by decide +kernel)) ggX7_real_X1_isOrder
set_option maxRecDepth 20000 in
theorem ggX7_real_X7_noFloat : GoodIn wsX7_real wsX7_noFloat := goodIn_r _ [14, 15] (by decide +kernel) (by decide +kernel)
set_option maxRecDepth 20000 in
theorem gX7_real_X7_noFloat : GoodIn wsX7_real (va_wsS RX7 187 yX7_noFloat wsX7_noFloat) := goodIn_app (goodIn_of _ (by decide +kernel)) ggX7_real_X7_noFloat
theorem dX7_real_0 : decode cX7_real 0 = .ok (.aload_n 0, 1) := by decide +kernel
theorem dX7_real_1 : decode cX7_real 1 = .ok (.getfield 10, 3) := by decide +kernel
theorem dX7_real_4 : decode cX7_real 4 = .ok (.iload_n 1, 1) := by decide +kernel
theorem dX7_real_5 : decode cX7_real 5 = .ok (.invokevirtual 119, 3) := by decide +kernel
theorem dX7_real_8 : decode cX7_real 8 = .ok (.ifCond .ne 7, 3) := by decide +kernel
theorem dX7_real_11 : decode cX7_real 11 = .ok (.invokestatic 187, 3) := by decide +kernel
theorem dX7_real_14 : decode cX7_real 14 = .ok (.freturn, 1) := by decide +kernel
theorem dX7_real_15 : decode cX7_real 15 = .ok (.iload_n 2, 1) := by decide +kernel
theorem dX7_real_16 : decode cX7_real 16 = .ok (.tableswitch 58 0 2 #[28, 38, 48], 28) := by decide +kernel
theorem dX7_real_44 : decode cX7_real 44 = .ok (.aload_n 0, 1) := by decide +kernel
theorem dX7_real_45 : decode cX7_real 45 = .ok (.getfield 10, 3) := by decide +kernel
theorem dX7_real_48 : decode cX7_real 48 = .ok (.getfield 243, 3) := by decide +kernel
theorem dX7_real_51 : decode cX7_real 51 = .ok (.iload_n 1, 1) := by decide +kernel
theorem dX7_real_52 : decode cX7_real 52 = .ok (.faload, 1) := by decide +kernel
theorem dX7_real_53 : decode cX7_real 53 = .ok (.freturn, 1) := by decide +kernel
theorem dX7_real_54 : decode cX7_real 54 = .ok (.aload_n 0, 1) := by decide +kernel
theorem dX7_real_55 : decode cX7_real 55 = .ok (.getfield 10, 3) := by decide +kernel
theorem dX7_real_58 : decode cX7_real 58 = .ok (.getfield 246, 3) := by decide +kernel
theorem dX7_real_61 : decode cX7_real 61 = .ok (.iload_n 1, 1) := by decide +kernel
theorem dX7_real_62 : decode cX7_real 62 = .ok (.faload, 1) := by decide +kernel
theorem dX7_real_63 : decode cX7_real 63 = .ok (.freturn, 1) := by decide +kernel
theorem dX7_real_64 : decode cX7_real 64 = .ok (.aload_n 0, 1) := by decide +kernel
theorem dX7_real_65 : decode cX7_real 65 = .ok (.getfield 10, 3) := by decide +kernel
theorem dX7_real_68 : decode cX7_real 68 = .ok (.getfield 134, 3) := by decide +kernel
theorem dX7_real_71 : decode cX7_real 71 = .ok (.iload_n 1, 1) := by decide +kernel
theorem dX7_real_72 : decode cX7_real 72 = .ok (.faload, 1) := by decide +kernel
theorem dX7_real_73 : decode cX7_real 73 = .ok (.freturn, 1) := by decide +kernel
theorem dX7_real_74 : decode cX7_real 74 = .ok (.invokestatic 187, 3) := by decide +kernel
theorem dX7_real_77 : decode cX7_real 77 = .ok (.freturn, 1) := by decide +kernel
set_option maxRecDepth 20000 in
theorem ggX7_person_X1_isPerson : GoodIn wsX7_person wsX1_isPerson := goodIn_r _ [7, 8, 84, 85, 86, 87, 88, 89, 90, 91, 92, 93, 94, 95, 96] (by decide +kernel) (by decide +kernel)
set_option maxRecDepth 20000 in
theorem gX7_person_X1_isPerson : GoodIn wsX7_person (wsV RX7 80 RX1 yX1_isPerson wsX1_isPerson) := goodIn_app (goodIn_of _ (by decide +kernel)) ggX7_person_X1_isPerson
set_option maxRecDepth 20000 in
theorem ggX7_person_X1_nailedBy : GoodIn wsX7_person wsX1_nailedBy := goodIn_r _ [12, 13, 14, 84, 85, 86, 87, 88, 89, 90, 91, 92, 93, 94, 95, 96] (by decide +kernel) (by decide +kernel)
set_option maxRecDepth 20000 in
theorem gX7_person_X1_nailedBy : GoodIn wsX7_person (wsV RX7 260 RX1 yX1_nailedBy wsX1_nailedBy) := goodIn_app (goodIn_of _ (by decide +kernel)) ggX7_person_X1_nailedBy
set_option maxRecDepth 20000 in
theorem ggX7_person_X1_hangingBy : GoodIn wsX7_person wsX1_hangingBy := goodIn_r _ [18, 13, 14, 19, 20, 21, 6, 22, 23, 84, 85, 86, 87, 88, 89, 90, 91, 92, 93, 94, 95, 96] (by decide +kernel) (by decide +kernel)
set_option maxRecDepth 20000 in
theorem gX7_person_X1_hangingBy : GoodIn wsX7_person (wsV RX7 263 RX1 yX1_hangingBy wsX1_hangingBy) := goodIn_app (goodIn_of _ (by decide +kernel)) ggX7_person_X1_hangingBy
set_option maxRecDepth 20000 in
theorem ggX7_person_X7_wordsRuledBy : GoodIn wsX7_person wsX7_wordsRuledBy := goodIn_r _ [28, 29, 30, 1, 31, 32, 33, 34, 35, 36, 37, 38, 39, 40, 41, 42, 43, 44, 45, 46, 47, 20, 21, 6, 22, 23, 48, 49, 50, 51, 52, 14, 53, 54, 55, 56, 57, 58, 59, 60, 61, 62, 63, 64, 65, 66, 67, 68, 69, 75, 76, 77, 78, 79, 80, 81, 82, 83, 97, 98, 99, 100, 84, 85, 86, 87, 88, 89, 90, 91, 92, 93, 94, 95, 96] (by decide +kernel) (by decide +kernel)
set_option maxRecDepth 20000 in
theorem gX7_person_X7_wordsRuledBy : GoodIn wsX7_person (wsV RX7 266 RX7 yX7_wordsRuledBy wsX7_wordsRuledBy) := goodIn_app (goodIn_of _ (by decide +kernel)) ggX7_person_X7_wordsRuledBy
set_option maxRecDepth 20000 in
theorem ggX7_person_X1_wordsOf : GoodIn wsX7_person wsX1_wordsOf := goodIn_r _ [73, 13, 14, 74, 19, 20, 21, 6, 22, 23, 84, 85, 86, 87, 88, 89, 90, 91, 92, 93, 94, 95, 96] (by decide +kernel) (by decide +kernel)
set_option maxRecDepth 20000 in
theorem gX7_person_X1_wordsOf : GoodIn wsX7_person (wsV RX7 269 RX1 yX1_wordsOf wsX1_wordsOf) := goodIn_app (goodIn_of _ (by decide +kernel)) ggX7_person_X1_wordsOf
theorem dX7_person_0 : decode cX7_person 0 = .ok (.aload_n 0, 1) := by decide +kernel
theorem dX7_person_1 : decode cX7_person 1 = .ok (.getfield 10, 3) := by decide +kernel
theorem dX7_person_4 : decode cX7_person 4 = .ok (.iload_n 1, 1) := by decide +kernel
theorem dX7_person_5 : decode cX7_person 5 = .ok (.invokevirtual 80, 3) := by decide +kernel
theorem dX7_person_8 : decode cX7_person 8 = .ok (.ifCond .ne 5, 3) := by decide +kernel
theorem dX7_person_11 : decode cX7_person 11 = .ok (.iconst (-1), 1) := by decide +kernel
theorem dX7_person_12 : decode cX7_person 12 = .ok (.ireturn, 1) := by decide +kernel
theorem dX7_person_13 : decode cX7_person 13 = .ok (.iload_n 2, 1) := by decide +kernel
theorem dX7_person_14 : decode cX7_person 14 = .ok (.tableswitch 77 0 4 #[34, 44, 53, 62, 68], 34) := by decide +kernel
theorem dX7_person_48 : decode cX7_person 48 = .ok (.aload_n 0, 1) := by decide +kernel
theorem dX7_person_49 : decode cX7_person 49 = .ok (.getfield 10, 3) := by decide +kernel
theorem dX7_person_52 : decode cX7_person 52 = .ok (.getfield 83, 3) := by decide +kernel
theorem dX7_person_55 : decode cX7_person 55 = .ok (.iload_n 1, 1) := by decide +kernel
theorem dX7_person_56 : decode cX7_person 56 = .ok (.iaload, 1) := by decide +kernel
theorem dX7_person_57 : decode cX7_person 57 = .ok (.ireturn, 1) := by decide +kernel
theorem dX7_person_58 : decode cX7_person 58 = .ok (.aload_n 0, 1) := by decide +kernel
theorem dX7_person_59 : decode cX7_person 59 = .ok (.getfield 10, 3) := by decide +kernel
theorem dX7_person_62 : decode cX7_person 62 = .ok (.iload_n 1, 1) := by decide +kernel
theorem dX7_person_63 : decode cX7_person 63 = .ok (.invokevirtual 260, 3) := by decide +kernel
theorem dX7_person_66 : decode cX7_person 66 = .ok (.ireturn, 1) := by decide +kernel
theorem dX7_person_67 : decode cX7_person 67 = .ok (.aload_n 0, 1) := by decide +kernel
theorem dX7_person_68 : decode cX7_person 68 = .ok (.getfield 10, 3) := by decide +kernel
theorem dX7_person_71 : decode cX7_person 71 = .ok (.iload_n 1, 1) := by decide +kernel
theorem dX7_person_72 : decode cX7_person 72 = .ok (.invokevirtual 263, 3) := by decide +kernel
theorem dX7_person_75 : decode cX7_person 75 = .ok (.ireturn, 1) := by decide +kernel
theorem dX7_person_76 : decode cX7_person 76 = .ok (.aload_n 0, 1) := by decide +kernel
theorem dX7_person_77 : decode cX7_person 77 = .ok (.iload_n 1, 1) := by decide +kernel
theorem dX7_person_78 : decode cX7_person 78 = .ok (.invokevirtual 266, 3) := by decide +kernel
theorem dX7_person_81 : decode cX7_person 81 = .ok (.ireturn, 1) := by decide +kernel
theorem dX7_person_82 : decode cX7_person 82 = .ok (.aload_n 0, 1) := by decide +kernel
theorem dX7_person_83 : decode cX7_person 83 = .ok (.getfield 10, 3) := by decide +kernel
theorem dX7_person_86 : decode cX7_person 86 = .ok (.iload_n 1, 1) := by decide +kernel
theorem dX7_person_87 : decode cX7_person 87 = .ok (.invokevirtual 269, 3) := by decide +kernel
theorem dX7_person_90 : decode cX7_person 90 = .ok (.ireturn, 1) := by decide +kernel
theorem dX7_person_91 : decode cX7_person 91 = .ok (.bipush (-2), 2) := by decide +kernel
theorem dX7_person_93 : decode cX7_person 93 = .ok (.ireturn, 1) := by decide +kernel
set_option maxRecDepth 20000 in
theorem ggX7_count_X4_settle : GoodIn wsX7_count wsX4_settle := goodIn_r _ [15, 16, 17, 18, 19, 20, 21, 14, 22, 23, 24, 25, 26, 27, 28, 29, 30, 31, 32, 33, 34, 35, 36, 37, 38, 39, 40, 41, 42, 43, 44, 45, 46, 47, 48, 49, 50, 51, 52, 53, 54, 135, 136, 137, 138, 118, 119, 120, 121, 122, 123, 124, 125, 126, 127, 128, 129, 130] (by decide +kernel) (by decide +kernel)
set_option maxRecDepth 20000 in
theorem gX7_count_X4_settle : GoodIn wsX7_count (wsV RX7 191 RX4 yX4_settle wsX4_settle) := goodIn_app (goodIn_of _ (by decide +kernel)) ggX7_count_X4_settle
set_option maxRecDepth 20000 in
theorem ggX7_count_X1_hanging : GoodIn wsX7_count wsX1_hanging := goodIn_r _ [58, 59, 60, 61, 29, 62, 63, 31, 118, 119, 120, 121, 122, 123, 124, 125, 126, 127, 128, 129, 130] (by decide +kernel) (by decide +kernel)
set_option maxRecDepth 20000 in
theorem gX7_count_X1_hanging : GoodIn wsX7_count (wsV RX7 184 RX1 yX1_hanging wsX1_hanging) := goodIn_app (goodIn_of _ (by decide +kernel)) ggX7_count_X1_hanging
set_option maxRecDepth 20000 in
theorem ggX7_count_X1_withFate : GoodIn wsX7_count wsX1_withFate := goodIn_r _ [62, 63, 31, 118, 119, 120, 121, 122, 123, 124, 125, 126, 127, 128, 129, 130] (by decide +kernel) (by decide +kernel)
set_option maxRecDepth 20000 in
theorem gX7_count_X1_withFate : GoodIn wsX7_count (wsV RX7 275 RX1 yX1_withFate wsX1_withFate) := goodIn_app (goodIn_of _ (by decide +kernel)) ggX7_count_X1_withFate
set_option maxRecDepth 20000 in
theorem ggX7_count_X4_wordsWithValue : GoodIn wsX7_count wsX4_wordsWithValue := goodIn_r _ [68, 17, 135, 136, 137, 138] (by decide +kernel) (by decide +kernel)
set_option maxRecDepth 20000 in
theorem gX7_count_X4_wordsWithValue : GoodIn wsX7_count (wsV RX7 278 RX4 yX4_wordsWithValue wsX4_wordsWithValue) := goodIn_app (goodIn_of _ (by decide +kernel)) ggX7_count_X4_wordsWithValue
set_option maxRecDepth 20000 in
theorem ggX7_count_X4_wordsRuledWithoutValue : GoodIn wsX7_count wsX4_wordsRuledWithoutValue := goodIn_r _ [72, 16, 17, 135, 136, 137, 138] (by decide +kernel) (by decide +kernel)
set_option maxRecDepth 20000 in
theorem gX7_count_X4_wordsRuledWithoutValue : GoodIn wsX7_count (wsV RX7 281 RX4 yX4_wordsRuledWithoutValue wsX4_wordsRuledWithoutValue) := goodIn_app (goodIn_of _ (by decide +kernel)) ggX7_count_X4_wordsRuledWithoutValue
set_option maxRecDepth 20000 in
theorem ggX7_count_X4_wordsInConflict : GoodIn wsX7_count wsX4_wordsInConflict := goodIn_r _ [76, 77, 78, 79, 14, 80, 16, 23, 24, 81, 82, 83, 29, 84, 85, 86, 27, 28, 30, 31, 87, 88, 89, 90, 91, 32, 33, 34, 35, 36, 37, 42, 43, 44, 45, 46, 17, 47, 48, 49, 50, 51, 52, 53, 18, 54, 92, 93, 94, 95, 96, 135, 136, 137, 138, 118, 119, 120, 121, 122, 123, 124, 125, 126, 127, 128, 129, 130] (by decide +kernel) (by decide +kernel)
set_option maxRecDepth 20000 in
theorem gX7_count_X4_wordsInConflict : GoodIn wsX7_count (wsV RX7 284 RX4 yX4_wordsInConflict wsX4_wordsInConflict) := goodIn_app (goodIn_of _ (by decide +kernel)) ggX7_count_X4_wordsInConflict
set_option maxRecDepth 20000 in
theorem ggX7_count_X4_wordsInRings : GoodIn wsX7_count wsX4_wordsInRings := goodIn_r _ [100, 101, 102, 103, 14, 104, 105, 106, 107, 108, 16, 23, 46, 135, 136, 137, 138, 118, 119, 120, 121, 122, 123, 124, 125, 126, 127, 128, 129, 130] (by decide +kernel) (by decide +kernel)
set_option maxRecDepth 20000 in
theorem gX7_count_X4_wordsInRings : GoodIn wsX7_count (wsV RX7 287 RX4 yX4_wordsInRings wsX4_wordsInRings) := goodIn_app (goodIn_of _ (by decide +kernel)) ggX7_count_X4_wordsInRings
theorem dX7_count_0 : decode cX7_count 0 = .ok (.aload_n 0, 1) := by decide +kernel
theorem dX7_count_1 : decode cX7_count 1 = .ok (.getfield 58, 3) := by decide +kernel
theorem dX7_count_4 : decode cX7_count 4 = .ok (.bipush (-5), 2) := by decide +kernel
theorem dX7_count_6 : decode cX7_count 6 = .ok (.invokevirtual 191, 3) := by decide +kernel
theorem dX7_count_9 : decode cX7_count 9 = .ok (.iload_n 1, 1) := by decide +kernel
theorem dX7_count_10 : decode cX7_count 10 = .ok (.tableswitch 172 0 12 #[66, 74, 82, 90, 99, 108, 116, 124, 132, 140, 148, 156, 164], 66) := by decide +kernel
theorem dX7_count_76 : decode cX7_count 76 = .ok (.aload_n 0, 1) := by decide +kernel
theorem dX7_count_77 : decode cX7_count 77 = .ok (.getfield 10, 3) := by decide +kernel
theorem dX7_count_80 : decode cX7_count 80 = .ok (.getfield 69, 3) := by decide +kernel
theorem dX7_count_83 : decode cX7_count 83 = .ok (.ireturn, 1) := by decide +kernel
theorem dX7_count_84 : decode cX7_count 84 = .ok (.aload_n 0, 1) := by decide +kernel
theorem dX7_count_85 : decode cX7_count 85 = .ok (.getfield 10, 3) := by decide +kernel
theorem dX7_count_88 : decode cX7_count 88 = .ok (.getfield 272, 3) := by decide +kernel
theorem dX7_count_91 : decode cX7_count 91 = .ok (.ireturn, 1) := by decide +kernel
theorem dX7_count_92 : decode cX7_count 92 = .ok (.aload_n 0, 1) := by decide +kernel
theorem dX7_count_93 : decode cX7_count 93 = .ok (.getfield 10, 3) := by decide +kernel
theorem dX7_count_96 : decode cX7_count 96 = .ok (.invokevirtual 184, 3) := by decide +kernel
theorem dX7_count_99 : decode cX7_count 99 = .ok (.ireturn, 1) := by decide +kernel
theorem dX7_count_100 : decode cX7_count 100 = .ok (.aload_n 0, 1) := by decide +kernel
theorem dX7_count_101 : decode cX7_count 101 = .ok (.getfield 10, 3) := by decide +kernel
theorem dX7_count_104 : decode cX7_count 104 = .ok (.iconst 2, 1) := by decide +kernel
theorem dX7_count_105 : decode cX7_count 105 = .ok (.invokevirtual 275, 3) := by decide +kernel
theorem dX7_count_108 : decode cX7_count 108 = .ok (.ireturn, 1) := by decide +kernel
theorem dX7_count_109 : decode cX7_count 109 = .ok (.aload_n 0, 1) := by decide +kernel
theorem dX7_count_110 : decode cX7_count 110 = .ok (.getfield 10, 3) := by decide +kernel
theorem dX7_count_113 : decode cX7_count 113 = .ok (.iconst 3, 1) := by decide +kernel
theorem dX7_count_114 : decode cX7_count 114 = .ok (.invokevirtual 275, 3) := by decide +kernel
theorem dX7_count_117 : decode cX7_count 117 = .ok (.ireturn, 1) := by decide +kernel
theorem dX7_count_118 : decode cX7_count 118 = .ok (.aload_n 0, 1) := by decide +kernel
theorem dX7_count_119 : decode cX7_count 119 = .ok (.getfield 58, 3) := by decide +kernel
theorem dX7_count_122 : decode cX7_count 122 = .ok (.invokevirtual 278, 3) := by decide +kernel
theorem dX7_count_125 : decode cX7_count 125 = .ok (.ireturn, 1) := by decide +kernel
theorem dX7_count_126 : decode cX7_count 126 = .ok (.aload_n 0, 1) := by decide +kernel
theorem dX7_count_127 : decode cX7_count 127 = .ok (.getfield 58, 3) := by decide +kernel
theorem dX7_count_130 : decode cX7_count 130 = .ok (.invokevirtual 281, 3) := by decide +kernel
theorem dX7_count_133 : decode cX7_count 133 = .ok (.ireturn, 1) := by decide +kernel
theorem dX7_count_134 : decode cX7_count 134 = .ok (.aload_n 0, 1) := by decide +kernel
theorem dX7_count_135 : decode cX7_count 135 = .ok (.getfield 58, 3) := by decide +kernel
theorem dX7_count_138 : decode cX7_count 138 = .ok (.invokevirtual 284, 3) := by decide +kernel
theorem dX7_count_141 : decode cX7_count 141 = .ok (.ireturn, 1) := by decide +kernel
theorem dX7_count_142 : decode cX7_count 142 = .ok (.aload_n 0, 1) := by decide +kernel
theorem dX7_count_143 : decode cX7_count 143 = .ok (.getfield 58, 3) := by decide +kernel
theorem dX7_count_146 : decode cX7_count 146 = .ok (.invokevirtual 287, 3) := by decide +kernel
theorem dX7_count_149 : decode cX7_count 149 = .ok (.ireturn, 1) := by decide +kernel
theorem dX7_count_150 : decode cX7_count 150 = .ok (.aload_n 0, 1) := by decide +kernel
theorem dX7_count_151 : decode cX7_count 151 = .ok (.getfield 10, 3) := by decide +kernel
theorem dX7_count_154 : decode cX7_count 154 = .ok (.getfield 290, 3) := by decide +kernel
theorem dX7_count_157 : decode cX7_count 157 = .ok (.ireturn, 1) := by decide +kernel
theorem dX7_count_158 : decode cX7_count 158 = .ok (.aload_n 0, 1) := by decide +kernel
theorem dX7_count_159 : decode cX7_count 159 = .ok (.getfield 10, 3) := by decide +kernel
theorem dX7_count_162 : decode cX7_count 162 = .ok (.getfield 92, 3) := by decide +kernel
theorem dX7_count_165 : decode cX7_count 165 = .ok (.ireturn, 1) := by decide +kernel
theorem dX7_count_166 : decode cX7_count 166 = .ok (.aload_n 0, 1) := by decide +kernel
theorem dX7_count_167 : decode cX7_count 167 = .ok (.getfield 26, 3) := by decide +kernel
theorem dX7_count_170 : decode cX7_count 170 = .ok (.getfield 175, 3) := by decide +kernel
theorem dX7_count_173 : decode cX7_count 173 = .ok (.ireturn, 1) := by decide +kernel
theorem dX7_count_174 : decode cX7_count 174 = .ok (.aload_n 0, 1) := by decide +kernel
theorem dX7_count_175 : decode cX7_count 175 = .ok (.getfield 33, 3) := by decide +kernel
theorem dX7_count_178 : decode cX7_count 178 = .ok (.getfield 150, 3) := by decide +kernel
theorem dX7_count_181 : decode cX7_count 181 = .ok (.ireturn, 1) := by decide +kernel
theorem dX7_count_182 : decode cX7_count 182 = .ok (.bipush (-2), 2) := by decide +kernel
theorem dX7_count_184 : decode cX7_count 184 = .ok (.ireturn, 1) := by decide +kernel
theorem dX7_isRank_0 : decode cX7_isRank 0 = .ok (.iload_n 0, 1) := by decide +kernel
theorem dX7_isRank_1 : decode cX7_isRank 1 = .ok (.iconst 1, 1) := by decide +kernel
theorem dX7_isRank_2 : decode cX7_isRank 2 = .ok (.if_icmp .lt 12, 3) := by decide +kernel
theorem dX7_isRank_5 : decode cX7_isRank 5 = .ok (.iload_n 0, 1) := by decide +kernel
theorem dX7_isRank_6 : decode cX7_isRank 6 = .ok (.iconst 5, 1) := by decide +kernel
theorem dX7_isRank_7 : decode cX7_isRank 7 = .ok (.if_icmp .gt 7, 3) := by decide +kernel
theorem dX7_isRank_10 : decode cX7_isRank 10 = .ok (.iconst 1, 1) := by decide +kernel
theorem dX7_isRank_11 : decode cX7_isRank 11 = .ok (.goto 4, 3) := by decide +kernel
theorem dX7_isRank_14 : decode cX7_isRank 14 = .ok (.iconst 0, 1) := by decide +kernel
theorem dX7_isRank_15 : decode cX7_isRank 15 = .ok (.ireturn, 1) := by decide +kernel
theorem dX7_isWord_0 : decode cX7_isWord 0 = .ok (.iload_n 0, 1) := by decide +kernel
theorem dX7_isWord_1 : decode cX7_isWord 1 = .ok (.ifCond .lt 13, 3) := by decide +kernel
theorem dX7_isWord_4 : decode cX7_isWord 4 = .ok (.iload_n 0, 1) := by decide +kernel
theorem dX7_isWord_5 : decode cX7_isWord 5 = .ok (.bipush 16, 2) := by decide +kernel
theorem dX7_isWord_7 : decode cX7_isWord 7 = .ok (.if_icmp .ge 7, 3) := by decide +kernel
theorem dX7_isWord_10 : decode cX7_isWord 10 = .ok (.iconst 1, 1) := by decide +kernel
theorem dX7_isWord_11 : decode cX7_isWord 11 = .ok (.goto 4, 3) := by decide +kernel
theorem dX7_isWord_14 : decode cX7_isWord 14 = .ok (.iconst 0, 1) := by decide +kernel
theorem dX7_isWord_15 : decode cX7_isWord 15 = .ok (.ireturn, 1) := by decide +kernel
theorem dX7_oneIf_0 : decode cX7_oneIf 0 = .ok (.iload_n 0, 1) := by decide +kernel
theorem dX7_oneIf_1 : decode cX7_oneIf 1 = .ok (.ifCond .eq 7, 3) := by decide +kernel
theorem dX7_oneIf_4 : decode cX7_oneIf 4 = .ok (.iconst 1, 1) := by decide +kernel
theorem dX7_oneIf_5 : decode cX7_oneIf 5 = .ok (.goto 4, 3) := by decide +kernel
theorem dX7_oneIf_8 : decode cX7_oneIf 8 = .ok (.iconst 0, 1) := by decide +kernel
theorem dX7_oneIf_9 : decode cX7_oneIf 9 = .ok (.ireturn, 1) := by decide +kernel
theorem dX7_noFloat_0 : decode cX7_noFloat 0 = .ok (.ldc_w 293, 3) := by decide +kernel
theorem dX7_noFloat_3 : decode cX7_noFloat 3 = .ok (.freturn, 1) := by decide +kernel
set_option maxRecDepth 20000 in
theorem ggX7_rules_X4_settle : GoodIn wsX7_rules wsX4_settle := goodIn_r _ [9, 10, 11, 12, 13, 14, 15, 8, 16, 17, 18, 19, 20, 21, 22, 23, 24, 25, 26, 27, 28, 29, 30, 31, 32, 33, 34, 35, 36, 37, 38, 39, 40, 41, 42, 43, 44, 45, 46, 47, 48, 58, 59, 60, 61, 62, 63, 64, 65, 66, 67, 68, 69, 70, 71, 72, 73, 74] (by decide +kernel) (by decide +kernel)
set_option maxRecDepth 20000 in
theorem gX7_rules_X4_settle : GoodIn wsX7_rules (wsV RX7 191 RX4 yX4_settle wsX4_settle) := goodIn_app (goodIn_of _ (by decide +kernel)) ggX7_rules_X4_settle
theorem dX7_rules_0 : decode cX7_rules 0 = .ok (.aload_n 0, 1) := by decide +kernel
theorem dX7_rules_1 : decode cX7_rules 1 = .ok (.getfield 58, 3) := by decide +kernel
theorem dX7_rules_4 : decode cX7_rules 4 = .ok (.bipush (-5), 2) := by decide +kernel
theorem dX7_rules_6 : decode cX7_rules 6 = .ok (.invokevirtual 191, 3) := by decide +kernel
theorem dX7_rules_9 : decode cX7_rules 9 = .ok (.aload_n 0, 1) := by decide +kernel
theorem dX7_rules_10 : decode cX7_rules 10 = .ok (.getfield 58, 3) := by decide +kernel
theorem dX7_rules_13 : decode cX7_rules 13 = .ok (.getfield 208, 3) := by decide +kernel
theorem dX7_rules_16 : decode cX7_rules 16 = .ok (.aload_n 0, 1) := by decide +kernel
theorem dX7_rules_17 : decode cX7_rules 17 = .ok (.getfield 10, 3) := by decide +kernel
theorem dX7_rules_20 : decode cX7_rules 20 = .ok (.getfield 128, 3) := by decide +kernel
theorem dX7_rules_23 : decode cX7_rules 23 = .ok (.iload_n 1, 1) := by decide +kernel
theorem dX7_rules_24 : decode cX7_rules 24 = .ok (.iaload, 1) := by decide +kernel
theorem dX7_rules_25 : decode cX7_rules 25 = .ok (.iaload, 1) := by decide +kernel
theorem dX7_rules_26 : decode cX7_rules 26 = .ok (.iload_n 1, 1) := by decide +kernel
theorem dX7_rules_27 : decode cX7_rules 27 = .ok (.if_icmp .ne 7, 3) := by decide +kernel
theorem dX7_rules_30 : decode cX7_rules 30 = .ok (.iconst 1, 1) := by decide +kernel
theorem dX7_rules_31 : decode cX7_rules 31 = .ok (.goto 4, 3) := by decide +kernel
theorem dX7_rules_34 : decode cX7_rules 34 = .ok (.iconst 0, 1) := by decide +kernel
theorem dX7_rules_35 : decode cX7_rules 35 = .ok (.ireturn, 1) := by decide +kernel
set_option maxRecDepth 20000 in
theorem ggX7_wordsRuledBy_X4_settle : GoodIn wsX7_wordsRuledBy wsX4_settle := goodIn_r _ [9, 10, 11, 12, 13, 14, 15, 8, 16, 17, 18, 19, 20, 21, 22, 23, 24, 25, 26, 27, 28, 29, 30, 31, 32, 33, 34, 35, 36, 37, 38, 39, 40, 41, 42, 43, 44, 45, 46, 47, 48, 58, 59, 60, 61, 62, 63, 64, 65, 66, 67, 68, 69, 70, 71, 72, 73, 74] (by decide +kernel) (by decide +kernel)
set_option maxRecDepth 20000 in
theorem gX7_wordsRuledBy_X4_settle : GoodIn wsX7_wordsRuledBy (wsV RX7 191 RX4 yX4_settle wsX4_settle) := goodIn_app (goodIn_of _ (by decide +kernel)) ggX7_wordsRuledBy_X4_settle
theorem dX7_wordsRuledBy_0 : decode cX7_wordsRuledBy 0 = .ok (.aload_n 0, 1) := by decide +kernel
theorem dX7_wordsRuledBy_1 : decode cX7_wordsRuledBy 1 = .ok (.getfield 58, 3) := by decide +kernel
theorem dX7_wordsRuledBy_4 : decode cX7_wordsRuledBy 4 = .ok (.bipush (-5), 2) := by decide +kernel
theorem dX7_wordsRuledBy_6 : decode cX7_wordsRuledBy 6 = .ok (.invokevirtual 191, 3) := by decide +kernel
theorem dX7_wordsRuledBy_9 : decode cX7_wordsRuledBy 9 = .ok (.iconst 0, 1) := by decide +kernel
theorem dX7_wordsRuledBy_10 : decode cX7_wordsRuledBy 10 = .ok (.istore_n 2, 1) := by decide +kernel
theorem dX7_wordsRuledBy_11 : decode cX7_wordsRuledBy 11 = .ok (.iconst 0, 1) := by decide +kernel
theorem dX7_wordsRuledBy_12 : decode cX7_wordsRuledBy 12 = .ok (.istore_n 3, 1) := by decide +kernel
theorem dX7_wordsRuledBy_13 : decode cX7_wordsRuledBy 13 = .ok (.iload_n 3, 1) := by decide +kernel
theorem dX7_wordsRuledBy_14 : decode cX7_wordsRuledBy 14 = .ok (.bipush 16, 2) := by decide +kernel
theorem dX7_wordsRuledBy_16 : decode cX7_wordsRuledBy 16 = .ok (.if_icmp .ge 42, 3) := by decide +kernel
theorem dX7_wordsRuledBy_19 : decode cX7_wordsRuledBy 19 = .ok (.aload_n 0, 1) := by decide +kernel
theorem dX7_wordsRuledBy_20 : decode cX7_wordsRuledBy 20 = .ok (.getfield 58, 3) := by decide +kernel
theorem dX7_wordsRuledBy_23 : decode cX7_wordsRuledBy 23 = .ok (.getfield 208, 3) := by decide +kernel
theorem dX7_wordsRuledBy_26 : decode cX7_wordsRuledBy 26 = .ok (.iload_n 3, 1) := by decide +kernel
theorem dX7_wordsRuledBy_27 : decode cX7_wordsRuledBy 27 = .ok (.iaload, 1) := by decide +kernel
theorem dX7_wordsRuledBy_28 : decode cX7_wordsRuledBy 28 = .ok (.istore 4, 2) := by decide +kernel
theorem dX7_wordsRuledBy_30 : decode cX7_wordsRuledBy 30 = .ok (.iload 4, 2) := by decide +kernel
theorem dX7_wordsRuledBy_32 : decode cX7_wordsRuledBy 32 = .ok (.ifCond .lt 20, 3) := by decide +kernel
theorem dX7_wordsRuledBy_35 : decode cX7_wordsRuledBy 35 = .ok (.aload_n 0, 1) := by decide +kernel
theorem dX7_wordsRuledBy_36 : decode cX7_wordsRuledBy 36 = .ok (.getfield 10, 3) := by decide +kernel
theorem dX7_wordsRuledBy_39 : decode cX7_wordsRuledBy 39 = .ok (.getfield 228, 3) := by decide +kernel
theorem dX7_wordsRuledBy_42 : decode cX7_wordsRuledBy 42 = .ok (.iload 4, 2) := by decide +kernel
theorem dX7_wordsRuledBy_44 : decode cX7_wordsRuledBy 44 = .ok (.iaload, 1) := by decide +kernel
theorem dX7_wordsRuledBy_45 : decode cX7_wordsRuledBy 45 = .ok (.iload_n 1, 1) := by decide +kernel
theorem dX7_wordsRuledBy_46 : decode cX7_wordsRuledBy 46 = .ok (.if_icmp .ne 6, 3) := by decide +kernel
theorem dX7_wordsRuledBy_49 : decode cX7_wordsRuledBy 49 = .ok (.iinc 2 1, 3) := by decide +kernel
theorem dX7_wordsRuledBy_52 : decode cX7_wordsRuledBy 52 = .ok (.iinc 3 1, 3) := by decide +kernel
theorem dX7_wordsRuledBy_55 : decode cX7_wordsRuledBy 55 = .ok (.goto (-42), 3) := by decide +kernel
theorem dX7_wordsRuledBy_58 : decode cX7_wordsRuledBy 58 = .ok (.iload_n 2, 1) := by decide +kernel
theorem dX7_wordsRuledBy_59 : decode cX7_wordsRuledBy 59 = .ok (.ireturn, 1) := by decide +kernel
