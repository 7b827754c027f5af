set_option maxRecDepth 20000 in
theorem ggX2_init_X1_init : GoodIn wsX2_init wsX1_init := goodIn_r _ [9, 10, 2, 3, 11, 12, 13, 14, 15, 16, 17, 18, 19, 20, 23, 24, 25, 26, 27, 28, 29, 30, 31, 32, 33, 34, 35] (by decide +kernel) (by decide +kernel)
set_option maxRecDepth 20000 in
theorem gX2_init_X1_init_n17 : GoodIn wsX2_init (wsX1_init) := ggX2_init_X1_init
theorem dX2_init_0 : decode cX2_init 0 = .ok (.aload_n 0, 1) := by decide +kernel
theorem dX2_init_1 : decode cX2_init 1 = .ok (.invokespecial 3, 3) := by decide +kernel
theorem dX2_init_4 : decode cX2_init 4 = .ok (.aload_n 0, 1) := by decide +kernel
theorem dX2_init_5 : decode cX2_init 5 = .ok (.iconst 4, 1) := by decide +kernel
theorem dX2_init_6 : decode cX2_init 6 = .ok (.anewarray 9, 3) := by decide +kernel
theorem dX2_init_9 : decode cX2_init 9 = .ok (.putfield 11, 3) := by decide +kernel
theorem dX2_init_12 : decode cX2_init 12 = .ok (.iconst 0, 1) := by decide +kernel
theorem dX2_init_13 : decode cX2_init 13 = .ok (.istore_n 1, 1) := by decide +kernel
theorem dX2_init_14 : decode cX2_init 14 = .ok (.iload_n 1, 1) := by decide +kernel
theorem dX2_init_15 : decode cX2_init 15 = .ok (.iconst 4, 1) := by decide +kernel
theorem dX2_init_16 : decode cX2_init 16 = .ok (.if_icmp .ge 22, 3) := by decide +kernel
theorem dX2_init_19 : decode cX2_init 19 = .ok (.aload_n 0, 1) := by decide +kernel
theorem dX2_init_20 : decode cX2_init 20 = .ok (.getfield 11, 3) := by decide +kernel
theorem dX2_init_23 : decode cX2_init 23 = .ok (.iload_n 1, 1) := by decide +kernel
theorem dX2_init_24 : decode cX2_init 24 = .ok (.new 9, 3) := by decide +kernel
theorem dX2_init_27 : decode cX2_init 27 = .ok (.dup, 1) := by decide +kernel
theorem dX2_init_28 : decode cX2_init 28 = .ok (.invokespecial 17, 3) := by decide +kernel
theorem dX2_init_31 : decode cX2_init 31 = .ok (.aastore, 1) := by decide +kernel
theorem dX2_init_32 : decode cX2_init 32 = .ok (.iinc 1 1, 3) := by decide +kernel
theorem dX2_init_35 : decode cX2_init 35 = .ok (.goto (-21), 3) := by decide +kernel
theorem dX2_init_38 : decode cX2_init 38 = .ok (.return_, 1) := by decide +kernel
set_option maxRecDepth 20000 in
theorem ggX2_record_X2_dropOldest : GoodIn wsX2_record wsX2_dropOldest := goodIn_r _ [7, 2, 1, 30, 31] (by decide +kernel) (by decide +kernel)
set_option maxRecDepth 20000 in
theorem gX2_record_X2_dropOldest : GoodIn wsX2_record (wsV RX2 22 RX2 yX2_dropOldest wsX2_dropOldest) := goodIn_app (goodIn_of _ (by decide +kernel)) ggX2_record_X2_dropOldest
set_option maxRecDepth 20000 in
theorem ggX2_record_X1_become : GoodIn wsX2_record wsX1_become := goodIn_r _ [12, 13, 14, 15, 16, 17, 18, 19, 20, 21, 22, 23, 24, 25, 26, 27, 28, 29, 32, 33, 34, 35, 36, 37, 38, 39, 40, 41, 42, 43, 44] (by decide +kernel) (by decide +kernel)
set_option maxRecDepth 20000 in
theorem gX2_record_X1_become : GoodIn wsX2_record (wsV RX2 25 RX1 yX1_become wsX1_become) := goodIn_app (goodIn_of _ (by decide +kernel)) ggX2_record_X1_become
theorem dX2_record_0 : decode cX2_record 0 = .ok (.aload_n 0, 1) := by decide +kernel
theorem dX2_record_1 : decode cX2_record 1 = .ok (.getfield 18, 3) := by decide +kernel
theorem dX2_record_4 : decode cX2_record 4 = .ok (.iconst 4, 1) := by decide +kernel
theorem dX2_record_5 : decode cX2_record 5 = .ok (.if_icmp .ne 7, 3) := by decide +kernel
theorem dX2_record_8 : decode cX2_record 8 = .ok (.aload_n 0, 1) := by decide +kernel
theorem dX2_record_9 : decode cX2_record 9 = .ok (.invokevirtual 22, 3) := by decide +kernel
theorem dX2_record_12 : decode cX2_record 12 = .ok (.aload_n 0, 1) := by decide +kernel
theorem dX2_record_13 : decode cX2_record 13 = .ok (.getfield 11, 3) := by decide +kernel
theorem dX2_record_16 : decode cX2_record 16 = .ok (.aload_n 0, 1) := by decide +kernel
theorem dX2_record_17 : decode cX2_record 17 = .ok (.getfield 18, 3) := by decide +kernel
theorem dX2_record_20 : decode cX2_record 20 = .ok (.aaload, 1) := by decide +kernel
theorem dX2_record_21 : decode cX2_record 21 = .ok (.aload_n 1, 1) := by decide +kernel
theorem dX2_record_22 : decode cX2_record 22 = .ok (.invokevirtual 25, 3) := by decide +kernel
theorem dX2_record_25 : decode cX2_record 25 = .ok (.aload_n 0, 1) := by decide +kernel
theorem dX2_record_26 : decode cX2_record 26 = .ok (.dup, 1) := by decide +kernel
theorem dX2_record_27 : decode cX2_record 27 = .ok (.getfield 18, 3) := by decide +kernel
theorem dX2_record_30 : decode cX2_record 30 = .ok (.iconst 1, 1) := by decide +kernel
theorem dX2_record_31 : decode cX2_record 31 = .ok (.iadd, 1) := by decide +kernel
theorem dX2_record_32 : decode cX2_record 32 = .ok (.putfield 18, 3) := by decide +kernel
theorem dX2_record_35 : decode cX2_record 35 = .ok (.return_, 1) := by decide +kernel
theorem dX2_dropOldest_0 : decode cX2_dropOldest 0 = .ok (.aload_n 0, 1) := by decide +kernel
theorem dX2_dropOldest_1 : decode cX2_dropOldest 1 = .ok (.getfield 11, 3) := by decide +kernel
theorem dX2_dropOldest_4 : decode cX2_dropOldest 4 = .ok (.iconst 0, 1) := by decide +kernel
theorem dX2_dropOldest_5 : decode cX2_dropOldest 5 = .ok (.aaload, 1) := by decide +kernel
theorem dX2_dropOldest_6 : decode cX2_dropOldest 6 = .ok (.astore_n 1, 1) := by decide +kernel
theorem dX2_dropOldest_7 : decode cX2_dropOldest 7 = .ok (.iconst 1, 1) := by decide +kernel
theorem dX2_dropOldest_8 : decode cX2_dropOldest 8 = .ok (.istore_n 2, 1) := by decide +kernel
theorem dX2_dropOldest_9 : decode cX2_dropOldest 9 = .ok (.iload_n 2, 1) := by decide +kernel
theorem dX2_dropOldest_10 : decode cX2_dropOldest 10 = .ok (.iconst 4, 1) := by decide +kernel
theorem dX2_dropOldest_11 : decode cX2_dropOldest 11 = .ok (.if_icmp .ge 23, 3) := by decide +kernel
theorem dX2_dropOldest_14 : decode cX2_dropOldest 14 = .ok (.aload_n 0, 1) := by decide +kernel
theorem dX2_dropOldest_15 : decode cX2_dropOldest 15 = .ok (.getfield 11, 3) := by decide +kernel
theorem dX2_dropOldest_18 : decode cX2_dropOldest 18 = .ok (.iload_n 2, 1) := by decide +kernel
theorem dX2_dropOldest_19 : decode cX2_dropOldest 19 = .ok (.iconst 1, 1) := by decide +kernel
theorem dX2_dropOldest_20 : decode cX2_dropOldest 20 = .ok (.isub, 1) := by decide +kernel
theorem dX2_dropOldest_21 : decode cX2_dropOldest 21 = .ok (.aload_n 0, 1) := by decide +kernel
theorem dX2_dropOldest_22 : decode cX2_dropOldest 22 = .ok (.getfield 11, 3) := by decide +kernel
theorem dX2_dropOldest_25 : decode cX2_dropOldest 25 = .ok (.iload_n 2, 1) := by decide +kernel
theorem dX2_dropOldest_26 : decode cX2_dropOldest 26 = .ok (.aaload, 1) := by decide +kernel
theorem dX2_dropOldest_27 : decode cX2_dropOldest 27 = .ok (.aastore, 1) := by decide +kernel
theorem dX2_dropOldest_28 : decode cX2_dropOldest 28 = .ok (.iinc 2 1, 3) := by decide +kernel
theorem dX2_dropOldest_31 : decode cX2_dropOldest 31 = .ok (.goto (-22), 3) := by decide +kernel
theorem dX2_dropOldest_34 : decode cX2_dropOldest 34 = .ok (.aload_n 0, 1) := by decide +kernel
theorem dX2_dropOldest_35 : decode cX2_dropOldest 35 = .ok (.getfield 11, 3) := by decide +kernel
theorem dX2_dropOldest_38 : decode cX2_dropOldest 38 = .ok (.iconst 3, 1) := by decide +kernel
theorem dX2_dropOldest_39 : decode cX2_dropOldest 39 = .ok (.aload_n 1, 1) := by decide +kernel
theorem dX2_dropOldest_40 : decode cX2_dropOldest 40 = .ok (.aastore, 1) := by decide +kernel
theorem dX2_dropOldest_41 : decode cX2_dropOldest 41 = .ok (.aload_n 0, 1) := by decide +kernel
theorem dX2_dropOldest_42 : decode cX2_dropOldest 42 = .ok (.dup, 1) := by decide +kernel
theorem dX2_dropOldest_43 : decode cX2_dropOldest 43 = .ok (.getfield 18, 3) := by decide +kernel
theorem dX2_dropOldest_46 : decode cX2_dropOldest 46 = .ok (.iconst 1, 1) := by decide +kernel
theorem dX2_dropOldest_47 : decode cX2_dropOldest 47 = .ok (.isub, 1) := by decide +kernel
theorem dX2_dropOldest_48 : decode cX2_dropOldest 48 = .ok (.putfield 18, 3) := by decide +kernel
theorem dX2_dropOldest_51 : decode cX2_dropOldest 51 = .ok (.return_, 1) := by decide +kernel
theorem dX3_init_0 : decode cX3_init 0 = .ok (.aload_n 0, 1) := by decide +kernel
theorem dX3_init_1 : decode cX3_init 1 = .ok (.invokespecial 3, 3) := by decide +kernel
theorem dX3_init_4 : decode cX3_init 4 = .ok (.aload_n 0, 1) := by decide +kernel
theorem dX3_init_5 : decode cX3_init 5 = .ok (.bipush 9, 2) := by decide +kernel
theorem dX3_init_7 : decode cX3_init 7 = .ok (.newarray .int, 2) := by decide +kernel
theorem dX3_init_9 : decode cX3_init 9 = .ok (.putfield 11, 3) := by decide +kernel
theorem dX3_init_12 : decode cX3_init 12 = .ok (.aload_n 0, 1) := by decide +kernel
theorem dX3_init_13 : decode cX3_init 13 = .ok (.bipush 9, 2) := by decide +kernel
theorem dX3_init_15 : decode cX3_init 15 = .ok (.newarray .int, 2) := by decide +kernel
theorem dX3_init_17 : decode cX3_init 17 = .ok (.putfield 15, 3) := by decide +kernel
theorem dX3_init_20 : decode cX3_init 20 = .ok (.aload_n 0, 1) := by decide +kernel
theorem dX3_init_21 : decode cX3_init 21 = .ok (.bipush 9, 2) := by decide +kernel
theorem dX3_init_23 : decode cX3_init 23 = .ok (.newarray .float, 2) := by decide +kernel
theorem dX3_init_25 : decode cX3_init 25 = .ok (.putfield 18, 3) := by decide +kernel
theorem dX3_init_28 : decode cX3_init 28 = .ok (.aload_n 0, 1) := by decide +kernel
theorem dX3_init_29 : decode cX3_init 29 = .ok (.bipush 9, 2) := by decide +kernel
theorem dX3_init_31 : decode cX3_init 31 = .ok (.newarray .float, 2) := by decide +kernel
theorem dX3_init_33 : decode cX3_init 33 = .ok (.putfield 22, 3) := by decide +kernel
theorem dX3_init_36 : decode cX3_init 36 = .ok (.aload_n 0, 1) := by decide +kernel
theorem dX3_init_37 : decode cX3_init 37 = .ok (.aload_n 1, 1) := by decide +kernel
theorem dX3_init_38 : decode cX3_init 38 = .ok (.putfield 25, 3) := by decide +kernel
theorem dX3_init_41 : decode cX3_init 41 = .ok (.return_, 1) := by decide +kernel
theorem dX4_init_0 : decode cX4_init 0 = .ok (.aload_n 0, 1) := by decide +kernel
theorem dX4_init_1 : decode cX4_init 1 = .ok (.invokespecial 3, 3) := by decide +kernel
theorem dX4_init_4 : decode cX4_init 4 = .ok (.aload_n 0, 1) := by decide +kernel
theorem dX4_init_5 : decode cX4_init 5 = .ok (.bipush 16, 2) := by decide +kernel
theorem dX4_init_7 : decode cX4_init 7 = .ok (.newarray .int, 2) := by decide +kernel
theorem dX4_init_9 : decode cX4_init 9 = .ok (.putfield 9, 3) := by decide +kernel
theorem dX4_init_12 : decode cX4_init 12 = .ok (.aload_n 0, 1) := by decide +kernel
theorem dX4_init_13 : decode cX4_init 13 = .ok (.bipush 16, 2) := by decide +kernel
theorem dX4_init_15 : decode cX4_init 15 = .ok (.newarray .boolean, 2) := by decide +kernel
theorem dX4_init_17 : decode cX4_init 17 = .ok (.putfield 15, 3) := by decide +kernel
theorem dX4_init_20 : decode cX4_init 20 = .ok (.aload_n 0, 1) := by decide +kernel
theorem dX4_init_21 : decode cX4_init 21 = .ok (.bipush 16, 2) := by decide +kernel
theorem dX4_init_23 : decode cX4_init 23 = .ok (.newarray .float, 2) := by decide +kernel
theorem dX4_init_25 : decode cX4_init 25 = .ok (.putfield 19, 3) := by decide +kernel
theorem dX4_init_28 : decode cX4_init 28 = .ok (.aload_n 0, 1) := by decide +kernel
theorem dX4_init_29 : decode cX4_init 29 = .ok (.aload_n 1, 1) := by decide +kernel
theorem dX4_init_30 : decode cX4_init 30 = .ok (.putfield 23, 3) := by decide +kernel
theorem dX4_init_33 : decode cX4_init 33 = .ok (.return_, 1) := by decide +kernel
set_option maxRecDepth 20000 in
theorem ggX4_settle_X4_findRulers : GoodIn wsX4_settle wsX4_findRulers := goodIn_r _ [8, 9, 10, 11, 1, 12, 13, 14, 15, 16, 17, 18, 19, 20, 21, 22, 23, 41, 42, 43, 44, 45, 46, 47, 48, 49, 50, 51, 52, 53, 54, 55, 56, 57] (by decide +kernel) (by decide +kernel)
set_option maxRecDepth 20000 in
theorem gX4_settle_X4_findRulers : GoodIn wsX4_settle (wsV RX4 27 RX4 yX4_findRulers wsX4_findRulers) := goodIn_app (goodIn_of _ (by decide +kernel)) ggX4_settle_X4_findRulers
set_option maxRecDepth 20000 in
theorem ggX4_settle_X4_findValues : GoodIn wsX4_settle wsX4_findValues := goodIn_r _ [27, 1, 2, 3, 28, 29, 30, 7, 31, 9, 32, 33, 34, 35, 36, 37, 38, 39, 40, 41, 42, 43, 44, 45, 46, 47, 48, 49, 50, 51, 52, 53, 54, 55, 56, 57] (by decide +kernel) (by decide +kernel)
set_option maxRecDepth 20000 in
theorem gX4_settle_X4_findValues : GoodIn wsX4_settle (wsV RX4 31 RX4 yX4_findValues wsX4_findValues) := goodIn_app (goodIn_of _ (by decide +kernel)) ggX4_settle_X4_findValues
theorem dX4_settle_0 : decode cX4_settle 0 = .ok (.iconst 0, 1) := by decide +kernel
theorem dX4_settle_1 : decode cX4_settle 1 = .ok (.istore_n 2, 1) := by decide +kernel
theorem dX4_settle_2 : decode cX4_settle 2 = .ok (.iload_n 2, 1) := by decide +kernel
theorem dX4_settle_3 : decode cX4_settle 3 = .ok (.bipush 16, 2) := by decide +kernel
theorem dX4_settle_5 : decode cX4_settle 5 = .ok (.if_icmp .ge 31, 3) := by decide +kernel
theorem dX4_settle_8 : decode cX4_settle 8 = .ok (.aload_n 0, 1) := by decide +kernel
theorem dX4_settle_9 : decode cX4_settle 9 = .ok (.getfield 9, 3) := by decide +kernel
theorem dX4_settle_12 : decode cX4_settle 12 = .ok (.iload_n 2, 1) := by decide +kernel
theorem dX4_settle_13 : decode cX4_settle 13 = .ok (.bipush (-5), 2) := by decide +kernel
theorem dX4_settle_15 : decode cX4_settle 15 = .ok (.iastore, 1) := by decide +kernel
theorem dX4_settle_16 : decode cX4_settle 16 = .ok (.aload_n 0, 1) := by decide +kernel
theorem dX4_settle_17 : decode cX4_settle 17 = .ok (.getfield 15, 3) := by decide +kernel
theorem dX4_settle_20 : decode cX4_settle 20 = .ok (.iload_n 2, 1) := by decide +kernel
theorem dX4_settle_21 : decode cX4_settle 21 = .ok (.iconst 0, 1) := by decide +kernel
theorem dX4_settle_22 : decode cX4_settle 22 = .ok (.bastore, 1) := by decide +kernel
theorem dX4_settle_23 : decode cX4_settle 23 = .ok (.aload_n 0, 1) := by decide +kernel
theorem dX4_settle_24 : decode cX4_settle 24 = .ok (.getfield 19, 3) := by decide +kernel
theorem dX4_settle_27 : decode cX4_settle 27 = .ok (.iload_n 2, 1) := by decide +kernel
theorem dX4_settle_28 : decode cX4_settle 28 = .ok (.fconst 0, 1) := by decide +kernel
theorem dX4_settle_29 : decode cX4_settle 29 = .ok (.fastore, 1) := by decide +kernel
theorem dX4_settle_30 : decode cX4_settle 30 = .ok (.iinc 2 1, 3) := by decide +kernel
theorem dX4_settle_33 : decode cX4_settle 33 = .ok (.goto (-31), 3) := by decide +kernel
theorem dX4_settle_36 : decode cX4_settle 36 = .ok (.aload_n 0, 1) := by decide +kernel
theorem dX4_settle_37 : decode cX4_settle 37 = .ok (.iload_n 1, 1) := by decide +kernel
theorem dX4_settle_38 : decode cX4_settle 38 = .ok (.invokevirtual 27, 3) := by decide +kernel
theorem dX4_settle_41 : decode cX4_settle 41 = .ok (.aload_n 0, 1) := by decide +kernel
theorem dX4_settle_42 : decode cX4_settle 42 = .ok (.invokevirtual 31, 3) := by decide +kernel
theorem dX4_settle_45 : decode cX4_settle 45 = .ok (.return_, 1) := by decide +kernel
set_option maxRecDepth 20000 in
theorem ggX4_findRulers_X1_hangs : GoodIn wsX4_findRulers wsX1_hangs := goodIn_r _ [9, 10, 21, 22, 23, 24, 25, 26, 27, 28, 29, 30, 31, 32, 33] (by decide +kernel) (by decide +kernel)
set_option maxRecDepth 20000 in
theorem gX4_findRulers_X1_hangs : GoodIn wsX4_findRulers (wsV RX4 40 RX1 yX1_hangs wsX1_hangs) := goodIn_app (goodIn_of _ (by decide +kernel)) ggX4_findRulers_X1_hangs
set_option maxRecDepth 20000 in
theorem ggX4_findRulers_X1_rankOf : GoodIn wsX4_findRulers wsX1_rankOf := goodIn_r _ [14, 15, 16, 21, 22, 23, 24, 25, 26, 27, 28, 29, 30, 31, 32, 33] (by decide +kernel) (by decide +kernel)
set_option maxRecDepth 20000 in
theorem gX4_findRulers_X1_rankOf : GoodIn wsX4_findRulers (wsV RX4 47 RX1 yX1_rankOf wsX1_rankOf) := goodIn_app (goodIn_of _ (by decide +kernel)) ggX4_findRulers_X1_rankOf
theorem dX4_findRulers_0 : decode cX4_findRulers 0 = .ok (.iconst 0, 1) := by decide +kernel
theorem dX4_findRulers_1 : decode cX4_findRulers 1 = .ok (.istore_n 2, 1) := by decide +kernel
theorem dX4_findRulers_2 : decode cX4_findRulers 2 = .ok (.iload_n 2, 1) := by decide +kernel
theorem dX4_findRulers_3 : decode cX4_findRulers 3 = .ok (.aload_n 0, 1) := by decide +kernel
theorem dX4_findRulers_4 : decode cX4_findRulers 4 = .ok (.getfield 23, 3) := by decide +kernel
theorem dX4_findRulers_7 : decode cX4_findRulers 7 = .ok (.getfield 34, 3) := by decide +kernel
theorem dX4_findRulers_10 : decode cX4_findRulers 10 = .ok (.if_icmp .ge 75, 3) := by decide +kernel
theorem dX4_findRulers_13 : decode cX4_findRulers 13 = .ok (.aload_n 0, 1) := by decide +kernel
theorem dX4_findRulers_14 : decode cX4_findRulers 14 = .ok (.getfield 23, 3) := by decide +kernel
theorem dX4_findRulers_17 : decode cX4_findRulers 17 = .ok (.iload_n 2, 1) := by decide +kernel
theorem dX4_findRulers_18 : decode cX4_findRulers 18 = .ok (.invokevirtual 40, 3) := by decide +kernel
theorem dX4_findRulers_21 : decode cX4_findRulers 21 = .ok (.ifCond .eq 58, 3) := by decide +kernel
theorem dX4_findRulers_24 : decode cX4_findRulers 24 = .ok (.iload_n 2, 1) := by decide +kernel
theorem dX4_findRulers_25 : decode cX4_findRulers 25 = .ok (.iload_n 1, 1) := by decide +kernel
theorem dX4_findRulers_26 : decode cX4_findRulers 26 = .ok (.if_icmp .eq 53, 3) := by decide +kernel
theorem dX4_findRulers_29 : decode cX4_findRulers 29 = .ok (.aload_n 0, 1) := by decide +kernel
theorem dX4_findRulers_30 : decode cX4_findRulers 30 = .ok (.getfield 23, 3) := by decide +kernel
theorem dX4_findRulers_33 : decode cX4_findRulers 33 = .ok (.getfield 44, 3) := by decide +kernel
theorem dX4_findRulers_36 : decode cX4_findRulers 36 = .ok (.iload_n 2, 1) := by decide +kernel
theorem dX4_findRulers_37 : decode cX4_findRulers 37 = .ok (.iaload, 1) := by decide +kernel
theorem dX4_findRulers_38 : decode cX4_findRulers 38 = .ok (.istore_n 3, 1) := by decide +kernel
theorem dX4_findRulers_39 : decode cX4_findRulers 39 = .ok (.aload_n 0, 1) := by decide +kernel
theorem dX4_findRulers_40 : decode cX4_findRulers 40 = .ok (.getfield 9, 3) := by decide +kernel
theorem dX4_findRulers_43 : decode cX4_findRulers 43 = .ok (.iload_n 3, 1) := by decide +kernel
theorem dX4_findRulers_44 : decode cX4_findRulers 44 = .ok (.iaload, 1) := by decide +kernel
theorem dX4_findRulers_45 : decode cX4_findRulers 45 = .ok (.istore 4, 2) := by decide +kernel
theorem dX4_findRulers_47 : decode cX4_findRulers 47 = .ok (.iload 4, 2) := by decide +kernel
theorem dX4_findRulers_49 : decode cX4_findRulers 49 = .ok (.ifCond .lt 23, 3) := by decide +kernel
theorem dX4_findRulers_52 : decode cX4_findRulers 52 = .ok (.aload_n 0, 1) := by decide +kernel
theorem dX4_findRulers_53 : decode cX4_findRulers 53 = .ok (.getfield 23, 3) := by decide +kernel
theorem dX4_findRulers_56 : decode cX4_findRulers 56 = .ok (.iload_n 2, 1) := by decide +kernel
theorem dX4_findRulers_57 : decode cX4_findRulers 57 = .ok (.invokevirtual 47, 3) := by decide +kernel
theorem dX4_findRulers_60 : decode cX4_findRulers 60 = .ok (.aload_n 0, 1) := by decide +kernel
theorem dX4_findRulers_61 : decode cX4_findRulers 61 = .ok (.getfield 23, 3) := by decide +kernel
theorem dX4_findRulers_64 : decode cX4_findRulers 64 = .ok (.iload 4, 2) := by decide +kernel
theorem dX4_findRulers_66 : decode cX4_findRulers 66 = .ok (.invokevirtual 47, 3) := by decide +kernel
theorem dX4_findRulers_69 : decode cX4_findRulers 69 = .ok (.if_icmp .lt 10, 3) := by decide +kernel
theorem dX4_findRulers_72 : decode cX4_findRulers 72 = .ok (.aload_n 0, 1) := by decide +kernel
theorem dX4_findRulers_73 : decode cX4_findRulers 73 = .ok (.getfield 9, 3) := by decide +kernel
theorem dX4_findRulers_76 : decode cX4_findRulers 76 = .ok (.iload_n 3, 1) := by decide +kernel
theorem dX4_findRulers_77 : decode cX4_findRulers 77 = .ok (.iload_n 2, 1) := by decide +kernel
theorem dX4_findRulers_78 : decode cX4_findRulers 78 = .ok (.iastore, 1) := by decide +kernel
theorem dX4_findRulers_79 : decode cX4_findRulers 79 = .ok (.iinc 2 1, 3) := by decide +kernel
theorem dX4_findRulers_82 : decode cX4_findRulers 82 = .ok (.goto (-80), 3) := by decide +kernel
theorem dX4_findRulers_85 : decode cX4_findRulers 85 = .ok (.return_, 1) := by decide +kernel
set_option maxRecDepth 20000 in
theorem ggX4_findValues_X4_orderHasValue : GoodIn wsX4_findValues wsX4_orderHasValue := goodIn_r _ [8, 9, 10, 2, 11, 12, 13, 14, 15, 7, 16, 17, 3, 18, 19, 20, 21, 22, 23, 24, 25, 26, 27, 28, 29, 30, 31, 32, 33, 34, 35] (by decide +kernel) (by decide +kernel)
set_option maxRecDepth 20000 in
theorem gX4_findValues_X4_orderHasValue : GoodIn wsX4_findValues (wsV RX4 51 RX4 yX4_orderHasValue wsX4_orderHasValue) := goodIn_app (goodIn_of _ (by decide +kernel)) ggX4_findValues_X4_orderHasValue
set_option maxRecDepth 20000 in
theorem ggX4_findValues_X4_orderValue : GoodIn wsX4_findValues wsX4_orderValue := goodIn_r _ [16, 9, 10, 17, 3, 18, 19, 20, 21, 22, 23, 24, 25, 26, 27, 28, 29, 30, 31, 32, 33, 34, 35] (by decide +kernel) (by decide +kernel)
set_option maxRecDepth 20000 in
theorem gX4_findValues_X4_orderValue : GoodIn wsX4_findValues (wsV RX4 54 RX4 yX4_orderValue wsX4_orderValue) := goodIn_app (goodIn_of _ (by decide +kernel)) ggX4_findValues_X4_orderValue
theorem dX4_findValues_0 : decode cX4_findValues 0 = .ok (.iconst 1, 1) := by decide +kernel
theorem dX4_findValues_1 : decode cX4_findValues 1 = .ok (.istore_n 1, 1) := by decide +kernel
theorem dX4_findValues_2 : decode cX4_findValues 2 = .ok (.iconst 0, 1) := by decide +kernel
theorem dX4_findValues_3 : decode cX4_findValues 3 = .ok (.istore_n 2, 1) := by decide +kernel
theorem dX4_findValues_4 : decode cX4_findValues 4 = .ok (.iload_n 2, 1) := by decide +kernel
theorem dX4_findValues_5 : decode cX4_findValues 5 = .ok (.bipush 16, 2) := by decide +kernel
theorem dX4_findValues_7 : decode cX4_findValues 7 = .ok (.if_icmp .ge 81, 3) := by decide +kernel
theorem dX4_findValues_10 : decode cX4_findValues 10 = .ok (.iload_n 1, 1) := by decide +kernel
theorem dX4_findValues_11 : decode cX4_findValues 11 = .ok (.ifCond .eq 77, 3) := by decide +kernel
theorem dX4_findValues_14 : decode cX4_findValues 14 = .ok (.iconst 0, 1) := by decide +kernel
theorem dX4_findValues_15 : decode cX4_findValues 15 = .ok (.istore_n 1, 1) := by decide +kernel
theorem dX4_findValues_16 : decode cX4_findValues 16 = .ok (.iconst 0, 1) := by decide +kernel
theorem dX4_findValues_17 : decode cX4_findValues 17 = .ok (.istore_n 3, 1) := by decide +kernel
theorem dX4_findValues_18 : decode cX4_findValues 18 = .ok (.iload_n 3, 1) := by decide +kernel
theorem dX4_findValues_19 : decode cX4_findValues 19 = .ok (.bipush 16, 2) := by decide +kernel
theorem dX4_findValues_21 : decode cX4_findValues 21 = .ok (.if_icmp .ge 61, 3) := by decide +kernel
theorem dX4_findValues_24 : decode cX4_findValues 24 = .ok (.aload_n 0, 1) := by decide +kernel
theorem dX4_findValues_25 : decode cX4_findValues 25 = .ok (.getfield 9, 3) := by decide +kernel
theorem dX4_findValues_28 : decode cX4_findValues 28 = .ok (.iload_n 3, 1) := by decide +kernel
theorem dX4_findValues_29 : decode cX4_findValues 29 = .ok (.iaload, 1) := by decide +kernel
theorem dX4_findValues_30 : decode cX4_findValues 30 = .ok (.istore 4, 2) := by decide +kernel
theorem dX4_findValues_32 : decode cX4_findValues 32 = .ok (.aload_n 0, 1) := by decide +kernel
theorem dX4_findValues_33 : decode cX4_findValues 33 = .ok (.getfield 15, 3) := by decide +kernel
theorem dX4_findValues_36 : decode cX4_findValues 36 = .ok (.iload_n 3, 1) := by decide +kernel
theorem dX4_findValues_37 : decode cX4_findValues 37 = .ok (.baload, 1) := by decide +kernel
theorem dX4_findValues_38 : decode cX4_findValues 38 = .ok (.ifCond .ne 38, 3) := by decide +kernel
theorem dX4_findValues_41 : decode cX4_findValues 41 = .ok (.iload 4, 2) := by decide +kernel
theorem dX4_findValues_43 : decode cX4_findValues 43 = .ok (.ifCond .lt 33, 3) := by decide +kernel
theorem dX4_findValues_46 : decode cX4_findValues 46 = .ok (.aload_n 0, 1) := by decide +kernel
theorem dX4_findValues_47 : decode cX4_findValues 47 = .ok (.iload 4, 2) := by decide +kernel
theorem dX4_findValues_49 : decode cX4_findValues 49 = .ok (.invokevirtual 51, 3) := by decide +kernel
theorem dX4_findValues_52 : decode cX4_findValues 52 = .ok (.ifCond .eq 24, 3) := by decide +kernel
theorem dX4_findValues_55 : decode cX4_findValues 55 = .ok (.aload_n 0, 1) := by decide +kernel
theorem dX4_findValues_56 : decode cX4_findValues 56 = .ok (.getfield 15, 3) := by decide +kernel
theorem dX4_findValues_59 : decode cX4_findValues 59 = .ok (.iload_n 3, 1) := by decide +kernel
theorem dX4_findValues_60 : decode cX4_findValues 60 = .ok (.iconst 1, 1) := by decide +kernel
theorem dX4_findValues_61 : decode cX4_findValues 61 = .ok (.bastore, 1) := by decide +kernel
theorem dX4_findValues_62 : decode cX4_findValues 62 = .ok (.aload_n 0, 1) := by decide +kernel
theorem dX4_findValues_63 : decode cX4_findValues 63 = .ok (.getfield 19, 3) := by decide +kernel
theorem dX4_findValues_66 : decode cX4_findValues 66 = .ok (.iload_n 3, 1) := by decide +kernel
theorem dX4_findValues_67 : decode cX4_findValues 67 = .ok (.aload_n 0, 1) := by decide +kernel
theorem dX4_findValues_68 : decode cX4_findValues 68 = .ok (.iload 4, 2) := by decide +kernel
theorem dX4_findValues_70 : decode cX4_findValues 70 = .ok (.invokevirtual 54, 3) := by decide +kernel
theorem dX4_findValues_73 : decode cX4_findValues 73 = .ok (.fastore, 1) := by decide +kernel
theorem dX4_findValues_74 : decode cX4_findValues 74 = .ok (.iconst 1, 1) := by decide +kernel
theorem dX4_findValues_75 : decode cX4_findValues 75 = .ok (.istore_n 1, 1) := by decide +kernel
theorem dX4_findValues_76 : decode cX4_findValues 76 = .ok (.iinc 3 1, 3) := by decide +kernel
theorem dX4_findValues_79 : decode cX4_findValues 79 = .ok (.goto (-61), 3) := by decide +kernel
theorem dX4_findValues_82 : decode cX4_findValues 82 = .ok (.iinc 2 1, 3) := by decide +kernel
theorem dX4_findValues_85 : decode cX4_findValues 85 = .ok (.goto (-81), 3) := by decide +kernel
theorem dX4_findValues_88 : decode cX4_findValues 88 = .ok (.return_, 1) := by decide +kernel
set_option maxRecDepth 20000 in
theorem ggX4_orderHasValue_X4_orderValue : GoodIn wsX4_orderHasValue wsX4_orderValue := goodIn_r _ [10, 1, 2, 11, 12, 13, 14, 15, 16, 17, 18, 19, 20, 21, 22, 23, 24, 25, 26, 27, 28, 29, 30] (by decide +kernel) (by decide +kernel)
set_option maxRecDepth 20000 in
theorem gX4_orderHasValue_X4_orderValue : GoodIn wsX4_orderHasValue (wsV RX4 54 RX4 yX4_orderValue wsX4_orderValue) := goodIn_app (goodIn_of _ (by decide +kernel)) ggX4_orderHasValue_X4_orderValue
theorem dX4_orderHasValue_0 : decode cX4_orderHasValue 0 = .ok (.aload_n 0, 1) := by decide +kernel
theorem dX4_orderHasValue_1 : decode cX4_orderHasValue 1 = .ok (.getfield 23, 3) := by decide +kernel
theorem dX4_orderHasValue_4 : decode cX4_orderHasValue 4 = .ok (.getfield 58, 3) := by decide +kernel
theorem dX4_orderHasValue_7 : decode cX4_orderHasValue 7 = .ok (.iload_n 1, 1) := by decide +kernel
theorem dX4_orderHasValue_8 : decode cX4_orderHasValue 8 = .ok (.iaload, 1) := by decide +kernel
theorem dX4_orderHasValue_9 : decode cX4_orderHasValue 9 = .ok (.istore_n 2, 1) := by decide +kernel
theorem dX4_orderHasValue_10 : decode cX4_orderHasValue 10 = .ok (.iload_n 2, 1) := by decide +kernel
theorem dX4_orderHasValue_11 : decode cX4_orderHasValue 11 = .ok (.ifCond .lt 14, 3) := by decide +kernel
theorem dX4_orderHasValue_14 : decode cX4_orderHasValue 14 = .ok (.aload_n 0, 1) := by decide +kernel
theorem dX4_orderHasValue_15 : decode cX4_orderHasValue 15 = .ok (.getfield 15, 3) := by decide +kernel
theorem dX4_orderHasValue_18 : decode cX4_orderHasValue 18 = .ok (.iload_n 2, 1) := by decide +kernel
theorem dX4_orderHasValue_19 : decode cX4_orderHasValue 19 = .ok (.baload, 1) := by decide +kernel
theorem dX4_orderHasValue_20 : decode cX4_orderHasValue 20 = .ok (.ifCond .ne 5, 3) := by decide +kernel
theorem dX4_orderHasValue_23 : decode cX4_orderHasValue 23 = .ok (.iconst 0, 1) := by decide +kernel
theorem dX4_orderHasValue_24 : decode cX4_orderHasValue 24 = .ok (.ireturn, 1) := by decide +kernel
theorem dX4_orderHasValue_25 : decode cX4_orderHasValue 25 = .ok (.aload_n 0, 1) := by decide +kernel
theorem dX4_orderHasValue_26 : decode cX4_orderHasValue 26 = .ok (.iload_n 1, 1) := by decide +kernel
theorem dX4_orderHasValue_27 : decode cX4_orderHasValue 27 = .ok (.invokevirtual 54, 3) := by decide +kernel
theorem dX4_orderHasValue_30 : decode cX4_orderHasValue 30 = .ok (.fstore_n 3, 1) := by decide +kernel
theorem dX4_orderHasValue_31 : decode cX4_orderHasValue 31 = .ok (.fload_n 3, 1) := by decide +kernel
theorem dX4_orderHasValue_32 : decode cX4_orderHasValue 32 = .ok (.ldc 61, 2) := by decide +kernel
theorem dX4_orderHasValue_34 : decode cX4_orderHasValue 34 = .ok (.fcmp .l, 1) := by decide +kernel
theorem dX4_orderHasValue_35 : decode cX4_orderHasValue 35 = .ok (.ifCond .lt 14, 3) := by decide +kernel
theorem dX4_orderHasValue_38 : decode cX4_orderHasValue 38 = .ok (.fload_n 3, 1) := by decide +kernel
theorem dX4_orderHasValue_39 : decode cX4_orderHasValue 39 = .ok (.ldc 62, 2) := by decide +kernel
theorem dX4_orderHasValue_41 : decode cX4_orderHasValue 41 = .ok (.fcmp .g, 1) := by decide +kernel
theorem dX4_orderHasValue_42 : decode cX4_orderHasValue 42 = .ok (.ifCond .gt 7, 3) := by decide +kernel
theorem dX4_orderHasValue_45 : decode cX4_orderHasValue 45 = .ok (.iconst 1, 1) := by decide +kernel
theorem dX4_orderHasValue_46 : decode cX4_orderHasValue 46 = .ok (.goto 4, 3) := by decide +kernel
theorem dX4_orderHasValue_49 : decode cX4_orderHasValue 49 = .ok (.iconst 0, 1) := by decide +kernel
theorem dX4_orderHasValue_50 : decode cX4_orderHasValue 50 = .ok (.ireturn, 1) := by decide +kernel
theorem dX4_orderValue_0 : decode cX4_orderValue 0 = .ok (.aload_n 0, 1) := by decide +kernel
theorem dX4_orderValue_1 : decode cX4_orderValue 1 = .ok (.getfield 23, 3) := by decide +kernel
theorem dX4_orderValue_4 : decode cX4_orderValue 4 = .ok (.getfield 58, 3) := by decide +kernel
theorem dX4_orderValue_7 : decode cX4_orderValue 7 = .ok (.iload_n 1, 1) := by decide +kernel
theorem dX4_orderValue_8 : decode cX4_orderValue 8 = .ok (.iaload, 1) := by decide +kernel
theorem dX4_orderValue_9 : decode cX4_orderValue 9 = .ok (.istore_n 2, 1) := by decide +kernel
theorem dX4_orderValue_10 : decode cX4_orderValue 10 = .ok (.iload_n 2, 1) := by decide +kernel
theorem dX4_orderValue_11 : decode cX4_orderValue 11 = .ok (.ifCond .ge 13, 3) := by decide +kernel
theorem dX4_orderValue_14 : decode cX4_orderValue 14 = .ok (.aload_n 0, 1) := by decide +kernel
theorem dX4_orderValue_15 : decode cX4_orderValue 15 = .ok (.getfield 23, 3) := by decide +kernel
theorem dX4_orderValue_18 : decode cX4_orderValue 18 = .ok (.getfield 63, 3) := by decide +kernel
theorem dX4_orderValue_21 : decode cX4_orderValue 21 = .ok (.iload_n 1, 1) := by decide +kernel
theorem dX4_orderValue_22 : decode cX4_orderValue 22 = .ok (.faload, 1) := by decide +kernel
theorem dX4_orderValue_23 : decode cX4_orderValue 23 = .ok (.freturn, 1) := by decide +kernel
theorem dX4_orderValue_24 : decode cX4_orderValue 24 = .ok (.aload_n 0, 1) := by decide +kernel
theorem dX4_orderValue_25 : decode cX4_orderValue 25 = .ok (.getfield 19, 3) := by decide +kernel
theorem dX4_orderValue_28 : decode cX4_orderValue 28 = .ok (.iload_n 2, 1) := by decide +kernel
theorem dX4_orderValue_29 : decode cX4_orderValue 29 = .ok (.faload, 1) := by decide +kernel
theorem dX4_orderValue_30 : decode cX4_orderValue 30 = .ok (.aload_n 0, 1) := by decide +kernel
theorem dX4_orderValue_31 : decode cX4_orderValue 31 = .ok (.getfield 23, 3) := by decide +kernel
theorem dX4_orderValue_34 : decode cX4_orderValue 34 = .ok (.getfield 66, 3) := by decide +kernel
theorem dX4_orderValue_37 : decode cX4_orderValue 37 = .ok (.iload_n 1, 1) := by decide +kernel
theorem dX4_orderValue_38 : decode cX4_orderValue 38 = .ok (.faload, 1) := by decide +kernel
theorem dX4_orderValue_39 : decode cX4_orderValue 39 = .ok (.fmul, 1) := by decide +kernel
theorem dX4_orderValue_40 : decode cX4_orderValue 40 = .ok (.aload_n 0, 1) := by decide +kernel
theorem dX4_orderValue_41 : decode cX4_orderValue 41 = .ok (.getfield 23, 3) := by decide +kernel
theorem dX4_orderValue_44 : decode cX4_orderValue 44 = .ok (.getfield 63, 3) := by decide +kernel
theorem dX4_orderValue_47 : decode cX4_orderValue 47 = .ok (.iload_n 1, 1) := by decide +kernel
theorem dX4_orderValue_48 : decode cX4_orderValue 48 = .ok (.faload, 1) := by decide +kernel
theorem dX4_orderValue_49 : decode cX4_orderValue 49 = .ok (.fadd, 1) := by decide +kernel
theorem dX4_orderValue_50 : decode cX4_orderValue 50 = .ok (.freturn, 1) := by decide +kernel
theorem dX4_linkFrom_0 : decode cX4_linkFrom 0 = .ok (.aload_n 0, 1) := by decide +kernel
theorem dX4_linkFrom_1 : decode cX4_linkFrom 1 = .ok (.getfield 9, 3) := by decide +kernel
theorem dX4_linkFrom_4 : decode cX4_linkFrom 4 = .ok (.iload_n 1, 1) := by decide +kernel
theorem dX4_linkFrom_5 : decode cX4_linkFrom 5 = .ok (.iaload, 1) := by decide +kernel
theorem dX4_linkFrom_6 : decode cX4_linkFrom 6 = .ok (.istore_n 2, 1) := by decide +kernel
theorem dX4_linkFrom_7 : decode cX4_linkFrom 7 = .ok (.iload_n 2, 1) := by decide +kernel
theorem dX4_linkFrom_8 : decode cX4_linkFrom 8 = .ok (.ifCond .ge 8, 3) := by decide +kernel
theorem dX4_linkFrom_11 : decode cX4_linkFrom 11 = .ok (.bipush (-5), 2) := by decide +kernel
theorem dX4_linkFrom_13 : decode cX4_linkFrom 13 = .ok (.goto 12, 3) := by decide +kernel
theorem dX4_linkFrom_16 : decode cX4_linkFrom 16 = .ok (.aload_n 0, 1) := by decide +kernel
theorem dX4_linkFrom_17 : decode cX4_linkFrom 17 = .ok (.getfield 23, 3) := by decide +kernel
theorem dX4_linkFrom_20 : decode cX4_linkFrom 20 = .ok (.getfield 58, 3) := by decide +kernel
theorem dX4_linkFrom_23 : decode cX4_linkFrom 23 = .ok (.iload_n 2, 1) := by decide +kernel
theorem dX4_linkFrom_24 : decode cX4_linkFrom 24 = .ok (.iaload, 1) := by decide +kernel
theorem dX4_linkFrom_25 : decode cX4_linkFrom 25 = .ok (.ireturn, 1) := by decide +kernel
set_option maxRecDepth 20000 in
theorem ggX4_linksToEnd_X4_linkFrom : GoodIn wsX4_linksToEnd wsX4_linkFrom := goodIn_r _ [5, 6, 7, 8, 9, 10, 11, 12, 13, 14, 15, 16, 17, 18, 19, 20, 21, 22, 23, 24, 25] (by decide +kernel) (by decide +kernel)
set_option maxRecDepth 20000 in
theorem gX4_linksToEnd_X4_linkFrom : GoodIn wsX4_linksToEnd (wsV RX4 69 RX4 yX4_linkFrom wsX4_linkFrom) := goodIn_app (goodIn_of _ (by decide +kernel)) ggX4_linksToEnd_X4_linkFrom
theorem dX4_linksToEnd_0 : decode cX4_linksToEnd 0 = .ok (.iload_n 1, 1) := by decide +kernel
theorem dX4_linksToEnd_1 : decode cX4_linksToEnd 1 = .ok (.istore_n 2, 1) := by decide +kernel
theorem dX4_linksToEnd_2 : decode cX4_linksToEnd 2 = .ok (.iconst 0, 1) := by decide +kernel
theorem dX4_linksToEnd_3 : decode cX4_linksToEnd 3 = .ok (.istore_n 3, 1) := by decide +kernel
theorem dX4_linksToEnd_4 : decode cX4_linksToEnd 4 = .ok (.iload_n 3, 1) := by decide +kernel
theorem dX4_linksToEnd_5 : decode cX4_linksToEnd 5 = .ok (.bipush 16, 2) := by decide +kernel
theorem dX4_linksToEnd_7 : decode cX4_linksToEnd 7 = .ok (.if_icmp .ge 21, 3) := by decide +kernel
theorem dX4_linksToEnd_10 : decode cX4_linksToEnd 10 = .ok (.aload_n 0, 1) := by decide +kernel
theorem dX4_linksToEnd_11 : decode cX4_linksToEnd 11 = .ok (.iload_n 2, 1) := by decide +kernel
theorem dX4_linksToEnd_12 : decode cX4_linksToEnd 12 = .ok (.invokevirtual 69, 3) := by decide +kernel
theorem dX4_linksToEnd_15 : decode cX4_linksToEnd 15 = .ok (.istore_n 2, 1) := by decide +kernel
theorem dX4_linksToEnd_16 : decode cX4_linksToEnd 16 = .ok (.iload_n 2, 1) := by decide +kernel
theorem dX4_linksToEnd_17 : decode cX4_linksToEnd 17 = .ok (.ifCond .ge 5, 3) := by decide +kernel
theorem dX4_linksToEnd_20 : decode cX4_linksToEnd 20 = .ok (.iload_n 3, 1) := by decide +kernel
theorem dX4_linksToEnd_21 : decode cX4_linksToEnd 21 = .ok (.ireturn, 1) := by decide +kernel
theorem dX4_linksToEnd_22 : decode cX4_linksToEnd 22 = .ok (.iinc 3 1, 3) := by decide +kernel
theorem dX4_linksToEnd_25 : decode cX4_linksToEnd 25 = .ok (.goto (-21), 3) := by decide +kernel
theorem dX4_linksToEnd_28 : decode cX4_linksToEnd 28 = .ok (.bipush (-5), 2) := by decide +kernel
theorem dX4_linksToEnd_30 : decode cX4_linksToEnd 30 = .ok (.ireturn, 1) := by decide +kernel
set_option maxRecDepth 20000 in
theorem ggX4_comesTo_X4_linkFrom : GoodIn wsX4_comesTo wsX4_linkFrom := goodIn_r _ [5, 6, 7, 8, 9, 10, 11, 12, 13, 14, 15, 16, 17, 18, 19, 20, 21, 22, 23, 24, 25] (by decide +kernel) (by decide +kernel)
set_option maxRecDepth 20000 in
theorem gX4_comesTo_X4_linkFrom : GoodIn wsX4_comesTo (wsV RX4 69 RX4 yX4_linkFrom wsX4_linkFrom) := goodIn_app (goodIn_of _ (by decide +kernel)) ggX4_comesTo_X4_linkFrom
theorem dX4_comesTo_0 : decode cX4_comesTo 0 = .ok (.aload_n 0, 1) := by decide +kernel
theorem dX4_comesTo_1 : decode cX4_comesTo 1 = .ok (.iload_n 1, 1) := by decide +kernel
theorem dX4_comesTo_2 : decode cX4_comesTo 2 = .ok (.invokevirtual 69, 3) := by decide +kernel
theorem dX4_comesTo_5 : decode cX4_comesTo 5 = .ok (.istore_n 3, 1) := by decide +kernel
theorem dX4_comesTo_6 : decode cX4_comesTo 6 = .ok (.iconst 0, 1) := by decide +kernel
theorem dX4_comesTo_7 : decode cX4_comesTo 7 = .ok (.istore 4, 2) := by decide +kernel
theorem dX4_comesTo_9 : decode cX4_comesTo 9 = .ok (.iload 4, 2) := by decide +kernel
theorem dX4_comesTo_11 : decode cX4_comesTo 11 = .ok (.bipush 16, 2) := by decide +kernel
theorem dX4_comesTo_13 : decode cX4_comesTo 13 = .ok (.if_icmp .ge 26, 3) := by decide +kernel
theorem dX4_comesTo_16 : decode cX4_comesTo 16 = .ok (.iload_n 3, 1) := by decide +kernel
theorem dX4_comesTo_17 : decode cX4_comesTo 17 = .ok (.ifCond .lt 22, 3) := by decide +kernel
theorem dX4_comesTo_20 : decode cX4_comesTo 20 = .ok (.iload_n 3, 1) := by decide +kernel
theorem dX4_comesTo_21 : decode cX4_comesTo 21 = .ok (.iload_n 2, 1) := by decide +kernel
theorem dX4_comesTo_22 : decode cX4_comesTo 22 = .ok (.if_icmp .ne 5, 3) := by decide +kernel
theorem dX4_comesTo_25 : decode cX4_comesTo 25 = .ok (.iconst 1, 1) := by decide +kernel
theorem dX4_comesTo_26 : decode cX4_comesTo 26 = .ok (.ireturn, 1) := by decide +kernel
theorem dX4_comesTo_27 : decode cX4_comesTo 27 = .ok (.aload_n 0, 1) := by decide +kernel
theorem dX4_comesTo_28 : decode cX4_comesTo 28 = .ok (.iload_n 3, 1) := by decide +kernel
theorem dX4_comesTo_29 : decode cX4_comesTo 29 = .ok (.invokevirtual 69, 3) := by decide +kernel
theorem dX4_comesTo_32 : decode cX4_comesTo 32 = .ok (.istore_n 3, 1) := by decide +kernel
theorem dX4_comesTo_33 : decode cX4_comesTo 33 = .ok (.iinc 4 1, 3) := by decide +kernel
theorem dX4_comesTo_36 : decode cX4_comesTo 36 = .ok (.goto (-27), 3) := by decide +kernel
theorem dX4_comesTo_39 : decode cX4_comesTo 39 = .ok (.iconst 0, 1) := by decide +kernel
theorem dX4_comesTo_40 : decode cX4_comesTo 40 = .ok (.ireturn, 1) := by decide +kernel
set_option maxRecDepth 20000 in
theorem ggX4_dependents_X4_comesTo : GoodIn wsX4_dependents wsX4_comesTo := goodIn_r _ [5, 6, 7, 8, 4, 9, 10, 11, 12, 13, 14, 15, 16, 17, 18, 19, 20, 21, 22, 23, 24, 25, 26, 27, 28, 29] (by decide +kernel) (by decide +kernel)
set_option maxRecDepth 20000 in
theorem gX4_dependents_X4_comesTo : GoodIn wsX4_dependents (wsV RX4 72 RX4 yX4_comesTo wsX4_comesTo) := goodIn_app (goodIn_of _ (by decide +kernel)) ggX4_dependents_X4_comesTo
theorem dX4_dependents_0 : decode cX4_dependents 0 = .ok (.iconst 0, 1) := by decide +kernel
theorem dX4_dependents_1 : decode cX4_dependents 1 = .ok (.istore_n 2, 1) := by decide +kernel
theorem dX4_dependents_2 : decode cX4_dependents 2 = .ok (.iconst 0, 1) := by decide +kernel
theorem dX4_dependents_3 : decode cX4_dependents 3 = .ok (.istore_n 3, 1) := by decide +kernel
theorem dX4_dependents_4 : decode cX4_dependents 4 = .ok (.iload_n 3, 1) := by decide +kernel
theorem dX4_dependents_5 : decode cX4_dependents 5 = .ok (.bipush 16, 2) := by decide +kernel
theorem dX4_dependents_7 : decode cX4_dependents 7 = .ok (.if_icmp .ge 24, 3) := by decide +kernel
theorem dX4_dependents_10 : decode cX4_dependents 10 = .ok (.aload_n 0, 1) := by decide +kernel
theorem dX4_dependents_11 : decode cX4_dependents 11 = .ok (.iload_n 3, 1) := by decide +kernel
theorem dX4_dependents_12 : decode cX4_dependents 12 = .ok (.iload_n 1, 1) := by decide +kernel
theorem dX4_dependents_13 : decode cX4_dependents 13 = .ok (.invokevirtual 72, 3) := by decide +kernel
theorem dX4_dependents_16 : decode cX4_dependents 16 = .ok (.ifCond .eq 9, 3) := by decide +kernel
theorem dX4_dependents_19 : decode cX4_dependents 19 = .ok (.iload_n 2, 1) := by decide +kernel
theorem dX4_dependents_20 : decode cX4_dependents 20 = .ok (.iconst 1, 1) := by decide +kernel
theorem dX4_dependents_21 : decode cX4_dependents 21 = .ok (.iload_n 3, 1) := by decide +kernel
theorem dX4_dependents_22 : decode cX4_dependents 22 = .ok (.ishl, 1) := by decide +kernel
theorem dX4_dependents_23 : decode cX4_dependents 23 = .ok (.ior, 1) := by decide +kernel
theorem dX4_dependents_24 : decode cX4_dependents 24 = .ok (.istore_n 2, 1) := by decide +kernel
theorem dX4_dependents_25 : decode cX4_dependents 25 = .ok (.iinc 3 1, 3) := by decide +kernel
theorem dX4_dependents_28 : decode cX4_dependents 28 = .ok (.goto (-24), 3) := by decide +kernel
theorem dX4_dependents_31 : decode cX4_dependents 31 = .ok (.iload_n 2, 1) := by decide +kernel
theorem dX4_dependents_32 : decode cX4_dependents 32 = .ok (.ireturn, 1) := by decide +kernel
set_option maxRecDepth 20000 in
theorem ggX4_topmostRival_X1_hangsFor : GoodIn wsX4_topmostRival wsX1_hangsFor := goodIn_r _ [8, 9, 10, 11, 12, 7, 13, 14, 51, 52, 53, 54, 55, 56, 57, 58, 59, 60, 61, 62, 63] (by decide +kernel) (by decide +kernel)
set_option maxRecDepth 20000 in
theorem gX4_topmostRival_X1_hangsFor : GoodIn wsX4_topmostRival (wsV RX4 76 RX1 yX1_hangsFor wsX1_hangsFor) := goodIn_app (goodIn_of _ (by decide +kernel)) ggX4_topmostRival_X1_hangsFor
set_option maxRecDepth 20000 in
theorem ggX4_topmostRival_X4_areRivals : GoodIn wsX4_topmostRival wsX4_areRivals := goodIn_r _ [19, 2, 20, 21, 22, 23, 7, 24, 25, 26, 27, 28, 29, 18, 30, 31, 32, 33, 34, 35, 36, 37, 38, 39, 40, 41, 42, 43, 44, 45, 46, 47, 48, 49, 50, 51, 52, 53, 54, 55, 56, 57, 58, 59, 60, 61, 62, 63] (by decide +kernel) (by decide +kernel)
set_option maxRecDepth 20000 in
theorem gX4_topmostRival_X4_areRivals : GoodIn wsX4_topmostRival (wsV RX4 79 RX4 yX4_areRivals wsX4_areRivals) := goodIn_app (goodIn_of _ (by decide +kernel)) ggX4_topmostRival_X4_areRivals
theorem dX4_topmostRival_0 : decode cX4_topmostRival 0 = .ok (.aload_n 0, 1) := by decide +kernel
theorem dX4_topmostRival_1 : decode cX4_topmostRival 1 = .ok (.getfield 9, 3) := by decide +kernel
theorem dX4_topmostRival_4 : decode cX4_topmostRival 4 = .ok (.iload_n 1, 1) := by decide +kernel
theorem dX4_topmostRival_5 : decode cX4_topmostRival 5 = .ok (.iaload, 1) := by decide +kernel
theorem dX4_topmostRival_6 : decode cX4_topmostRival 6 = .ok (.istore_n 2, 1) := by decide +kernel
theorem dX4_topmostRival_7 : decode cX4_topmostRival 7 = .ok (.iload_n 2, 1) := by decide +kernel
theorem dX4_topmostRival_8 : decode cX4_topmostRival 8 = .ok (.ifCond .ge 6, 3) := by decide +kernel
theorem dX4_topmostRival_11 : decode cX4_topmostRival 11 = .ok (.bipush (-5), 2) := by decide +kernel
theorem dX4_topmostRival_13 : decode cX4_topmostRival 13 = .ok (.ireturn, 1) := by decide +kernel
theorem dX4_topmostRival_14 : decode cX4_topmostRival 14 = .ok (.aload_n 0, 1) := by decide +kernel
theorem dX4_topmostRival_15 : decode cX4_topmostRival 15 = .ok (.getfield 23, 3) := by decide +kernel
theorem dX4_topmostRival_18 : decode cX4_topmostRival 18 = .ok (.getfield 34, 3) := by decide +kernel
theorem dX4_topmostRival_21 : decode cX4_topmostRival 21 = .ok (.iconst 1, 1) := by decide +kernel
theorem dX4_topmostRival_22 : decode cX4_topmostRival 22 = .ok (.isub, 1) := by decide +kernel
theorem dX4_topmostRival_23 : decode cX4_topmostRival 23 = .ok (.istore_n 3, 1) := by decide +kernel
theorem dX4_topmostRival_24 : decode cX4_topmostRival 24 = .ok (.iload_n 3, 1) := by decide +kernel
theorem dX4_topmostRival_25 : decode cX4_topmostRival 25 = .ok (.ifCond .lt 32, 3) := by decide +kernel
theorem dX4_topmostRival_28 : decode cX4_topmostRival 28 = .ok (.aload_n 0, 1) := by decide +kernel
theorem dX4_topmostRival_29 : decode cX4_topmostRival 29 = .ok (.getfield 23, 3) := by decide +kernel
theorem dX4_topmostRival_32 : decode cX4_topmostRival 32 = .ok (.iload_n 3, 1) := by decide +kernel
theorem dX4_topmostRival_33 : decode cX4_topmostRival 33 = .ok (.iload_n 1, 1) := by decide +kernel
theorem dX4_topmostRival_34 : decode cX4_topmostRival 34 = .ok (.invokevirtual 76, 3) := by decide +kernel
theorem dX4_topmostRival_37 : decode cX4_topmostRival 37 = .ok (.ifCond .eq 14, 3) := by decide +kernel
theorem dX4_topmostRival_40 : decode cX4_topmostRival 40 = .ok (.aload_n 0, 1) := by decide +kernel
theorem dX4_topmostRival_41 : decode cX4_topmostRival 41 = .ok (.iload_n 3, 1) := by decide +kernel
theorem dX4_topmostRival_42 : decode cX4_topmostRival 42 = .ok (.iload_n 2, 1) := by decide +kernel
theorem dX4_topmostRival_43 : decode cX4_topmostRival 43 = .ok (.invokevirtual 79, 3) := by decide +kernel
theorem dX4_topmostRival_46 : decode cX4_topmostRival 46 = .ok (.ifCond .eq 5, 3) := by decide +kernel
theorem dX4_topmostRival_49 : decode cX4_topmostRival 49 = .ok (.iload_n 3, 1) := by decide +kernel
theorem dX4_topmostRival_50 : decode cX4_topmostRival 50 = .ok (.ireturn, 1) := by decide +kernel
theorem dX4_topmostRival_51 : decode cX4_topmostRival 51 = .ok (.iinc 3 (-1), 3) := by decide +kernel
theorem dX4_topmostRival_54 : decode cX4_topmostRival 54 = .ok (.goto (-30), 3) := by decide +kernel
theorem dX4_topmostRival_57 : decode cX4_topmostRival 57 = .ok (.bipush (-5), 2) := by decide +kernel
theorem dX4_topmostRival_59 : decode cX4_topmostRival 59 = .ok (.ireturn, 1) := by decide +kernel
set_option maxRecDepth 20000 in
theorem ggX4_areRivals_X1_rankOf : GoodIn wsX4_areRivals wsX1_rankOf := goodIn_r _ [7, 8, 9, 35, 36, 37, 38, 39, 40, 41, 42, 43, 44, 45, 46, 47] (by decide +kernel) (by decide +kernel)
set_option maxRecDepth 20000 in
theorem gX4_areRivals_X1_rankOf : GoodIn wsX4_areRivals (wsV RX4 47 RX1 yX1_rankOf wsX1_rankOf) := goodIn_app (goodIn_of _ (by decide +kernel)) ggX4_areRivals_X1_rankOf
set_option maxRecDepth 20000 in
theorem ggX4_areRivals_X4_orderHasValue : GoodIn wsX4_areRivals wsX4_orderHasValue := goodIn_r _ [14, 1, 15, 16, 17, 18, 19, 20, 21, 13, 22, 23, 24, 25, 31, 32, 33, 34, 35, 36, 37, 38, 39, 40, 41, 42, 43, 44, 45, 46, 47] (by decide +kernel) (by decide +kernel)
set_option maxRecDepth 20000 in
theorem gX4_areRivals_X4_orderHasValue : GoodIn wsX4_areRivals (wsV RX4 51 RX4 yX4_orderHasValue wsX4_orderHasValue) := goodIn_app (goodIn_of _ (by decide +kernel)) ggX4_areRivals_X4_orderHasValue
set_option maxRecDepth 20000 in
theorem ggX4_areRivals_X4_orderValue : GoodIn wsX4_areRivals wsX4_orderValue := goodIn_r _ [22, 1, 15, 23, 24, 25, 31, 32, 33, 34, 35, 36, 37, 38, 39, 40, 41, 42, 43, 44, 45, 46, 47] (by decide +kernel) (by decide +kernel)
set_option maxRecDepth 20000 in
theorem gX4_areRivals_X4_orderValue : GoodIn wsX4_areRivals (wsV RX4 54 RX4 yX4_orderValue wsX4_orderValue) := goodIn_app (goodIn_of _ (by decide +kernel)) ggX4_areRivals_X4_orderValue
set_option maxRecDepth 20000 in
theorem ggX4_areRivals_X4_areFar : GoodIn wsX4_areRivals wsX4_areFar := goodIn_r _ [29, 1, 30, 31, 32, 33, 34, 35, 36, 37, 38, 39, 40, 41, 42, 43, 44, 45, 46, 47] (by decide +kernel) (by decide +kernel)
set_option maxRecDepth 20000 in
theorem gX4_areRivals_X4_areFar : GoodIn wsX4_areRivals (wsV RX4 85 RX4 yX4_areFar wsX4_areFar) := goodIn_app (goodIn_of _ (by decide +kernel)) ggX4_areRivals_X4_areFar
theorem dX4_areRivals_0 : decode cX4_areRivals 0 = .ok (.aload_n 0, 1) := by decide +kernel
theorem dX4_areRivals_1 : decode cX4_areRivals 1 = .ok (.getfield 23, 3) := by decide +kernel
theorem dX4_areRivals_4 : decode cX4_areRivals 4 = .ok (.getfield 82, 3) := by decide +kernel
theorem dX4_areRivals_7 : decode cX4_areRivals 7 = .ok (.iload_n 1, 1) := by decide +kernel
theorem dX4_areRivals_8 : decode cX4_areRivals 8 = .ok (.iaload, 1) := by decide +kernel
theorem dX4_areRivals_9 : decode cX4_areRivals 9 = .ok (.aload_n 0, 1) := by decide +kernel
theorem dX4_areRivals_10 : decode cX4_areRivals 10 = .ok (.getfield 23, 3) := by decide +kernel
theorem dX4_areRivals_13 : decode cX4_areRivals 13 = .ok (.getfield 82, 3) := by decide +kernel
theorem dX4_areRivals_16 : decode cX4_areRivals 16 = .ok (.iload_n 2, 1) := by decide +kernel
theorem dX4_areRivals_17 : decode cX4_areRivals 17 = .ok (.iaload, 1) := by decide +kernel
theorem dX4_areRivals_18 : decode cX4_areRivals 18 = .ok (.if_icmp .eq 22, 3) := by decide +kernel
theorem dX4_areRivals_21 : decode cX4_areRivals 21 = .ok (.aload_n 0, 1) := by decide +kernel
theorem dX4_areRivals_22 : decode cX4_areRivals 22 = .ok (.getfield 23, 3) := by decide +kernel
theorem dX4_areRivals_25 : decode cX4_areRivals 25 = .ok (.iload_n 1, 1) := by decide +kernel
theorem dX4_areRivals_26 : decode cX4_areRivals 26 = .ok (.invokevirtual 47, 3) := by decide +kernel
theorem dX4_areRivals_29 : decode cX4_areRivals 29 = .ok (.aload_n 0, 1) := by decide +kernel
theorem dX4_areRivals_30 : decode cX4_areRivals 30 = .ok (.getfield 23, 3) := by decide +kernel
theorem dX4_areRivals_33 : decode cX4_areRivals 33 = .ok (.iload_n 2, 1) := by decide +kernel
theorem dX4_areRivals_34 : decode cX4_areRivals 34 = .ok (.invokevirtual 47, 3) := by decide +kernel
theorem dX4_areRivals_37 : decode cX4_areRivals 37 = .ok (.if_icmp .eq 5, 3) := by decide +kernel
theorem dX4_areRivals_40 : decode cX4_areRivals 40 = .ok (.iconst 0, 1) := by decide +kernel
theorem dX4_areRivals_41 : decode cX4_areRivals 41 = .ok (.ireturn, 1) := by decide +kernel
theorem dX4_areRivals_42 : decode cX4_areRivals 42 = .ok (.aload_n 0, 1) := by decide +kernel
theorem dX4_areRivals_43 : decode cX4_areRivals 43 = .ok (.iload_n 1, 1) := by decide +kernel
theorem dX4_areRivals_44 : decode cX4_areRivals 44 = .ok (.invokevirtual 51, 3) := by decide +kernel
theorem dX4_areRivals_47 : decode cX4_areRivals 47 = .ok (.istore_n 3, 1) := by decide +kernel
theorem dX4_areRivals_48 : decode cX4_areRivals 48 = .ok (.iload_n 3, 1) := by decide +kernel
theorem dX4_areRivals_49 : decode cX4_areRivals 49 = .ok (.aload_n 0, 1) := by decide +kernel
theorem dX4_areRivals_50 : decode cX4_areRivals 50 = .ok (.iload_n 2, 1) := by decide +kernel
theorem dX4_areRivals_51 : decode cX4_areRivals 51 = .ok (.invokevirtual 51, 3) := by decide +kernel
theorem dX4_areRivals_54 : decode cX4_areRivals 54 = .ok (.if_icmp .eq 5, 3) := by decide +kernel
theorem dX4_areRivals_57 : decode cX4_areRivals 57 = .ok (.iconst 1, 1) := by decide +kernel
theorem dX4_areRivals_58 : decode cX4_areRivals 58 = .ok (.ireturn, 1) := by decide +kernel
theorem dX4_areRivals_59 : decode cX4_areRivals 59 = .ok (.iload_n 3, 1) := by decide +kernel
theorem dX4_areRivals_60 : decode cX4_areRivals 60 = .ok (.ifCond .eq 24, 3) := by decide +kernel
theorem dX4_areRivals_63 : decode cX4_areRivals 63 = .ok (.aload_n 0, 1) := by decide +kernel
theorem dX4_areRivals_64 : decode cX4_areRivals 64 = .ok (.aload_n 0, 1) := by decide +kernel
theorem dX4_areRivals_65 : decode cX4_areRivals 65 = .ok (.iload_n 1, 1) := by decide +kernel
theorem dX4_areRivals_66 : decode cX4_areRivals 66 = .ok (.invokevirtual 54, 3) := by decide +kernel
theorem dX4_areRivals_69 : decode cX4_areRivals 69 = .ok (.aload_n 0, 1) := by decide +kernel
theorem dX4_areRivals_70 : decode cX4_areRivals 70 = .ok (.iload_n 2, 1) := by decide +kernel
theorem dX4_areRivals_71 : decode cX4_areRivals 71 = .ok (.invokevirtual 54, 3) := by decide +kernel
theorem dX4_areRivals_74 : decode cX4_areRivals 74 = .ok (.invokevirtual 85, 3) := by decide +kernel
theorem dX4_areRivals_77 : decode cX4_areRivals 77 = .ok (.ifCond .eq 7, 3) := by decide +kernel
theorem dX4_areRivals_80 : decode cX4_areRivals 80 = .ok (.iconst 1, 1) := by decide +kernel
theorem dX4_areRivals_81 : decode cX4_areRivals 81 = .ok (.goto 4, 3) := by decide +kernel
theorem dX4_areRivals_84 : decode cX4_areRivals 84 = .ok (.iconst 0, 1) := by decide +kernel
theorem dX4_areRivals_85 : decode cX4_areRivals 85 = .ok (.ireturn, 1) := by decide +kernel
theorem dX4_areFar_0 : decode cX4_areFar 0 = .ok (.fload_n 1, 1) := by decide +kernel
theorem dX4_areFar_1 : decode cX4_areFar 1 = .ok (.fload_n 2, 1) := by decide +kernel
theorem dX4_areFar_2 : decode cX4_areFar 2 = .ok (.fsub, 1) := by decide +kernel
theorem dX4_areFar_3 : decode cX4_areFar 3 = .ok (.fstore_n 3, 1) := by decide +kernel
theorem dX4_areFar_4 : decode cX4_areFar 4 = .ok (.fload_n 3, 1) := by decide +kernel
theorem dX4_areFar_5 : decode cX4_areFar 5 = .ok (.fconst 0, 1) := by decide +kernel
theorem dX4_areFar_6 : decode cX4_areFar 6 = .ok (.fcmp .g, 1) := by decide +kernel
theorem dX4_areFar_7 : decode cX4_areFar 7 = .ok (.ifCond .ge 8, 3) := by decide +kernel
theorem dX4_areFar_10 : decode cX4_areFar 10 = .ok (.fload_n 3, 1) := by decide +kernel
theorem dX4_areFar_11 : decode cX4_areFar 11 = .ok (.fneg, 1) := by decide +kernel
theorem dX4_areFar_12 : decode cX4_areFar 12 = .ok (.goto 4, 3) := by decide +kernel
theorem dX4_areFar_15 : decode cX4_areFar 15 = .ok (.fload_n 3, 1) := by decide +kernel
theorem dX4_areFar_16 : decode cX4_areFar 16 = .ok (.aload_n 0, 1) := by decide +kernel
theorem dX4_areFar_17 : decode cX4_areFar 17 = .ok (.getfield 23, 3) := by decide +kernel
theorem dX4_areFar_20 : decode cX4_areFar 20 = .ok (.getfield 89, 3) := by decide +kernel
theorem dX4_areFar_23 : decode cX4_areFar 23 = .ok (.fcmp .l, 1) := by decide +kernel
theorem dX4_areFar_24 : decode cX4_areFar 24 = .ok (.ifCond .le 7, 3) := by decide +kernel
theorem dX4_areFar_27 : decode cX4_areFar 27 = .ok (.iconst 1, 1) := by decide +kernel
theorem dX4_areFar_28 : decode cX4_areFar 28 = .ok (.goto 4, 3) := by decide +kernel
theorem dX4_areFar_31 : decode cX4_areFar 31 = .ok (.iconst 0, 1) := by decide +kernel
theorem dX4_areFar_32 : decode cX4_areFar 32 = .ok (.ireturn, 1) := by decide +kernel
theorem dX4_wordsWithValue_0 : decode cX4_wordsWithValue 0 = .ok (.iconst 0, 1) := by decide +kernel
theorem dX4_wordsWithValue_1 : decode cX4_wordsWithValue 1 = .ok (.istore_n 1, 1) := by decide +kernel
theorem dX4_wordsWithValue_2 : decode cX4_wordsWithValue 2 = .ok (.iconst 0, 1) := by decide +kernel
theorem dX4_wordsWithValue_3 : decode cX4_wordsWithValue 3 = .ok (.istore_n 2, 1) := by decide +kernel
theorem dX4_wordsWithValue_4 : decode cX4_wordsWithValue 4 = .ok (.iload_n 2, 1) := by decide +kernel
theorem dX4_wordsWithValue_5 : decode cX4_wordsWithValue 5 = .ok (.bipush 16, 2) := by decide +kernel
theorem dX4_wordsWithValue_7 : decode cX4_wordsWithValue 7 = .ok (.if_icmp .ge 21, 3) := by decide +kernel
theorem dX4_wordsWithValue_10 : decode cX4_wordsWithValue 10 = .ok (.aload_n 0, 1) := by decide +kernel
theorem dX4_wordsWithValue_11 : decode cX4_wordsWithValue 11 = .ok (.getfield 15, 3) := by decide +kernel
theorem dX4_wordsWithValue_14 : decode cX4_wordsWithValue 14 = .ok (.iload_n 2, 1) := by decide +kernel
theorem dX4_wordsWithValue_15 : decode cX4_wordsWithValue 15 = .ok (.baload, 1) := by decide +kernel
theorem dX4_wordsWithValue_16 : decode cX4_wordsWithValue 16 = .ok (.ifCond .eq 6, 3) := by decide +kernel
theorem dX4_wordsWithValue_19 : decode cX4_wordsWithValue 19 = .ok (.iinc 1 1, 3) := by decide +kernel
theorem dX4_wordsWithValue_22 : decode cX4_wordsWithValue 22 = .ok (.iinc 2 1, 3) := by decide +kernel
theorem dX4_wordsWithValue_25 : decode cX4_wordsWithValue 25 = .ok (.goto (-21), 3) := by decide +kernel
theorem dX4_wordsWithValue_28 : decode cX4_wordsWithValue 28 = .ok (.iload_n 1, 1) := by decide +kernel
theorem dX4_wordsWithValue_29 : decode cX4_wordsWithValue 29 = .ok (.ireturn, 1) := by decide +kernel
theorem dX4_wordsRuledWithoutValue_0 : decode cX4_wordsRuledWithoutValue 0 = .ok (.iconst 0, 1) := by decide +kernel
theorem dX4_wordsRuledWithoutValue_1 : decode cX4_wordsRuledWithoutValue 1 = .ok (.istore_n 1, 1) := by decide +kernel
theorem dX4_wordsRuledWithoutValue_2 : decode cX4_wordsRuledWithoutValue 2 = .ok (.iconst 0, 1) := by decide +kernel
theorem dX4_wordsRuledWithoutValue_3 : decode cX4_wordsRuledWithoutValue 3 = .ok (.istore_n 2, 1) := by decide +kernel
theorem dX4_wordsRuledWithoutValue_4 : decode cX4_wordsRuledWithoutValue 4 = .ok (.iload_n 2, 1) := by decide +kernel
theorem dX4_wordsRuledWithoutValue_5 : decode cX4_wordsRuledWithoutValue 5 = .ok (.bipush 16, 2) := by decide +kernel
theorem dX4_wordsRuledWithoutValue_7 : decode cX4_wordsRuledWithoutValue 7 = .ok (.if_icmp .ge 30, 3) := by decide +kernel
theorem dX4_wordsRuledWithoutValue_10 : decode cX4_wordsRuledWithoutValue 10 = .ok (.aload_n 0, 1) := by decide +kernel
theorem dX4_wordsRuledWithoutValue_11 : decode cX4_wordsRuledWithoutValue 11 = .ok (.getfield 9, 3) := by decide +kernel
theorem dX4_wordsRuledWithoutValue_14 : decode cX4_wordsRuledWithoutValue 14 = .ok (.iload_n 2, 1) := by decide +kernel
theorem dX4_wordsRuledWithoutValue_15 : decode cX4_wordsRuledWithoutValue 15 = .ok (.iaload, 1) := by decide +kernel
theorem dX4_wordsRuledWithoutValue_16 : decode cX4_wordsRuledWithoutValue 16 = .ok (.ifCond .lt 15, 3) := by decide +kernel
theorem dX4_wordsRuledWithoutValue_19 : decode cX4_wordsRuledWithoutValue 19 = .ok (.aload_n 0, 1) := by decide +kernel
theorem dX4_wordsRuledWithoutValue_20 : decode cX4_wordsRuledWithoutValue 20 = .ok (.getfield 15, 3) := by decide +kernel
theorem dX4_wordsRuledWithoutValue_23 : decode cX4_wordsRuledWithoutValue 23 = .ok (.iload_n 2, 1) := by decide +kernel
theorem dX4_wordsRuledWithoutValue_24 : decode cX4_wordsRuledWithoutValue 24 = .ok (.baload, 1) := by decide +kernel
theorem dX4_wordsRuledWithoutValue_25 : decode cX4_wordsRuledWithoutValue 25 = .ok (.ifCond .ne 6, 3) := by decide +kernel
theorem dX4_wordsRuledWithoutValue_28 : decode cX4_wordsRuledWithoutValue 28 = .ok (.iinc 1 1, 3) := by decide +kernel
theorem dX4_wordsRuledWithoutValue_31 : decode cX4_wordsRuledWithoutValue 31 = .ok (.iinc 2 1, 3) := by decide +kernel
theorem dX4_wordsRuledWithoutValue_34 : decode cX4_wordsRuledWithoutValue 34 = .ok (.goto (-30), 3) := by decide +kernel
theorem dX4_wordsRuledWithoutValue_37 : decode cX4_wordsRuledWithoutValue 37 = .ok (.iload_n 1, 1) := by decide +kernel
theorem dX4_wordsRuledWithoutValue_38 : decode cX4_wordsRuledWithoutValue 38 = .ok (.ireturn, 1) := by decide +kernel
set_option maxRecDepth 20000 in
theorem ggX4_wordsInConflict_X4_topmostRival : GoodIn wsX4_wordsInConflict wsX4_topmostRival := goodIn_r _ [5, 6, 7, 8, 9, 10, 11, 12, 13, 14, 15, 16, 17, 18, 19, 20, 21, 22, 4, 23, 24, 25, 26, 27, 28, 29, 30, 31, 32, 33, 34, 35, 36, 37, 38, 39, 40, 41, 42, 43, 44, 45, 46, 47, 48, 49, 50, 51, 52, 53, 54, 55, 56, 57, 58, 59, 60, 61, 62, 63, 64, 65, 66, 67] (by decide +kernel) (by decide +kernel)
set_option maxRecDepth 20000 in
theorem gX4_wordsInConflict_X4_topmostRival : GoodIn wsX4_wordsInConflict (wsV RX4 93 RX4 yX4_topmostRival wsX4_topmostRival) := goodIn_app (goodIn_of _ (by decide +kernel)) ggX4_wordsInConflict_X4_topmostRival
theorem dX4_wordsInConflict_0 : decode cX4_wordsInConflict 0 = .ok (.iconst 0, 1) := by decide +kernel
theorem dX4_wordsInConflict_1 : decode cX4_wordsInConflict 1 = .ok (.istore_n 1, 1) := by decide +kernel
theorem dX4_wordsInConflict_2 : decode cX4_wordsInConflict 2 = .ok (.iconst 0, 1) := by decide +kernel
theorem dX4_wordsInConflict_3 : decode cX4_wordsInConflict 3 = .ok (.istore_n 2, 1) := by decide +kernel
theorem dX4_wordsInConflict_4 : decode cX4_wordsInConflict 4 = .ok (.iload_n 2, 1) := by decide +kernel
theorem dX4_wordsInConflict_5 : decode cX4_wordsInConflict 5 = .ok (.bipush 16, 2) := by decide +kernel
theorem dX4_wordsInConflict_7 : decode cX4_wordsInConflict 7 = .ok (.if_icmp .ge 20, 3) := by decide +kernel
theorem dX4_wordsInConflict_10 : decode cX4_wordsInConflict 10 = .ok (.aload_n 0, 1) := by decide +kernel
theorem dX4_wordsInConflict_11 : decode cX4_wordsInConflict 11 = .ok (.iload_n 2, 1) := by decide +kernel
theorem dX4_wordsInConflict_12 : decode cX4_wordsInConflict 12 = .ok (.invokevirtual 93, 3) := by decide +kernel
theorem dX4_wordsInConflict_15 : decode cX4_wordsInConflict 15 = .ok (.ifCond .lt 6, 3) := by decide +kernel
theorem dX4_wordsInConflict_18 : decode cX4_wordsInConflict 18 = .ok (.iinc 1 1, 3) := by decide +kernel
theorem dX4_wordsInConflict_21 : decode cX4_wordsInConflict 21 = .ok (.iinc 2 1, 3) := by decide +kernel
theorem dX4_wordsInConflict_24 : decode cX4_wordsInConflict 24 = .ok (.goto (-20), 3) := by decide +kernel
theorem dX4_wordsInConflict_27 : decode cX4_wordsInConflict 27 = .ok (.iload_n 1, 1) := by decide +kernel
theorem dX4_wordsInConflict_28 : decode cX4_wordsInConflict 28 = .ok (.ireturn, 1) := by decide +kernel
set_option maxRecDepth 20000 in
theorem ggX4_wordsInRings_X4_comesTo : GoodIn wsX4_wordsInRings wsX4_comesTo := goodIn_r _ [5, 6, 7, 8, 4, 9, 10, 11, 12, 13, 14, 15, 16, 17, 18, 19, 20, 21, 22, 23, 24, 25, 26, 27, 28, 29] (by decide +kernel) (by decide +kernel)
set_option maxRecDepth 20000 in
theorem gX4_wordsInRings_X4_comesTo : GoodIn wsX4_wordsInRings (wsV RX4 72 RX4 yX4_comesTo wsX4_comesTo) := goodIn_app (goodIn_of _ (by decide +kernel)) ggX4_wordsInRings_X4_comesTo
theorem dX4_wordsInRings_0 : decode cX4_wordsInRings 0 = .ok (.iconst 0, 1) := by decide +kernel
theorem dX4_wordsInRings_1 : decode cX4_wordsInRings 1 = .ok (.istore_n 1, 1) := by decide +kernel
theorem dX4_wordsInRings_2 : decode cX4_wordsInRings 2 = .ok (.iconst 0, 1) := by decide +kernel
theorem dX4_wordsInRings_3 : decode cX4_wordsInRings 3 = .ok (.istore_n 2, 1) := by decide +kernel
theorem dX4_wordsInRings_4 : decode cX4_wordsInRings 4 = .ok (.iload_n 2, 1) := by decide +kernel
theorem dX4_wordsInRings_5 : decode cX4_wordsInRings 5 = .ok (.bipush 16, 2) := by decide +kernel
theorem dX4_wordsInRings_7 : decode cX4_wordsInRings 7 = .ok (.if_icmp .ge 21, 3) := by decide +kernel
theorem dX4_wordsInRings_10 : decode cX4_wordsInRings 10 = .ok (.aload_n 0, 1) := by decide +kernel
theorem dX4_wordsInRings_11 : decode cX4_wordsInRings 11 = .ok (.iload_n 2, 1) := by decide +kernel
theorem dX4_wordsInRings_12 : decode cX4_wordsInRings 12 = .ok (.iload_n 2, 1) := by decide +kernel
theorem dX4_wordsInRings_13 : decode cX4_wordsInRings 13 = .ok (.invokevirtual 72, 3) := by decide +kernel
theorem dX4_wordsInRings_16 : decode cX4_wordsInRings 16 = .ok (.ifCond .eq 6, 3) := by decide +kernel
theorem dX4_wordsInRings_19 : decode cX4_wordsInRings 19 = .ok (.iinc 1 1, 3) := by decide +kernel
theorem dX4_wordsInRings_22 : decode cX4_wordsInRings 22 = .ok (.iinc 2 1, 3) := by decide +kernel
theorem dX4_wordsInRings_25 : decode cX4_wordsInRings 25 = .ok (.goto (-21), 3) := by decide +kernel
theorem dX4_wordsInRings_28 : decode cX4_wordsInRings 28 = .ok (.iload_n 1, 1) := by decide +kernel
theorem dX4_wordsInRings_29 : decode cX4_wordsInRings 29 = .ok (.ireturn, 1) := by decide +kernel
