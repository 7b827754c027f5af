theorem dX5_init_0 : decode cX5_init 0 = .ok (.aload_n 0, 1) := by decide +kernel
theorem dX5_init_1 : decode cX5_init 1 = .ok (.invokespecial 3, 3) := by decide +kernel
theorem dX5_init_4 : decode cX5_init 4 = .ok (.aload_n 0, 1) := by decide +kernel
theorem dX5_init_5 : decode cX5_init 5 = .ok (.bipush 60, 2) := by decide +kernel
theorem dX5_init_7 : decode cX5_init 7 = .ok (.newarray .char, 2) := by decide +kernel
theorem dX5_init_9 : decode cX5_init 9 = .ok (.putfield 9, 3) := by decide +kernel
theorem dX5_init_12 : decode cX5_init 12 = .ok (.return_, 1) := by decide +kernel
set_option maxRecDepth 20000 in
theorem ggX6_init_X1_init : GoodIn wsX6_init wsX1_init := goodIn_r _ [11, 12, 2, 3, 8, 13, 14, 15, 16, 17, 18, 19, 20, 21, 22, 23, 24, 25, 26, 27, 28, 29, 30, 31, 32, 33, 34] (by decide +kernel) (by decide +kernel)
set_option maxRecDepth 20000 in
theorem gX6_init_X1_init_n11 : GoodIn wsX6_init (wsX1_init) := ggX6_init_X1_init
theorem dX6_init_0 : decode cX6_init 0 = .ok (.aload_n 0, 1) := by decide +kernel
theorem dX6_init_1 : decode cX6_init 1 = .ok (.invokespecial 3, 3) := by decide +kernel
theorem dX6_init_4 : decode cX6_init 4 = .ok (.aload_n 0, 1) := by decide +kernel
theorem dX6_init_5 : decode cX6_init 5 = .ok (.new 9, 3) := by decide +kernel
theorem dX6_init_8 : decode cX6_init 8 = .ok (.dup, 1) := by decide +kernel
theorem dX6_init_9 : decode cX6_init 9 = .ok (.invokespecial 11, 3) := by decide +kernel
theorem dX6_init_12 : decode cX6_init 12 = .ok (.putfield 12, 3) := by decide +kernel
theorem dX6_init_15 : decode cX6_init 15 = .ok (.aload_n 0, 1) := by decide +kernel
theorem dX6_init_16 : decode cX6_init 16 = .ok (.bipush 16, 2) := by decide +kernel
theorem dX6_init_18 : decode cX6_init 18 = .ok (.newarray .int, 2) := by decide +kernel
theorem dX6_init_20 : decode cX6_init 20 = .ok (.putfield 18, 3) := by decide +kernel
theorem dX6_init_23 : decode cX6_init 23 = .ok (.return_, 1) := by decide +kernel
set_option maxRecDepth 20000 in
theorem ggX6_blow_X1_hangs : GoodIn wsX6_blow wsX1_hangs := goodIn_r _ [11, 12, 15, 16, 17, 18, 19, 20, 21, 22, 23, 24, 25, 26, 27] (by decide +kernel) (by decide +kernel)
set_option maxRecDepth 20000 in
theorem gX6_blow_X1_hangs : GoodIn wsX6_blow (wsV RX6 26 RX1 yX1_hangs wsX1_hangs) := goodIn_app (goodIn_of _ (by decide +kernel)) ggX6_blow_X1_hangs
theorem dX6_blow_0 : decode cX6_blow 0 = .ok (.iconst 0, 1) := by decide +kernel
theorem dX6_blow_1 : decode cX6_blow 1 = .ok (.istore_n 3, 1) := by decide +kernel
theorem dX6_blow_2 : decode cX6_blow 2 = .ok (.iconst 0, 1) := by decide +kernel
theorem dX6_blow_3 : decode cX6_blow 3 = .ok (.istore 4, 2) := by decide +kernel
theorem dX6_blow_5 : decode cX6_blow 5 = .ok (.iload 4, 2) := by decide +kernel
theorem dX6_blow_7 : decode cX6_blow 7 = .ok (.bipush 16, 2) := by decide +kernel
theorem dX6_blow_9 : decode cX6_blow 9 = .ok (.if_icmp .ge 17, 3) := by decide +kernel
theorem dX6_blow_12 : decode cX6_blow 12 = .ok (.aload_n 0, 1) := by decide +kernel
theorem dX6_blow_13 : decode cX6_blow 13 = .ok (.getfield 18, 3) := by decide +kernel
theorem dX6_blow_16 : decode cX6_blow 16 = .ok (.iload 4, 2) := by decide +kernel
theorem dX6_blow_18 : decode cX6_blow 18 = .ok (.iconst 0, 1) := by decide +kernel
theorem dX6_blow_19 : decode cX6_blow 19 = .ok (.iastore, 1) := by decide +kernel
theorem dX6_blow_20 : decode cX6_blow 20 = .ok (.iinc 4 1, 3) := by decide +kernel
theorem dX6_blow_23 : decode cX6_blow 23 = .ok (.goto (-18), 3) := by decide +kernel
theorem dX6_blow_26 : decode cX6_blow 26 = .ok (.aload_n 1, 1) := by decide +kernel
theorem dX6_blow_27 : decode cX6_blow 27 = .ok (.getfield 22, 3) := by decide +kernel
theorem dX6_blow_30 : decode cX6_blow 30 = .ok (.iconst 1, 1) := by decide +kernel
theorem dX6_blow_31 : decode cX6_blow 31 = .ok (.isub, 1) := by decide +kernel
theorem dX6_blow_32 : decode cX6_blow 32 = .ok (.istore 4, 2) := by decide +kernel
theorem dX6_blow_34 : decode cX6_blow 34 = .ok (.iload 4, 2) := by decide +kernel
theorem dX6_blow_36 : decode cX6_blow 36 = .ok (.ifCond .lt 88, 3) := by decide +kernel
theorem dX6_blow_39 : decode cX6_blow 39 = .ok (.aload_n 1, 1) := by decide +kernel
theorem dX6_blow_40 : decode cX6_blow 40 = .ok (.iload 4, 2) := by decide +kernel
theorem dX6_blow_42 : decode cX6_blow 42 = .ok (.invokevirtual 26, 3) := by decide +kernel
theorem dX6_blow_45 : decode cX6_blow 45 = .ok (.ifCond .eq 73, 3) := by decide +kernel
theorem dX6_blow_48 : decode cX6_blow 48 = .ok (.aload_n 1, 1) := by decide +kernel
theorem dX6_blow_49 : decode cX6_blow 49 = .ok (.getfield 30, 3) := by decide +kernel
theorem dX6_blow_52 : decode cX6_blow 52 = .ok (.iload 4, 2) := by decide +kernel
theorem dX6_blow_54 : decode cX6_blow 54 = .ok (.iaload, 1) := by decide +kernel
theorem dX6_blow_55 : decode cX6_blow 55 = .ok (.istore 5, 2) := by decide +kernel
theorem dX6_blow_57 : decode cX6_blow 57 = .ok (.aload_n 1, 1) := by decide +kernel
theorem dX6_blow_58 : decode cX6_blow 58 = .ok (.getfield 33, 3) := by decide +kernel
theorem dX6_blow_61 : decode cX6_blow 61 = .ok (.iload 4, 2) := by decide +kernel
theorem dX6_blow_63 : decode cX6_blow 63 = .ok (.aload_n 1, 1) := by decide +kernel
theorem dX6_blow_64 : decode cX6_blow 64 = .ok (.getfield 33, 3) := by decide +kernel
theorem dX6_blow_67 : decode cX6_blow 67 = .ok (.iload 4, 2) := by decide +kernel
theorem dX6_blow_69 : decode cX6_blow 69 = .ok (.faload, 1) := by decide +kernel
theorem dX6_blow_70 : decode cX6_blow 70 = .ok (.fload_n 2, 1) := by decide +kernel
theorem dX6_blow_71 : decode cX6_blow 71 = .ok (.iconst 1, 1) := by decide +kernel
theorem dX6_blow_72 : decode cX6_blow 72 = .ok (.aload_n 0, 1) := by decide +kernel
theorem dX6_blow_73 : decode cX6_blow 73 = .ok (.getfield 18, 3) := by decide +kernel
theorem dX6_blow_76 : decode cX6_blow 76 = .ok (.iload 5, 2) := by decide +kernel
theorem dX6_blow_78 : decode cX6_blow 78 = .ok (.iaload, 1) := by decide +kernel
theorem dX6_blow_79 : decode cX6_blow 79 = .ok (.iadd, 1) := by decide +kernel
theorem dX6_blow_80 : decode cX6_blow 80 = .ok (.i2f, 1) := by decide +kernel
theorem dX6_blow_81 : decode cX6_blow 81 = .ok (.fdiv, 1) := by decide +kernel
theorem dX6_blow_82 : decode cX6_blow 82 = .ok (.fsub, 1) := by decide +kernel
theorem dX6_blow_83 : decode cX6_blow 83 = .ok (.fastore, 1) := by decide +kernel
theorem dX6_blow_84 : decode cX6_blow 84 = .ok (.aload_n 0, 1) := by decide +kernel
theorem dX6_blow_85 : decode cX6_blow 85 = .ok (.getfield 18, 3) := by decide +kernel
theorem dX6_blow_88 : decode cX6_blow 88 = .ok (.iload 5, 2) := by decide +kernel
theorem dX6_blow_90 : decode cX6_blow 90 = .ok (.dup2, 1) := by decide +kernel
theorem dX6_blow_91 : decode cX6_blow 91 = .ok (.iaload, 1) := by decide +kernel
theorem dX6_blow_92 : decode cX6_blow 92 = .ok (.iconst 1, 1) := by decide +kernel
theorem dX6_blow_93 : decode cX6_blow 93 = .ok (.iadd, 1) := by decide +kernel
theorem dX6_blow_94 : decode cX6_blow 94 = .ok (.iastore, 1) := by decide +kernel
theorem dX6_blow_95 : decode cX6_blow 95 = .ok (.aload_n 1, 1) := by decide +kernel
theorem dX6_blow_96 : decode cX6_blow 96 = .ok (.getfield 33, 3) := by decide +kernel
theorem dX6_blow_99 : decode cX6_blow 99 = .ok (.iload 4, 2) := by decide +kernel
theorem dX6_blow_101 : decode cX6_blow 101 = .ok (.faload, 1) := by decide +kernel
theorem dX6_blow_102 : decode cX6_blow 102 = .ok (.fconst 0, 1) := by decide +kernel
theorem dX6_blow_103 : decode cX6_blow 103 = .ok (.fcmp .l, 1) := by decide +kernel
theorem dX6_blow_104 : decode cX6_blow 104 = .ok (.ifCond .gt 14, 3) := by decide +kernel
theorem dX6_blow_107 : decode cX6_blow 107 = .ok (.aload_n 1, 1) := by decide +kernel
theorem dX6_blow_108 : decode cX6_blow 108 = .ok (.getfield 37, 3) := by decide +kernel
theorem dX6_blow_111 : decode cX6_blow 111 = .ok (.iload 4, 2) := by decide +kernel
theorem dX6_blow_113 : decode cX6_blow 113 = .ok (.iconst 2, 1) := by decide +kernel
theorem dX6_blow_114 : decode cX6_blow 114 = .ok (.iastore, 1) := by decide +kernel
theorem dX6_blow_115 : decode cX6_blow 115 = .ok (.iinc 3 1, 3) := by decide +kernel
theorem dX6_blow_118 : decode cX6_blow 118 = .ok (.iinc 4 (-1), 3) := by decide +kernel
theorem dX6_blow_121 : decode cX6_blow 121 = .ok (.goto (-87), 3) := by decide +kernel
theorem dX6_blow_124 : decode cX6_blow 124 = .ok (.aload_n 1, 1) := by decide +kernel
theorem dX6_blow_125 : decode cX6_blow 125 = .ok (.dup, 1) := by decide +kernel
theorem dX6_blow_126 : decode cX6_blow 126 = .ok (.getfield 40, 3) := by decide +kernel
theorem dX6_blow_129 : decode cX6_blow 129 = .ok (.iconst 1, 1) := by decide +kernel
theorem dX6_blow_130 : decode cX6_blow 130 = .ok (.iadd, 1) := by decide +kernel
theorem dX6_blow_131 : decode cX6_blow 131 = .ok (.putfield 40, 3) := by decide +kernel
theorem dX6_blow_134 : decode cX6_blow 134 = .ok (.iload_n 3, 1) := by decide +kernel
theorem dX6_blow_135 : decode cX6_blow 135 = .ok (.ireturn, 1) := by decide +kernel
