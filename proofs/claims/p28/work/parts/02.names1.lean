set_option maxRecDepth 20000 in
theorem ggX0_areNumber_X0_areFrom : GoodIn wsX0_areNumber wsX0_areFrom := goodIn_r _ [6, 7, 8, 5, 9, 10, 11, 12, 13, 14, 15] (by decide +kernel) (by decide +kernel)
set_option maxRecDepth 20000 in
theorem gX0_areNumber_X0_areFrom : GoodIn wsX0_areNumber (va_wsS RX0 9 yX0_areFrom wsX0_areFrom) := goodIn_app (goodIn_of _ (by decide +kernel)) ggX0_areNumber_X0_areFrom
theorem dX0_areNumber_0 : decode cX0_areNumber 0 = .ok (.iload_n 0, 1) := by decide +kernel
theorem dX0_areNumber_1 : decode cX0_areNumber 1 = .ok (.ldc 7, 2) := by decide +kernel
theorem dX0_areNumber_3 : decode cX0_areNumber 3 = .ok (.ldc 8, 2) := by decide +kernel
theorem dX0_areNumber_5 : decode cX0_areNumber 5 = .ok (.invokestatic 9, 3) := by decide +kernel
theorem dX0_areNumber_8 : decode cX0_areNumber 8 = .ok (.ireturn, 1) := by decide +kernel
set_option maxRecDepth 20000 in
theorem ggX0_areStrength_X0_areFrom : GoodIn wsX0_areStrength wsX0_areFrom := goodIn_r _ [6, 7, 8, 5, 9, 10, 11, 12, 13, 14, 15] (by decide +kernel) (by decide +kernel)
set_option maxRecDepth 20000 in
theorem gX0_areStrength_X0_areFrom : GoodIn wsX0_areStrength (va_wsS RX0 9 yX0_areFrom wsX0_areFrom) := goodIn_app (goodIn_of _ (by decide +kernel)) ggX0_areStrength_X0_areFrom
theorem dX0_areStrength_0 : decode cX0_areStrength 0 = .ok (.iload_n 0, 1) := by decide +kernel
theorem dX0_areStrength_1 : decode cX0_areStrength 1 = .ok (.ldc 15, 2) := by decide +kernel
theorem dX0_areStrength_3 : decode cX0_areStrength 3 = .ok (.ldc 16, 2) := by decide +kernel
theorem dX0_areStrength_5 : decode cX0_areStrength 5 = .ok (.invokestatic 9, 3) := by decide +kernel
theorem dX0_areStrength_8 : decode cX0_areStrength 8 = .ok (.ireturn, 1) := by decide +kernel
set_option maxRecDepth 20000 in
theorem ggX0_areForce_X0_areFrom : GoodIn wsX0_areForce wsX0_areFrom := goodIn_r _ [6, 7, 8, 5, 9, 10, 11, 12, 13, 14, 15] (by decide +kernel) (by decide +kernel)
set_option maxRecDepth 20000 in
theorem gX0_areForce_X0_areFrom : GoodIn wsX0_areForce (va_wsS RX0 9 yX0_areFrom wsX0_areFrom) := goodIn_app (goodIn_of _ (by decide +kernel)) ggX0_areForce_X0_areFrom
theorem dX0_areForce_0 : decode cX0_areForce 0 = .ok (.iload_n 0, 1) := by decide +kernel
theorem dX0_areForce_1 : decode cX0_areForce 1 = .ok (.ldc 15, 2) := by decide +kernel
theorem dX0_areForce_3 : decode cX0_areForce 3 = .ok (.ldc 16, 2) := by decide +kernel
theorem dX0_areForce_5 : decode cX0_areForce 5 = .ok (.invokestatic 9, 3) := by decide +kernel
theorem dX0_areForce_8 : decode cX0_areForce 8 = .ok (.ireturn, 1) := by decide +kernel
set_option maxRecDepth 20000 in
theorem ggX0_areTolerance_X0_areFrom : GoodIn wsX0_areTolerance wsX0_areFrom := goodIn_r _ [5, 6, 7, 4, 8, 9, 10, 11, 12, 13, 14] (by decide +kernel) (by decide +kernel)
set_option maxRecDepth 20000 in
theorem gX0_areTolerance_X0_areFrom : GoodIn wsX0_areTolerance (va_wsS RX0 9 yX0_areFrom wsX0_areFrom) := goodIn_app (goodIn_of _ (by decide +kernel)) ggX0_areTolerance_X0_areFrom
theorem dX0_areTolerance_0 : decode cX0_areTolerance 0 = .ok (.iload_n 0, 1) := by decide +kernel
theorem dX0_areTolerance_1 : decode cX0_areTolerance 1 = .ok (.ifCond .lt 17, 3) := by decide +kernel
theorem dX0_areTolerance_4 : decode cX0_areTolerance 4 = .ok (.iload_n 0, 1) := by decide +kernel
theorem dX0_areTolerance_5 : decode cX0_areTolerance 5 = .ok (.fconst 0, 1) := by decide +kernel
theorem dX0_areTolerance_6 : decode cX0_areTolerance 6 = .ok (.ldc 17, 2) := by decide +kernel
theorem dX0_areTolerance_8 : decode cX0_areTolerance 8 = .ok (.invokestatic 9, 3) := by decide +kernel
theorem dX0_areTolerance_11 : decode cX0_areTolerance 11 = .ok (.ifCond .eq 7, 3) := by decide +kernel
theorem dX0_areTolerance_14 : decode cX0_areTolerance 14 = .ok (.iconst 1, 1) := by decide +kernel
theorem dX0_areTolerance_15 : decode cX0_areTolerance 15 = .ok (.goto 4, 3) := by decide +kernel
theorem dX0_areTolerance_18 : decode cX0_areTolerance 18 = .ok (.iconst 0, 1) := by decide +kernel
theorem dX0_areTolerance_19 : decode cX0_areTolerance 19 = .ok (.ireturn, 1) := by decide +kernel
set_option maxRecDepth 20000 in
theorem ggX0_areFrom_X0_exponent : GoodIn wsX0_areFrom wsX0_exponent := goodIn_r _ [4] (by decide +kernel) (by decide +kernel)
set_option maxRecDepth 20000 in
theorem gX0_areFrom_X0_exponent : GoodIn wsX0_areFrom (va_wsS RX0 18 yX0_exponent wsX0_exponent) := goodIn_app (goodIn_of _ (by decide +kernel)) ggX0_areFrom_X0_exponent
set_option maxRecDepth 20000 in
theorem ggX0_areFrom_X0_toFloat : GoodIn wsX0_areFrom wsX0_toFloat := goodIn_r _ [7, 8, 9, 10, 1, 2, 3, 4] (by decide +kernel) (by decide +kernel)
set_option maxRecDepth 20000 in
theorem gX0_areFrom_X0_toFloat : GoodIn wsX0_areFrom (va_wsS RX0 22 yX0_toFloat wsX0_toFloat) := goodIn_app (goodIn_of _ (by decide +kernel)) ggX0_areFrom_X0_toFloat
theorem dX0_areFrom_0 : decode cX0_areFrom 0 = .ok (.iload_n 0, 1) := by decide +kernel
theorem dX0_areFrom_1 : decode cX0_areFrom 1 = .ok (.invokestatic 18, 3) := by decide +kernel
theorem dX0_areFrom_4 : decode cX0_areFrom 4 = .ok (.sipush 150, 3) := by decide +kernel
theorem dX0_areFrom_7 : decode cX0_areFrom 7 = .ok (.if_icmp .le 5, 3) := by decide +kernel
theorem dX0_areFrom_10 : decode cX0_areFrom 10 = .ok (.iconst 0, 1) := by decide +kernel
theorem dX0_areFrom_11 : decode cX0_areFrom 11 = .ok (.ireturn, 1) := by decide +kernel
theorem dX0_areFrom_12 : decode cX0_areFrom 12 = .ok (.iload_n 0, 1) := by decide +kernel
theorem dX0_areFrom_13 : decode cX0_areFrom 13 = .ok (.invokestatic 22, 3) := by decide +kernel
theorem dX0_areFrom_16 : decode cX0_areFrom 16 = .ok (.fstore_n 3, 1) := by decide +kernel
theorem dX0_areFrom_17 : decode cX0_areFrom 17 = .ok (.fload_n 3, 1) := by decide +kernel
theorem dX0_areFrom_18 : decode cX0_areFrom 18 = .ok (.fload_n 1, 1) := by decide +kernel
theorem dX0_areFrom_19 : decode cX0_areFrom 19 = .ok (.fcmp .l, 1) := by decide +kernel
theorem dX0_areFrom_20 : decode cX0_areFrom 20 = .ok (.ifCond .lt 13, 3) := by decide +kernel
theorem dX0_areFrom_23 : decode cX0_areFrom 23 = .ok (.fload_n 3, 1) := by decide +kernel
theorem dX0_areFrom_24 : decode cX0_areFrom 24 = .ok (.fload_n 2, 1) := by decide +kernel
theorem dX0_areFrom_25 : decode cX0_areFrom 25 = .ok (.fcmp .g, 1) := by decide +kernel
theorem dX0_areFrom_26 : decode cX0_areFrom 26 = .ok (.ifCond .gt 7, 3) := by decide +kernel
theorem dX0_areFrom_29 : decode cX0_areFrom 29 = .ok (.iconst 1, 1) := by decide +kernel
theorem dX0_areFrom_30 : decode cX0_areFrom 30 = .ok (.goto 4, 3) := by decide +kernel
theorem dX0_areFrom_33 : decode cX0_areFrom 33 = .ok (.iconst 0, 1) := by decide +kernel
theorem dX0_areFrom_34 : decode cX0_areFrom 34 = .ok (.ireturn, 1) := by decide +kernel
theorem dX0_exponent_0 : decode cX0_exponent 0 = .ok (.iload_n 0, 1) := by decide +kernel
theorem dX0_exponent_1 : decode cX0_exponent 1 = .ok (.bipush 23, 2) := by decide +kernel
theorem dX0_exponent_3 : decode cX0_exponent 3 = .ok (.iushr, 1) := by decide +kernel
theorem dX0_exponent_4 : decode cX0_exponent 4 = .ok (.sipush 255, 3) := by decide +kernel
theorem dX0_exponent_7 : decode cX0_exponent 7 = .ok (.iand, 1) := by decide +kernel
theorem dX0_exponent_8 : decode cX0_exponent 8 = .ok (.ireturn, 1) := by decide +kernel
set_option maxRecDepth 20000 in
theorem ggX0_toFloat_X0_exponent : GoodIn wsX0_toFloat wsX0_exponent := goodIn_r _ [7] (by decide +kernel) (by decide +kernel)
set_option maxRecDepth 20000 in
theorem gX0_toFloat_X0_exponent : GoodIn wsX0_toFloat (va_wsS RX0 18 yX0_exponent wsX0_exponent) := goodIn_app (goodIn_of _ (by decide +kernel)) ggX0_toFloat_X0_exponent
theorem dX0_toFloat_0 : decode cX0_toFloat 0 = .ok (.iload_n 0, 1) := by decide +kernel
theorem dX0_toFloat_1 : decode cX0_toFloat 1 = .ok (.invokestatic 18, 3) := by decide +kernel
theorem dX0_toFloat_4 : decode cX0_toFloat 4 = .ok (.istore_n 1, 1) := by decide +kernel
theorem dX0_toFloat_5 : decode cX0_toFloat 5 = .ok (.iload_n 0, 1) := by decide +kernel
theorem dX0_toFloat_6 : decode cX0_toFloat 6 = .ok (.ldc 26, 2) := by decide +kernel
theorem dX0_toFloat_8 : decode cX0_toFloat 8 = .ok (.iand, 1) := by decide +kernel
theorem dX0_toFloat_9 : decode cX0_toFloat 9 = .ok (.istore_n 2, 1) := by decide +kernel
theorem dX0_toFloat_10 : decode cX0_toFloat 10 = .ok (.iload_n 1, 1) := by decide +kernel
theorem dX0_toFloat_11 : decode cX0_toFloat 11 = .ok (.ifCond .le 11, 3) := by decide +kernel
theorem dX0_toFloat_14 : decode cX0_toFloat 14 = .ok (.iload_n 2, 1) := by decide +kernel
theorem dX0_toFloat_15 : decode cX0_toFloat 15 = .ok (.ldc 27, 2) := by decide +kernel
theorem dX0_toFloat_17 : decode cX0_toFloat 17 = .ok (.iadd, 1) := by decide +kernel
theorem dX0_toFloat_18 : decode cX0_toFloat 18 = .ok (.istore_n 2, 1) := by decide +kernel
theorem dX0_toFloat_19 : decode cX0_toFloat 19 = .ok (.goto 5, 3) := by decide +kernel
theorem dX0_toFloat_22 : decode cX0_toFloat 22 = .ok (.iconst 1, 1) := by decide +kernel
theorem dX0_toFloat_23 : decode cX0_toFloat 23 = .ok (.istore_n 1, 1) := by decide +kernel
theorem dX0_toFloat_24 : decode cX0_toFloat 24 = .ok (.iload_n 2, 1) := by decide +kernel
theorem dX0_toFloat_25 : decode cX0_toFloat 25 = .ok (.i2f, 1) := by decide +kernel
theorem dX0_toFloat_26 : decode cX0_toFloat 26 = .ok (.fstore_n 3, 1) := by decide +kernel
theorem dX0_toFloat_27 : decode cX0_toFloat 27 = .ok (.iload_n 1, 1) := by decide +kernel
theorem dX0_toFloat_28 : decode cX0_toFloat 28 = .ok (.istore 4, 2) := by decide +kernel
theorem dX0_toFloat_30 : decode cX0_toFloat 30 = .ok (.iload 4, 2) := by decide +kernel
theorem dX0_toFloat_32 : decode cX0_toFloat 32 = .ok (.sipush 150, 3) := by decide +kernel
theorem dX0_toFloat_35 : decode cX0_toFloat 35 = .ok (.if_icmp .ge 14, 3) := by decide +kernel
theorem dX0_toFloat_38 : decode cX0_toFloat 38 = .ok (.fload_n 3, 1) := by decide +kernel
theorem dX0_toFloat_39 : decode cX0_toFloat 39 = .ok (.ldc 28, 2) := by decide +kernel
theorem dX0_toFloat_41 : decode cX0_toFloat 41 = .ok (.fmul, 1) := by decide +kernel
theorem dX0_toFloat_42 : decode cX0_toFloat 42 = .ok (.fstore_n 3, 1) := by decide +kernel
theorem dX0_toFloat_43 : decode cX0_toFloat 43 = .ok (.iinc 4 1, 3) := by decide +kernel
theorem dX0_toFloat_46 : decode cX0_toFloat 46 = .ok (.goto (-16), 3) := by decide +kernel
theorem dX0_toFloat_49 : decode cX0_toFloat 49 = .ok (.iload_n 0, 1) := by decide +kernel
theorem dX0_toFloat_50 : decode cX0_toFloat 50 = .ok (.ifCond .ge 8, 3) := by decide +kernel
theorem dX0_toFloat_53 : decode cX0_toFloat 53 = .ok (.fload_n 3, 1) := by decide +kernel
theorem dX0_toFloat_54 : decode cX0_toFloat 54 = .ok (.fneg, 1) := by decide +kernel
theorem dX0_toFloat_55 : decode cX0_toFloat 55 = .ok (.goto 4, 3) := by decide +kernel
theorem dX0_toFloat_58 : decode cX0_toFloat 58 = .ok (.fload_n 3, 1) := by decide +kernel
theorem dX0_toFloat_59 : decode cX0_toFloat 59 = .ok (.freturn, 1) := by decide +kernel
theorem dX1_init_0 : decode cX1_init 0 = .ok (.aload_n 0, 1) := by decide +kernel
theorem dX1_init_1 : decode cX1_init 1 = .ok (.invokespecial 3, 3) := by decide +kernel
theorem dX1_init_4 : decode cX1_init 4 = .ok (.aload_n 0, 1) := by decide +kernel
theorem dX1_init_5 : decode cX1_init 5 = .ok (.bipush 6, 2) := by decide +kernel
theorem dX1_init_7 : decode cX1_init 7 = .ok (.newarray .int, 2) := by decide +kernel
theorem dX1_init_9 : decode cX1_init 9 = .ok (.putfield 9, 3) := by decide +kernel
theorem dX1_init_12 : decode cX1_init 12 = .ok (.aload_n 0, 1) := by decide +kernel
theorem dX1_init_13 : decode cX1_init 13 = .ok (.bipush 40, 2) := by decide +kernel
theorem dX1_init_15 : decode cX1_init 15 = .ok (.newarray .int, 2) := by decide +kernel
theorem dX1_init_17 : decode cX1_init 17 = .ok (.putfield 15, 3) := by decide +kernel
theorem dX1_init_20 : decode cX1_init 20 = .ok (.aload_n 0, 1) := by decide +kernel
theorem dX1_init_21 : decode cX1_init 21 = .ok (.bipush 40, 2) := by decide +kernel
theorem dX1_init_23 : decode cX1_init 23 = .ok (.newarray .int, 2) := by decide +kernel
theorem dX1_init_25 : decode cX1_init 25 = .ok (.putfield 18, 3) := by decide +kernel
theorem dX1_init_28 : decode cX1_init 28 = .ok (.aload_n 0, 1) := by decide +kernel
theorem dX1_init_29 : decode cX1_init 29 = .ok (.bipush 40, 2) := by decide +kernel
theorem dX1_init_31 : decode cX1_init 31 = .ok (.newarray .int, 2) := by decide +kernel
theorem dX1_init_33 : decode cX1_init 33 = .ok (.putfield 21, 3) := by decide +kernel
theorem dX1_init_36 : decode cX1_init 36 = .ok (.aload_n 0, 1) := by decide +kernel
theorem dX1_init_37 : decode cX1_init 37 = .ok (.bipush 40, 2) := by decide +kernel
theorem dX1_init_39 : decode cX1_init 39 = .ok (.newarray .float, 2) := by decide +kernel
theorem dX1_init_41 : decode cX1_init 41 = .ok (.putfield 24, 3) := by decide +kernel
theorem dX1_init_44 : decode cX1_init 44 = .ok (.aload_n 0, 1) := by decide +kernel
theorem dX1_init_45 : decode cX1_init 45 = .ok (.bipush 40, 2) := by decide +kernel
theorem dX1_init_47 : decode cX1_init 47 = .ok (.newarray .float, 2) := by decide +kernel
theorem dX1_init_49 : decode cX1_init 49 = .ok (.putfield 28, 3) := by decide +kernel
theorem dX1_init_52 : decode cX1_init 52 = .ok (.aload_n 0, 1) := by decide +kernel
theorem dX1_init_53 : decode cX1_init 53 = .ok (.bipush 40, 2) := by decide +kernel
theorem dX1_init_55 : decode cX1_init 55 = .ok (.newarray .float, 2) := by decide +kernel
theorem dX1_init_57 : decode cX1_init 57 = .ok (.putfield 31, 3) := by decide +kernel
theorem dX1_init_60 : decode cX1_init 60 = .ok (.aload_n 0, 1) := by decide +kernel
theorem dX1_init_61 : decode cX1_init 61 = .ok (.bipush 40, 2) := by decide +kernel
theorem dX1_init_63 : decode cX1_init 63 = .ok (.newarray .int, 2) := by decide +kernel
theorem dX1_init_65 : decode cX1_init 65 = .ok (.putfield 34, 3) := by decide +kernel
theorem dX1_init_68 : decode cX1_init 68 = .ok (.return_, 1) := by decide +kernel
theorem dX1_become_0 : decode cX1_become 0 = .ok (.aload_n 0, 1) := by decide +kernel
theorem dX1_become_1 : decode cX1_become 1 = .ok (.aload_n 1, 1) := by decide +kernel
theorem dX1_become_2 : decode cX1_become 2 = .ok (.getfield 37, 3) := by decide +kernel
theorem dX1_become_5 : decode cX1_become 5 = .ok (.putfield 37, 3) := by decide +kernel
theorem dX1_become_8 : decode cX1_become 8 = .ok (.aload_n 0, 1) := by decide +kernel
theorem dX1_become_9 : decode cX1_become 9 = .ok (.aload_n 1, 1) := by decide +kernel
theorem dX1_become_10 : decode cX1_become 10 = .ok (.getfield 41, 3) := by decide +kernel
theorem dX1_become_13 : decode cX1_become 13 = .ok (.putfield 41, 3) := by decide +kernel
theorem dX1_become_16 : decode cX1_become 16 = .ok (.aload_n 0, 1) := by decide +kernel
theorem dX1_become_17 : decode cX1_become 17 = .ok (.aload_n 1, 1) := by decide +kernel
theorem dX1_become_18 : decode cX1_become 18 = .ok (.getfield 44, 3) := by decide +kernel
theorem dX1_become_21 : decode cX1_become 21 = .ok (.putfield 44, 3) := by decide +kernel
theorem dX1_become_24 : decode cX1_become 24 = .ok (.aload_n 0, 1) := by decide +kernel
theorem dX1_become_25 : decode cX1_become 25 = .ok (.aload_n 1, 1) := by decide +kernel
theorem dX1_become_26 : decode cX1_become 26 = .ok (.getfield 48, 3) := by decide +kernel
theorem dX1_become_29 : decode cX1_become 29 = .ok (.putfield 48, 3) := by decide +kernel
theorem dX1_become_32 : decode cX1_become 32 = .ok (.aload_n 0, 1) := by decide +kernel
theorem dX1_become_33 : decode cX1_become 33 = .ok (.aload_n 1, 1) := by decide +kernel
theorem dX1_become_34 : decode cX1_become 34 = .ok (.getfield 51, 3) := by decide +kernel
theorem dX1_become_37 : decode cX1_become 37 = .ok (.putfield 51, 3) := by decide +kernel
theorem dX1_become_40 : decode cX1_become 40 = .ok (.aload_n 1, 1) := by decide +kernel
theorem dX1_become_41 : decode cX1_become 41 = .ok (.getfield 9, 3) := by decide +kernel
theorem dX1_become_44 : decode cX1_become 44 = .ok (.iconst 0, 1) := by decide +kernel
theorem dX1_become_45 : decode cX1_become 45 = .ok (.aload_n 0, 1) := by decide +kernel
theorem dX1_become_46 : decode cX1_become 46 = .ok (.getfield 9, 3) := by decide +kernel
theorem dX1_become_49 : decode cX1_become 49 = .ok (.iconst 0, 1) := by decide +kernel
theorem dX1_become_50 : decode cX1_become 50 = .ok (.bipush 6, 2) := by decide +kernel
theorem dX1_become_52 : decode cX1_become 52 = .ok (.invokestatic 54, 3) := by decide +kernel
theorem dX1_become_55 : decode cX1_become 55 = .ok (.aload_n 1, 1) := by decide +kernel
theorem dX1_become_56 : decode cX1_become 56 = .ok (.getfield 15, 3) := by decide +kernel
theorem dX1_become_59 : decode cX1_become 59 = .ok (.iconst 0, 1) := by decide +kernel
theorem dX1_become_60 : decode cX1_become 60 = .ok (.aload_n 0, 1) := by decide +kernel
theorem dX1_become_61 : decode cX1_become 61 = .ok (.getfield 15, 3) := by decide +kernel
theorem dX1_become_64 : decode cX1_become 64 = .ok (.iconst 0, 1) := by decide +kernel
theorem dX1_become_65 : decode cX1_become 65 = .ok (.bipush 40, 2) := by decide +kernel
theorem dX1_become_67 : decode cX1_become 67 = .ok (.invokestatic 54, 3) := by decide +kernel
theorem dX1_become_70 : decode cX1_become 70 = .ok (.aload_n 1, 1) := by decide +kernel
theorem dX1_become_71 : decode cX1_become 71 = .ok (.getfield 18, 3) := by decide +kernel
theorem dX1_become_74 : decode cX1_become 74 = .ok (.iconst 0, 1) := by decide +kernel
theorem dX1_become_75 : decode cX1_become 75 = .ok (.aload_n 0, 1) := by decide +kernel
theorem dX1_become_76 : decode cX1_become 76 = .ok (.getfield 18, 3) := by decide +kernel
theorem dX1_become_79 : decode cX1_become 79 = .ok (.iconst 0, 1) := by decide +kernel
theorem dX1_become_80 : decode cX1_become 80 = .ok (.bipush 40, 2) := by decide +kernel
theorem dX1_become_82 : decode cX1_become 82 = .ok (.invokestatic 54, 3) := by decide +kernel
theorem dX1_become_85 : decode cX1_become 85 = .ok (.aload_n 1, 1) := by decide +kernel
theorem dX1_become_86 : decode cX1_become 86 = .ok (.getfield 21, 3) := by decide +kernel
theorem dX1_become_89 : decode cX1_become 89 = .ok (.iconst 0, 1) := by decide +kernel
theorem dX1_become_90 : decode cX1_become 90 = .ok (.aload_n 0, 1) := by decide +kernel
theorem dX1_become_91 : decode cX1_become 91 = .ok (.getfield 21, 3) := by decide +kernel
theorem dX1_become_94 : decode cX1_become 94 = .ok (.iconst 0, 1) := by decide +kernel
theorem dX1_become_95 : decode cX1_become 95 = .ok (.bipush 40, 2) := by decide +kernel
theorem dX1_become_97 : decode cX1_become 97 = .ok (.invokestatic 54, 3) := by decide +kernel
theorem dX1_become_100 : decode cX1_become 100 = .ok (.aload_n 1, 1) := by decide +kernel
theorem dX1_become_101 : decode cX1_become 101 = .ok (.getfield 24, 3) := by decide +kernel
theorem dX1_become_104 : decode cX1_become 104 = .ok (.iconst 0, 1) := by decide +kernel
theorem dX1_become_105 : decode cX1_become 105 = .ok (.aload_n 0, 1) := by decide +kernel
theorem dX1_become_106 : decode cX1_become 106 = .ok (.getfield 24, 3) := by decide +kernel
theorem dX1_become_109 : decode cX1_become 109 = .ok (.iconst 0, 1) := by decide +kernel
theorem dX1_become_110 : decode cX1_become 110 = .ok (.bipush 40, 2) := by decide +kernel
theorem dX1_become_112 : decode cX1_become 112 = .ok (.invokestatic 54, 3) := by decide +kernel
theorem dX1_become_115 : decode cX1_become 115 = .ok (.aload_n 1, 1) := by decide +kernel
theorem dX1_become_116 : decode cX1_become 116 = .ok (.getfield 28, 3) := by decide +kernel
theorem dX1_become_119 : decode cX1_become 119 = .ok (.iconst 0, 1) := by decide +kernel
theorem dX1_become_120 : decode cX1_become 120 = .ok (.aload_n 0, 1) := by decide +kernel
theorem dX1_become_121 : decode cX1_become 121 = .ok (.getfield 28, 3) := by decide +kernel
theorem dX1_become_124 : decode cX1_become 124 = .ok (.iconst 0, 1) := by decide +kernel
theorem dX1_become_125 : decode cX1_become 125 = .ok (.bipush 40, 2) := by decide +kernel
theorem dX1_become_127 : decode cX1_become 127 = .ok (.invokestatic 54, 3) := by decide +kernel
theorem dX1_become_130 : decode cX1_become 130 = .ok (.aload_n 1, 1) := by decide +kernel
theorem dX1_become_131 : decode cX1_become 131 = .ok (.getfield 31, 3) := by decide +kernel
theorem dX1_become_134 : decode cX1_become 134 = .ok (.iconst 0, 1) := by decide +kernel
theorem dX1_become_135 : decode cX1_become 135 = .ok (.aload_n 0, 1) := by decide +kernel
theorem dX1_become_136 : decode cX1_become 136 = .ok (.getfield 31, 3) := by decide +kernel
theorem dX1_become_139 : decode cX1_become 139 = .ok (.iconst 0, 1) := by decide +kernel
theorem dX1_become_140 : decode cX1_become 140 = .ok (.bipush 40, 2) := by decide +kernel
theorem dX1_become_142 : decode cX1_become 142 = .ok (.invokestatic 54, 3) := by decide +kernel
theorem dX1_become_145 : decode cX1_become 145 = .ok (.aload_n 1, 1) := by decide +kernel
theorem dX1_become_146 : decode cX1_become 146 = .ok (.getfield 34, 3) := by decide +kernel
theorem dX1_become_149 : decode cX1_become 149 = .ok (.iconst 0, 1) := by decide +kernel
theorem dX1_become_150 : decode cX1_become 150 = .ok (.aload_n 0, 1) := by decide +kernel
theorem dX1_become_151 : decode cX1_become 151 = .ok (.getfield 34, 3) := by decide +kernel
theorem dX1_become_154 : decode cX1_become 154 = .ok (.iconst 0, 1) := by decide +kernel
theorem dX1_become_155 : decode cX1_become 155 = .ok (.bipush 40, 2) := by decide +kernel
theorem dX1_become_157 : decode cX1_become 157 = .ok (.invokestatic 54, 3) := by decide +kernel
theorem dX1_become_160 : decode cX1_become 160 = .ok (.return_, 1) := by decide +kernel
theorem dX1_isPerson_0 : decode cX1_isPerson 0 = .ok (.iload_n 1, 1) := by decide +kernel
theorem dX1_isPerson_1 : decode cX1_isPerson 1 = .ok (.ifCond .lt 15, 3) := by decide +kernel
theorem dX1_isPerson_4 : decode cX1_isPerson 4 = .ok (.iload_n 1, 1) := by decide +kernel
theorem dX1_isPerson_5 : decode cX1_isPerson 5 = .ok (.aload_n 0, 1) := by decide +kernel
theorem dX1_isPerson_6 : decode cX1_isPerson 6 = .ok (.getfield 37, 3) := by decide +kernel
theorem dX1_isPerson_9 : decode cX1_isPerson 9 = .ok (.if_icmp .ge 7, 3) := by decide +kernel
theorem dX1_isPerson_12 : decode cX1_isPerson 12 = .ok (.iconst 1, 1) := by decide +kernel
theorem dX1_isPerson_13 : decode cX1_isPerson 13 = .ok (.goto 4, 3) := by decide +kernel
theorem dX1_isPerson_16 : decode cX1_isPerson 16 = .ok (.iconst 0, 1) := by decide +kernel
theorem dX1_isPerson_17 : decode cX1_isPerson 17 = .ok (.ireturn, 1) := by decide +kernel
theorem dX1_isOrder_0 : decode cX1_isOrder 0 = .ok (.iload_n 1, 1) := by decide +kernel
theorem dX1_isOrder_1 : decode cX1_isOrder 1 = .ok (.ifCond .lt 15, 3) := by decide +kernel
theorem dX1_isOrder_4 : decode cX1_isOrder 4 = .ok (.iload_n 1, 1) := by decide +kernel
theorem dX1_isOrder_5 : decode cX1_isOrder 5 = .ok (.aload_n 0, 1) := by decide +kernel
theorem dX1_isOrder_6 : decode cX1_isOrder 6 = .ok (.getfield 51, 3) := by decide +kernel
theorem dX1_isOrder_9 : decode cX1_isOrder 9 = .ok (.if_icmp .ge 7, 3) := by decide +kernel
theorem dX1_isOrder_12 : decode cX1_isOrder 12 = .ok (.iconst 1, 1) := by decide +kernel
theorem dX1_isOrder_13 : decode cX1_isOrder 13 = .ok (.goto 4, 3) := by decide +kernel
theorem dX1_isOrder_16 : decode cX1_isOrder 16 = .ok (.iconst 0, 1) := by decide +kernel
theorem dX1_isOrder_17 : decode cX1_isOrder 17 = .ok (.ireturn, 1) := by decide +kernel
theorem dX1_admit_0 : decode cX1_admit 0 = .ok (.aload_n 0, 1) := by decide +kernel
theorem dX1_admit_1 : decode cX1_admit 1 = .ok (.getfield 37, 3) := by decide +kernel
theorem dX1_admit_4 : decode cX1_admit 4 = .ok (.istore_n 2, 1) := by decide +kernel
theorem dX1_admit_5 : decode cX1_admit 5 = .ok (.aload_n 0, 1) := by decide +kernel
theorem dX1_admit_6 : decode cX1_admit 6 = .ok (.getfield 9, 3) := by decide +kernel
theorem dX1_admit_9 : decode cX1_admit 9 = .ok (.iload_n 2, 1) := by decide +kernel
theorem dX1_admit_10 : decode cX1_admit 10 = .ok (.iload_n 1, 1) := by decide +kernel
theorem dX1_admit_11 : decode cX1_admit 11 = .ok (.iastore, 1) := by decide +kernel
theorem dX1_admit_12 : decode cX1_admit 12 = .ok (.aload_n 0, 1) := by decide +kernel
theorem dX1_admit_13 : decode cX1_admit 13 = .ok (.dup, 1) := by decide +kernel
theorem dX1_admit_14 : decode cX1_admit 14 = .ok (.getfield 37, 3) := by decide +kernel
theorem dX1_admit_17 : decode cX1_admit 17 = .ok (.iconst 1, 1) := by decide +kernel
theorem dX1_admit_18 : decode cX1_admit 18 = .ok (.iadd, 1) := by decide +kernel
theorem dX1_admit_19 : decode cX1_admit 19 = .ok (.putfield 37, 3) := by decide +kernel
theorem dX1_admit_22 : decode cX1_admit 22 = .ok (.iload_n 2, 1) := by decide +kernel
theorem dX1_admit_23 : decode cX1_admit 23 = .ok (.ireturn, 1) := by decide +kernel
set_option maxRecDepth 20000 in
theorem ggX1_hasRoomAfter_X1_hanging : GoodIn wsX1_hasRoomAfter wsX1_hanging := goodIn_r _ [6, 7, 8, 9, 5, 10, 1, 11, 12, 13, 14, 15, 16, 17, 18, 19, 20, 21, 22, 23, 24] (by decide +kernel) (by decide +kernel)
set_option maxRecDepth 20000 in
theorem gX1_hasRoomAfter_X1_hanging : GoodIn wsX1_hasRoomAfter (wsV RX1 60 RX1 yX1_hanging wsX1_hanging) := goodIn_app (goodIn_of _ (by decide +kernel)) ggX1_hasRoomAfter_X1_hanging
theorem dX1_hasRoomAfter_0 : decode cX1_hasRoomAfter 0 = .ok (.aload_n 0, 1) := by decide +kernel
theorem dX1_hasRoomAfter_1 : decode cX1_hasRoomAfter 1 = .ok (.invokevirtual 60, 3) := by decide +kernel
theorem dX1_hasRoomAfter_4 : decode cX1_hasRoomAfter 4 = .ok (.iload_n 1, 1) := by decide +kernel
theorem dX1_hasRoomAfter_5 : decode cX1_hasRoomAfter 5 = .ok (.iadd, 1) := by decide +kernel
theorem dX1_hasRoomAfter_6 : decode cX1_hasRoomAfter 6 = .ok (.bipush 24, 2) := by decide +kernel
theorem dX1_hasRoomAfter_8 : decode cX1_hasRoomAfter 8 = .ok (.if_icmp .ge 18, 3) := by decide +kernel
theorem dX1_hasRoomAfter_11 : decode cX1_hasRoomAfter 11 = .ok (.aload_n 0, 1) := by decide +kernel
theorem dX1_hasRoomAfter_12 : decode cX1_hasRoomAfter 12 = .ok (.getfield 51, 3) := by decide +kernel
theorem dX1_hasRoomAfter_15 : decode cX1_hasRoomAfter 15 = .ok (.iload_n 1, 1) := by decide +kernel
theorem dX1_hasRoomAfter_16 : decode cX1_hasRoomAfter 16 = .ok (.iadd, 1) := by decide +kernel
theorem dX1_hasRoomAfter_17 : decode cX1_hasRoomAfter 17 = .ok (.bipush 40, 2) := by decide +kernel
theorem dX1_hasRoomAfter_19 : decode cX1_hasRoomAfter 19 = .ok (.if_icmp .ge 7, 3) := by decide +kernel
theorem dX1_hasRoomAfter_22 : decode cX1_hasRoomAfter 22 = .ok (.iconst 1, 1) := by decide +kernel
theorem dX1_hasRoomAfter_23 : decode cX1_hasRoomAfter 23 = .ok (.goto 4, 3) := by decide +kernel
theorem dX1_hasRoomAfter_26 : decode cX1_hasRoomAfter 26 = .ok (.iconst 0, 1) := by decide +kernel
theorem dX1_hasRoomAfter_27 : decode cX1_hasRoomAfter 27 = .ok (.ireturn, 1) := by decide +kernel
theorem dX1_hang_0 : decode cX1_hang 0 = .ok (.aload_n 0, 1) := by decide +kernel
theorem dX1_hang_1 : decode cX1_hang 1 = .ok (.getfield 51, 3) := by decide +kernel
theorem dX1_hang_4 : decode cX1_hang 4 = .ok (.istore 7, 2) := by decide +kernel
theorem dX1_hang_6 : decode cX1_hang 6 = .ok (.aload_n 0, 1) := by decide +kernel
theorem dX1_hang_7 : decode cX1_hang 7 = .ok (.getfield 15, 3) := by decide +kernel
theorem dX1_hang_10 : decode cX1_hang 10 = .ok (.iload 7, 2) := by decide +kernel
theorem dX1_hang_12 : decode cX1_hang 12 = .ok (.iload_n 1, 1) := by decide +kernel
theorem dX1_hang_13 : decode cX1_hang 13 = .ok (.iastore, 1) := by decide +kernel
theorem dX1_hang_14 : decode cX1_hang 14 = .ok (.aload_n 0, 1) := by decide +kernel
theorem dX1_hang_15 : decode cX1_hang 15 = .ok (.getfield 18, 3) := by decide +kernel
theorem dX1_hang_18 : decode cX1_hang 18 = .ok (.iload 7, 2) := by decide +kernel
theorem dX1_hang_20 : decode cX1_hang 20 = .ok (.iload_n 2, 1) := by decide +kernel
theorem dX1_hang_21 : decode cX1_hang 21 = .ok (.iastore, 1) := by decide +kernel
theorem dX1_hang_22 : decode cX1_hang 22 = .ok (.aload_n 0, 1) := by decide +kernel
theorem dX1_hang_23 : decode cX1_hang 23 = .ok (.getfield 21, 3) := by decide +kernel
theorem dX1_hang_26 : decode cX1_hang 26 = .ok (.iload 7, 2) := by decide +kernel
theorem dX1_hang_28 : decode cX1_hang 28 = .ok (.iload_n 3, 1) := by decide +kernel
theorem dX1_hang_29 : decode cX1_hang 29 = .ok (.iastore, 1) := by decide +kernel
theorem dX1_hang_30 : decode cX1_hang 30 = .ok (.aload_n 0, 1) := by decide +kernel
theorem dX1_hang_31 : decode cX1_hang 31 = .ok (.getfield 24, 3) := by decide +kernel
theorem dX1_hang_34 : decode cX1_hang 34 = .ok (.iload 7, 2) := by decide +kernel
theorem dX1_hang_36 : decode cX1_hang 36 = .ok (.fload 4, 2) := by decide +kernel
theorem dX1_hang_38 : decode cX1_hang 38 = .ok (.fastore, 1) := by decide +kernel
theorem dX1_hang_39 : decode cX1_hang 39 = .ok (.aload_n 0, 1) := by decide +kernel
theorem dX1_hang_40 : decode cX1_hang 40 = .ok (.getfield 28, 3) := by decide +kernel
theorem dX1_hang_43 : decode cX1_hang 43 = .ok (.iload 7, 2) := by decide +kernel
theorem dX1_hang_45 : decode cX1_hang 45 = .ok (.fload 5, 2) := by decide +kernel
theorem dX1_hang_47 : decode cX1_hang 47 = .ok (.fastore, 1) := by decide +kernel
theorem dX1_hang_48 : decode cX1_hang 48 = .ok (.aload_n 0, 1) := by decide +kernel
theorem dX1_hang_49 : decode cX1_hang 49 = .ok (.getfield 31, 3) := by decide +kernel
theorem dX1_hang_52 : decode cX1_hang 52 = .ok (.iload 7, 2) := by decide +kernel
theorem dX1_hang_54 : decode cX1_hang 54 = .ok (.fload 6, 2) := by decide +kernel
theorem dX1_hang_56 : decode cX1_hang 56 = .ok (.fastore, 1) := by decide +kernel
theorem dX1_hang_57 : decode cX1_hang 57 = .ok (.aload_n 0, 1) := by decide +kernel
theorem dX1_hang_58 : decode cX1_hang 58 = .ok (.getfield 34, 3) := by decide +kernel
theorem dX1_hang_61 : decode cX1_hang 61 = .ok (.iload 7, 2) := by decide +kernel
theorem dX1_hang_63 : decode cX1_hang 63 = .ok (.iconst 1, 1) := by decide +kernel
theorem dX1_hang_64 : decode cX1_hang 64 = .ok (.iastore, 1) := by decide +kernel
theorem dX1_hang_65 : decode cX1_hang 65 = .ok (.aload_n 0, 1) := by decide +kernel
theorem dX1_hang_66 : decode cX1_hang 66 = .ok (.dup, 1) := by decide +kernel
theorem dX1_hang_67 : decode cX1_hang 67 = .ok (.getfield 51, 3) := by decide +kernel
theorem dX1_hang_70 : decode cX1_hang 70 = .ok (.iconst 1, 1) := by decide +kernel
theorem dX1_hang_71 : decode cX1_hang 71 = .ok (.iadd, 1) := by decide +kernel
theorem dX1_hang_72 : decode cX1_hang 72 = .ok (.putfield 51, 3) := by decide +kernel
theorem dX1_hang_75 : decode cX1_hang 75 = .ok (.iload 7, 2) := by decide +kernel
theorem dX1_hang_77 : decode cX1_hang 77 = .ok (.ireturn, 1) := by decide +kernel
theorem dX1_hangs_0 : decode cX1_hangs 0 = .ok (.aload_n 0, 1) := by decide +kernel
theorem dX1_hangs_1 : decode cX1_hangs 1 = .ok (.getfield 34, 3) := by decide +kernel
theorem dX1_hangs_4 : decode cX1_hangs 4 = .ok (.iload_n 1, 1) := by decide +kernel
theorem dX1_hangs_5 : decode cX1_hangs 5 = .ok (.iaload, 1) := by decide +kernel
theorem dX1_hangs_6 : decode cX1_hangs 6 = .ok (.iconst 1, 1) := by decide +kernel
theorem dX1_hangs_7 : decode cX1_hangs 7 = .ok (.if_icmp .ne 7, 3) := by decide +kernel
theorem dX1_hangs_10 : decode cX1_hangs 10 = .ok (.iconst 1, 1) := by decide +kernel
theorem dX1_hangs_11 : decode cX1_hangs 11 = .ok (.goto 4, 3) := by decide +kernel
theorem dX1_hangs_14 : decode cX1_hangs 14 = .ok (.iconst 0, 1) := by decide +kernel
theorem dX1_hangs_15 : decode cX1_hangs 15 = .ok (.ireturn, 1) := by decide +kernel
set_option maxRecDepth 20000 in
theorem ggX1_hangsFor_X1_hangs : GoodIn wsX1_hangsFor wsX1_hangs := goodIn_r _ [6, 7, 8, 9, 10, 11, 12, 13, 14, 15, 16, 17, 18, 19, 20] (by decide +kernel) (by decide +kernel)
set_option maxRecDepth 20000 in
theorem gX1_hangsFor_X1_hangs : GoodIn wsX1_hangsFor (wsV RX1 64 RX1 yX1_hangs wsX1_hangs) := goodIn_app (goodIn_of _ (by decide +kernel)) ggX1_hangsFor_X1_hangs
theorem dX1_hangsFor_0 : decode cX1_hangsFor 0 = .ok (.aload_n 0, 1) := by decide +kernel
theorem dX1_hangsFor_1 : decode cX1_hangsFor 1 = .ok (.iload_n 1, 1) := by decide +kernel
theorem dX1_hangsFor_2 : decode cX1_hangsFor 2 = .ok (.invokevirtual 64, 3) := by decide +kernel
theorem dX1_hangsFor_5 : decode cX1_hangsFor 5 = .ok (.ifCond .eq 17, 3) := by decide +kernel
theorem dX1_hangsFor_8 : decode cX1_hangsFor 8 = .ok (.aload_n 0, 1) := by decide +kernel
theorem dX1_hangsFor_9 : decode cX1_hangsFor 9 = .ok (.getfield 18, 3) := by decide +kernel
theorem dX1_hangsFor_12 : decode cX1_hangsFor 12 = .ok (.iload_n 1, 1) := by decide +kernel
theorem dX1_hangsFor_13 : decode cX1_hangsFor 13 = .ok (.iaload, 1) := by decide +kernel
theorem dX1_hangsFor_14 : decode cX1_hangsFor 14 = .ok (.iload_n 2, 1) := by decide +kernel
theorem dX1_hangsFor_15 : decode cX1_hangsFor 15 = .ok (.if_icmp .ne 7, 3) := by decide +kernel
theorem dX1_hangsFor_18 : decode cX1_hangsFor 18 = .ok (.iconst 1, 1) := by decide +kernel
theorem dX1_hangsFor_19 : decode cX1_hangsFor 19 = .ok (.goto 4, 3) := by decide +kernel
theorem dX1_hangsFor_22 : decode cX1_hangsFor 22 = .ok (.iconst 0, 1) := by decide +kernel
theorem dX1_hangsFor_23 : decode cX1_hangsFor 23 = .ok (.ireturn, 1) := by decide +kernel
theorem dX1_rankOf_0 : decode cX1_rankOf 0 = .ok (.aload_n 0, 1) := by decide +kernel
theorem dX1_rankOf_1 : decode cX1_rankOf 1 = .ok (.getfield 9, 3) := by decide +kernel
theorem dX1_rankOf_4 : decode cX1_rankOf 4 = .ok (.aload_n 0, 1) := by decide +kernel
theorem dX1_rankOf_5 : decode cX1_rankOf 5 = .ok (.getfield 15, 3) := by decide +kernel
theorem dX1_rankOf_8 : decode cX1_rankOf 8 = .ok (.iload_n 1, 1) := by decide +kernel
theorem dX1_rankOf_9 : decode cX1_rankOf 9 = .ok (.iaload, 1) := by decide +kernel
theorem dX1_rankOf_10 : decode cX1_rankOf 10 = .ok (.iaload, 1) := by decide +kernel
theorem dX1_rankOf_11 : decode cX1_rankOf 11 = .ok (.ireturn, 1) := by decide +kernel
theorem dX1_hundredthsOfStrength_0 : decode cX1_hundredthsOfStrength 0 = .ok (.aload_n 0, 1) := by decide +kernel
theorem dX1_hundredthsOfStrength_1 : decode cX1_hundredthsOfStrength 1 = .ok (.getfield 31, 3) := by decide +kernel
theorem dX1_hundredthsOfStrength_4 : decode cX1_hundredthsOfStrength 4 = .ok (.iload_n 1, 1) := by decide +kernel
theorem dX1_hundredthsOfStrength_5 : decode cX1_hundredthsOfStrength 5 = .ok (.faload, 1) := by decide +kernel
theorem dX1_hundredthsOfStrength_6 : decode cX1_hundredthsOfStrength 6 = .ok (.ldc 68, 2) := by decide +kernel
theorem dX1_hundredthsOfStrength_8 : decode cX1_hundredthsOfStrength 8 = .ok (.fmul, 1) := by decide +kernel
theorem dX1_hundredthsOfStrength_9 : decode cX1_hundredthsOfStrength 9 = .ok (.f2i, 1) := by decide +kernel
theorem dX1_hundredthsOfStrength_10 : decode cX1_hundredthsOfStrength 10 = .ok (.ireturn, 1) := by decide +kernel
set_option maxRecDepth 20000 in
theorem ggX1_over_X1_hangingBetween : GoodIn wsX1_over wsX1_hangingBetween := goodIn_r _ [7, 8, 9, 10, 6, 11, 2, 12, 13, 14, 15, 16, 17, 18, 19, 20, 21, 22, 23, 24, 25, 26, 27, 28, 29] (by decide +kernel) (by decide +kernel)
set_option maxRecDepth 20000 in
theorem gX1_over_X1_hangingBetween : GoodIn wsX1_over (wsV RX1 69 RX1 yX1_hangingBetween wsX1_hangingBetween) := goodIn_app (goodIn_of _ (by decide +kernel)) ggX1_over_X1_hangingBetween
theorem dX1_over_0 : decode cX1_over 0 = .ok (.aload_n 0, 1) := by decide +kernel
theorem dX1_over_1 : decode cX1_over 1 = .ok (.iload_n 1, 1) := by decide +kernel
theorem dX1_over_2 : decode cX1_over 2 = .ok (.iconst 1, 1) := by decide +kernel
theorem dX1_over_3 : decode cX1_over 3 = .ok (.iadd, 1) := by decide +kernel
theorem dX1_over_4 : decode cX1_over 4 = .ok (.aload_n 0, 1) := by decide +kernel
theorem dX1_over_5 : decode cX1_over 5 = .ok (.getfield 51, 3) := by decide +kernel
theorem dX1_over_8 : decode cX1_over 8 = .ok (.aload_n 0, 1) := by decide +kernel
theorem dX1_over_9 : decode cX1_over 9 = .ok (.getfield 18, 3) := by decide +kernel
theorem dX1_over_12 : decode cX1_over 12 = .ok (.iload_n 1, 1) := by decide +kernel
theorem dX1_over_13 : decode cX1_over 13 = .ok (.iaload, 1) := by decide +kernel
theorem dX1_over_14 : decode cX1_over 14 = .ok (.invokevirtual 69, 3) := by decide +kernel
theorem dX1_over_17 : decode cX1_over 17 = .ok (.ireturn, 1) := by decide +kernel
set_option maxRecDepth 20000 in
theorem ggX1_beneath_X1_hangingBetween : GoodIn wsX1_beneath wsX1_hangingBetween := goodIn_r _ [6, 7, 8, 9, 5, 10, 1, 11, 12, 13, 14, 15, 16, 17, 18, 19, 20, 21, 22, 23, 24, 25, 26, 27, 28] (by decide +kernel) (by decide +kernel)
set_option maxRecDepth 20000 in
theorem gX1_beneath_X1_hangingBetween : GoodIn wsX1_beneath (wsV RX1 69 RX1 yX1_hangingBetween wsX1_hangingBetween) := goodIn_app (goodIn_of _ (by decide +kernel)) ggX1_beneath_X1_hangingBetween
theorem dX1_beneath_0 : decode cX1_beneath 0 = .ok (.aload_n 0, 1) := by decide +kernel
theorem dX1_beneath_1 : decode cX1_beneath 1 = .ok (.iconst 0, 1) := by decide +kernel
theorem dX1_beneath_2 : decode cX1_beneath 2 = .ok (.iload_n 1, 1) := by decide +kernel
theorem dX1_beneath_3 : decode cX1_beneath 3 = .ok (.aload_n 0, 1) := by decide +kernel
theorem dX1_beneath_4 : decode cX1_beneath 4 = .ok (.getfield 18, 3) := by decide +kernel
theorem dX1_beneath_7 : decode cX1_beneath 7 = .ok (.iload_n 1, 1) := by decide +kernel
theorem dX1_beneath_8 : decode cX1_beneath 8 = .ok (.iaload, 1) := by decide +kernel
theorem dX1_beneath_9 : decode cX1_beneath 9 = .ok (.invokevirtual 69, 3) := by decide +kernel
theorem dX1_beneath_12 : decode cX1_beneath 12 = .ok (.ireturn, 1) := by decide +kernel
set_option maxRecDepth 20000 in
theorem ggX1_hangingFor_X1_hangingBetween : GoodIn wsX1_hangingFor wsX1_hangingBetween := goodIn_r _ [6, 7, 8, 9, 5, 10, 11, 12, 13, 14, 15, 16, 17, 18, 19, 20, 21, 22, 23, 24, 25, 26, 27, 28, 29] (by decide +kernel) (by decide +kernel)
set_option maxRecDepth 20000 in
theorem gX1_hangingFor_X1_hangingBetween : GoodIn wsX1_hangingFor (wsV RX1 69 RX1 yX1_hangingBetween wsX1_hangingBetween) := goodIn_app (goodIn_of _ (by decide +kernel)) ggX1_hangingFor_X1_hangingBetween
theorem dX1_hangingFor_0 : decode cX1_hangingFor 0 = .ok (.aload_n 0, 1) := by decide +kernel
theorem dX1_hangingFor_1 : decode cX1_hangingFor 1 = .ok (.iconst 0, 1) := by decide +kernel
theorem dX1_hangingFor_2 : decode cX1_hangingFor 2 = .ok (.aload_n 0, 1) := by decide +kernel
theorem dX1_hangingFor_3 : decode cX1_hangingFor 3 = .ok (.getfield 51, 3) := by decide +kernel
theorem dX1_hangingFor_6 : decode cX1_hangingFor 6 = .ok (.iload_n 1, 1) := by decide +kernel
theorem dX1_hangingFor_7 : decode cX1_hangingFor 7 = .ok (.invokevirtual 69, 3) := by decide +kernel
theorem dX1_hangingFor_10 : decode cX1_hangingFor 10 = .ok (.ireturn, 1) := by decide +kernel
set_option maxRecDepth 20000 in
theorem ggX1_hangingBetween_X1_hangsFor : GoodIn wsX1_hangingBetween wsX1_hangsFor := goodIn_r _ [5, 6, 7, 8, 9, 4, 10, 11, 12, 13, 14, 15, 16, 17, 18, 19, 20, 21, 22, 23, 24] (by decide +kernel) (by decide +kernel)
set_option maxRecDepth 20000 in
theorem gX1_hangingBetween_X1_hangsFor : GoodIn wsX1_hangingBetween (wsV RX1 73 RX1 yX1_hangsFor wsX1_hangsFor) := goodIn_app (goodIn_of _ (by decide +kernel)) ggX1_hangingBetween_X1_hangsFor
theorem dX1_hangingBetween_0 : decode cX1_hangingBetween 0 = .ok (.iconst 0, 1) := by decide +kernel
theorem dX1_hangingBetween_1 : decode cX1_hangingBetween 1 = .ok (.istore 4, 2) := by decide +kernel
theorem dX1_hangingBetween_3 : decode cX1_hangingBetween 3 = .ok (.iload_n 1, 1) := by decide +kernel
theorem dX1_hangingBetween_4 : decode cX1_hangingBetween 4 = .ok (.istore 5, 2) := by decide +kernel
theorem dX1_hangingBetween_6 : decode cX1_hangingBetween 6 = .ok (.iload 5, 2) := by decide +kernel
theorem dX1_hangingBetween_8 : decode cX1_hangingBetween 8 = .ok (.iload_n 2, 1) := by decide +kernel
theorem dX1_hangingBetween_9 : decode cX1_hangingBetween 9 = .ok (.if_icmp .ge 22, 3) := by decide +kernel
theorem dX1_hangingBetween_12 : decode cX1_hangingBetween 12 = .ok (.aload_n 0, 1) := by decide +kernel
theorem dX1_hangingBetween_13 : decode cX1_hangingBetween 13 = .ok (.iload 5, 2) := by decide +kernel
theorem dX1_hangingBetween_15 : decode cX1_hangingBetween 15 = .ok (.iload_n 3, 1) := by decide +kernel
theorem dX1_hangingBetween_16 : decode cX1_hangingBetween 16 = .ok (.invokevirtual 73, 3) := by decide +kernel
theorem dX1_hangingBetween_19 : decode cX1_hangingBetween 19 = .ok (.ifCond .eq 6, 3) := by decide +kernel
theorem dX1_hangingBetween_22 : decode cX1_hangingBetween 22 = .ok (.iinc 4 1, 3) := by decide +kernel
theorem dX1_hangingBetween_25 : decode cX1_hangingBetween 25 = .ok (.iinc 5 1, 3) := by decide +kernel
theorem dX1_hangingBetween_28 : decode cX1_hangingBetween 28 = .ok (.goto (-22), 3) := by decide +kernel
theorem dX1_hangingBetween_31 : decode cX1_hangingBetween 31 = .ok (.iload 4, 2) := by decide +kernel
theorem dX1_hangingBetween_33 : decode cX1_hangingBetween 33 = .ok (.ireturn, 1) := by decide +kernel
set_option maxRecDepth 20000 in
theorem ggX1_hangingAt_X1_hangsFor : GoodIn wsX1_hangingAt wsX1_hangsFor := goodIn_r _ [6, 7, 8, 9, 10, 5, 11, 12, 13, 14, 15, 16, 17, 18, 19, 20, 21, 22, 23, 24, 25] (by decide +kernel) (by decide +kernel)
set_option maxRecDepth 20000 in
theorem gX1_hangingAt_X1_hangsFor : GoodIn wsX1_hangingAt (wsV RX1 73 RX1 yX1_hangsFor wsX1_hangsFor) := goodIn_app (goodIn_of _ (by decide +kernel)) ggX1_hangingAt_X1_hangsFor
theorem dX1_hangingAt_0 : decode cX1_hangingAt 0 = .ok (.iload_n 2, 1) := by decide +kernel
theorem dX1_hangingAt_1 : decode cX1_hangingAt 1 = .ok (.istore_n 3, 1) := by decide +kernel
theorem dX1_hangingAt_2 : decode cX1_hangingAt 2 = .ok (.aload_n 0, 1) := by decide +kernel
theorem dX1_hangingAt_3 : decode cX1_hangingAt 3 = .ok (.getfield 51, 3) := by decide +kernel
theorem dX1_hangingAt_6 : decode cX1_hangingAt 6 = .ok (.iconst 1, 1) := by decide +kernel
theorem dX1_hangingAt_7 : decode cX1_hangingAt 7 = .ok (.isub, 1) := by decide +kernel
theorem dX1_hangingAt_8 : decode cX1_hangingAt 8 = .ok (.istore 4, 2) := by decide +kernel
theorem dX1_hangingAt_10 : decode cX1_hangingAt 10 = .ok (.iload 4, 2) := by decide +kernel
theorem dX1_hangingAt_12 : decode cX1_hangingAt 12 = .ok (.ifCond .lt 29, 3) := by decide +kernel
theorem dX1_hangingAt_15 : decode cX1_hangingAt 15 = .ok (.aload_n 0, 1) := by decide +kernel
theorem dX1_hangingAt_16 : decode cX1_hangingAt 16 = .ok (.iload 4, 2) := by decide +kernel
theorem dX1_hangingAt_18 : decode cX1_hangingAt 18 = .ok (.iload_n 1, 1) := by decide +kernel
theorem dX1_hangingAt_19 : decode cX1_hangingAt 19 = .ok (.invokevirtual 73, 3) := by decide +kernel
theorem dX1_hangingAt_22 : decode cX1_hangingAt 22 = .ok (.ifCond .eq 13, 3) := by decide +kernel
theorem dX1_hangingAt_25 : decode cX1_hangingAt 25 = .ok (.iload_n 3, 1) := by decide +kernel
theorem dX1_hangingAt_26 : decode cX1_hangingAt 26 = .ok (.ifCond .ne 6, 3) := by decide +kernel
theorem dX1_hangingAt_29 : decode cX1_hangingAt 29 = .ok (.iload 4, 2) := by decide +kernel
theorem dX1_hangingAt_31 : decode cX1_hangingAt 31 = .ok (.ireturn, 1) := by decide +kernel
theorem dX1_hangingAt_32 : decode cX1_hangingAt 32 = .ok (.iinc 3 (-1), 3) := by decide +kernel
theorem dX1_hangingAt_35 : decode cX1_hangingAt 35 = .ok (.iinc 4 (-1), 3) := by decide +kernel
theorem dX1_hangingAt_38 : decode cX1_hangingAt 38 = .ok (.goto (-28), 3) := by decide +kernel
theorem dX1_hangingAt_41 : decode cX1_hangingAt 41 = .ok (.bipush (-5), 2) := by decide +kernel
theorem dX1_hangingAt_43 : decode cX1_hangingAt 43 = .ok (.ireturn, 1) := by decide +kernel
set_option maxRecDepth 20000 in
theorem ggX1_hanging_X1_withFate : GoodIn wsX1_hanging wsX1_withFate := goodIn_r _ [5, 6, 7, 8, 9, 10, 11, 12, 13, 14, 15, 16, 17, 18, 19, 20] (by decide +kernel) (by decide +kernel)
set_option maxRecDepth 20000 in
theorem gX1_hanging_X1_withFate : GoodIn wsX1_hanging (wsV RX1 77 RX1 yX1_withFate wsX1_withFate) := goodIn_app (goodIn_of _ (by decide +kernel)) ggX1_hanging_X1_withFate
theorem dX1_hanging_0 : decode cX1_hanging 0 = .ok (.aload_n 0, 1) := by decide +kernel
theorem dX1_hanging_1 : decode cX1_hanging 1 = .ok (.iconst 1, 1) := by decide +kernel
theorem dX1_hanging_2 : decode cX1_hanging 2 = .ok (.invokevirtual 77, 3) := by decide +kernel
theorem dX1_hanging_5 : decode cX1_hanging 5 = .ok (.ireturn, 1) := by decide +kernel
theorem dX1_withFate_0 : decode cX1_withFate 0 = .ok (.iconst 0, 1) := by decide +kernel
theorem dX1_withFate_1 : decode cX1_withFate 1 = .ok (.istore_n 2, 1) := by decide +kernel
theorem dX1_withFate_2 : decode cX1_withFate 2 = .ok (.iconst 0, 1) := by decide +kernel
theorem dX1_withFate_3 : decode cX1_withFate 3 = .ok (.istore_n 3, 1) := by decide +kernel
theorem dX1_withFate_4 : decode cX1_withFate 4 = .ok (.iload_n 3, 1) := by decide +kernel
theorem dX1_withFate_5 : decode cX1_withFate 5 = .ok (.aload_n 0, 1) := by decide +kernel
theorem dX1_withFate_6 : decode cX1_withFate 6 = .ok (.getfield 51, 3) := by decide +kernel
theorem dX1_withFate_9 : decode cX1_withFate 9 = .ok (.if_icmp .ge 22, 3) := by decide +kernel
theorem dX1_withFate_12 : decode cX1_withFate 12 = .ok (.aload_n 0, 1) := by decide +kernel
theorem dX1_withFate_13 : decode cX1_withFate 13 = .ok (.getfield 34, 3) := by decide +kernel
theorem dX1_withFate_16 : decode cX1_withFate 16 = .ok (.iload_n 3, 1) := by decide +kernel
theorem dX1_withFate_17 : decode cX1_withFate 17 = .ok (.iaload, 1) := by decide +kernel
theorem dX1_withFate_18 : decode cX1_withFate 18 = .ok (.iload_n 1, 1) := by decide +kernel
theorem dX1_withFate_19 : decode cX1_withFate 19 = .ok (.if_icmp .ne 6, 3) := by decide +kernel
theorem dX1_withFate_22 : decode cX1_withFate 22 = .ok (.iinc 2 1, 3) := by decide +kernel
theorem dX1_withFate_25 : decode cX1_withFate 25 = .ok (.iinc 3 1, 3) := by decide +kernel
theorem dX1_withFate_28 : decode cX1_withFate 28 = .ok (.goto (-24), 3) := by decide +kernel
theorem dX1_withFate_31 : decode cX1_withFate 31 = .ok (.iload_n 2, 1) := by decide +kernel
theorem dX1_withFate_32 : decode cX1_withFate 32 = .ok (.ireturn, 1) := by decide +kernel
theorem dX1_nailedBy_0 : decode cX1_nailedBy 0 = .ok (.iconst 0, 1) := by decide +kernel
theorem dX1_nailedBy_1 : decode cX1_nailedBy 1 = .ok (.istore_n 2, 1) := by decide +kernel
theorem dX1_nailedBy_2 : decode cX1_nailedBy 2 = .ok (.iconst 0, 1) := by decide +kernel
theorem dX1_nailedBy_3 : decode cX1_nailedBy 3 = .ok (.istore_n 3, 1) := by decide +kernel
theorem dX1_nailedBy_4 : decode cX1_nailedBy 4 = .ok (.iload_n 3, 1) := by decide +kernel
theorem dX1_nailedBy_5 : decode cX1_nailedBy 5 = .ok (.aload_n 0, 1) := by decide +kernel
theorem dX1_nailedBy_6 : decode cX1_nailedBy 6 = .ok (.getfield 51, 3) := by decide +kernel
theorem dX1_nailedBy_9 : decode cX1_nailedBy 9 = .ok (.if_icmp .ge 22, 3) := by decide +kernel
theorem dX1_nailedBy_12 : decode cX1_nailedBy 12 = .ok (.aload_n 0, 1) := by decide +kernel
theorem dX1_nailedBy_13 : decode cX1_nailedBy 13 = .ok (.getfield 15, 3) := by decide +kernel
theorem dX1_nailedBy_16 : decode cX1_nailedBy 16 = .ok (.iload_n 3, 1) := by decide +kernel
theorem dX1_nailedBy_17 : decode cX1_nailedBy 17 = .ok (.iaload, 1) := by decide +kernel
theorem dX1_nailedBy_18 : decode cX1_nailedBy 18 = .ok (.iload_n 1, 1) := by decide +kernel
theorem dX1_nailedBy_19 : decode cX1_nailedBy 19 = .ok (.if_icmp .ne 6, 3) := by decide +kernel
theorem dX1_nailedBy_22 : decode cX1_nailedBy 22 = .ok (.iinc 2 1, 3) := by decide +kernel
theorem dX1_nailedBy_25 : decode cX1_nailedBy 25 = .ok (.iinc 3 1, 3) := by decide +kernel
theorem dX1_nailedBy_28 : decode cX1_nailedBy 28 = .ok (.goto (-24), 3) := by decide +kernel
theorem dX1_nailedBy_31 : decode cX1_nailedBy 31 = .ok (.iload_n 2, 1) := by decide +kernel
theorem dX1_nailedBy_32 : decode cX1_nailedBy 32 = .ok (.ireturn, 1) := by decide +kernel
set_option maxRecDepth 20000 in
theorem ggX1_hangingBy_X1_hangs : GoodIn wsX1_hangingBy wsX1_hangs := goodIn_r _ [7, 8, 9, 10, 11, 12, 13, 14, 15, 16, 17, 18, 19, 20, 21] (by decide +kernel) (by decide +kernel)
set_option maxRecDepth 20000 in
theorem gX1_hangingBy_X1_hangs : GoodIn wsX1_hangingBy (wsV RX1 64 RX1 yX1_hangs wsX1_hangs) := goodIn_app (goodIn_of _ (by decide +kernel)) ggX1_hangingBy_X1_hangs
theorem dX1_hangingBy_0 : decode cX1_hangingBy 0 = .ok (.iconst 0, 1) := by decide +kernel
theorem dX1_hangingBy_1 : decode cX1_hangingBy 1 = .ok (.istore_n 2, 1) := by decide +kernel
theorem dX1_hangingBy_2 : decode cX1_hangingBy 2 = .ok (.iconst 0, 1) := by decide +kernel
theorem dX1_hangingBy_3 : decode cX1_hangingBy 3 = .ok (.istore_n 3, 1) := by decide +kernel
theorem dX1_hangingBy_4 : decode cX1_hangingBy 4 = .ok (.iload_n 3, 1) := by decide +kernel
theorem dX1_hangingBy_5 : decode cX1_hangingBy 5 = .ok (.aload_n 0, 1) := by decide +kernel
theorem dX1_hangingBy_6 : decode cX1_hangingBy 6 = .ok (.getfield 51, 3) := by decide +kernel
theorem dX1_hangingBy_9 : decode cX1_hangingBy 9 = .ok (.if_icmp .ge 30, 3) := by decide +kernel
theorem dX1_hangingBy_12 : decode cX1_hangingBy 12 = .ok (.aload_n 0, 1) := by decide +kernel
theorem dX1_hangingBy_13 : decode cX1_hangingBy 13 = .ok (.iload_n 3, 1) := by decide +kernel
theorem dX1_hangingBy_14 : decode cX1_hangingBy 14 = .ok (.invokevirtual 64, 3) := by decide +kernel
theorem dX1_hangingBy_17 : decode cX1_hangingBy 17 = .ok (.ifCond .eq 16, 3) := by decide +kernel
theorem dX1_hangingBy_20 : decode cX1_hangingBy 20 = .ok (.aload_n 0, 1) := by decide +kernel
theorem dX1_hangingBy_21 : decode cX1_hangingBy 21 = .ok (.getfield 15, 3) := by decide +kernel
theorem dX1_hangingBy_24 : decode cX1_hangingBy 24 = .ok (.iload_n 3, 1) := by decide +kernel
theorem dX1_hangingBy_25 : decode cX1_hangingBy 25 = .ok (.iaload, 1) := by decide +kernel
theorem dX1_hangingBy_26 : decode cX1_hangingBy 26 = .ok (.iload_n 1, 1) := by decide +kernel
theorem dX1_hangingBy_27 : decode cX1_hangingBy 27 = .ok (.if_icmp .ne 6, 3) := by decide +kernel
theorem dX1_hangingBy_30 : decode cX1_hangingBy 30 = .ok (.iinc 2 1, 3) := by decide +kernel
theorem dX1_hangingBy_33 : decode cX1_hangingBy 33 = .ok (.iinc 3 1, 3) := by decide +kernel
theorem dX1_hangingBy_36 : decode cX1_hangingBy 36 = .ok (.goto (-32), 3) := by decide +kernel
theorem dX1_hangingBy_39 : decode cX1_hangingBy 39 = .ok (.iload_n 2, 1) := by decide +kernel
theorem dX1_hangingBy_40 : decode cX1_hangingBy 40 = .ok (.ireturn, 1) := by decide +kernel
set_option maxRecDepth 20000 in
theorem ggX1_wordsOf_X1_hangs : GoodIn wsX1_wordsOf wsX1_hangs := goodIn_r _ [8, 9, 10, 11, 12, 13, 14, 15, 16, 17, 18, 19, 20, 21, 22] (by decide +kernel) (by decide +kernel)
set_option maxRecDepth 20000 in
theorem gX1_wordsOf_X1_hangs : GoodIn wsX1_wordsOf (wsV RX1 64 RX1 yX1_hangs wsX1_hangs) := goodIn_app (goodIn_of _ (by decide +kernel)) ggX1_wordsOf_X1_hangs
theorem dX1_wordsOf_0 : decode cX1_wordsOf 0 = .ok (.iconst 0, 1) := by decide +kernel
theorem dX1_wordsOf_1 : decode cX1_wordsOf 1 = .ok (.istore_n 2, 1) := by decide +kernel
theorem dX1_wordsOf_2 : decode cX1_wordsOf 2 = .ok (.iconst 0, 1) := by decide +kernel
theorem dX1_wordsOf_3 : decode cX1_wordsOf 3 = .ok (.istore_n 3, 1) := by decide +kernel
theorem dX1_wordsOf_4 : decode cX1_wordsOf 4 = .ok (.iload_n 3, 1) := by decide +kernel
theorem dX1_wordsOf_5 : decode cX1_wordsOf 5 = .ok (.aload_n 0, 1) := by decide +kernel
theorem dX1_wordsOf_6 : decode cX1_wordsOf 6 = .ok (.getfield 51, 3) := by decide +kernel
theorem dX1_wordsOf_9 : decode cX1_wordsOf 9 = .ok (.if_icmp .ge 38, 3) := by decide +kernel
theorem dX1_wordsOf_12 : decode cX1_wordsOf 12 = .ok (.aload_n 0, 1) := by decide +kernel
theorem dX1_wordsOf_13 : decode cX1_wordsOf 13 = .ok (.iload_n 3, 1) := by decide +kernel
theorem dX1_wordsOf_14 : decode cX1_wordsOf 14 = .ok (.invokevirtual 64, 3) := by decide +kernel
theorem dX1_wordsOf_17 : decode cX1_wordsOf 17 = .ok (.ifCond .eq 24, 3) := by decide +kernel
theorem dX1_wordsOf_20 : decode cX1_wordsOf 20 = .ok (.aload_n 0, 1) := by decide +kernel
theorem dX1_wordsOf_21 : decode cX1_wordsOf 21 = .ok (.getfield 15, 3) := by decide +kernel
theorem dX1_wordsOf_24 : decode cX1_wordsOf 24 = .ok (.iload_n 3, 1) := by decide +kernel
theorem dX1_wordsOf_25 : decode cX1_wordsOf 25 = .ok (.iaload, 1) := by decide +kernel
theorem dX1_wordsOf_26 : decode cX1_wordsOf 26 = .ok (.iload_n 1, 1) := by decide +kernel
theorem dX1_wordsOf_27 : decode cX1_wordsOf 27 = .ok (.if_icmp .ne 14, 3) := by decide +kernel
theorem dX1_wordsOf_30 : decode cX1_wordsOf 30 = .ok (.iload_n 2, 1) := by decide +kernel
theorem dX1_wordsOf_31 : decode cX1_wordsOf 31 = .ok (.iconst 1, 1) := by decide +kernel
theorem dX1_wordsOf_32 : decode cX1_wordsOf 32 = .ok (.aload_n 0, 1) := by decide +kernel
theorem dX1_wordsOf_33 : decode cX1_wordsOf 33 = .ok (.getfield 18, 3) := by decide +kernel
theorem dX1_wordsOf_36 : decode cX1_wordsOf 36 = .ok (.iload_n 3, 1) := by decide +kernel
theorem dX1_wordsOf_37 : decode cX1_wordsOf 37 = .ok (.iaload, 1) := by decide +kernel
theorem dX1_wordsOf_38 : decode cX1_wordsOf 38 = .ok (.ishl, 1) := by decide +kernel
theorem dX1_wordsOf_39 : decode cX1_wordsOf 39 = .ok (.ior, 1) := by decide +kernel
theorem dX1_wordsOf_40 : decode cX1_wordsOf 40 = .ok (.istore_n 2, 1) := by decide +kernel
theorem dX1_wordsOf_41 : decode cX1_wordsOf 41 = .ok (.iinc 3 1, 3) := by decide +kernel
theorem dX1_wordsOf_44 : decode cX1_wordsOf 44 = .ok (.goto (-40), 3) := by decide +kernel
theorem dX1_wordsOf_47 : decode cX1_wordsOf 47 = .ok (.iload_n 2, 1) := by decide +kernel
theorem dX1_wordsOf_48 : decode cX1_wordsOf 48 = .ok (.ireturn, 1) := by decide +kernel
