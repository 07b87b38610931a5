set_option maxRecDepth 20000 in
theorem ggX0_init_X2_init : GoodIn wsX0_init wsX2_init := goodIn_r _ [13, 14, 2, 3, 8, 15, 16, 17] (by decide +kernel) (by decide +kernel)
set_option maxRecDepth 20000 in
theorem gX0_init_X2_init_n11 : GoodIn wsX0_init (wsX2_init) := ggX0_init_X2_init
theorem dX0_init_0 : decode cX0_init 0 = .ok (.aload_n 0, 1) := by decide +kernel
theorem dX0_init_1 : decode cX0_init 1 = .ok (.invokespecial 3, 3) := by decide +kernel
theorem dX0_init_4 : decode cX0_init 4 = .ok (.aload_n 0, 1) := by decide +kernel
theorem dX0_init_5 : decode cX0_init 5 = .ok (.new 9, 3) := by decide +kernel
theorem dX0_init_8 : decode cX0_init 8 = .ok (.dup, 1) := by decide +kernel
theorem dX0_init_9 : decode cX0_init 9 = .ok (.invokespecial 11, 3) := by decide +kernel
theorem dX0_init_12 : decode cX0_init 12 = .ok (.putfield 12, 3) := by decide +kernel
theorem dX0_init_15 : decode cX0_init 15 = .ok (.aload_n 0, 1) := by decide +kernel
theorem dX0_init_16 : decode cX0_init 16 = .ok (.bipush 8, 2) := by decide +kernel
theorem dX0_init_18 : decode cX0_init 18 = .ok (.newarray .int, 2) := by decide +kernel
theorem dX0_init_20 : decode cX0_init 20 = .ok (.putfield 18, 3) := by decide +kernel
theorem dX0_init_23 : decode cX0_init 23 = .ok (.aload_n 0, 1) := by decide +kernel
theorem dX0_init_24 : decode cX0_init 24 = .ok (.iconst (-1), 1) := by decide +kernel
theorem dX0_init_25 : decode cX0_init 25 = .ok (.putfield 22, 3) := by decide +kernel
theorem dX0_init_28 : decode cX0_init 28 = .ok (.aload_n 0, 1) := by decide +kernel
theorem dX0_init_29 : decode cX0_init 29 = .ok (.iconst (-1), 1) := by decide +kernel
theorem dX0_init_30 : decode cX0_init 30 = .ok (.putfield 26, 3) := by decide +kernel
theorem dX0_init_33 : decode cX0_init 33 = .ok (.return_, 1) := by decide +kernel
theorem dX0_plan_0 : decode cX0_plan 0 = .ok (.aload_n 0, 1) := by decide +kernel
theorem dX0_plan_1 : decode cX0_plan 1 = .ok (.iload_n 1, 1) := by decide +kernel
theorem dX0_plan_2 : decode cX0_plan 2 = .ok (.putfield 26, 3) := by decide +kernel
theorem dX0_plan_5 : decode cX0_plan 5 = .ok (.aload_n 0, 1) := by decide +kernel
theorem dX0_plan_6 : decode cX0_plan 6 = .ok (.iload_n 2, 1) := by decide +kernel
theorem dX0_plan_7 : decode cX0_plan 7 = .ok (.putfield 29, 3) := by decide +kernel
theorem dX0_plan_10 : decode cX0_plan 10 = .ok (.return_, 1) := by decide +kernel
theorem dX0_isWaiting_0 : decode cX0_isWaiting 0 = .ok (.aload_n 0, 1) := by decide +kernel
theorem dX0_isWaiting_1 : decode cX0_isWaiting 1 = .ok (.getfield 29, 3) := by decide +kernel
theorem dX0_isWaiting_4 : decode cX0_isWaiting 4 = .ok (.ifCond .le 15, 3) := by decide +kernel
theorem dX0_isWaiting_7 : decode cX0_isWaiting 7 = .ok (.aload_n 0, 1) := by decide +kernel
theorem dX0_isWaiting_8 : decode cX0_isWaiting 8 = .ok (.getfield 26, 3) := by decide +kernel
theorem dX0_isWaiting_11 : decode cX0_isWaiting 11 = .ok (.iload_n 1, 1) := by decide +kernel
theorem dX0_isWaiting_12 : decode cX0_isWaiting 12 = .ok (.if_icmp .gt 7, 3) := by decide +kernel
theorem dX0_isWaiting_15 : decode cX0_isWaiting 15 = .ok (.iconst 1, 1) := by decide +kernel
theorem dX0_isWaiting_16 : decode cX0_isWaiting 16 = .ok (.goto 4, 3) := by decide +kernel
theorem dX0_isWaiting_19 : decode cX0_isWaiting 19 = .ok (.iconst 0, 1) := by decide +kernel
theorem dX0_isWaiting_20 : decode cX0_isWaiting 20 = .ok (.ireturn, 1) := by decide +kernel
set_option maxRecDepth 20000 in
theorem ggX0_planBehind_X0_isWaiting : GoodIn wsX0_planBehind wsX0_isWaiting := goodIn_r _ [7, 2, 1, 8, 9, 10, 11, 12, 13, 14, 15] (by decide +kernel) (by decide +kernel)
set_option maxRecDepth 20000 in
theorem gX0_planBehind_X0_isWaiting : GoodIn wsX0_planBehind (wsV RX0 32 RX0 yX0_isWaiting wsX0_isWaiting) := goodIn_app (goodIn_of _ (by decide +kernel)) ggX0_planBehind_X0_isWaiting
theorem dX0_planBehind_0 : decode cX0_planBehind 0 = .ok (.aload_n 0, 1) := by decide +kernel
theorem dX0_planBehind_1 : decode cX0_planBehind 1 = .ok (.iload_n 1, 1) := by decide +kernel
theorem dX0_planBehind_2 : decode cX0_planBehind 2 = .ok (.invokevirtual 32, 3) := by decide +kernel
theorem dX0_planBehind_5 : decode cX0_planBehind 5 = .ok (.ifCond .eq 30, 3) := by decide +kernel
theorem dX0_planBehind_8 : decode cX0_planBehind 8 = .ok (.aload_n 0, 1) := by decide +kernel
theorem dX0_planBehind_9 : decode cX0_planBehind 9 = .ok (.dup, 1) := by decide +kernel
theorem dX0_planBehind_10 : decode cX0_planBehind 10 = .ok (.getfield 26, 3) := by decide +kernel
theorem dX0_planBehind_13 : decode cX0_planBehind 13 = .ok (.iload_n 1, 1) := by decide +kernel
theorem dX0_planBehind_14 : decode cX0_planBehind 14 = .ok (.aload_n 0, 1) := by decide +kernel
theorem dX0_planBehind_15 : decode cX0_planBehind 15 = .ok (.getfield 26, 3) := by decide +kernel
theorem dX0_planBehind_18 : decode cX0_planBehind 18 = .ok (.isub, 1) := by decide +kernel
theorem dX0_planBehind_19 : decode cX0_planBehind 19 = .ok (.aload_n 0, 1) := by decide +kernel
theorem dX0_planBehind_20 : decode cX0_planBehind 20 = .ok (.getfield 29, 3) := by decide +kernel
theorem dX0_planBehind_23 : decode cX0_planBehind 23 = .ok (.idiv, 1) := by decide +kernel
theorem dX0_planBehind_24 : decode cX0_planBehind 24 = .ok (.iconst 1, 1) := by decide +kernel
theorem dX0_planBehind_25 : decode cX0_planBehind 25 = .ok (.iadd, 1) := by decide +kernel
theorem dX0_planBehind_26 : decode cX0_planBehind 26 = .ok (.aload_n 0, 1) := by decide +kernel
theorem dX0_planBehind_27 : decode cX0_planBehind 27 = .ok (.getfield 29, 3) := by decide +kernel
theorem dX0_planBehind_30 : decode cX0_planBehind 30 = .ok (.imul, 1) := by decide +kernel
theorem dX0_planBehind_31 : decode cX0_planBehind 31 = .ok (.iadd, 1) := by decide +kernel
theorem dX0_planBehind_32 : decode cX0_planBehind 32 = .ok (.putfield 26, 3) := by decide +kernel
theorem dX0_planBehind_35 : decode cX0_planBehind 35 = .ok (.return_, 1) := by decide +kernel
theorem dX1_init_0 : decode cX1_init 0 = .ok (.aload_n 0, 1) := by decide +kernel
theorem dX1_init_1 : decode cX1_init 1 = .ok (.invokespecial 3, 3) := by decide +kernel
theorem dX1_init_4 : decode cX1_init 4 = .ok (.aload_n 0, 1) := by decide +kernel
theorem dX1_init_5 : decode cX1_init 5 = .ok (.bipush 8, 2) := by decide +kernel
theorem dX1_init_7 : decode cX1_init 7 = .ok (.newarray .int, 2) := by decide +kernel
theorem dX1_init_9 : decode cX1_init 9 = .ok (.putfield 9, 3) := by decide +kernel
theorem dX1_init_12 : decode cX1_init 12 = .ok (.aload_n 0, 1) := by decide +kernel
theorem dX1_init_13 : decode cX1_init 13 = .ok (.bipush 64, 2) := by decide +kernel
theorem dX1_init_15 : decode cX1_init 15 = .ok (.newarray .int, 2) := by decide +kernel
theorem dX1_init_17 : decode cX1_init 17 = .ok (.putfield 15, 3) := by decide +kernel
theorem dX1_init_20 : decode cX1_init 20 = .ok (.return_, 1) := by decide +kernel
set_option maxRecDepth 20000 in
theorem ggX1_compute_X2_count : GoodIn wsX1_compute wsX2_count := goodIn_r _ [8, 9, 42, 43] (by decide +kernel) (by decide +kernel)
set_option maxRecDepth 20000 in
theorem gX1_compute_X2_count : GoodIn wsX1_compute (wsV RX1 21 RX2 yX2_count wsX2_count) := goodIn_app (goodIn_of _ (by decide +kernel)) ggX1_compute_X2_count
set_option maxRecDepth 20000 in
theorem ggX1_compute_X1_paddedWord : GoodIn wsX1_compute wsX1_paddedWord := goodIn_r _ [13, 4, 5, 6, 7, 8, 9, 14, 15, 16, 17, 18, 42, 43] (by decide +kernel) (by decide +kernel)
set_option maxRecDepth 20000 in
theorem gX1_compute_X1_paddedWord : GoodIn wsX1_compute (va_wsS RX1 27 yX1_paddedWord wsX1_paddedWord) := goodIn_app (goodIn_of _ (by decide +kernel)) ggX1_compute_X1_paddedWord
set_option maxRecDepth 20000 in
theorem ggX1_compute_X1_widen : GoodIn wsX1_compute wsX1_widen := goodIn_r _ [22, 3, 23, 24, 12, 25, 26, 27, 28, 40, 41] (by decide +kernel) (by decide +kernel)
set_option maxRecDepth 20000 in
theorem gX1_compute_X1_widen : GoodIn wsX1_compute (wsV RX1 31 RX1 yX1_widen wsX1_widen) := goodIn_app (goodIn_of _ (by decide +kernel)) ggX1_compute_X1_widen
set_option maxRecDepth 20000 in
theorem ggX1_compute_X1_mix : GoodIn wsX1_compute wsX1_mix := goodIn_r _ [32, 1, 33, 3, 34, 35, 12, 36, 37, 38, 39, 40, 41] (by decide +kernel) (by decide +kernel)
set_option maxRecDepth 20000 in
theorem gX1_compute_X1_mix : GoodIn wsX1_compute (wsV RX1 34 RX1 yX1_mix wsX1_mix) := goodIn_app (goodIn_of _ (by decide +kernel)) ggX1_compute_X1_mix
theorem dX1_compute_0 : decode cX1_compute 0 = .ok (.iconst 0, 1) := by decide +kernel
theorem dX1_compute_1 : decode cX1_compute 1 = .ok (.istore_n 2, 1) := by decide +kernel
theorem dX1_compute_2 : decode cX1_compute 2 = .ok (.iload_n 2, 1) := by decide +kernel
theorem dX1_compute_3 : decode cX1_compute 3 = .ok (.bipush 8, 2) := by decide +kernel
theorem dX1_compute_5 : decode cX1_compute 5 = .ok (.if_icmp .ge 20, 3) := by decide +kernel
theorem dX1_compute_8 : decode cX1_compute 8 = .ok (.aload_n 0, 1) := by decide +kernel
theorem dX1_compute_9 : decode cX1_compute 9 = .ok (.getfield 9, 3) := by decide +kernel
theorem dX1_compute_12 : decode cX1_compute 12 = .ok (.iload_n 2, 1) := by decide +kernel
theorem dX1_compute_13 : decode cX1_compute 13 = .ok (.getstatic 18, 3) := by decide +kernel
theorem dX1_compute_16 : decode cX1_compute 16 = .ok (.iload_n 2, 1) := by decide +kernel
theorem dX1_compute_17 : decode cX1_compute 17 = .ok (.iaload, 1) := by decide +kernel
theorem dX1_compute_18 : decode cX1_compute 18 = .ok (.iastore, 1) := by decide +kernel
theorem dX1_compute_19 : decode cX1_compute 19 = .ok (.iinc 2 1, 3) := by decide +kernel
theorem dX1_compute_22 : decode cX1_compute 22 = .ok (.goto (-20), 3) := by decide +kernel
theorem dX1_compute_25 : decode cX1_compute 25 = .ok (.aload_n 1, 1) := by decide +kernel
theorem dX1_compute_26 : decode cX1_compute 26 = .ok (.invokevirtual 21, 3) := by decide +kernel
theorem dX1_compute_29 : decode cX1_compute 29 = .ok (.istore_n 2, 1) := by decide +kernel
theorem dX1_compute_30 : decode cX1_compute 30 = .ok (.iload_n 2, 1) := by decide +kernel
theorem dX1_compute_31 : decode cX1_compute 31 = .ok (.bipush 8, 2) := by decide +kernel
theorem dX1_compute_33 : decode cX1_compute 33 = .ok (.iadd, 1) := by decide +kernel
theorem dX1_compute_34 : decode cX1_compute 34 = .ok (.bipush 64, 2) := by decide +kernel
theorem dX1_compute_36 : decode cX1_compute 36 = .ok (.idiv, 1) := by decide +kernel
theorem dX1_compute_37 : decode cX1_compute 37 = .ok (.iconst 1, 1) := by decide +kernel
theorem dX1_compute_38 : decode cX1_compute 38 = .ok (.iadd, 1) := by decide +kernel
theorem dX1_compute_39 : decode cX1_compute 39 = .ok (.istore_n 3, 1) := by decide +kernel
theorem dX1_compute_40 : decode cX1_compute 40 = .ok (.iconst 0, 1) := by decide +kernel
theorem dX1_compute_41 : decode cX1_compute 41 = .ok (.istore 4, 2) := by decide +kernel
theorem dX1_compute_43 : decode cX1_compute 43 = .ok (.iload 4, 2) := by decide +kernel
theorem dX1_compute_45 : decode cX1_compute 45 = .ok (.iload_n 3, 1) := by decide +kernel
theorem dX1_compute_46 : decode cX1_compute 46 = .ok (.if_icmp .ge 73, 3) := by decide +kernel
theorem dX1_compute_49 : decode cX1_compute 49 = .ok (.iconst 0, 1) := by decide +kernel
theorem dX1_compute_50 : decode cX1_compute 50 = .ok (.istore 5, 2) := by decide +kernel
theorem dX1_compute_52 : decode cX1_compute 52 = .ok (.iload 5, 2) := by decide +kernel
theorem dX1_compute_54 : decode cX1_compute 54 = .ok (.bipush 16, 2) := by decide +kernel
theorem dX1_compute_56 : decode cX1_compute 56 = .ok (.if_icmp .ge 30, 3) := by decide +kernel
theorem dX1_compute_59 : decode cX1_compute 59 = .ok (.aload_n 0, 1) := by decide +kernel
theorem dX1_compute_60 : decode cX1_compute 60 = .ok (.getfield 15, 3) := by decide +kernel
theorem dX1_compute_63 : decode cX1_compute 63 = .ok (.iload 5, 2) := by decide +kernel
theorem dX1_compute_65 : decode cX1_compute 65 = .ok (.aload_n 1, 1) := by decide +kernel
theorem dX1_compute_66 : decode cX1_compute 66 = .ok (.iload 4, 2) := by decide +kernel
theorem dX1_compute_68 : decode cX1_compute 68 = .ok (.bipush 64, 2) := by decide +kernel
theorem dX1_compute_70 : decode cX1_compute 70 = .ok (.imul, 1) := by decide +kernel
theorem dX1_compute_71 : decode cX1_compute 71 = .ok (.iload 5, 2) := by decide +kernel
theorem dX1_compute_73 : decode cX1_compute 73 = .ok (.iconst 4, 1) := by decide +kernel
theorem dX1_compute_74 : decode cX1_compute 74 = .ok (.imul, 1) := by decide +kernel
theorem dX1_compute_75 : decode cX1_compute 75 = .ok (.iadd, 1) := by decide +kernel
theorem dX1_compute_76 : decode cX1_compute 76 = .ok (.invokestatic 27, 3) := by decide +kernel
theorem dX1_compute_79 : decode cX1_compute 79 = .ok (.iastore, 1) := by decide +kernel
theorem dX1_compute_80 : decode cX1_compute 80 = .ok (.iinc 5 1, 3) := by decide +kernel
theorem dX1_compute_83 : decode cX1_compute 83 = .ok (.goto (-31), 3) := by decide +kernel
theorem dX1_compute_86 : decode cX1_compute 86 = .ok (.iload 4, 2) := by decide +kernel
theorem dX1_compute_88 : decode cX1_compute 88 = .ok (.iload_n 3, 1) := by decide +kernel
theorem dX1_compute_89 : decode cX1_compute 89 = .ok (.iconst 1, 1) := by decide +kernel
theorem dX1_compute_90 : decode cX1_compute 90 = .ok (.isub, 1) := by decide +kernel
theorem dX1_compute_91 : decode cX1_compute 91 = .ok (.if_icmp .ne 14, 3) := by decide +kernel
theorem dX1_compute_94 : decode cX1_compute 94 = .ok (.aload_n 0, 1) := by decide +kernel
theorem dX1_compute_95 : decode cX1_compute 95 = .ok (.getfield 15, 3) := by decide +kernel
theorem dX1_compute_98 : decode cX1_compute 98 = .ok (.bipush 15, 2) := by decide +kernel
theorem dX1_compute_100 : decode cX1_compute 100 = .ok (.iload_n 2, 1) := by decide +kernel
theorem dX1_compute_101 : decode cX1_compute 101 = .ok (.bipush 8, 2) := by decide +kernel
theorem dX1_compute_103 : decode cX1_compute 103 = .ok (.imul, 1) := by decide +kernel
theorem dX1_compute_104 : decode cX1_compute 104 = .ok (.iastore, 1) := by decide +kernel
theorem dX1_compute_105 : decode cX1_compute 105 = .ok (.aload_n 0, 1) := by decide +kernel
theorem dX1_compute_106 : decode cX1_compute 106 = .ok (.invokevirtual 31, 3) := by decide +kernel
theorem dX1_compute_109 : decode cX1_compute 109 = .ok (.aload_n 0, 1) := by decide +kernel
theorem dX1_compute_110 : decode cX1_compute 110 = .ok (.invokevirtual 34, 3) := by decide +kernel
theorem dX1_compute_113 : decode cX1_compute 113 = .ok (.iinc 4 1, 3) := by decide +kernel
theorem dX1_compute_116 : decode cX1_compute 116 = .ok (.goto (-73), 3) := by decide +kernel
theorem dX1_compute_119 : decode cX1_compute 119 = .ok (.return_, 1) := by decide +kernel
theorem dX1_copyTo_0 : decode cX1_copyTo 0 = .ok (.iconst 0, 1) := by decide +kernel
theorem dX1_copyTo_1 : decode cX1_copyTo 1 = .ok (.istore_n 2, 1) := by decide +kernel
theorem dX1_copyTo_2 : decode cX1_copyTo 2 = .ok (.iload_n 2, 1) := by decide +kernel
theorem dX1_copyTo_3 : decode cX1_copyTo 3 = .ok (.bipush 8, 2) := by decide +kernel
theorem dX1_copyTo_5 : decode cX1_copyTo 5 = .ok (.if_icmp .ge 24, 3) := by decide +kernel
theorem dX1_copyTo_8 : decode cX1_copyTo 8 = .ok (.iload_n 2, 1) := by decide +kernel
theorem dX1_copyTo_9 : decode cX1_copyTo 9 = .ok (.aload_n 1, 1) := by decide +kernel
theorem dX1_copyTo_10 : decode cX1_copyTo 10 = .ok (.arraylength, 1) := by decide +kernel
theorem dX1_copyTo_11 : decode cX1_copyTo 11 = .ok (.if_icmp .ge 18, 3) := by decide +kernel
theorem dX1_copyTo_14 : decode cX1_copyTo 14 = .ok (.aload_n 1, 1) := by decide +kernel
theorem dX1_copyTo_15 : decode cX1_copyTo 15 = .ok (.iload_n 2, 1) := by decide +kernel
theorem dX1_copyTo_16 : decode cX1_copyTo 16 = .ok (.aload_n 0, 1) := by decide +kernel
theorem dX1_copyTo_17 : decode cX1_copyTo 17 = .ok (.getfield 9, 3) := by decide +kernel
theorem dX1_copyTo_20 : decode cX1_copyTo 20 = .ok (.iload_n 2, 1) := by decide +kernel
theorem dX1_copyTo_21 : decode cX1_copyTo 21 = .ok (.iaload, 1) := by decide +kernel
theorem dX1_copyTo_22 : decode cX1_copyTo 22 = .ok (.iastore, 1) := by decide +kernel
theorem dX1_copyTo_23 : decode cX1_copyTo 23 = .ok (.iinc 2 1, 3) := by decide +kernel
theorem dX1_copyTo_26 : decode cX1_copyTo 26 = .ok (.goto (-24), 3) := by decide +kernel
theorem dX1_copyTo_29 : decode cX1_copyTo 29 = .ok (.return_, 1) := by decide +kernel
theorem dX1_equalTo_0 : decode cX1_equalTo 0 = .ok (.iconst 0, 1) := by decide +kernel
theorem dX1_equalTo_1 : decode cX1_equalTo 1 = .ok (.istore_n 2, 1) := by decide +kernel
theorem dX1_equalTo_2 : decode cX1_equalTo 2 = .ok (.iload_n 2, 1) := by decide +kernel
theorem dX1_equalTo_3 : decode cX1_equalTo 3 = .ok (.bipush 8, 2) := by decide +kernel
theorem dX1_equalTo_5 : decode cX1_equalTo 5 = .ok (.if_icmp .ge 29, 3) := by decide +kernel
theorem dX1_equalTo_8 : decode cX1_equalTo 8 = .ok (.iload_n 2, 1) := by decide +kernel
theorem dX1_equalTo_9 : decode cX1_equalTo 9 = .ok (.aload_n 1, 1) := by decide +kernel
theorem dX1_equalTo_10 : decode cX1_equalTo 10 = .ok (.arraylength, 1) := by decide +kernel
theorem dX1_equalTo_11 : decode cX1_equalTo 11 = .ok (.if_icmp .ge 23, 3) := by decide +kernel
theorem dX1_equalTo_14 : decode cX1_equalTo 14 = .ok (.aload_n 1, 1) := by decide +kernel
theorem dX1_equalTo_15 : decode cX1_equalTo 15 = .ok (.iload_n 2, 1) := by decide +kernel
theorem dX1_equalTo_16 : decode cX1_equalTo 16 = .ok (.iaload, 1) := by decide +kernel
theorem dX1_equalTo_17 : decode cX1_equalTo 17 = .ok (.aload_n 0, 1) := by decide +kernel
theorem dX1_equalTo_18 : decode cX1_equalTo 18 = .ok (.getfield 9, 3) := by decide +kernel
theorem dX1_equalTo_21 : decode cX1_equalTo 21 = .ok (.iload_n 2, 1) := by decide +kernel
theorem dX1_equalTo_22 : decode cX1_equalTo 22 = .ok (.iaload, 1) := by decide +kernel
theorem dX1_equalTo_23 : decode cX1_equalTo 23 = .ok (.if_icmp .eq 5, 3) := by decide +kernel
theorem dX1_equalTo_26 : decode cX1_equalTo 26 = .ok (.iconst 0, 1) := by decide +kernel
theorem dX1_equalTo_27 : decode cX1_equalTo 27 = .ok (.ireturn, 1) := by decide +kernel
theorem dX1_equalTo_28 : decode cX1_equalTo 28 = .ok (.iinc 2 1, 3) := by decide +kernel
theorem dX1_equalTo_31 : decode cX1_equalTo 31 = .ok (.goto (-29), 3) := by decide +kernel
theorem dX1_equalTo_34 : decode cX1_equalTo 34 = .ok (.iconst 1, 1) := by decide +kernel
theorem dX1_equalTo_35 : decode cX1_equalTo 35 = .ok (.ireturn, 1) := by decide +kernel
set_option maxRecDepth 20000 in
theorem ggX1_paddedWord_X2_count : GoodIn wsX1_paddedWord wsX2_count := goodIn_r _ [5, 6, 12, 13] (by decide +kernel) (by decide +kernel)
set_option maxRecDepth 20000 in
theorem gX1_paddedWord_X2_count : GoodIn wsX1_paddedWord (wsV RX1 21 RX2 yX2_count wsX2_count) := goodIn_app (goodIn_of _ (by decide +kernel)) ggX1_paddedWord_X2_count
set_option maxRecDepth 20000 in
theorem ggX1_paddedWord_X2_value : GoodIn wsX1_paddedWord wsX2_value := goodIn_r _ [10, 6, 11, 12, 13] (by decide +kernel) (by decide +kernel)
set_option maxRecDepth 20000 in
theorem gX1_paddedWord_X2_value : GoodIn wsX1_paddedWord (wsV RX1 37 RX2 yX2_value wsX2_value) := goodIn_app (goodIn_of _ (by decide +kernel)) ggX1_paddedWord_X2_value
theorem dX1_paddedWord_0 : decode cX1_paddedWord 0 = .ok (.aload_n 0, 1) := by decide +kernel
theorem dX1_paddedWord_1 : decode cX1_paddedWord 1 = .ok (.invokevirtual 21, 3) := by decide +kernel
theorem dX1_paddedWord_4 : decode cX1_paddedWord 4 = .ok (.istore_n 2, 1) := by decide +kernel
theorem dX1_paddedWord_5 : decode cX1_paddedWord 5 = .ok (.iconst 0, 1) := by decide +kernel
theorem dX1_paddedWord_6 : decode cX1_paddedWord 6 = .ok (.istore_n 3, 1) := by decide +kernel
theorem dX1_paddedWord_7 : decode cX1_paddedWord 7 = .ok (.iconst 0, 1) := by decide +kernel
theorem dX1_paddedWord_8 : decode cX1_paddedWord 8 = .ok (.istore 4, 2) := by decide +kernel
theorem dX1_paddedWord_10 : decode cX1_paddedWord 10 = .ok (.iload 4, 2) := by decide +kernel
theorem dX1_paddedWord_12 : decode cX1_paddedWord 12 = .ok (.iconst 4, 1) := by decide +kernel
theorem dX1_paddedWord_13 : decode cX1_paddedWord 13 = .ok (.if_icmp .ge 39, 3) := by decide +kernel
theorem dX1_paddedWord_16 : decode cX1_paddedWord 16 = .ok (.iload_n 1, 1) := by decide +kernel
theorem dX1_paddedWord_17 : decode cX1_paddedWord 17 = .ok (.iload 4, 2) := by decide +kernel
theorem dX1_paddedWord_19 : decode cX1_paddedWord 19 = .ok (.iadd, 1) := by decide +kernel
theorem dX1_paddedWord_20 : decode cX1_paddedWord 20 = .ok (.istore 5, 2) := by decide +kernel
theorem dX1_paddedWord_22 : decode cX1_paddedWord 22 = .ok (.iload_n 3, 1) := by decide +kernel
theorem dX1_paddedWord_23 : decode cX1_paddedWord 23 = .ok (.bipush 8, 2) := by decide +kernel
theorem dX1_paddedWord_25 : decode cX1_paddedWord 25 = .ok (.ishl, 1) := by decide +kernel
theorem dX1_paddedWord_26 : decode cX1_paddedWord 26 = .ok (.iload 5, 2) := by decide +kernel
theorem dX1_paddedWord_28 : decode cX1_paddedWord 28 = .ok (.iload_n 2, 1) := by decide +kernel
theorem dX1_paddedWord_29 : decode cX1_paddedWord 29 = .ok (.if_icmp .ne 9, 3) := by decide +kernel
theorem dX1_paddedWord_32 : decode cX1_paddedWord 32 = .ok (.sipush 128, 3) := by decide +kernel
theorem dX1_paddedWord_35 : decode cX1_paddedWord 35 = .ok (.goto 9, 3) := by decide +kernel
theorem dX1_paddedWord_38 : decode cX1_paddedWord 38 = .ok (.aload_n 0, 1) := by decide +kernel
theorem dX1_paddedWord_39 : decode cX1_paddedWord 39 = .ok (.iload 5, 2) := by decide +kernel
theorem dX1_paddedWord_41 : decode cX1_paddedWord 41 = .ok (.invokevirtual 37, 3) := by decide +kernel
theorem dX1_paddedWord_44 : decode cX1_paddedWord 44 = .ok (.ior, 1) := by decide +kernel
theorem dX1_paddedWord_45 : decode cX1_paddedWord 45 = .ok (.istore_n 3, 1) := by decide +kernel
theorem dX1_paddedWord_46 : decode cX1_paddedWord 46 = .ok (.iinc 4 1, 3) := by decide +kernel
theorem dX1_paddedWord_49 : decode cX1_paddedWord 49 = .ok (.goto (-39), 3) := by decide +kernel
theorem dX1_paddedWord_52 : decode cX1_paddedWord 52 = .ok (.iload_n 3, 1) := by decide +kernel
theorem dX1_paddedWord_53 : decode cX1_paddedWord 53 = .ok (.ireturn, 1) := by decide +kernel
set_option maxRecDepth 20000 in
theorem ggX1_widen_X1_smallSigma0 : GoodIn wsX1_widen wsX1_smallSigma0 := goodIn_r _ [5] (by decide +kernel) (by decide +kernel)
set_option maxRecDepth 20000 in
theorem gX1_widen_X1_smallSigma0 : GoodIn wsX1_widen (va_wsS RX1 41 yX1_smallSigma0 wsX1_smallSigma0) := goodIn_app (goodIn_of _ (by decide +kernel)) ggX1_widen_X1_smallSigma0
set_option maxRecDepth 20000 in
theorem ggX1_widen_X1_smallSigma1 : GoodIn wsX1_widen wsX1_smallSigma1 := goodIn_r _ [8] (by decide +kernel) (by decide +kernel)
set_option maxRecDepth 20000 in
theorem gX1_widen_X1_smallSigma1 : GoodIn wsX1_widen (va_wsS RX1 44 yX1_smallSigma1 wsX1_smallSigma1) := goodIn_app (goodIn_of _ (by decide +kernel)) ggX1_widen_X1_smallSigma1
theorem dX1_widen_0 : decode cX1_widen 0 = .ok (.bipush 16, 2) := by decide +kernel
theorem dX1_widen_2 : decode cX1_widen 2 = .ok (.istore_n 1, 1) := by decide +kernel
theorem dX1_widen_3 : decode cX1_widen 3 = .ok (.iload_n 1, 1) := by decide +kernel
theorem dX1_widen_4 : decode cX1_widen 4 = .ok (.bipush 64, 2) := by decide +kernel
theorem dX1_widen_6 : decode cX1_widen 6 = .ok (.if_icmp .ge 59, 3) := by decide +kernel
theorem dX1_widen_9 : decode cX1_widen 9 = .ok (.aload_n 0, 1) := by decide +kernel
theorem dX1_widen_10 : decode cX1_widen 10 = .ok (.getfield 15, 3) := by decide +kernel
theorem dX1_widen_13 : decode cX1_widen 13 = .ok (.iload_n 1, 1) := by decide +kernel
theorem dX1_widen_14 : decode cX1_widen 14 = .ok (.aload_n 0, 1) := by decide +kernel
theorem dX1_widen_15 : decode cX1_widen 15 = .ok (.getfield 15, 3) := by decide +kernel
theorem dX1_widen_18 : decode cX1_widen 18 = .ok (.iload_n 1, 1) := by decide +kernel
theorem dX1_widen_19 : decode cX1_widen 19 = .ok (.bipush 16, 2) := by decide +kernel
theorem dX1_widen_21 : decode cX1_widen 21 = .ok (.isub, 1) := by decide +kernel
theorem dX1_widen_22 : decode cX1_widen 22 = .ok (.iaload, 1) := by decide +kernel
theorem dX1_widen_23 : decode cX1_widen 23 = .ok (.aload_n 0, 1) := by decide +kernel
theorem dX1_widen_24 : decode cX1_widen 24 = .ok (.getfield 15, 3) := by decide +kernel
theorem dX1_widen_27 : decode cX1_widen 27 = .ok (.iload_n 1, 1) := by decide +kernel
theorem dX1_widen_28 : decode cX1_widen 28 = .ok (.bipush 15, 2) := by decide +kernel
theorem dX1_widen_30 : decode cX1_widen 30 = .ok (.isub, 1) := by decide +kernel
theorem dX1_widen_31 : decode cX1_widen 31 = .ok (.iaload, 1) := by decide +kernel
theorem dX1_widen_32 : decode cX1_widen 32 = .ok (.invokestatic 41, 3) := by decide +kernel
theorem dX1_widen_35 : decode cX1_widen 35 = .ok (.iadd, 1) := by decide +kernel
theorem dX1_widen_36 : decode cX1_widen 36 = .ok (.aload_n 0, 1) := by decide +kernel
theorem dX1_widen_37 : decode cX1_widen 37 = .ok (.getfield 15, 3) := by decide +kernel
theorem dX1_widen_40 : decode cX1_widen 40 = .ok (.iload_n 1, 1) := by decide +kernel
theorem dX1_widen_41 : decode cX1_widen 41 = .ok (.bipush 7, 2) := by decide +kernel
theorem dX1_widen_43 : decode cX1_widen 43 = .ok (.isub, 1) := by decide +kernel
theorem dX1_widen_44 : decode cX1_widen 44 = .ok (.iaload, 1) := by decide +kernel
theorem dX1_widen_45 : decode cX1_widen 45 = .ok (.iadd, 1) := by decide +kernel
theorem dX1_widen_46 : decode cX1_widen 46 = .ok (.aload_n 0, 1) := by decide +kernel
theorem dX1_widen_47 : decode cX1_widen 47 = .ok (.getfield 15, 3) := by decide +kernel
theorem dX1_widen_50 : decode cX1_widen 50 = .ok (.iload_n 1, 1) := by decide +kernel
theorem dX1_widen_51 : decode cX1_widen 51 = .ok (.iconst 2, 1) := by decide +kernel
theorem dX1_widen_52 : decode cX1_widen 52 = .ok (.isub, 1) := by decide +kernel
theorem dX1_widen_53 : decode cX1_widen 53 = .ok (.iaload, 1) := by decide +kernel
theorem dX1_widen_54 : decode cX1_widen 54 = .ok (.invokestatic 44, 3) := by decide +kernel
theorem dX1_widen_57 : decode cX1_widen 57 = .ok (.iadd, 1) := by decide +kernel
theorem dX1_widen_58 : decode cX1_widen 58 = .ok (.iastore, 1) := by decide +kernel
theorem dX1_widen_59 : decode cX1_widen 59 = .ok (.iinc 1 1, 3) := by decide +kernel
theorem dX1_widen_62 : decode cX1_widen 62 = .ok (.goto (-59), 3) := by decide +kernel
theorem dX1_widen_65 : decode cX1_widen 65 = .ok (.return_, 1) := by decide +kernel
set_option maxRecDepth 20000 in
theorem ggX1_mix_X1_bigSigma1 : GoodIn wsX1_mix wsX1_bigSigma1 := goodIn_r _ [7] (by decide +kernel) (by decide +kernel)
set_option maxRecDepth 20000 in
theorem gX1_mix_X1_bigSigma1 : GoodIn wsX1_mix (va_wsS RX1 47 yX1_bigSigma1 wsX1_bigSigma1) := goodIn_app (goodIn_of _ (by decide +kernel)) ggX1_mix_X1_bigSigma1
set_option maxRecDepth 20000 in
theorem ggX1_mix_X1_bigSigma0 : GoodIn wsX1_mix wsX1_bigSigma0 := goodIn_r _ [10] (by decide +kernel) (by decide +kernel)
set_option maxRecDepth 20000 in
theorem gX1_mix_X1_bigSigma0 : GoodIn wsX1_mix (va_wsS RX1 53 yX1_bigSigma0 wsX1_bigSigma0) := goodIn_app (goodIn_of _ (by decide +kernel)) ggX1_mix_X1_bigSigma0
theorem dX1_mix_0 : decode cX1_mix 0 = .ok (.aload_n 0, 1) := by decide +kernel
theorem dX1_mix_1 : decode cX1_mix 1 = .ok (.getfield 9, 3) := by decide +kernel
theorem dX1_mix_4 : decode cX1_mix 4 = .ok (.iconst 0, 1) := by decide +kernel
theorem dX1_mix_5 : decode cX1_mix 5 = .ok (.iaload, 1) := by decide +kernel
theorem dX1_mix_6 : decode cX1_mix 6 = .ok (.istore_n 1, 1) := by decide +kernel
theorem dX1_mix_7 : decode cX1_mix 7 = .ok (.aload_n 0, 1) := by decide +kernel
theorem dX1_mix_8 : decode cX1_mix 8 = .ok (.getfield 9, 3) := by decide +kernel
theorem dX1_mix_11 : decode cX1_mix 11 = .ok (.iconst 1, 1) := by decide +kernel
theorem dX1_mix_12 : decode cX1_mix 12 = .ok (.iaload, 1) := by decide +kernel
theorem dX1_mix_13 : decode cX1_mix 13 = .ok (.istore_n 2, 1) := by decide +kernel
theorem dX1_mix_14 : decode cX1_mix 14 = .ok (.aload_n 0, 1) := by decide +kernel
theorem dX1_mix_15 : decode cX1_mix 15 = .ok (.getfield 9, 3) := by decide +kernel
theorem dX1_mix_18 : decode cX1_mix 18 = .ok (.iconst 2, 1) := by decide +kernel
theorem dX1_mix_19 : decode cX1_mix 19 = .ok (.iaload, 1) := by decide +kernel
theorem dX1_mix_20 : decode cX1_mix 20 = .ok (.istore_n 3, 1) := by decide +kernel
theorem dX1_mix_21 : decode cX1_mix 21 = .ok (.aload_n 0, 1) := by decide +kernel
theorem dX1_mix_22 : decode cX1_mix 22 = .ok (.getfield 9, 3) := by decide +kernel
theorem dX1_mix_25 : decode cX1_mix 25 = .ok (.iconst 3, 1) := by decide +kernel
theorem dX1_mix_26 : decode cX1_mix 26 = .ok (.iaload, 1) := by decide +kernel
theorem dX1_mix_27 : decode cX1_mix 27 = .ok (.istore 4, 2) := by decide +kernel
theorem dX1_mix_29 : decode cX1_mix 29 = .ok (.aload_n 0, 1) := by decide +kernel
theorem dX1_mix_30 : decode cX1_mix 30 = .ok (.getfield 9, 3) := by decide +kernel
theorem dX1_mix_33 : decode cX1_mix 33 = .ok (.iconst 4, 1) := by decide +kernel
theorem dX1_mix_34 : decode cX1_mix 34 = .ok (.iaload, 1) := by decide +kernel
theorem dX1_mix_35 : decode cX1_mix 35 = .ok (.istore 5, 2) := by decide +kernel
theorem dX1_mix_37 : decode cX1_mix 37 = .ok (.aload_n 0, 1) := by decide +kernel
theorem dX1_mix_38 : decode cX1_mix 38 = .ok (.getfield 9, 3) := by decide +kernel
theorem dX1_mix_41 : decode cX1_mix 41 = .ok (.iconst 5, 1) := by decide +kernel
theorem dX1_mix_42 : decode cX1_mix 42 = .ok (.iaload, 1) := by decide +kernel
theorem dX1_mix_43 : decode cX1_mix 43 = .ok (.istore 6, 2) := by decide +kernel
theorem dX1_mix_45 : decode cX1_mix 45 = .ok (.aload_n 0, 1) := by decide +kernel
theorem dX1_mix_46 : decode cX1_mix 46 = .ok (.getfield 9, 3) := by decide +kernel
theorem dX1_mix_49 : decode cX1_mix 49 = .ok (.bipush 6, 2) := by decide +kernel
theorem dX1_mix_51 : decode cX1_mix 51 = .ok (.iaload, 1) := by decide +kernel
theorem dX1_mix_52 : decode cX1_mix 52 = .ok (.istore 7, 2) := by decide +kernel
theorem dX1_mix_54 : decode cX1_mix 54 = .ok (.aload_n 0, 1) := by decide +kernel
theorem dX1_mix_55 : decode cX1_mix 55 = .ok (.getfield 9, 3) := by decide +kernel
theorem dX1_mix_58 : decode cX1_mix 58 = .ok (.bipush 7, 2) := by decide +kernel
theorem dX1_mix_60 : decode cX1_mix 60 = .ok (.iaload, 1) := by decide +kernel
theorem dX1_mix_61 : decode cX1_mix 61 = .ok (.istore 8, 2) := by decide +kernel
theorem dX1_mix_63 : decode cX1_mix 63 = .ok (.iconst 0, 1) := by decide +kernel
theorem dX1_mix_64 : decode cX1_mix 64 = .ok (.istore 9, 2) := by decide +kernel
theorem dX1_mix_66 : decode cX1_mix 66 = .ok (.iload 9, 2) := by decide +kernel
theorem dX1_mix_68 : decode cX1_mix 68 = .ok (.bipush 64, 2) := by decide +kernel
theorem dX1_mix_70 : decode cX1_mix 70 = .ok (.if_icmp .ge 98, 3) := by decide +kernel
theorem dX1_mix_73 : decode cX1_mix 73 = .ok (.iload 8, 2) := by decide +kernel
theorem dX1_mix_75 : decode cX1_mix 75 = .ok (.iload 5, 2) := by decide +kernel
theorem dX1_mix_77 : decode cX1_mix 77 = .ok (.invokestatic 47, 3) := by decide +kernel
theorem dX1_mix_80 : decode cX1_mix 80 = .ok (.iadd, 1) := by decide +kernel
theorem dX1_mix_81 : decode cX1_mix 81 = .ok (.iload 5, 2) := by decide +kernel
theorem dX1_mix_83 : decode cX1_mix 83 = .ok (.iload 6, 2) := by decide +kernel
theorem dX1_mix_85 : decode cX1_mix 85 = .ok (.iand, 1) := by decide +kernel
theorem dX1_mix_86 : decode cX1_mix 86 = .ok (.iload 5, 2) := by decide +kernel
theorem dX1_mix_88 : decode cX1_mix 88 = .ok (.iconst (-1), 1) := by decide +kernel
theorem dX1_mix_89 : decode cX1_mix 89 = .ok (.ixor, 1) := by decide +kernel
theorem dX1_mix_90 : decode cX1_mix 90 = .ok (.iload 7, 2) := by decide +kernel
theorem dX1_mix_92 : decode cX1_mix 92 = .ok (.iand, 1) := by decide +kernel
theorem dX1_mix_93 : decode cX1_mix 93 = .ok (.ixor, 1) := by decide +kernel
theorem dX1_mix_94 : decode cX1_mix 94 = .ok (.iadd, 1) := by decide +kernel
theorem dX1_mix_95 : decode cX1_mix 95 = .ok (.getstatic 50, 3) := by decide +kernel
theorem dX1_mix_98 : decode cX1_mix 98 = .ok (.iload 9, 2) := by decide +kernel
theorem dX1_mix_100 : decode cX1_mix 100 = .ok (.iaload, 1) := by decide +kernel
theorem dX1_mix_101 : decode cX1_mix 101 = .ok (.iadd, 1) := by decide +kernel
theorem dX1_mix_102 : decode cX1_mix 102 = .ok (.aload_n 0, 1) := by decide +kernel
theorem dX1_mix_103 : decode cX1_mix 103 = .ok (.getfield 15, 3) := by decide +kernel
theorem dX1_mix_106 : decode cX1_mix 106 = .ok (.iload 9, 2) := by decide +kernel
theorem dX1_mix_108 : decode cX1_mix 108 = .ok (.iaload, 1) := by decide +kernel
theorem dX1_mix_109 : decode cX1_mix 109 = .ok (.iadd, 1) := by decide +kernel
theorem dX1_mix_110 : decode cX1_mix 110 = .ok (.istore 10, 2) := by decide +kernel
theorem dX1_mix_112 : decode cX1_mix 112 = .ok (.iload_n 1, 1) := by decide +kernel
theorem dX1_mix_113 : decode cX1_mix 113 = .ok (.invokestatic 53, 3) := by decide +kernel
theorem dX1_mix_116 : decode cX1_mix 116 = .ok (.iload_n 1, 1) := by decide +kernel
theorem dX1_mix_117 : decode cX1_mix 117 = .ok (.iload_n 2, 1) := by decide +kernel
theorem dX1_mix_118 : decode cX1_mix 118 = .ok (.iand, 1) := by decide +kernel
theorem dX1_mix_119 : decode cX1_mix 119 = .ok (.iload_n 1, 1) := by decide +kernel
theorem dX1_mix_120 : decode cX1_mix 120 = .ok (.iload_n 3, 1) := by decide +kernel
theorem dX1_mix_121 : decode cX1_mix 121 = .ok (.iand, 1) := by decide +kernel
theorem dX1_mix_122 : decode cX1_mix 122 = .ok (.ixor, 1) := by decide +kernel
theorem dX1_mix_123 : decode cX1_mix 123 = .ok (.iload_n 2, 1) := by decide +kernel
theorem dX1_mix_124 : decode cX1_mix 124 = .ok (.iload_n 3, 1) := by decide +kernel
theorem dX1_mix_125 : decode cX1_mix 125 = .ok (.iand, 1) := by decide +kernel
theorem dX1_mix_126 : decode cX1_mix 126 = .ok (.ixor, 1) := by decide +kernel
theorem dX1_mix_127 : decode cX1_mix 127 = .ok (.iadd, 1) := by decide +kernel
theorem dX1_mix_128 : decode cX1_mix 128 = .ok (.istore 11, 2) := by decide +kernel
theorem dX1_mix_130 : decode cX1_mix 130 = .ok (.iload 7, 2) := by decide +kernel
theorem dX1_mix_132 : decode cX1_mix 132 = .ok (.istore 8, 2) := by decide +kernel
theorem dX1_mix_134 : decode cX1_mix 134 = .ok (.iload 6, 2) := by decide +kernel
theorem dX1_mix_136 : decode cX1_mix 136 = .ok (.istore 7, 2) := by decide +kernel
theorem dX1_mix_138 : decode cX1_mix 138 = .ok (.iload 5, 2) := by decide +kernel
theorem dX1_mix_140 : decode cX1_mix 140 = .ok (.istore 6, 2) := by decide +kernel
theorem dX1_mix_142 : decode cX1_mix 142 = .ok (.iload 4, 2) := by decide +kernel
theorem dX1_mix_144 : decode cX1_mix 144 = .ok (.iload 10, 2) := by decide +kernel
theorem dX1_mix_146 : decode cX1_mix 146 = .ok (.iadd, 1) := by decide +kernel
theorem dX1_mix_147 : decode cX1_mix 147 = .ok (.istore 5, 2) := by decide +kernel
theorem dX1_mix_149 : decode cX1_mix 149 = .ok (.iload_n 3, 1) := by decide +kernel
theorem dX1_mix_150 : decode cX1_mix 150 = .ok (.istore 4, 2) := by decide +kernel
theorem dX1_mix_152 : decode cX1_mix 152 = .ok (.iload_n 2, 1) := by decide +kernel
theorem dX1_mix_153 : decode cX1_mix 153 = .ok (.istore_n 3, 1) := by decide +kernel
theorem dX1_mix_154 : decode cX1_mix 154 = .ok (.iload_n 1, 1) := by decide +kernel
theorem dX1_mix_155 : decode cX1_mix 155 = .ok (.istore_n 2, 1) := by decide +kernel
theorem dX1_mix_156 : decode cX1_mix 156 = .ok (.iload 10, 2) := by decide +kernel
theorem dX1_mix_158 : decode cX1_mix 158 = .ok (.iload 11, 2) := by decide +kernel
theorem dX1_mix_160 : decode cX1_mix 160 = .ok (.iadd, 1) := by decide +kernel
theorem dX1_mix_161 : decode cX1_mix 161 = .ok (.istore_n 1, 1) := by decide +kernel
theorem dX1_mix_162 : decode cX1_mix 162 = .ok (.iinc 9 1, 3) := by decide +kernel
theorem dX1_mix_165 : decode cX1_mix 165 = .ok (.goto (-99), 3) := by decide +kernel
theorem dX1_mix_168 : decode cX1_mix 168 = .ok (.aload_n 0, 1) := by decide +kernel
theorem dX1_mix_169 : decode cX1_mix 169 = .ok (.getfield 9, 3) := by decide +kernel
theorem dX1_mix_172 : decode cX1_mix 172 = .ok (.iconst 0, 1) := by decide +kernel
theorem dX1_mix_173 : decode cX1_mix 173 = .ok (.dup2, 1) := by decide +kernel
theorem dX1_mix_174 : decode cX1_mix 174 = .ok (.iaload, 1) := by decide +kernel
theorem dX1_mix_175 : decode cX1_mix 175 = .ok (.iload_n 1, 1) := by decide +kernel
theorem dX1_mix_176 : decode cX1_mix 176 = .ok (.iadd, 1) := by decide +kernel
theorem dX1_mix_177 : decode cX1_mix 177 = .ok (.iastore, 1) := by decide +kernel
theorem dX1_mix_178 : decode cX1_mix 178 = .ok (.aload_n 0, 1) := by decide +kernel
theorem dX1_mix_179 : decode cX1_mix 179 = .ok (.getfield 9, 3) := by decide +kernel
theorem dX1_mix_182 : decode cX1_mix 182 = .ok (.iconst 1, 1) := by decide +kernel
theorem dX1_mix_183 : decode cX1_mix 183 = .ok (.dup2, 1) := by decide +kernel
theorem dX1_mix_184 : decode cX1_mix 184 = .ok (.iaload, 1) := by decide +kernel
theorem dX1_mix_185 : decode cX1_mix 185 = .ok (.iload_n 2, 1) := by decide +kernel
theorem dX1_mix_186 : decode cX1_mix 186 = .ok (.iadd, 1) := by decide +kernel
theorem dX1_mix_187 : decode cX1_mix 187 = .ok (.iastore, 1) := by decide +kernel
theorem dX1_mix_188 : decode cX1_mix 188 = .ok (.aload_n 0, 1) := by decide +kernel
theorem dX1_mix_189 : decode cX1_mix 189 = .ok (.getfield 9, 3) := by decide +kernel
theorem dX1_mix_192 : decode cX1_mix 192 = .ok (.iconst 2, 1) := by decide +kernel
theorem dX1_mix_193 : decode cX1_mix 193 = .ok (.dup2, 1) := by decide +kernel
theorem dX1_mix_194 : decode cX1_mix 194 = .ok (.iaload, 1) := by decide +kernel
theorem dX1_mix_195 : decode cX1_mix 195 = .ok (.iload_n 3, 1) := by decide +kernel
theorem dX1_mix_196 : decode cX1_mix 196 = .ok (.iadd, 1) := by decide +kernel
theorem dX1_mix_197 : decode cX1_mix 197 = .ok (.iastore, 1) := by decide +kernel
theorem dX1_mix_198 : decode cX1_mix 198 = .ok (.aload_n 0, 1) := by decide +kernel
theorem dX1_mix_199 : decode cX1_mix 199 = .ok (.getfield 9, 3) := by decide +kernel
theorem dX1_mix_202 : decode cX1_mix 202 = .ok (.iconst 3, 1) := by decide +kernel
theorem dX1_mix_203 : decode cX1_mix 203 = .ok (.dup2, 1) := by decide +kernel
theorem dX1_mix_204 : decode cX1_mix 204 = .ok (.iaload, 1) := by decide +kernel
theorem dX1_mix_205 : decode cX1_mix 205 = .ok (.iload 4, 2) := by decide +kernel
theorem dX1_mix_207 : decode cX1_mix 207 = .ok (.iadd, 1) := by decide +kernel
theorem dX1_mix_208 : decode cX1_mix 208 = .ok (.iastore, 1) := by decide +kernel
theorem dX1_mix_209 : decode cX1_mix 209 = .ok (.aload_n 0, 1) := by decide +kernel
theorem dX1_mix_210 : decode cX1_mix 210 = .ok (.getfield 9, 3) := by decide +kernel
theorem dX1_mix_213 : decode cX1_mix 213 = .ok (.iconst 4, 1) := by decide +kernel
theorem dX1_mix_214 : decode cX1_mix 214 = .ok (.dup2, 1) := by decide +kernel
theorem dX1_mix_215 : decode cX1_mix 215 = .ok (.iaload, 1) := by decide +kernel
theorem dX1_mix_216 : decode cX1_mix 216 = .ok (.iload 5, 2) := by decide +kernel
theorem dX1_mix_218 : decode cX1_mix 218 = .ok (.iadd, 1) := by decide +kernel
theorem dX1_mix_219 : decode cX1_mix 219 = .ok (.iastore, 1) := by decide +kernel
theorem dX1_mix_220 : decode cX1_mix 220 = .ok (.aload_n 0, 1) := by decide +kernel
theorem dX1_mix_221 : decode cX1_mix 221 = .ok (.getfield 9, 3) := by decide +kernel
theorem dX1_mix_224 : decode cX1_mix 224 = .ok (.iconst 5, 1) := by decide +kernel
theorem dX1_mix_225 : decode cX1_mix 225 = .ok (.dup2, 1) := by decide +kernel
theorem dX1_mix_226 : decode cX1_mix 226 = .ok (.iaload, 1) := by decide +kernel
theorem dX1_mix_227 : decode cX1_mix 227 = .ok (.iload 6, 2) := by decide +kernel
theorem dX1_mix_229 : decode cX1_mix 229 = .ok (.iadd, 1) := by decide +kernel
theorem dX1_mix_230 : decode cX1_mix 230 = .ok (.iastore, 1) := by decide +kernel
theorem dX1_mix_231 : decode cX1_mix 231 = .ok (.aload_n 0, 1) := by decide +kernel
theorem dX1_mix_232 : decode cX1_mix 232 = .ok (.getfield 9, 3) := by decide +kernel
theorem dX1_mix_235 : decode cX1_mix 235 = .ok (.bipush 6, 2) := by decide +kernel
theorem dX1_mix_237 : decode cX1_mix 237 = .ok (.dup2, 1) := by decide +kernel
theorem dX1_mix_238 : decode cX1_mix 238 = .ok (.iaload, 1) := by decide +kernel
theorem dX1_mix_239 : decode cX1_mix 239 = .ok (.iload 7, 2) := by decide +kernel
theorem dX1_mix_241 : decode cX1_mix 241 = .ok (.iadd, 1) := by decide +kernel
theorem dX1_mix_242 : decode cX1_mix 242 = .ok (.iastore, 1) := by decide +kernel
theorem dX1_mix_243 : decode cX1_mix 243 = .ok (.aload_n 0, 1) := by decide +kernel
theorem dX1_mix_244 : decode cX1_mix 244 = .ok (.getfield 9, 3) := by decide +kernel
theorem dX1_mix_247 : decode cX1_mix 247 = .ok (.bipush 7, 2) := by decide +kernel
theorem dX1_mix_249 : decode cX1_mix 249 = .ok (.dup2, 1) := by decide +kernel
theorem dX1_mix_250 : decode cX1_mix 250 = .ok (.iaload, 1) := by decide +kernel
theorem dX1_mix_251 : decode cX1_mix 251 = .ok (.iload 8, 2) := by decide +kernel
theorem dX1_mix_253 : decode cX1_mix 253 = .ok (.iadd, 1) := by decide +kernel
theorem dX1_mix_254 : decode cX1_mix 254 = .ok (.iastore, 1) := by decide +kernel
theorem dX1_mix_255 : decode cX1_mix 255 = .ok (.return_, 1) := by decide +kernel
theorem dX1_smallSigma0_0 : decode cX1_smallSigma0 0 = .ok (.iload_n 0, 1) := by decide +kernel
theorem dX1_smallSigma0_1 : decode cX1_smallSigma0 1 = .ok (.bipush 7, 2) := by decide +kernel
theorem dX1_smallSigma0_3 : decode cX1_smallSigma0 3 = .ok (.iushr, 1) := by decide +kernel
theorem dX1_smallSigma0_4 : decode cX1_smallSigma0 4 = .ok (.iload_n 0, 1) := by decide +kernel
theorem dX1_smallSigma0_5 : decode cX1_smallSigma0 5 = .ok (.bipush 25, 2) := by decide +kernel
theorem dX1_smallSigma0_7 : decode cX1_smallSigma0 7 = .ok (.ishl, 1) := by decide +kernel
theorem dX1_smallSigma0_8 : decode cX1_smallSigma0 8 = .ok (.ior, 1) := by decide +kernel
theorem dX1_smallSigma0_9 : decode cX1_smallSigma0 9 = .ok (.iload_n 0, 1) := by decide +kernel
theorem dX1_smallSigma0_10 : decode cX1_smallSigma0 10 = .ok (.bipush 18, 2) := by decide +kernel
theorem dX1_smallSigma0_12 : decode cX1_smallSigma0 12 = .ok (.iushr, 1) := by decide +kernel
theorem dX1_smallSigma0_13 : decode cX1_smallSigma0 13 = .ok (.iload_n 0, 1) := by decide +kernel
theorem dX1_smallSigma0_14 : decode cX1_smallSigma0 14 = .ok (.bipush 14, 2) := by decide +kernel
theorem dX1_smallSigma0_16 : decode cX1_smallSigma0 16 = .ok (.ishl, 1) := by decide +kernel
theorem dX1_smallSigma0_17 : decode cX1_smallSigma0 17 = .ok (.ior, 1) := by decide +kernel
theorem dX1_smallSigma0_18 : decode cX1_smallSigma0 18 = .ok (.ixor, 1) := by decide +kernel
theorem dX1_smallSigma0_19 : decode cX1_smallSigma0 19 = .ok (.iload_n 0, 1) := by decide +kernel
theorem dX1_smallSigma0_20 : decode cX1_smallSigma0 20 = .ok (.iconst 3, 1) := by decide +kernel
theorem dX1_smallSigma0_21 : decode cX1_smallSigma0 21 = .ok (.iushr, 1) := by decide +kernel
theorem dX1_smallSigma0_22 : decode cX1_smallSigma0 22 = .ok (.ixor, 1) := by decide +kernel
theorem dX1_smallSigma0_23 : decode cX1_smallSigma0 23 = .ok (.ireturn, 1) := by decide +kernel
theorem dX1_smallSigma1_0 : decode cX1_smallSigma1 0 = .ok (.iload_n 0, 1) := by decide +kernel
theorem dX1_smallSigma1_1 : decode cX1_smallSigma1 1 = .ok (.bipush 17, 2) := by decide +kernel
theorem dX1_smallSigma1_3 : decode cX1_smallSigma1 3 = .ok (.iushr, 1) := by decide +kernel
theorem dX1_smallSigma1_4 : decode cX1_smallSigma1 4 = .ok (.iload_n 0, 1) := by decide +kernel
theorem dX1_smallSigma1_5 : decode cX1_smallSigma1 5 = .ok (.bipush 15, 2) := by decide +kernel
theorem dX1_smallSigma1_7 : decode cX1_smallSigma1 7 = .ok (.ishl, 1) := by decide +kernel
theorem dX1_smallSigma1_8 : decode cX1_smallSigma1 8 = .ok (.ior, 1) := by decide +kernel
theorem dX1_smallSigma1_9 : decode cX1_smallSigma1 9 = .ok (.iload_n 0, 1) := by decide +kernel
theorem dX1_smallSigma1_10 : decode cX1_smallSigma1 10 = .ok (.bipush 19, 2) := by decide +kernel
theorem dX1_smallSigma1_12 : decode cX1_smallSigma1 12 = .ok (.iushr, 1) := by decide +kernel
theorem dX1_smallSigma1_13 : decode cX1_smallSigma1 13 = .ok (.iload_n 0, 1) := by decide +kernel
theorem dX1_smallSigma1_14 : decode cX1_smallSigma1 14 = .ok (.bipush 13, 2) := by decide +kernel
theorem dX1_smallSigma1_16 : decode cX1_smallSigma1 16 = .ok (.ishl, 1) := by decide +kernel
theorem dX1_smallSigma1_17 : decode cX1_smallSigma1 17 = .ok (.ior, 1) := by decide +kernel
theorem dX1_smallSigma1_18 : decode cX1_smallSigma1 18 = .ok (.ixor, 1) := by decide +kernel
theorem dX1_smallSigma1_19 : decode cX1_smallSigma1 19 = .ok (.iload_n 0, 1) := by decide +kernel
theorem dX1_smallSigma1_20 : decode cX1_smallSigma1 20 = .ok (.bipush 10, 2) := by decide +kernel
theorem dX1_smallSigma1_22 : decode cX1_smallSigma1 22 = .ok (.iushr, 1) := by decide +kernel
theorem dX1_smallSigma1_23 : decode cX1_smallSigma1 23 = .ok (.ixor, 1) := by decide +kernel
theorem dX1_smallSigma1_24 : decode cX1_smallSigma1 24 = .ok (.ireturn, 1) := by decide +kernel
theorem dX1_bigSigma0_0 : decode cX1_bigSigma0 0 = .ok (.iload_n 0, 1) := by decide +kernel
theorem dX1_bigSigma0_1 : decode cX1_bigSigma0 1 = .ok (.iconst 2, 1) := by decide +kernel
theorem dX1_bigSigma0_2 : decode cX1_bigSigma0 2 = .ok (.iushr, 1) := by decide +kernel
theorem dX1_bigSigma0_3 : decode cX1_bigSigma0 3 = .ok (.iload_n 0, 1) := by decide +kernel
theorem dX1_bigSigma0_4 : decode cX1_bigSigma0 4 = .ok (.bipush 30, 2) := by decide +kernel
theorem dX1_bigSigma0_6 : decode cX1_bigSigma0 6 = .ok (.ishl, 1) := by decide +kernel
theorem dX1_bigSigma0_7 : decode cX1_bigSigma0 7 = .ok (.ior, 1) := by decide +kernel
theorem dX1_bigSigma0_8 : decode cX1_bigSigma0 8 = .ok (.iload_n 0, 1) := by decide +kernel
theorem dX1_bigSigma0_9 : decode cX1_bigSigma0 9 = .ok (.bipush 13, 2) := by decide +kernel
theorem dX1_bigSigma0_11 : decode cX1_bigSigma0 11 = .ok (.iushr, 1) := by decide +kernel
theorem dX1_bigSigma0_12 : decode cX1_bigSigma0 12 = .ok (.iload_n 0, 1) := by decide +kernel
theorem dX1_bigSigma0_13 : decode cX1_bigSigma0 13 = .ok (.bipush 19, 2) := by decide +kernel
theorem dX1_bigSigma0_15 : decode cX1_bigSigma0 15 = .ok (.ishl, 1) := by decide +kernel
theorem dX1_bigSigma0_16 : decode cX1_bigSigma0 16 = .ok (.ior, 1) := by decide +kernel
theorem dX1_bigSigma0_17 : decode cX1_bigSigma0 17 = .ok (.ixor, 1) := by decide +kernel
theorem dX1_bigSigma0_18 : decode cX1_bigSigma0 18 = .ok (.iload_n 0, 1) := by decide +kernel
theorem dX1_bigSigma0_19 : decode cX1_bigSigma0 19 = .ok (.bipush 22, 2) := by decide +kernel
theorem dX1_bigSigma0_21 : decode cX1_bigSigma0 21 = .ok (.iushr, 1) := by decide +kernel
theorem dX1_bigSigma0_22 : decode cX1_bigSigma0 22 = .ok (.iload_n 0, 1) := by decide +kernel
theorem dX1_bigSigma0_23 : decode cX1_bigSigma0 23 = .ok (.bipush 10, 2) := by decide +kernel
theorem dX1_bigSigma0_25 : decode cX1_bigSigma0 25 = .ok (.ishl, 1) := by decide +kernel
theorem dX1_bigSigma0_26 : decode cX1_bigSigma0 26 = .ok (.ior, 1) := by decide +kernel
theorem dX1_bigSigma0_27 : decode cX1_bigSigma0 27 = .ok (.ixor, 1) := by decide +kernel
theorem dX1_bigSigma0_28 : decode cX1_bigSigma0 28 = .ok (.ireturn, 1) := by decide +kernel
theorem dX1_bigSigma1_0 : decode cX1_bigSigma1 0 = .ok (.iload_n 0, 1) := by decide +kernel
theorem dX1_bigSigma1_1 : decode cX1_bigSigma1 1 = .ok (.bipush 6, 2) := by decide +kernel
theorem dX1_bigSigma1_3 : decode cX1_bigSigma1 3 = .ok (.iushr, 1) := by decide +kernel
theorem dX1_bigSigma1_4 : decode cX1_bigSigma1 4 = .ok (.iload_n 0, 1) := by decide +kernel
theorem dX1_bigSigma1_5 : decode cX1_bigSigma1 5 = .ok (.bipush 26, 2) := by decide +kernel
theorem dX1_bigSigma1_7 : decode cX1_bigSigma1 7 = .ok (.ishl, 1) := by decide +kernel
theorem dX1_bigSigma1_8 : decode cX1_bigSigma1 8 = .ok (.ior, 1) := by decide +kernel
theorem dX1_bigSigma1_9 : decode cX1_bigSigma1 9 = .ok (.iload_n 0, 1) := by decide +kernel
theorem dX1_bigSigma1_10 : decode cX1_bigSigma1 10 = .ok (.bipush 11, 2) := by decide +kernel
theorem dX1_bigSigma1_12 : decode cX1_bigSigma1 12 = .ok (.iushr, 1) := by decide +kernel
theorem dX1_bigSigma1_13 : decode cX1_bigSigma1 13 = .ok (.iload_n 0, 1) := by decide +kernel
theorem dX1_bigSigma1_14 : decode cX1_bigSigma1 14 = .ok (.bipush 21, 2) := by decide +kernel
theorem dX1_bigSigma1_16 : decode cX1_bigSigma1 16 = .ok (.ishl, 1) := by decide +kernel
theorem dX1_bigSigma1_17 : decode cX1_bigSigma1 17 = .ok (.ior, 1) := by decide +kernel
theorem dX1_bigSigma1_18 : decode cX1_bigSigma1 18 = .ok (.ixor, 1) := by decide +kernel
theorem dX1_bigSigma1_19 : decode cX1_bigSigma1 19 = .ok (.iload_n 0, 1) := by decide +kernel
theorem dX1_bigSigma1_20 : decode cX1_bigSigma1 20 = .ok (.bipush 25, 2) := by decide +kernel
theorem dX1_bigSigma1_22 : decode cX1_bigSigma1 22 = .ok (.iushr, 1) := by decide +kernel
theorem dX1_bigSigma1_23 : decode cX1_bigSigma1 23 = .ok (.iload_n 0, 1) := by decide +kernel
theorem dX1_bigSigma1_24 : decode cX1_bigSigma1 24 = .ok (.bipush 7, 2) := by decide +kernel
theorem dX1_bigSigma1_26 : decode cX1_bigSigma1 26 = .ok (.ishl, 1) := by decide +kernel
theorem dX1_bigSigma1_27 : decode cX1_bigSigma1 27 = .ok (.ior, 1) := by decide +kernel
theorem dX1_bigSigma1_28 : decode cX1_bigSigma1 28 = .ok (.ixor, 1) := by decide +kernel
theorem dX1_bigSigma1_29 : decode cX1_bigSigma1 29 = .ok (.ireturn, 1) := by decide +kernel
theorem dX2_init_0 : decode cX2_init 0 = .ok (.aload_n 0, 1) := by decide +kernel
theorem dX2_init_1 : decode cX2_init 1 = .ok (.invokespecial 3, 3) := by decide +kernel
theorem dX2_init_4 : decode cX2_init 4 = .ok (.aload_n 0, 1) := by decide +kernel
theorem dX2_init_5 : decode cX2_init 5 = .ok (.sipush 200, 3) := by decide +kernel
theorem dX2_init_8 : decode cX2_init 8 = .ok (.newarray .int, 2) := by decide +kernel
theorem dX2_init_10 : decode cX2_init 10 = .ok (.putfield 9, 3) := by decide +kernel
theorem dX2_init_13 : decode cX2_init 13 = .ok (.return_, 1) := by decide +kernel
theorem dX2_count_0 : decode cX2_count 0 = .ok (.aload_n 0, 1) := by decide +kernel
theorem dX2_count_1 : decode cX2_count 1 = .ok (.getfield 15, 3) := by decide +kernel
theorem dX2_count_4 : decode cX2_count 4 = .ok (.ireturn, 1) := by decide +kernel
theorem dX2_has_0 : decode cX2_has 0 = .ok (.iload_n 1, 1) := by decide +kernel
theorem dX2_has_1 : decode cX2_has 1 = .ok (.ifCond .lt 15, 3) := by decide +kernel
theorem dX2_has_4 : decode cX2_has 4 = .ok (.iload_n 1, 1) := by decide +kernel
theorem dX2_has_5 : decode cX2_has 5 = .ok (.aload_n 0, 1) := by decide +kernel
theorem dX2_has_6 : decode cX2_has 6 = .ok (.getfield 15, 3) := by decide +kernel
theorem dX2_has_9 : decode cX2_has 9 = .ok (.if_icmp .ge 7, 3) := by decide +kernel
theorem dX2_has_12 : decode cX2_has 12 = .ok (.iconst 1, 1) := by decide +kernel
theorem dX2_has_13 : decode cX2_has 13 = .ok (.goto 4, 3) := by decide +kernel
theorem dX2_has_16 : decode cX2_has 16 = .ok (.iconst 0, 1) := by decide +kernel
theorem dX2_has_17 : decode cX2_has 17 = .ok (.ireturn, 1) := by decide +kernel
theorem dX2_value_0 : decode cX2_value 0 = .ok (.iload_n 1, 1) := by decide +kernel
theorem dX2_value_1 : decode cX2_value 1 = .ok (.ifCond .lt 20, 3) := by decide +kernel
theorem dX2_value_4 : decode cX2_value 4 = .ok (.iload_n 1, 1) := by decide +kernel
theorem dX2_value_5 : decode cX2_value 5 = .ok (.aload_n 0, 1) := by decide +kernel
theorem dX2_value_6 : decode cX2_value 6 = .ok (.getfield 15, 3) := by decide +kernel
theorem dX2_value_9 : decode cX2_value 9 = .ok (.if_icmp .ge 12, 3) := by decide +kernel
theorem dX2_value_12 : decode cX2_value 12 = .ok (.aload_n 0, 1) := by decide +kernel
theorem dX2_value_13 : decode cX2_value 13 = .ok (.getfield 9, 3) := by decide +kernel
theorem dX2_value_16 : decode cX2_value 16 = .ok (.iload_n 1, 1) := by decide +kernel
theorem dX2_value_17 : decode cX2_value 17 = .ok (.iaload, 1) := by decide +kernel
theorem dX2_value_18 : decode cX2_value 18 = .ok (.goto 4, 3) := by decide +kernel
theorem dX2_value_21 : decode cX2_value 21 = .ok (.iconst 0, 1) := by decide +kernel
theorem dX2_value_22 : decode cX2_value 22 = .ok (.ireturn, 1) := by decide +kernel
theorem dX2_push_0 : decode cX2_push 0 = .ok (.aload_n 0, 1) := by decide +kernel
theorem dX2_push_1 : decode cX2_push 1 = .ok (.getfield 15, 3) := by decide +kernel
theorem dX2_push_4 : decode cX2_push 4 = .ok (.sipush 200, 3) := by decide +kernel
theorem dX2_push_7 : decode cX2_push 7 = .ok (.if_icmp .ge 27, 3) := by decide +kernel
theorem dX2_push_10 : decode cX2_push 10 = .ok (.aload_n 0, 1) := by decide +kernel
theorem dX2_push_11 : decode cX2_push 11 = .ok (.getfield 9, 3) := by decide +kernel
theorem dX2_push_14 : decode cX2_push 14 = .ok (.aload_n 0, 1) := by decide +kernel
theorem dX2_push_15 : decode cX2_push 15 = .ok (.getfield 15, 3) := by decide +kernel
theorem dX2_push_18 : decode cX2_push 18 = .ok (.iload_n 1, 1) := by decide +kernel
theorem dX2_push_19 : decode cX2_push 19 = .ok (.sipush 255, 3) := by decide +kernel
theorem dX2_push_22 : decode cX2_push 22 = .ok (.iand, 1) := by decide +kernel
theorem dX2_push_23 : decode cX2_push 23 = .ok (.iastore, 1) := by decide +kernel
theorem dX2_push_24 : decode cX2_push 24 = .ok (.aload_n 0, 1) := by decide +kernel
theorem dX2_push_25 : decode cX2_push 25 = .ok (.dup, 1) := by decide +kernel
theorem dX2_push_26 : decode cX2_push 26 = .ok (.getfield 15, 3) := by decide +kernel
theorem dX2_push_29 : decode cX2_push 29 = .ok (.iconst 1, 1) := by decide +kernel
theorem dX2_push_30 : decode cX2_push 30 = .ok (.iadd, 1) := by decide +kernel
theorem dX2_push_31 : decode cX2_push 31 = .ok (.putfield 15, 3) := by decide +kernel
theorem dX2_push_34 : decode cX2_push 34 = .ok (.return_, 1) := by decide +kernel
set_option maxRecDepth 20000 in
theorem ggX2_pushWord_X2_push : GoodIn wsX2_pushWord wsX2_push := goodIn_r _ [5, 6, 7, 8, 9] (by decide +kernel) (by decide +kernel)
set_option maxRecDepth 20000 in
theorem gX2_pushWord_X2_push : GoodIn wsX2_pushWord (wsV RX2 19 RX2 yX2_push wsX2_push) := goodIn_app (goodIn_of _ (by decide +kernel)) ggX2_pushWord_X2_push
theorem dX2_pushWord_0 : decode cX2_pushWord 0 = .ok (.bipush 24, 2) := by decide +kernel
theorem dX2_pushWord_2 : decode cX2_pushWord 2 = .ok (.istore_n 2, 1) := by decide +kernel
theorem dX2_pushWord_3 : decode cX2_pushWord 3 = .ok (.iload_n 2, 1) := by decide +kernel
theorem dX2_pushWord_4 : decode cX2_pushWord 4 = .ok (.ifCond .lt 16, 3) := by decide +kernel
theorem dX2_pushWord_7 : decode cX2_pushWord 7 = .ok (.aload_n 0, 1) := by decide +kernel
theorem dX2_pushWord_8 : decode cX2_pushWord 8 = .ok (.iload_n 1, 1) := by decide +kernel
theorem dX2_pushWord_9 : decode cX2_pushWord 9 = .ok (.iload_n 2, 1) := by decide +kernel
theorem dX2_pushWord_10 : decode cX2_pushWord 10 = .ok (.iushr, 1) := by decide +kernel
theorem dX2_pushWord_11 : decode cX2_pushWord 11 = .ok (.invokevirtual 19, 3) := by decide +kernel
theorem dX2_pushWord_14 : decode cX2_pushWord 14 = .ok (.iinc 2 (-8), 3) := by decide +kernel
theorem dX2_pushWord_17 : decode cX2_pushWord 17 = .ok (.goto (-14), 3) := by decide +kernel
theorem dX2_pushWord_20 : decode cX2_pushWord 20 = .ok (.return_, 1) := by decide +kernel
set_option maxRecDepth 20000 in
theorem ggX2_replace_X2_has : GoodIn wsX2_replace wsX2_has := goodIn_r _ [6, 7, 8, 9] (by decide +kernel) (by decide +kernel)
set_option maxRecDepth 20000 in
theorem gX2_replace_X2_has : GoodIn wsX2_replace (wsV RX2 23 RX2 yX2_has wsX2_has) := goodIn_app (goodIn_of _ (by decide +kernel)) ggX2_replace_X2_has
theorem dX2_replace_0 : decode cX2_replace 0 = .ok (.aload_n 0, 1) := by decide +kernel
theorem dX2_replace_1 : decode cX2_replace 1 = .ok (.iload_n 1, 1) := by decide +kernel
theorem dX2_replace_2 : decode cX2_replace 2 = .ok (.invokevirtual 23, 3) := by decide +kernel
theorem dX2_replace_5 : decode cX2_replace 5 = .ok (.ifCond .eq 14, 3) := by decide +kernel
theorem dX2_replace_8 : decode cX2_replace 8 = .ok (.aload_n 0, 1) := by decide +kernel
theorem dX2_replace_9 : decode cX2_replace 9 = .ok (.getfield 9, 3) := by decide +kernel
theorem dX2_replace_12 : decode cX2_replace 12 = .ok (.iload_n 1, 1) := by decide +kernel
theorem dX2_replace_13 : decode cX2_replace 13 = .ok (.iload_n 2, 1) := by decide +kernel
theorem dX2_replace_14 : decode cX2_replace 14 = .ok (.sipush 255, 3) := by decide +kernel
theorem dX2_replace_17 : decode cX2_replace 17 = .ok (.iand, 1) := by decide +kernel
theorem dX2_replace_18 : decode cX2_replace 18 = .ok (.iastore, 1) := by decide +kernel
theorem dX2_replace_19 : decode cX2_replace 19 = .ok (.return_, 1) := by decide +kernel
theorem dX2_shorten_0 : decode cX2_shorten 0 = .ok (.iload_n 1, 1) := by decide +kernel
theorem dX2_shorten_1 : decode cX2_shorten 1 = .ok (.ifCond .lt 16, 3) := by decide +kernel
theorem dX2_shorten_4 : decode cX2_shorten 4 = .ok (.iload_n 1, 1) := by decide +kernel
theorem dX2_shorten_5 : decode cX2_shorten 5 = .ok (.aload_n 0, 1) := by decide +kernel
theorem dX2_shorten_6 : decode cX2_shorten 6 = .ok (.getfield 15, 3) := by decide +kernel
theorem dX2_shorten_9 : decode cX2_shorten 9 = .ok (.if_icmp .ge 8, 3) := by decide +kernel
theorem dX2_shorten_12 : decode cX2_shorten 12 = .ok (.aload_n 0, 1) := by decide +kernel
theorem dX2_shorten_13 : decode cX2_shorten 13 = .ok (.iload_n 1, 1) := by decide +kernel
theorem dX2_shorten_14 : decode cX2_shorten 14 = .ok (.putfield 15, 3) := by decide +kernel
theorem dX2_shorten_17 : decode cX2_shorten 17 = .ok (.return_, 1) := by decide +kernel
theorem dX2_copyFrom_0 : decode cX2_copyFrom 0 = .ok (.aload_n 0, 1) := by decide +kernel
theorem dX2_copyFrom_1 : decode cX2_copyFrom 1 = .ok (.aload_n 1, 1) := by decide +kernel
theorem dX2_copyFrom_2 : decode cX2_copyFrom 2 = .ok (.getfield 15, 3) := by decide +kernel
theorem dX2_copyFrom_5 : decode cX2_copyFrom 5 = .ok (.putfield 15, 3) := by decide +kernel
theorem dX2_copyFrom_8 : decode cX2_copyFrom 8 = .ok (.iconst 0, 1) := by decide +kernel
theorem dX2_copyFrom_9 : decode cX2_copyFrom 9 = .ok (.istore_n 2, 1) := by decide +kernel
theorem dX2_copyFrom_10 : decode cX2_copyFrom 10 = .ok (.iload_n 2, 1) := by decide +kernel
theorem dX2_copyFrom_11 : decode cX2_copyFrom 11 = .ok (.aload_n 0, 1) := by decide +kernel
theorem dX2_copyFrom_12 : decode cX2_copyFrom 12 = .ok (.getfield 15, 3) := by decide +kernel
theorem dX2_copyFrom_15 : decode cX2_copyFrom 15 = .ok (.if_icmp .ge 21, 3) := by decide +kernel
theorem dX2_copyFrom_18 : decode cX2_copyFrom 18 = .ok (.aload_n 0, 1) := by decide +kernel
theorem dX2_copyFrom_19 : decode cX2_copyFrom 19 = .ok (.getfield 9, 3) := by decide +kernel
theorem dX2_copyFrom_22 : decode cX2_copyFrom 22 = .ok (.iload_n 2, 1) := by decide +kernel
theorem dX2_copyFrom_23 : decode cX2_copyFrom 23 = .ok (.aload_n 1, 1) := by decide +kernel
theorem dX2_copyFrom_24 : decode cX2_copyFrom 24 = .ok (.getfield 9, 3) := by decide +kernel
theorem dX2_copyFrom_27 : decode cX2_copyFrom 27 = .ok (.iload_n 2, 1) := by decide +kernel
theorem dX2_copyFrom_28 : decode cX2_copyFrom 28 = .ok (.iaload, 1) := by decide +kernel
theorem dX2_copyFrom_29 : decode cX2_copyFrom 29 = .ok (.iastore, 1) := by decide +kernel
theorem dX2_copyFrom_30 : decode cX2_copyFrom 30 = .ok (.iinc 2 1, 3) := by decide +kernel
theorem dX2_copyFrom_33 : decode cX2_copyFrom 33 = .ok (.goto (-23), 3) := by decide +kernel
theorem dX2_copyFrom_36 : decode cX2_copyFrom 36 = .ok (.return_, 1) := by decide +kernel
set_option maxRecDepth 20000 in
theorem ggX3_init_X1_init : GoodIn wsX3_init wsX1_init := goodIn_r _ [19, 20, 2, 3, 12, 21, 22, 27, 28] (by decide +kernel) (by decide +kernel)
set_option maxRecDepth 20000 in
theorem gX3_init_X1_init_n11 : GoodIn wsX3_init (wsX1_init) := ggX3_init_X1_init
set_option maxRecDepth 20000 in
theorem ggX3_init_X2_init : GoodIn wsX3_init wsX2_init := goodIn_r _ [24, 25, 2, 3, 12, 26, 36, 37] (by decide +kernel) (by decide +kernel)
set_option maxRecDepth 20000 in
theorem gX3_init_X2_init_n20 : GoodIn wsX3_init (wsX2_init) := ggX3_init_X2_init
theorem dX3_init_0 : decode cX3_init 0 = .ok (.aload_n 0, 1) := by decide +kernel
theorem dX3_init_1 : decode cX3_init 1 = .ok (.invokespecial 3, 3) := by decide +kernel
theorem dX3_init_4 : decode cX3_init 4 = .ok (.aload_n 0, 1) := by decide +kernel
theorem dX3_init_5 : decode cX3_init 5 = .ok (.new 9, 3) := by decide +kernel
theorem dX3_init_8 : decode cX3_init 8 = .ok (.dup, 1) := by decide +kernel
theorem dX3_init_9 : decode cX3_init 9 = .ok (.invokespecial 11, 3) := by decide +kernel
theorem dX3_init_12 : decode cX3_init 12 = .ok (.putfield 12, 3) := by decide +kernel
theorem dX3_init_15 : decode cX3_init 15 = .ok (.aload_n 0, 1) := by decide +kernel
theorem dX3_init_16 : decode cX3_init 16 = .ok (.new 18, 3) := by decide +kernel
theorem dX3_init_19 : decode cX3_init 19 = .ok (.dup, 1) := by decide +kernel
theorem dX3_init_20 : decode cX3_init 20 = .ok (.invokespecial 20, 3) := by decide +kernel
theorem dX3_init_23 : decode cX3_init 23 = .ok (.putfield 21, 3) := by decide +kernel
theorem dX3_init_26 : decode cX3_init 26 = .ok (.aload_n 0, 1) := by decide +kernel
theorem dX3_init_27 : decode cX3_init 27 = .ok (.sipush 200, 3) := by decide +kernel
theorem dX3_init_30 : decode cX3_init 30 = .ok (.newarray .int, 2) := by decide +kernel
theorem dX3_init_32 : decode cX3_init 32 = .ok (.putfield 25, 3) := by decide +kernel
theorem dX3_init_35 : decode cX3_init 35 = .ok (.aload_n 0, 1) := by decide +kernel
theorem dX3_init_36 : decode cX3_init 36 = .ok (.sipush 200, 3) := by decide +kernel
theorem dX3_init_39 : decode cX3_init 39 = .ok (.newarray .int, 2) := by decide +kernel
theorem dX3_init_41 : decode cX3_init 41 = .ok (.putfield 29, 3) := by decide +kernel
theorem dX3_init_44 : decode cX3_init 44 = .ok (.aload_n 0, 1) := by decide +kernel
theorem dX3_init_45 : decode cX3_init 45 = .ok (.sipush 200, 3) := by decide +kernel
theorem dX3_init_48 : decode cX3_init 48 = .ok (.newarray .int, 2) := by decide +kernel
theorem dX3_init_50 : decode cX3_init 50 = .ok (.putfield 32, 3) := by decide +kernel
theorem dX3_init_53 : decode cX3_init 53 = .ok (.aload_n 0, 1) := by decide +kernel
theorem dX3_init_54 : decode cX3_init 54 = .ok (.sipush 200, 3) := by decide +kernel
theorem dX3_init_57 : decode cX3_init 57 = .ok (.bipush 8, 2) := by decide +kernel
theorem dX3_init_59 : decode cX3_init 59 = .ok (.multianewarray 35 2, 4) := by decide +kernel
theorem dX3_init_63 : decode cX3_init 63 = .ok (.putfield 37, 3) := by decide +kernel
theorem dX3_init_66 : decode cX3_init 66 = .ok (.return_, 1) := by decide +kernel
theorem dX3_has_0 : decode cX3_has 0 = .ok (.iload_n 1, 1) := by decide +kernel
theorem dX3_has_1 : decode cX3_has 1 = .ok (.ifCond .lt 15, 3) := by decide +kernel
theorem dX3_has_4 : decode cX3_has 4 = .ok (.iload_n 1, 1) := by decide +kernel
theorem dX3_has_5 : decode cX3_has 5 = .ok (.aload_n 0, 1) := by decide +kernel
theorem dX3_has_6 : decode cX3_has 6 = .ok (.getfield 40, 3) := by decide +kernel
theorem dX3_has_9 : decode cX3_has 9 = .ok (.if_icmp .ge 7, 3) := by decide +kernel
theorem dX3_has_12 : decode cX3_has 12 = .ok (.iconst 1, 1) := by decide +kernel
theorem dX3_has_13 : decode cX3_has 13 = .ok (.goto 4, 3) := by decide +kernel
theorem dX3_has_16 : decode cX3_has 16 = .ok (.iconst 0, 1) := by decide +kernel
theorem dX3_has_17 : decode cX3_has 17 = .ok (.ireturn, 1) := by decide +kernel
set_option maxRecDepth 20000 in
theorem ggX3_kindOf_X3_has : GoodIn wsX3_kindOf wsX3_has := goodIn_r _ [6, 7, 8, 9, 10, 11, 12, 13, 14] (by decide +kernel) (by decide +kernel)
set_option maxRecDepth 20000 in
theorem gX3_kindOf_X3_has : GoodIn wsX3_kindOf (wsV RX3 44 RX3 yX3_has wsX3_has) := goodIn_app (goodIn_of _ (by decide +kernel)) ggX3_kindOf_X3_has
theorem dX3_kindOf_0 : decode cX3_kindOf 0 = .ok (.aload_n 0, 1) := by decide +kernel
theorem dX3_kindOf_1 : decode cX3_kindOf 1 = .ok (.iload_n 1, 1) := by decide +kernel
theorem dX3_kindOf_2 : decode cX3_kindOf 2 = .ok (.invokevirtual 44, 3) := by decide +kernel
theorem dX3_kindOf_5 : decode cX3_kindOf 5 = .ok (.ifCond .eq 12, 3) := by decide +kernel
theorem dX3_kindOf_8 : decode cX3_kindOf 8 = .ok (.aload_n 0, 1) := by decide +kernel
theorem dX3_kindOf_9 : decode cX3_kindOf 9 = .ok (.getfield 25, 3) := by decide +kernel
theorem dX3_kindOf_12 : decode cX3_kindOf 12 = .ok (.iload_n 1, 1) := by decide +kernel
theorem dX3_kindOf_13 : decode cX3_kindOf 13 = .ok (.iaload, 1) := by decide +kernel
theorem dX3_kindOf_14 : decode cX3_kindOf 14 = .ok (.goto 4, 3) := by decide +kernel
theorem dX3_kindOf_17 : decode cX3_kindOf 17 = .ok (.iconst (-1), 1) := by decide +kernel
theorem dX3_kindOf_18 : decode cX3_kindOf 18 = .ok (.ireturn, 1) := by decide +kernel
set_option maxRecDepth 20000 in
theorem ggX3_fileOf_X3_has : GoodIn wsX3_fileOf wsX3_has := goodIn_r _ [6, 7, 8, 9, 10, 11, 12, 13, 14] (by decide +kernel) (by decide +kernel)
set_option maxRecDepth 20000 in
theorem gX3_fileOf_X3_has : GoodIn wsX3_fileOf (wsV RX3 44 RX3 yX3_has wsX3_has) := goodIn_app (goodIn_of _ (by decide +kernel)) ggX3_fileOf_X3_has
theorem dX3_fileOf_0 : decode cX3_fileOf 0 = .ok (.aload_n 0, 1) := by decide +kernel
theorem dX3_fileOf_1 : decode cX3_fileOf 1 = .ok (.iload_n 1, 1) := by decide +kernel
theorem dX3_fileOf_2 : decode cX3_fileOf 2 = .ok (.invokevirtual 44, 3) := by decide +kernel
theorem dX3_fileOf_5 : decode cX3_fileOf 5 = .ok (.ifCond .eq 12, 3) := by decide +kernel
theorem dX3_fileOf_8 : decode cX3_fileOf 8 = .ok (.aload_n 0, 1) := by decide +kernel
theorem dX3_fileOf_9 : decode cX3_fileOf 9 = .ok (.getfield 29, 3) := by decide +kernel
theorem dX3_fileOf_12 : decode cX3_fileOf 12 = .ok (.iload_n 1, 1) := by decide +kernel
theorem dX3_fileOf_13 : decode cX3_fileOf 13 = .ok (.iaload, 1) := by decide +kernel
theorem dX3_fileOf_14 : decode cX3_fileOf 14 = .ok (.goto 4, 3) := by decide +kernel
theorem dX3_fileOf_17 : decode cX3_fileOf 17 = .ok (.iconst (-1), 1) := by decide +kernel
theorem dX3_fileOf_18 : decode cX3_fileOf 18 = .ok (.ireturn, 1) := by decide +kernel
set_option maxRecDepth 20000 in
theorem ggX3_dayOf_X3_has : GoodIn wsX3_dayOf wsX3_has := goodIn_r _ [6, 7, 8, 9, 10, 11, 12, 13, 14] (by decide +kernel) (by decide +kernel)
set_option maxRecDepth 20000 in
theorem gX3_dayOf_X3_has : GoodIn wsX3_dayOf (wsV RX3 44 RX3 yX3_has wsX3_has) := goodIn_app (goodIn_of _ (by decide +kernel)) ggX3_dayOf_X3_has
theorem dX3_dayOf_0 : decode cX3_dayOf 0 = .ok (.aload_n 0, 1) := by decide +kernel
theorem dX3_dayOf_1 : decode cX3_dayOf 1 = .ok (.iload_n 1, 1) := by decide +kernel
theorem dX3_dayOf_2 : decode cX3_dayOf 2 = .ok (.invokevirtual 44, 3) := by decide +kernel
theorem dX3_dayOf_5 : decode cX3_dayOf 5 = .ok (.ifCond .eq 12, 3) := by decide +kernel
theorem dX3_dayOf_8 : decode cX3_dayOf 8 = .ok (.aload_n 0, 1) := by decide +kernel
theorem dX3_dayOf_9 : decode cX3_dayOf 9 = .ok (.getfield 32, 3) := by decide +kernel
theorem dX3_dayOf_12 : decode cX3_dayOf 12 = .ok (.iload_n 1, 1) := by decide +kernel
theorem dX3_dayOf_13 : decode cX3_dayOf 13 = .ok (.iaload, 1) := by decide +kernel
theorem dX3_dayOf_14 : decode cX3_dayOf 14 = .ok (.goto 4, 3) := by decide +kernel
theorem dX3_dayOf_17 : decode cX3_dayOf 17 = .ok (.iconst (-1), 1) := by decide +kernel
theorem dX3_dayOf_18 : decode cX3_dayOf 18 = .ok (.ireturn, 1) := by decide +kernel
set_option maxRecDepth 20000 in
theorem ggX3_firstWordOf_X3_has : GoodIn wsX3_firstWordOf wsX3_has := goodIn_r _ [6, 7, 8, 9, 10, 11, 12, 13, 14] (by decide +kernel) (by decide +kernel)
set_option maxRecDepth 20000 in
theorem gX3_firstWordOf_X3_has : GoodIn wsX3_firstWordOf (wsV RX3 44 RX3 yX3_has wsX3_has) := goodIn_app (goodIn_of _ (by decide +kernel)) ggX3_firstWordOf_X3_has
theorem dX3_firstWordOf_0 : decode cX3_firstWordOf 0 = .ok (.aload_n 0, 1) := by decide +kernel
theorem dX3_firstWordOf_1 : decode cX3_firstWordOf 1 = .ok (.iload_n 1, 1) := by decide +kernel
theorem dX3_firstWordOf_2 : decode cX3_firstWordOf 2 = .ok (.invokevirtual 44, 3) := by decide +kernel
theorem dX3_firstWordOf_5 : decode cX3_firstWordOf 5 = .ok (.ifCond .eq 14, 3) := by decide +kernel
theorem dX3_firstWordOf_8 : decode cX3_firstWordOf 8 = .ok (.aload_n 0, 1) := by decide +kernel
theorem dX3_firstWordOf_9 : decode cX3_firstWordOf 9 = .ok (.getfield 37, 3) := by decide +kernel
theorem dX3_firstWordOf_12 : decode cX3_firstWordOf 12 = .ok (.iload_n 1, 1) := by decide +kernel
theorem dX3_firstWordOf_13 : decode cX3_firstWordOf 13 = .ok (.aaload, 1) := by decide +kernel
theorem dX3_firstWordOf_14 : decode cX3_firstWordOf 14 = .ok (.iconst 0, 1) := by decide +kernel
theorem dX3_firstWordOf_15 : decode cX3_firstWordOf 15 = .ok (.iaload, 1) := by decide +kernel
theorem dX3_firstWordOf_16 : decode cX3_firstWordOf 16 = .ok (.goto 4, 3) := by decide +kernel
theorem dX3_firstWordOf_19 : decode cX3_firstWordOf 19 = .ok (.iconst (-1), 1) := by decide +kernel
theorem dX3_firstWordOf_20 : decode cX3_firstWordOf 20 = .ok (.ireturn, 1) := by decide +kernel
set_option maxRecDepth 20000 in
theorem ggX3_append_X3_computeDigestOf : GoodIn wsX3_append wsX3_computeDigestOf := goodIn_r _ [11, 12, 6, 5, 13, 14, 15, 16, 17, 18, 19, 20, 21, 10, 22, 1, 23, 24, 25, 26, 27, 28, 29, 30, 31, 32, 33, 34, 35, 2, 36, 37, 38, 39, 3, 40, 41, 42, 43, 4, 44, 45, 46, 47, 48, 49, 50, 51, 52, 53, 54, 55, 56, 57, 58, 59, 60, 61, 62, 63, 64, 65, 66, 67, 68, 69, 70, 71, 72, 73, 74, 75, 76, 77, 78, 79, 80, 81, 82, 83, 88, 89, 90, 91, 92, 93, 94, 95, 96, 97, 98] (by decide +kernel) (by decide +kernel)
set_option maxRecDepth 20000 in
theorem gX3_append_X3_computeDigestOf : GoodIn wsX3_append (wsV RX3 48 RX3 yX3_computeDigestOf wsX3_computeDigestOf) := goodIn_app (goodIn_of _ (by decide +kernel)) ggX3_append_X3_computeDigestOf
set_option maxRecDepth 20000 in
theorem ggX3_append_X1_copyTo : GoodIn wsX3_append wsX1_copyTo := goodIn_r _ [87, 49, 97, 98] (by decide +kernel) (by decide +kernel)
set_option maxRecDepth 20000 in
theorem gX3_append_X1_copyTo : GoodIn wsX3_append (wsV RX3 52 RX1 yX1_copyTo wsX1_copyTo) := goodIn_app (goodIn_of _ (by decide +kernel)) ggX3_append_X1_copyTo
theorem dX3_append_0 : decode cX3_append 0 = .ok (.aload_n 0, 1) := by decide +kernel
theorem dX3_append_1 : decode cX3_append 1 = .ok (.getfield 40, 3) := by decide +kernel
theorem dX3_append_4 : decode cX3_append 4 = .ok (.sipush 200, 3) := by decide +kernel
theorem dX3_append_7 : decode cX3_append 7 = .ok (.if_icmp .lt 4, 3) := by decide +kernel
theorem dX3_append_10 : decode cX3_append 10 = .ok (.return_, 1) := by decide +kernel
theorem dX3_append_11 : decode cX3_append 11 = .ok (.aload_n 0, 1) := by decide +kernel
theorem dX3_append_12 : decode cX3_append 12 = .ok (.getfield 40, 3) := by decide +kernel
theorem dX3_append_15 : decode cX3_append 15 = .ok (.istore 4, 2) := by decide +kernel
theorem dX3_append_17 : decode cX3_append 17 = .ok (.aload_n 0, 1) := by decide +kernel
theorem dX3_append_18 : decode cX3_append 18 = .ok (.getfield 25, 3) := by decide +kernel
theorem dX3_append_21 : decode cX3_append 21 = .ok (.iload 4, 2) := by decide +kernel
theorem dX3_append_23 : decode cX3_append 23 = .ok (.iload_n 1, 1) := by decide +kernel
theorem dX3_append_24 : decode cX3_append 24 = .ok (.iastore, 1) := by decide +kernel
theorem dX3_append_25 : decode cX3_append 25 = .ok (.aload_n 0, 1) := by decide +kernel
theorem dX3_append_26 : decode cX3_append 26 = .ok (.getfield 29, 3) := by decide +kernel
theorem dX3_append_29 : decode cX3_append 29 = .ok (.iload 4, 2) := by decide +kernel
theorem dX3_append_31 : decode cX3_append 31 = .ok (.iload_n 2, 1) := by decide +kernel
theorem dX3_append_32 : decode cX3_append 32 = .ok (.iastore, 1) := by decide +kernel
theorem dX3_append_33 : decode cX3_append 33 = .ok (.aload_n 0, 1) := by decide +kernel
theorem dX3_append_34 : decode cX3_append 34 = .ok (.getfield 32, 3) := by decide +kernel
theorem dX3_append_37 : decode cX3_append 37 = .ok (.iload 4, 2) := by decide +kernel
theorem dX3_append_39 : decode cX3_append 39 = .ok (.iload_n 3, 1) := by decide +kernel
theorem dX3_append_40 : decode cX3_append 40 = .ok (.iastore, 1) := by decide +kernel
theorem dX3_append_41 : decode cX3_append 41 = .ok (.aload_n 0, 1) := by decide +kernel
theorem dX3_append_42 : decode cX3_append 42 = .ok (.dup, 1) := by decide +kernel
theorem dX3_append_43 : decode cX3_append 43 = .ok (.getfield 40, 3) := by decide +kernel
theorem dX3_append_46 : decode cX3_append 46 = .ok (.iconst 1, 1) := by decide +kernel
theorem dX3_append_47 : decode cX3_append 47 = .ok (.iadd, 1) := by decide +kernel
theorem dX3_append_48 : decode cX3_append 48 = .ok (.putfield 40, 3) := by decide +kernel
theorem dX3_append_51 : decode cX3_append 51 = .ok (.aload_n 0, 1) := by decide +kernel
theorem dX3_append_52 : decode cX3_append 52 = .ok (.iload 4, 2) := by decide +kernel
theorem dX3_append_54 : decode cX3_append 54 = .ok (.invokevirtual 48, 3) := by decide +kernel
theorem dX3_append_57 : decode cX3_append 57 = .ok (.aload_n 0, 1) := by decide +kernel
theorem dX3_append_58 : decode cX3_append 58 = .ok (.getfield 12, 3) := by decide +kernel
theorem dX3_append_61 : decode cX3_append 61 = .ok (.aload_n 0, 1) := by decide +kernel
theorem dX3_append_62 : decode cX3_append 62 = .ok (.getfield 37, 3) := by decide +kernel
theorem dX3_append_65 : decode cX3_append 65 = .ok (.iload 4, 2) := by decide +kernel
theorem dX3_append_67 : decode cX3_append 67 = .ok (.aaload, 1) := by decide +kernel
theorem dX3_append_68 : decode cX3_append 68 = .ok (.invokevirtual 52, 3) := by decide +kernel
theorem dX3_append_71 : decode cX3_append 71 = .ok (.return_, 1) := by decide +kernel
set_option maxRecDepth 20000 in
theorem ggX3_changeDay_X3_has : GoodIn wsX3_changeDay wsX3_has := goodIn_r _ [6, 7, 8, 9, 10, 11, 12, 13, 14] (by decide +kernel) (by decide +kernel)
set_option maxRecDepth 20000 in
theorem gX3_changeDay_X3_has : GoodIn wsX3_changeDay (wsV RX3 44 RX3 yX3_has wsX3_has) := goodIn_app (goodIn_of _ (by decide +kernel)) ggX3_changeDay_X3_has
theorem dX3_changeDay_0 : decode cX3_changeDay 0 = .ok (.aload_n 0, 1) := by decide +kernel
theorem dX3_changeDay_1 : decode cX3_changeDay 1 = .ok (.iload_n 1, 1) := by decide +kernel
theorem dX3_changeDay_2 : decode cX3_changeDay 2 = .ok (.invokevirtual 44, 3) := by decide +kernel
theorem dX3_changeDay_5 : decode cX3_changeDay 5 = .ok (.ifCond .eq 13, 3) := by decide +kernel
theorem dX3_changeDay_8 : decode cX3_changeDay 8 = .ok (.aload_n 0, 1) := by decide +kernel
theorem dX3_changeDay_9 : decode cX3_changeDay 9 = .ok (.getfield 32, 3) := by decide +kernel
theorem dX3_changeDay_12 : decode cX3_changeDay 12 = .ok (.iload_n 1, 1) := by decide +kernel
theorem dX3_changeDay_13 : decode cX3_changeDay 13 = .ok (.dup2, 1) := by decide +kernel
theorem dX3_changeDay_14 : decode cX3_changeDay 14 = .ok (.iaload, 1) := by decide +kernel
theorem dX3_changeDay_15 : decode cX3_changeDay 15 = .ok (.iload_n 2, 1) := by decide +kernel
theorem dX3_changeDay_16 : decode cX3_changeDay 16 = .ok (.ixor, 1) := by decide +kernel
theorem dX3_changeDay_17 : decode cX3_changeDay 17 = .ok (.iastore, 1) := by decide +kernel
theorem dX3_changeDay_18 : decode cX3_changeDay 18 = .ok (.return_, 1) := by decide +kernel
set_option maxRecDepth 20000 in
theorem ggX3_remove_X3_has : GoodIn wsX3_remove wsX3_has := goodIn_r _ [10, 1, 11, 12, 13, 14, 15, 16, 17] (by decide +kernel) (by decide +kernel)
set_option maxRecDepth 20000 in
theorem gX3_remove_X3_has : GoodIn wsX3_remove (wsV RX3 44 RX3 yX3_has wsX3_has) := goodIn_app (goodIn_of _ (by decide +kernel)) ggX3_remove_X3_has
theorem dX3_remove_0 : decode cX3_remove 0 = .ok (.aload_n 0, 1) := by decide +kernel
theorem dX3_remove_1 : decode cX3_remove 1 = .ok (.iload_n 1, 1) := by decide +kernel
theorem dX3_remove_2 : decode cX3_remove 2 = .ok (.invokevirtual 44, 3) := by decide +kernel
theorem dX3_remove_5 : decode cX3_remove 5 = .ok (.ifCond .ne 4, 3) := by decide +kernel
theorem dX3_remove_8 : decode cX3_remove 8 = .ok (.return_, 1) := by decide +kernel
theorem dX3_remove_9 : decode cX3_remove 9 = .ok (.iload_n 1, 1) := by decide +kernel
theorem dX3_remove_10 : decode cX3_remove 10 = .ok (.istore_n 2, 1) := by decide +kernel
theorem dX3_remove_11 : decode cX3_remove 11 = .ok (.iload_n 2, 1) := by decide +kernel
theorem dX3_remove_12 : decode cX3_remove 12 = .ok (.aload_n 0, 1) := by decide +kernel
theorem dX3_remove_13 : decode cX3_remove 13 = .ok (.getfield 40, 3) := by decide +kernel
theorem dX3_remove_16 : decode cX3_remove 16 = .ok (.iconst 1, 1) := by decide +kernel
theorem dX3_remove_17 : decode cX3_remove 17 = .ok (.isub, 1) := by decide +kernel
theorem dX3_remove_18 : decode cX3_remove 18 = .ok (.if_icmp .ge 83, 3) := by decide +kernel
theorem dX3_remove_21 : decode cX3_remove 21 = .ok (.aload_n 0, 1) := by decide +kernel
theorem dX3_remove_22 : decode cX3_remove 22 = .ok (.getfield 25, 3) := by decide +kernel
theorem dX3_remove_25 : decode cX3_remove 25 = .ok (.iload_n 2, 1) := by decide +kernel
theorem dX3_remove_26 : decode cX3_remove 26 = .ok (.aload_n 0, 1) := by decide +kernel
theorem dX3_remove_27 : decode cX3_remove 27 = .ok (.getfield 25, 3) := by decide +kernel
theorem dX3_remove_30 : decode cX3_remove 30 = .ok (.iload_n 2, 1) := by decide +kernel
theorem dX3_remove_31 : decode cX3_remove 31 = .ok (.iconst 1, 1) := by decide +kernel
theorem dX3_remove_32 : decode cX3_remove 32 = .ok (.iadd, 1) := by decide +kernel
theorem dX3_remove_33 : decode cX3_remove 33 = .ok (.iaload, 1) := by decide +kernel
theorem dX3_remove_34 : decode cX3_remove 34 = .ok (.iastore, 1) := by decide +kernel
theorem dX3_remove_35 : decode cX3_remove 35 = .ok (.aload_n 0, 1) := by decide +kernel
theorem dX3_remove_36 : decode cX3_remove 36 = .ok (.getfield 29, 3) := by decide +kernel
theorem dX3_remove_39 : decode cX3_remove 39 = .ok (.iload_n 2, 1) := by decide +kernel
theorem dX3_remove_40 : decode cX3_remove 40 = .ok (.aload_n 0, 1) := by decide +kernel
theorem dX3_remove_41 : decode cX3_remove 41 = .ok (.getfield 29, 3) := by decide +kernel
theorem dX3_remove_44 : decode cX3_remove 44 = .ok (.iload_n 2, 1) := by decide +kernel
theorem dX3_remove_45 : decode cX3_remove 45 = .ok (.iconst 1, 1) := by decide +kernel
theorem dX3_remove_46 : decode cX3_remove 46 = .ok (.iadd, 1) := by decide +kernel
theorem dX3_remove_47 : decode cX3_remove 47 = .ok (.iaload, 1) := by decide +kernel
theorem dX3_remove_48 : decode cX3_remove 48 = .ok (.iastore, 1) := by decide +kernel
theorem dX3_remove_49 : decode cX3_remove 49 = .ok (.aload_n 0, 1) := by decide +kernel
theorem dX3_remove_50 : decode cX3_remove 50 = .ok (.getfield 32, 3) := by decide +kernel
theorem dX3_remove_53 : decode cX3_remove 53 = .ok (.iload_n 2, 1) := by decide +kernel
theorem dX3_remove_54 : decode cX3_remove 54 = .ok (.aload_n 0, 1) := by decide +kernel
theorem dX3_remove_55 : decode cX3_remove 55 = .ok (.getfield 32, 3) := by decide +kernel
theorem dX3_remove_58 : decode cX3_remove 58 = .ok (.iload_n 2, 1) := by decide +kernel
theorem dX3_remove_59 : decode cX3_remove 59 = .ok (.iconst 1, 1) := by decide +kernel
theorem dX3_remove_60 : decode cX3_remove 60 = .ok (.iadd, 1) := by decide +kernel
theorem dX3_remove_61 : decode cX3_remove 61 = .ok (.iaload, 1) := by decide +kernel
theorem dX3_remove_62 : decode cX3_remove 62 = .ok (.iastore, 1) := by decide +kernel
theorem dX3_remove_63 : decode cX3_remove 63 = .ok (.iconst 0, 1) := by decide +kernel
theorem dX3_remove_64 : decode cX3_remove 64 = .ok (.istore_n 3, 1) := by decide +kernel
theorem dX3_remove_65 : decode cX3_remove 65 = .ok (.iload_n 3, 1) := by decide +kernel
theorem dX3_remove_66 : decode cX3_remove 66 = .ok (.bipush 8, 2) := by decide +kernel
theorem dX3_remove_68 : decode cX3_remove 68 = .ok (.if_icmp .ge 27, 3) := by decide +kernel
theorem dX3_remove_71 : decode cX3_remove 71 = .ok (.aload_n 0, 1) := by decide +kernel
theorem dX3_remove_72 : decode cX3_remove 72 = .ok (.getfield 37, 3) := by decide +kernel
theorem dX3_remove_75 : decode cX3_remove 75 = .ok (.iload_n 2, 1) := by decide +kernel
theorem dX3_remove_76 : decode cX3_remove 76 = .ok (.aaload, 1) := by decide +kernel
theorem dX3_remove_77 : decode cX3_remove 77 = .ok (.iload_n 3, 1) := by decide +kernel
theorem dX3_remove_78 : decode cX3_remove 78 = .ok (.aload_n 0, 1) := by decide +kernel
theorem dX3_remove_79 : decode cX3_remove 79 = .ok (.getfield 37, 3) := by decide +kernel
theorem dX3_remove_82 : decode cX3_remove 82 = .ok (.iload_n 2, 1) := by decide +kernel
theorem dX3_remove_83 : decode cX3_remove 83 = .ok (.iconst 1, 1) := by decide +kernel
theorem dX3_remove_84 : decode cX3_remove 84 = .ok (.iadd, 1) := by decide +kernel
theorem dX3_remove_85 : decode cX3_remove 85 = .ok (.aaload, 1) := by decide +kernel
theorem dX3_remove_86 : decode cX3_remove 86 = .ok (.iload_n 3, 1) := by decide +kernel
theorem dX3_remove_87 : decode cX3_remove 87 = .ok (.iaload, 1) := by decide +kernel
theorem dX3_remove_88 : decode cX3_remove 88 = .ok (.iastore, 1) := by decide +kernel
theorem dX3_remove_89 : decode cX3_remove 89 = .ok (.iinc 3 1, 3) := by decide +kernel
theorem dX3_remove_92 : decode cX3_remove 92 = .ok (.goto (-27), 3) := by decide +kernel
theorem dX3_remove_95 : decode cX3_remove 95 = .ok (.iinc 2 1, 3) := by decide +kernel
theorem dX3_remove_98 : decode cX3_remove 98 = .ok (.goto (-87), 3) := by decide +kernel
theorem dX3_remove_101 : decode cX3_remove 101 = .ok (.aload_n 0, 1) := by decide +kernel
theorem dX3_remove_102 : decode cX3_remove 102 = .ok (.dup, 1) := by decide +kernel
theorem dX3_remove_103 : decode cX3_remove 103 = .ok (.getfield 40, 3) := by decide +kernel
theorem dX3_remove_106 : decode cX3_remove 106 = .ok (.iconst 1, 1) := by decide +kernel
theorem dX3_remove_107 : decode cX3_remove 107 = .ok (.isub, 1) := by decide +kernel
theorem dX3_remove_108 : decode cX3_remove 108 = .ok (.putfield 40, 3) := by decide +kernel
theorem dX3_remove_111 : decode cX3_remove 111 = .ok (.return_, 1) := by decide +kernel
set_option maxRecDepth 20000 in
theorem ggX3_firstBroken_X3_computeDigestOf : GoodIn wsX3_firstBroken wsX3_computeDigestOf := goodIn_r _ [8, 9, 3, 2, 10, 11, 12, 13, 14, 15, 16, 17, 18, 7, 19, 1, 20, 21, 22, 23, 24, 25, 26, 27, 28, 29, 30, 31, 32, 33, 34, 35, 36, 37, 38, 39, 40, 41, 42, 43, 44, 45, 46, 47, 48, 49, 50, 51, 52, 53, 54, 55, 56, 57, 58, 59, 60, 61, 62, 63, 64, 65, 66, 67, 68, 69, 70, 71, 72, 73, 74, 75, 76, 77, 78, 79, 80, 81, 82, 83, 88, 89, 90, 91, 92, 93, 94, 95, 96, 97, 98] (by decide +kernel) (by decide +kernel)
set_option maxRecDepth 20000 in
theorem gX3_firstBroken_X3_computeDigestOf : GoodIn wsX3_firstBroken (wsV RX3 48 RX3 yX3_computeDigestOf wsX3_computeDigestOf) := goodIn_app (goodIn_of _ (by decide +kernel)) ggX3_firstBroken_X3_computeDigestOf
set_option maxRecDepth 20000 in
theorem ggX3_firstBroken_X1_equalTo : GoodIn wsX3_firstBroken wsX1_equalTo := goodIn_r _ [87, 49, 97, 98] (by decide +kernel) (by decide +kernel)
set_option maxRecDepth 20000 in
theorem gX3_firstBroken_X1_equalTo : GoodIn wsX3_firstBroken (wsV RX3 56 RX1 yX1_equalTo wsX1_equalTo) := goodIn_app (goodIn_of _ (by decide +kernel)) ggX3_firstBroken_X1_equalTo
theorem dX3_firstBroken_0 : decode cX3_firstBroken 0 = .ok (.iconst 0, 1) := by decide +kernel
theorem dX3_firstBroken_1 : decode cX3_firstBroken 1 = .ok (.istore_n 1, 1) := by decide +kernel
theorem dX3_firstBroken_2 : decode cX3_firstBroken 2 = .ok (.iload_n 1, 1) := by decide +kernel
theorem dX3_firstBroken_3 : decode cX3_firstBroken 3 = .ok (.aload_n 0, 1) := by decide +kernel
theorem dX3_firstBroken_4 : decode cX3_firstBroken 4 = .ok (.getfield 40, 3) := by decide +kernel
theorem dX3_firstBroken_7 : decode cX3_firstBroken 7 = .ok (.if_icmp .ge 32, 3) := by decide +kernel
theorem dX3_firstBroken_10 : decode cX3_firstBroken 10 = .ok (.aload_n 0, 1) := by decide +kernel
theorem dX3_firstBroken_11 : decode cX3_firstBroken 11 = .ok (.iload_n 1, 1) := by decide +kernel
theorem dX3_firstBroken_12 : decode cX3_firstBroken 12 = .ok (.invokevirtual 48, 3) := by decide +kernel
theorem dX3_firstBroken_15 : decode cX3_firstBroken 15 = .ok (.aload_n 0, 1) := by decide +kernel
theorem dX3_firstBroken_16 : decode cX3_firstBroken 16 = .ok (.getfield 12, 3) := by decide +kernel
theorem dX3_firstBroken_19 : decode cX3_firstBroken 19 = .ok (.aload_n 0, 1) := by decide +kernel
theorem dX3_firstBroken_20 : decode cX3_firstBroken 20 = .ok (.getfield 37, 3) := by decide +kernel
theorem dX3_firstBroken_23 : decode cX3_firstBroken 23 = .ok (.iload_n 1, 1) := by decide +kernel
theorem dX3_firstBroken_24 : decode cX3_firstBroken 24 = .ok (.aaload, 1) := by decide +kernel
theorem dX3_firstBroken_25 : decode cX3_firstBroken 25 = .ok (.invokevirtual 56, 3) := by decide +kernel
theorem dX3_firstBroken_28 : decode cX3_firstBroken 28 = .ok (.ifCond .ne 5, 3) := by decide +kernel
theorem dX3_firstBroken_31 : decode cX3_firstBroken 31 = .ok (.iload_n 1, 1) := by decide +kernel
theorem dX3_firstBroken_32 : decode cX3_firstBroken 32 = .ok (.ireturn, 1) := by decide +kernel
theorem dX3_firstBroken_33 : decode cX3_firstBroken 33 = .ok (.iinc 1 1, 3) := by decide +kernel
theorem dX3_firstBroken_36 : decode cX3_firstBroken 36 = .ok (.goto (-34), 3) := by decide +kernel
theorem dX3_firstBroken_39 : decode cX3_firstBroken 39 = .ok (.iconst (-1), 1) := by decide +kernel
theorem dX3_firstBroken_40 : decode cX3_firstBroken 40 = .ok (.ireturn, 1) := by decide +kernel
set_option maxRecDepth 20000 in
theorem ggX3_computeDigestOf_X2_shorten : GoodIn wsX3_computeDigestOf wsX2_shorten := goodIn_r _ [8, 9, 87, 88] (by decide +kernel) (by decide +kernel)
set_option maxRecDepth 20000 in
theorem gX3_computeDigestOf_X2_shorten : GoodIn wsX3_computeDigestOf (wsV RX3 60 RX2 yX2_shorten wsX2_shorten) := goodIn_app (goodIn_of _ (by decide +kernel)) ggX3_computeDigestOf_X2_shorten
set_option maxRecDepth 20000 in
theorem ggX3_computeDigestOf_X3_has : GoodIn wsX3_computeDigestOf wsX3_has := goodIn_r _ [14, 15, 80, 81, 82, 83, 84, 85, 86] (by decide +kernel) (by decide +kernel)
set_option maxRecDepth 20000 in
theorem gX3_computeDigestOf_X3_has : GoodIn wsX3_computeDigestOf (wsV RX3 44 RX3 yX3_has wsX3_has) := goodIn_app (goodIn_of _ (by decide +kernel)) ggX3_computeDigestOf_X3_has
set_option maxRecDepth 20000 in
theorem ggX3_computeDigestOf_X2_pushWord : GoodIn wsX3_computeDigestOf wsX2_pushWord := goodIn_r _ [19, 20, 21, 22, 7, 23, 9, 24, 87, 88] (by decide +kernel) (by decide +kernel)
set_option maxRecDepth 20000 in
theorem gX3_computeDigestOf_X2_pushWord : GoodIn wsX3_computeDigestOf (wsV RX3 63 RX2 yX2_pushWord wsX2_pushWord) := goodIn_app (goodIn_of _ (by decide +kernel)) ggX3_computeDigestOf_X2_pushWord
set_option maxRecDepth 20000 in
theorem ggX3_computeDigestOf_X3_kindOf : GoodIn wsX3_computeDigestOf wsX3_kindOf := goodIn_r _ [28, 29, 10, 11, 12, 13, 14, 15, 80, 81, 82, 83, 84, 85, 86] (by decide +kernel) (by decide +kernel)
set_option maxRecDepth 20000 in
theorem gX3_computeDigestOf_X3_kindOf : GoodIn wsX3_computeDigestOf (wsV RX3 66 RX3 yX3_kindOf wsX3_kindOf) := goodIn_app (goodIn_of _ (by decide +kernel)) ggX3_computeDigestOf_X3_kindOf
set_option maxRecDepth 20000 in
theorem ggX3_computeDigestOf_X3_fileOf : GoodIn wsX3_computeDigestOf wsX3_fileOf := goodIn_r _ [33, 34, 10, 11, 12, 13, 14, 15, 80, 81, 82, 83, 84, 85, 86] (by decide +kernel) (by decide +kernel)
set_option maxRecDepth 20000 in
theorem gX3_computeDigestOf_X3_fileOf : GoodIn wsX3_computeDigestOf (wsV RX3 70 RX3 yX3_fileOf wsX3_fileOf) := goodIn_app (goodIn_of _ (by decide +kernel)) ggX3_computeDigestOf_X3_fileOf
set_option maxRecDepth 20000 in
theorem ggX3_computeDigestOf_X3_dayOf : GoodIn wsX3_computeDigestOf wsX3_dayOf := goodIn_r _ [38, 39, 10, 11, 12, 13, 14, 15, 80, 81, 82, 83, 84, 85, 86] (by decide +kernel) (by decide +kernel)
set_option maxRecDepth 20000 in
theorem gX3_computeDigestOf_X3_dayOf : GoodIn wsX3_computeDigestOf (wsV RX3 73 RX3 yX3_dayOf wsX3_dayOf) := goodIn_app (goodIn_of _ (by decide +kernel)) ggX3_computeDigestOf_X3_dayOf
set_option maxRecDepth 20000 in
theorem ggX3_computeDigestOf_X1_compute : GoodIn wsX3_computeDigestOf wsX1_compute := goodIn_r _ [44, 45, 46, 47, 48, 49, 50, 7, 51, 9, 52, 53, 43, 54, 55, 56, 57, 58, 24, 59, 60, 61, 62, 63, 64, 65, 66, 67, 68, 69, 70, 71, 72, 73, 74, 75, 76, 77, 78, 79, 89, 90, 87, 88] (by decide +kernel) (by decide +kernel)
set_option maxRecDepth 20000 in
theorem gX3_computeDigestOf_X1_compute : GoodIn wsX3_computeDigestOf (wsV RX3 76 RX1 yX1_compute wsX1_compute) := goodIn_app (goodIn_of _ (by decide +kernel)) ggX3_computeDigestOf_X1_compute
theorem dX3_computeDigestOf_0 : decode cX3_computeDigestOf 0 = .ok (.aload_n 0, 1) := by decide +kernel
theorem dX3_computeDigestOf_1 : decode cX3_computeDigestOf 1 = .ok (.getfield 21, 3) := by decide +kernel
theorem dX3_computeDigestOf_4 : decode cX3_computeDigestOf 4 = .ok (.iconst 0, 1) := by decide +kernel
theorem dX3_computeDigestOf_5 : decode cX3_computeDigestOf 5 = .ok (.invokevirtual 60, 3) := by decide +kernel
theorem dX3_computeDigestOf_8 : decode cX3_computeDigestOf 8 = .ok (.iconst 0, 1) := by decide +kernel
theorem dX3_computeDigestOf_9 : decode cX3_computeDigestOf 9 = .ok (.istore_n 2, 1) := by decide +kernel
theorem dX3_computeDigestOf_10 : decode cX3_computeDigestOf 10 = .ok (.iload_n 2, 1) := by decide +kernel
theorem dX3_computeDigestOf_11 : decode cX3_computeDigestOf 11 = .ok (.bipush 8, 2) := by decide +kernel
theorem dX3_computeDigestOf_13 : decode cX3_computeDigestOf 13 = .ok (.if_icmp .ge 40, 3) := by decide +kernel
theorem dX3_computeDigestOf_16 : decode cX3_computeDigestOf 16 = .ok (.aload_n 0, 1) := by decide +kernel
theorem dX3_computeDigestOf_17 : decode cX3_computeDigestOf 17 = .ok (.getfield 21, 3) := by decide +kernel
theorem dX3_computeDigestOf_20 : decode cX3_computeDigestOf 20 = .ok (.aload_n 0, 1) := by decide +kernel
theorem dX3_computeDigestOf_21 : decode cX3_computeDigestOf 21 = .ok (.iload_n 1, 1) := by decide +kernel
theorem dX3_computeDigestOf_22 : decode cX3_computeDigestOf 22 = .ok (.iconst 1, 1) := by decide +kernel
theorem dX3_computeDigestOf_23 : decode cX3_computeDigestOf 23 = .ok (.isub, 1) := by decide +kernel
theorem dX3_computeDigestOf_24 : decode cX3_computeDigestOf 24 = .ok (.invokevirtual 44, 3) := by decide +kernel
theorem dX3_computeDigestOf_27 : decode cX3_computeDigestOf 27 = .ok (.ifCond .eq 16, 3) := by decide +kernel
theorem dX3_computeDigestOf_30 : decode cX3_computeDigestOf 30 = .ok (.aload_n 0, 1) := by decide +kernel
theorem dX3_computeDigestOf_31 : decode cX3_computeDigestOf 31 = .ok (.getfield 37, 3) := by decide +kernel
theorem dX3_computeDigestOf_34 : decode cX3_computeDigestOf 34 = .ok (.iload_n 1, 1) := by decide +kernel
theorem dX3_computeDigestOf_35 : decode cX3_computeDigestOf 35 = .ok (.iconst 1, 1) := by decide +kernel
theorem dX3_computeDigestOf_36 : decode cX3_computeDigestOf 36 = .ok (.isub, 1) := by decide +kernel
theorem dX3_computeDigestOf_37 : decode cX3_computeDigestOf 37 = .ok (.aaload, 1) := by decide +kernel
theorem dX3_computeDigestOf_38 : decode cX3_computeDigestOf 38 = .ok (.iload_n 2, 1) := by decide +kernel
theorem dX3_computeDigestOf_39 : decode cX3_computeDigestOf 39 = .ok (.iaload, 1) := by decide +kernel
theorem dX3_computeDigestOf_40 : decode cX3_computeDigestOf 40 = .ok (.goto 4, 3) := by decide +kernel
theorem dX3_computeDigestOf_43 : decode cX3_computeDigestOf 43 = .ok (.iconst 0, 1) := by decide +kernel
theorem dX3_computeDigestOf_44 : decode cX3_computeDigestOf 44 = .ok (.invokevirtual 63, 3) := by decide +kernel
theorem dX3_computeDigestOf_47 : decode cX3_computeDigestOf 47 = .ok (.iinc 2 1, 3) := by decide +kernel
theorem dX3_computeDigestOf_50 : decode cX3_computeDigestOf 50 = .ok (.goto (-40), 3) := by decide +kernel
theorem dX3_computeDigestOf_53 : decode cX3_computeDigestOf 53 = .ok (.aload_n 0, 1) := by decide +kernel
theorem dX3_computeDigestOf_54 : decode cX3_computeDigestOf 54 = .ok (.getfield 21, 3) := by decide +kernel
theorem dX3_computeDigestOf_57 : decode cX3_computeDigestOf 57 = .ok (.aload_n 0, 1) := by decide +kernel
theorem dX3_computeDigestOf_58 : decode cX3_computeDigestOf 58 = .ok (.iload_n 1, 1) := by decide +kernel
theorem dX3_computeDigestOf_59 : decode cX3_computeDigestOf 59 = .ok (.invokevirtual 66, 3) := by decide +kernel
theorem dX3_computeDigestOf_62 : decode cX3_computeDigestOf 62 = .ok (.invokevirtual 63, 3) := by decide +kernel
theorem dX3_computeDigestOf_65 : decode cX3_computeDigestOf 65 = .ok (.aload_n 0, 1) := by decide +kernel
theorem dX3_computeDigestOf_66 : decode cX3_computeDigestOf 66 = .ok (.getfield 21, 3) := by decide +kernel
theorem dX3_computeDigestOf_69 : decode cX3_computeDigestOf 69 = .ok (.aload_n 0, 1) := by decide +kernel
theorem dX3_computeDigestOf_70 : decode cX3_computeDigestOf 70 = .ok (.iload_n 1, 1) := by decide +kernel
theorem dX3_computeDigestOf_71 : decode cX3_computeDigestOf 71 = .ok (.invokevirtual 70, 3) := by decide +kernel
theorem dX3_computeDigestOf_74 : decode cX3_computeDigestOf 74 = .ok (.invokevirtual 63, 3) := by decide +kernel
theorem dX3_computeDigestOf_77 : decode cX3_computeDigestOf 77 = .ok (.aload_n 0, 1) := by decide +kernel
theorem dX3_computeDigestOf_78 : decode cX3_computeDigestOf 78 = .ok (.getfield 21, 3) := by decide +kernel
theorem dX3_computeDigestOf_81 : decode cX3_computeDigestOf 81 = .ok (.aload_n 0, 1) := by decide +kernel
theorem dX3_computeDigestOf_82 : decode cX3_computeDigestOf 82 = .ok (.iload_n 1, 1) := by decide +kernel
theorem dX3_computeDigestOf_83 : decode cX3_computeDigestOf 83 = .ok (.invokevirtual 73, 3) := by decide +kernel
theorem dX3_computeDigestOf_86 : decode cX3_computeDigestOf 86 = .ok (.invokevirtual 63, 3) := by decide +kernel
theorem dX3_computeDigestOf_89 : decode cX3_computeDigestOf 89 = .ok (.aload_n 0, 1) := by decide +kernel
theorem dX3_computeDigestOf_90 : decode cX3_computeDigestOf 90 = .ok (.getfield 12, 3) := by decide +kernel
theorem dX3_computeDigestOf_93 : decode cX3_computeDigestOf 93 = .ok (.aload_n 0, 1) := by decide +kernel
theorem dX3_computeDigestOf_94 : decode cX3_computeDigestOf 94 = .ok (.getfield 21, 3) := by decide +kernel
theorem dX3_computeDigestOf_97 : decode cX3_computeDigestOf 97 = .ok (.invokevirtual 76, 3) := by decide +kernel
theorem dX3_computeDigestOf_100 : decode cX3_computeDigestOf 100 = .ok (.return_, 1) := by decide +kernel
set_option maxRecDepth 20000 in
theorem ggX4_init_X4_entry : GoodIn wsX4_init wsX4_entry := goodIn_r _ [9, 10] (by decide +kernel) (by decide +kernel)
set_option maxRecDepth 20000 in
theorem gX4_init_X4_entry : GoodIn wsX4_init (va_wsS RX4 13 yX4_entry wsX4_entry) := goodIn_app (goodIn_of _ (by decide +kernel)) ggX4_init_X4_entry
theorem dX4_init_0 : decode cX4_init 0 = .ok (.aload_n 0, 1) := by decide +kernel
theorem dX4_init_1 : decode cX4_init 1 = .ok (.invokespecial 1, 3) := by decide +kernel
theorem dX4_init_4 : decode cX4_init 4 = .ok (.aload_n 0, 1) := by decide +kernel
theorem dX4_init_5 : decode cX4_init 5 = .ok (.sipush 256, 3) := by decide +kernel
theorem dX4_init_8 : decode cX4_init 8 = .ok (.newarray .int, 2) := by decide +kernel
theorem dX4_init_10 : decode cX4_init 10 = .ok (.putfield 9, 3) := by decide +kernel
theorem dX4_init_13 : decode cX4_init 13 = .ok (.iconst 0, 1) := by decide +kernel
theorem dX4_init_14 : decode cX4_init 14 = .ok (.istore_n 1, 1) := by decide +kernel
theorem dX4_init_15 : decode cX4_init 15 = .ok (.iload_n 1, 1) := by decide +kernel
theorem dX4_init_16 : decode cX4_init 16 = .ok (.sipush 256, 3) := by decide +kernel
theorem dX4_init_19 : decode cX4_init 19 = .ok (.if_icmp .ge 19, 3) := by decide +kernel
theorem dX4_init_22 : decode cX4_init 22 = .ok (.aload_n 0, 1) := by decide +kernel
theorem dX4_init_23 : decode cX4_init 23 = .ok (.getfield 9, 3) := by decide +kernel
theorem dX4_init_26 : decode cX4_init 26 = .ok (.iload_n 1, 1) := by decide +kernel
theorem dX4_init_27 : decode cX4_init 27 = .ok (.iload_n 1, 1) := by decide +kernel
theorem dX4_init_28 : decode cX4_init 28 = .ok (.invokestatic 13, 3) := by decide +kernel
theorem dX4_init_31 : decode cX4_init 31 = .ok (.iastore, 1) := by decide +kernel
theorem dX4_init_32 : decode cX4_init 32 = .ok (.iinc 1 1, 3) := by decide +kernel
theorem dX4_init_35 : decode cX4_init 35 = .ok (.goto (-20), 3) := by decide +kernel
theorem dX4_init_38 : decode cX4_init 38 = .ok (.return_, 1) := by decide +kernel
set_option maxRecDepth 20000 in
theorem ggX4_compute_X2_count : GoodIn wsX4_compute wsX2_count := goodIn_r _ [6, 7, 14, 15] (by decide +kernel) (by decide +kernel)
set_option maxRecDepth 20000 in
theorem gX4_compute_X2_count : GoodIn wsX4_compute (wsV RX4 17 RX2 yX2_count wsX2_count) := goodIn_app (goodIn_of _ (by decide +kernel)) ggX4_compute_X2_count
set_option maxRecDepth 20000 in
theorem ggX4_compute_X2_value : GoodIn wsX4_compute wsX2_value := goodIn_r _ [11, 7, 12, 14, 15] (by decide +kernel) (by decide +kernel)
set_option maxRecDepth 20000 in
theorem gX4_compute_X2_value : GoodIn wsX4_compute (wsV RX4 23 RX2 yX2_value wsX2_value) := goodIn_app (goodIn_of _ (by decide +kernel)) ggX4_compute_X2_value
theorem dX4_compute_0 : decode cX4_compute 0 = .ok (.iconst (-1), 1) := by decide +kernel
theorem dX4_compute_1 : decode cX4_compute 1 = .ok (.istore_n 2, 1) := by decide +kernel
theorem dX4_compute_2 : decode cX4_compute 2 = .ok (.iconst 0, 1) := by decide +kernel
theorem dX4_compute_3 : decode cX4_compute 3 = .ok (.istore_n 3, 1) := by decide +kernel
theorem dX4_compute_4 : decode cX4_compute 4 = .ok (.iload_n 3, 1) := by decide +kernel
theorem dX4_compute_5 : decode cX4_compute 5 = .ok (.aload_n 1, 1) := by decide +kernel
theorem dX4_compute_6 : decode cX4_compute 6 = .ok (.invokevirtual 17, 3) := by decide +kernel
theorem dX4_compute_9 : decode cX4_compute 9 = .ok (.if_icmp .ge 31, 3) := by decide +kernel
theorem dX4_compute_12 : decode cX4_compute 12 = .ok (.iload_n 2, 1) := by decide +kernel
theorem dX4_compute_13 : decode cX4_compute 13 = .ok (.bipush 8, 2) := by decide +kernel
theorem dX4_compute_15 : decode cX4_compute 15 = .ok (.iushr, 1) := by decide +kernel
theorem dX4_compute_16 : decode cX4_compute 16 = .ok (.aload_n 0, 1) := by decide +kernel
theorem dX4_compute_17 : decode cX4_compute 17 = .ok (.getfield 9, 3) := by decide +kernel
theorem dX4_compute_20 : decode cX4_compute 20 = .ok (.iload_n 2, 1) := by decide +kernel
theorem dX4_compute_21 : decode cX4_compute 21 = .ok (.aload_n 1, 1) := by decide +kernel
theorem dX4_compute_22 : decode cX4_compute 22 = .ok (.iload_n 3, 1) := by decide +kernel
theorem dX4_compute_23 : decode cX4_compute 23 = .ok (.invokevirtual 23, 3) := by decide +kernel
theorem dX4_compute_26 : decode cX4_compute 26 = .ok (.ixor, 1) := by decide +kernel
theorem dX4_compute_27 : decode cX4_compute 27 = .ok (.sipush 255, 3) := by decide +kernel
theorem dX4_compute_30 : decode cX4_compute 30 = .ok (.iand, 1) := by decide +kernel
theorem dX4_compute_31 : decode cX4_compute 31 = .ok (.iaload, 1) := by decide +kernel
theorem dX4_compute_32 : decode cX4_compute 32 = .ok (.ixor, 1) := by decide +kernel
theorem dX4_compute_33 : decode cX4_compute 33 = .ok (.istore_n 2, 1) := by decide +kernel
theorem dX4_compute_34 : decode cX4_compute 34 = .ok (.iinc 3 1, 3) := by decide +kernel
theorem dX4_compute_37 : decode cX4_compute 37 = .ok (.goto (-33), 3) := by decide +kernel
theorem dX4_compute_40 : decode cX4_compute 40 = .ok (.iload_n 2, 1) := by decide +kernel
theorem dX4_compute_41 : decode cX4_compute 41 = .ok (.iconst (-1), 1) := by decide +kernel
theorem dX4_compute_42 : decode cX4_compute 42 = .ok (.ixor, 1) := by decide +kernel
theorem dX4_compute_43 : decode cX4_compute 43 = .ok (.ireturn, 1) := by decide +kernel
theorem dX4_entry_0 : decode cX4_entry 0 = .ok (.iload_n 0, 1) := by decide +kernel
theorem dX4_entry_1 : decode cX4_entry 1 = .ok (.istore_n 1, 1) := by decide +kernel
theorem dX4_entry_2 : decode cX4_entry 2 = .ok (.iconst 0, 1) := by decide +kernel
theorem dX4_entry_3 : decode cX4_entry 3 = .ok (.istore_n 2, 1) := by decide +kernel
theorem dX4_entry_4 : decode cX4_entry 4 = .ok (.iload_n 2, 1) := by decide +kernel
theorem dX4_entry_5 : decode cX4_entry 5 = .ok (.bipush 8, 2) := by decide +kernel
theorem dX4_entry_7 : decode cX4_entry 7 = .ok (.if_icmp .ge 34, 3) := by decide +kernel
theorem dX4_entry_10 : decode cX4_entry 10 = .ok (.iload_n 1, 1) := by decide +kernel
theorem dX4_entry_11 : decode cX4_entry 11 = .ok (.iconst 1, 1) := by decide +kernel
theorem dX4_entry_12 : decode cX4_entry 12 = .ok (.iand, 1) := by decide +kernel
theorem dX4_entry_13 : decode cX4_entry 13 = .ok (.ifCond .eq 7, 3) := by decide +kernel
theorem dX4_entry_16 : decode cX4_entry 16 = .ok (.iconst 1, 1) := by decide +kernel
theorem dX4_entry_17 : decode cX4_entry 17 = .ok (.goto 4, 3) := by decide +kernel
theorem dX4_entry_20 : decode cX4_entry 20 = .ok (.iconst 0, 1) := by decide +kernel
theorem dX4_entry_21 : decode cX4_entry 21 = .ok (.istore_n 3, 1) := by decide +kernel
theorem dX4_entry_22 : decode cX4_entry 22 = .ok (.iload_n 1, 1) := by decide +kernel
theorem dX4_entry_23 : decode cX4_entry 23 = .ok (.iconst 1, 1) := by decide +kernel
theorem dX4_entry_24 : decode cX4_entry 24 = .ok (.iushr, 1) := by decide +kernel
theorem dX4_entry_25 : decode cX4_entry 25 = .ok (.istore_n 1, 1) := by decide +kernel
theorem dX4_entry_26 : decode cX4_entry 26 = .ok (.iload_n 3, 1) := by decide +kernel
theorem dX4_entry_27 : decode cX4_entry 27 = .ok (.ifCond .eq 8, 3) := by decide +kernel
theorem dX4_entry_30 : decode cX4_entry 30 = .ok (.iload_n 1, 1) := by decide +kernel
theorem dX4_entry_31 : decode cX4_entry 31 = .ok (.ldc 26, 2) := by decide +kernel
theorem dX4_entry_33 : decode cX4_entry 33 = .ok (.ixor, 1) := by decide +kernel
theorem dX4_entry_34 : decode cX4_entry 34 = .ok (.istore_n 1, 1) := by decide +kernel
theorem dX4_entry_35 : decode cX4_entry 35 = .ok (.iinc 2 1, 3) := by decide +kernel
theorem dX4_entry_38 : decode cX4_entry 38 = .ok (.goto (-34), 3) := by decide +kernel
theorem dX4_entry_41 : decode cX4_entry 41 = .ok (.iload_n 1, 1) := by decide +kernel
theorem dX4_entry_42 : decode cX4_entry 42 = .ok (.ireturn, 1) := by decide +kernel
